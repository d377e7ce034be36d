/-! CALLS within a wider world: W stays, the callee's cells are behind it -/
theorem z_jn {A0 : Nat → Prop} {D : va_G} {W wc w1 : va_W} {H H1 : Heap} (hP : va_P D vwCl (W ++ wc) H) (hD : va_D A0 (W ++ wc)) (hk : ∀ q : Nat, q < H.size → ¬ va_A wc H.size q → H1[q]? = H[q]?) (hF : ∀ q, va_A wc H.size q → A0 q) (hP1 : va_P D vwCl w1 H1) (hD1 : va_D (va_A wc H.size) w1) : va_P D vwCl (W ++ w1) H1 ∧ va_D A0 (W ++ w1) := by
  have lf : ∀ (k : Nat) (q : Nat × va_E), W[k]? = some q → (W ++ wc)[k]? = some q := fun k q h => by
    rw [List.getElem?_append_left (List.getElem?_eq_some_iff.mp h).1]; exact h
  have apart : ∀ (k : Nat) (q : Nat × va_E), W[k]? = some q → q.1 < H.size ∧ ¬ va_A wc H.size q.1 := by
    intro k q hq
    have hl := (hP k q (lf k q hq)).lt
    refine ⟨hl, fun h => ?_⟩
    rcases h with ⟨k2, e, h⟩ | h
    · have h2 : (W ++ wc)[W.length + k2]? = some (q.1, e) := (z_apg W wc k2).trans h
      have hij := hD.1 _ _ q (q.1, e) (lf k q hq) h2 rfl
      have := (List.getElem?_eq_some_iff.mp hq).1
      omega
    · omega
  refine ⟨va_P.app (fun k q hq => ?_) hP1, va_D.app ⟨fun i j x y hi hj e => hD.1 i j x y (lf i x hi) (lf j y hj) e, fun k q hq => hD.2 k q (lf k q hq)⟩ (hD1.weaken (fun k q _ h => hF q.1 h)) (fun i j x y hx hy hxy => ?_)⟩
  · obtain ⟨g1, g2⟩ := apart k q hq
    exact (hP k q (lf k q hq)).kept (hk q.1 g1 g2)
  · exact (apart i x hx).2 (by rw [hxy]; exact hD1.2 j y hy)
theorem z_Pr {D : va_G} {W wc : va_W} {H : Heap} (hP : va_P D vwCl (W ++ wc) H) : va_P D vwCl wc H := fun k q hk => hP (W.length + k) q ((z_apg W wc k).trans hk)
theorem z_Dr {A : Nat → Prop} {W wc : va_W} (hD : va_D A (W ++ wc)) : va_D A wc := ⟨fun i j p q hi hj e => by
  have := hD.1 (W.length + i) (W.length + j) p q ((z_apg W wc i).trans hi) ((z_apg W wc j).trans hj) e
  omega, fun k q hk => hD.2 (W.length + k) q ((z_apg W wc k).trans hk)⟩
theorem z_swP {D : va_G} {W V : va_W} {H : Heap} (h : va_P D vwCl (W ++ V) H) : va_P D vwCl (V ++ W) H := by
  intro k q hk
  rcases List.mem_append.mp (List.mem_of_getElem? hk) with g | g
  · obtain ⟨i, hi⟩ := List.getElem?_of_mem g
    exact h (W.length + i) q ((z_apg W V i).trans hi)
  · obtain ⟨i, hi⟩ := List.getElem?_of_mem g
    exact h i q (by rw [List.getElem?_append_left (List.getElem?_eq_some_iff.mp hi).1]; exact hi)
theorem z_swD {A : Nat → Prop} {W V : va_W} (h : va_D A (W ++ V)) : va_D A (V ++ W) := by
  have key : ∀ (k : Nat) (q : Nat × va_E), (V ++ W)[k]? = some q → (k < V.length ∧ (W ++ V)[W.length + k]? = some q) ∨ (V.length ≤ k ∧ (W ++ V)[k - V.length]? = some q ∧ k - V.length < W.length) := by
    intro k q hk
    by_cases l : k < V.length
    · rw [List.getElem?_append_left l] at hk
      exact Or.inl ⟨l, (z_apg W V k).trans hk⟩
    · rw [List.getElem?_append_right (by omega)] at hk
      have := (List.getElem?_eq_some_iff.mp hk).1
      exact Or.inr ⟨by omega, by rw [List.getElem?_append_left this]; exact hk, this⟩
  refine ⟨fun i j p q hi hj e => ?_, fun k q hk => ?_⟩
  · rcases key i p hi with ⟨l1, a1⟩ | ⟨l1, a1, b1⟩ <;> rcases key j q hj with ⟨l2, a2⟩ | ⟨l2, a2, b2⟩ <;> have := h.1 _ _ p q a1 a2 e <;> omega
  · rcases key k q hk with ⟨_, a1⟩ | ⟨_, a1, _⟩
    · exact h.2 _ q a1
    · exact h.2 _ q a1
/-- what a maker is given: arrays of references, the nest mates' constructors -/
def z_Ns (U : State) : Prop := va_Nw (.methodLinkNest RX7 9 yX3_init RX7) U ∧ va_Nw (.methodLinkNest RX7 18 yX4_init RX7) U ∧ va_Nw (.methodLinkNest RX7 25 yX1_init RX7) U ∧ va_Nw (.methodLinkNest RX7 32 yX6_init RX7) U ∧ va_Nw (.methodLinkNest RX7 39 yX2_init RX7) U ∧ va_Nw (.methodLinkNest RX7 50 yX5_init RX7) U
def z_No (U : State) : Prop := (va_AO RX5 U ∧ va_AO RX0 U) ∧ z_Ns U
theorem z_No.warm {s U : State} (hW : s.WarmedH U.vm) (h : z_No s) : z_No U := by
  obtain ⟨⟨o1, o2⟩, n1, n2, n3, n4, n5, n6⟩ := h
  exact ⟨⟨va_AO.moved hW.alike o1, va_AO.moved hW.alike o2⟩, va_Nw.warmM hW n1, va_Nw.warmM hW n2, va_Nw.warmM hW n3, va_Nw.warmM hW n4, va_Nw.warmM hW n5, va_Nw.warmM hW n6⟩
theorem z_No.same {s U : State} (e : s.vm = U.vm) (h : z_No s) : z_No U := by
  obtain ⟨⟨o1, o2⟩, n1, n2, n3, n4, n5, n6⟩ := h
  exact ⟨⟨va_AO.moved (by rw [e]; exact Vm.Alike.refl U.vm) o1, va_AO.moved (by rw [e]; exact Vm.Alike.refl U.vm) o2⟩, va_Nw.same rfl e n1, va_Nw.same rfl e n2, va_Nw.same rfl e n3, va_Nw.same rfl e n4, va_Nw.same rfl e n5, va_Nw.same rfl e n6⟩
def z_NK (K : z_KT) : Prop := match K with
  | (_, _, _, _, s, _) => z_No s
theorem z_NK.ao {K : z_KT} (h : z_NK K) : z_AO K := by
  obtain ⟨p, l, e, R, s, m, args, below, meth, c, A, H0, Q, D, t⟩ := K
  exact h.1
/-- a maker's contract -/
def z_CvO (l : Launch) (D : va_G) (t : Nat → ClassId) (y : MethodName) (b : ByteArray) (n : Nat) (fr lo mc ms : Nat) (args : List Value) (ws : va_W) (post : va_W → Prop) : Prop :=
  ∀ sz : Nat, Met l y (z_wy y b n none) (z_rm fr lo mc ms) (va_Pc args (fun U => z_pre D t ws sz U ∧ z_No U)) (va_Qv (S := va_W) post (fun w T => z_at D t (va_A ws sz) w T) (va_A ws sz)) mc ms (va_A ws sz)
theorem z_CvO_of {l : Launch} {D : va_G} {t : Nat → ClassId} {y : MethodName} {b : ByteArray} {n : Nat} {fr lo mc ms : Nat} {args : List Value} {ws : va_W} {post : va_W → Prop} (hy : plainName y.cls = true) (L0 : List (Option Value)) (hL : z_asc 0 L0 = lv_args 0 args) (hn : L0.length = n) (hle : (lg_sl args).length ≤ n)
    (body : ∀ K : z_KT, z_l K = l → z_D K = D → z_t K = t → z_Rm K = z_rm fr lo mc ms → z_nm K = y.name → Fc K b y.cls n → z_NK K → z_Rv K b mc ms post → Gd K 0 0 0 L0 [] ws) : z_CvO l D t y b n fr lo mc ms args ws post := by
  refine fun sz => Met.ofW (cc := b) (maxL := n) (ret := none) hy rfl ?_
  intro p e s m args' below meth c s₁ B hml hv
  obtain ⟨rfl, ⟨hsz, hP, hK, hD0⟩, hao⟩ := hv
  have hx := B.exec
  have hb := B.bytes
  have hr := B.returns
  have hts := atoms_spec (ws := z_wy y b n none) B.pre
  have hown : s.vm.findClass y.cls = some m.cls := findClass_of_methodNamed B.named
  have hlocks := B.notSynchronized
  have hin : meth.name = y.name := (name_of_methodNamed B.named B.method).1
  subst hsz
  have hD := hD0.self (sz := s.heap.size)
  have hl := lv_entry args (n := n) hle
  rw [lg_entry_eq]
  generalize (lg_sl args ++ List.replicate (n - (lg_sl args).length) Slot.unset).toArray = ls at hl ⊢
  rw [← hL, ← hn] at hl
  refine body (p, l, e, z_rm fr lo mc ms, s, m, args.toArray, below, meth, c, va_A ws s.heap.size, s.heap, _, D, t) rfl rfl rfl rfl hin ⟨hx, hb, hml, hown, fun w hw => hts w (List.mem_cons_of_mem _ hw), hK, fun q h => Or.inr h⟩ hao ?_ s.heap [] ls hP hD va_S.rf hl
  intro pc L ws' d hpost H locs ls' hP' hD' hS' hl'
  exact W.vret hx hb hr (fun t' ht hW => ⟨⟨ws', rfl, hpost, by rw [ht]; exact hP', va_K.moved hW.alike hK, hD'⟩, hS'.F ht⟩) hS'.2.2 d
theorem z_blindO {D : va_G} {t : Nat → ClassId} {ws : va_W} {sz : Nat} {av : List Value} : FrameBlind (va_Pc av (fun U => z_pre D t ws sz U ∧ z_No U)) := fun a U g mk q => by
  obtain ⟨q0, ⟨q1, qP, qK, qD⟩, o⟩ := q
  exact ⟨q0, ⟨q1, qP, va_K.moved (u := U) (U := U.calling g mk a) (Vm.Alike.refl U.vm) qK, qD⟩, z_No.same (s := U) (U := U.calling g mk a) rfl o⟩
section ZNN
variable {K : z_KT} {cc : ByteArray} {own : String} {nL cells slots pc : Nat} {L : List (Option Value)} {st rest : List Value} {ws W wc : va_W}
theorem z_callIO (C : Fc K cc own nL) (hao : z_NK K) {idx : Nat} (d : decode cc pc = .ok (.invokespecial idx, 3)) {y : MethodName} {b : ByteArray} {n : Nat} {fr lo mc ms a : Nat} {As : List Value} {post : va_W → Prop} (hM : z_CvO (z_l K) (z_D K) (z_t K) y b n fr lo mc ms (.ref a :: As) wc post) (hc : z_cI y b n As.length) (hlk : Cond.methodLink own idx y ∈ wsL_law) (hst : st = As.reverse ++ .ref a :: rest) (hL : L.length = nL) {fR lR cR sR : Nat} (hR : z_Rm K = z_rm fR lR cR sR) (hr : Nat.ble (fr + 1) fR = true ∧ Nat.ble (8 + (n + 11) + lo) lR = true ∧ Nat.ble (cells + mc) cR = true ∧ Nat.ble (slots + ms) sR = true) (hcat : Nat.ble (rest.map fun v => v.category).sum 8 = true)
    (k : ∀ (w : va_W), post w → Gd K (cells + mc) (slots + ms) (pc + 3) L rest (W ++ w)) : Gd K cells slots pc L st (W ++ wc) := by
  subst hst
  obtain ⟨p, l, e, R, s, m, args, below, meth, c, A, H0, Q, D, t⟩ := K
  obtain ⟨hx, hb, hml, ho, hts, hK, hA⟩ := C
  obtain ⟨c1, c2, c3, c4, c5⟩ := hc
  obtain rfl : R = z_rm fR lR cR sR := hR
  intro H locs ls hP hD hS hl
  have hF := z_allow hD hS hA (wc := wc) fun _ h => List.mem_append_right _ h
  have hPc := z_Pr hP
  have hDc := z_Dr hD
  refine va_callv (va_runI ⟨hx, hb, hml, ho, hts⟩ (hM H.size) (cwI As.length hts (z_goodIn (ws := z_wy y b n none) fun w hw => ?_) rfl rfl rfl (hts _ c2) (hts _ hlk) (hts _ c1) c4 c5 ⟨Nat.le_of_ble_eq_true hr.1, Nat.le_of_ble_eq_true hr.2.1⟩) ⟨z_blindO, fun U hU hW => ⟨rfl, ⟨by rw [hU], by rw [hU]; exact hPc, va_K.moved hW.alike hK, hDc.weaken (fun _ _ _ _ => trivial)⟩, z_No.warm hW hao⟩⟩ rfl rfl (by show ls.size = nL; rw [hl.1]; exact hL) rfl (lv_room (Nat.le_of_ble_eq_true hcat)) d ⟨Nat.le_of_ble_eq_true hr.2.2.1, Nat.le_of_ble_eq_true hr.2.2.2⟩) hS (fun q _ h => hF q h) hF (fun u T H1 locs1 ht hvm hw hB hz1 hk1 hS => ?_)
  · rcases List.mem_cons.mp hw with rfl | h
    · exact c3
    · exact h
  · obtain ⟨hP1, hK1, hD1⟩ := hB
    rw [ht] at hP1
    obtain ⟨hP2, hD2⟩ := z_jn hP hD hk1 hF hP1 hD1
    exact k u hw H1 locs1 ls hP2 hD2 hS hl
theorem z_callIN (C : Fc K cc own nL) (hao : z_NK K) {idx : Nat} (d : decode cc pc = .ok (.invokespecial idx, 3)) {y : MethodName} {b : ByteArray} {n : Nat} {fr lo mc ms a : Nat} {As : List Value} {post : va_W → Prop} (hM : z_CvO (z_l K) (z_D K) (z_t K) y b n fr lo mc ms (.ref a :: As) wc post) (hc : z_cI y b n As.length) {host : String} (hlk : ∀ s : State, z_No s → va_Nw (.methodLinkNest own idx y host) s) (hst : st = As.reverse ++ .ref a :: rest) (hL : L.length = nL) {fR lR cR sR : Nat} (hR : z_Rm K = z_rm fR lR cR sR) (hr : Nat.ble (fr + 1) fR = true ∧ Nat.ble (8 + (n + 11) + lo) lR = true ∧ Nat.ble (cells + mc) cR = true ∧ Nat.ble (slots + ms) sR = true) (hcat : Nat.ble (rest.map fun v => v.category).sum 8 = true)
    (k : ∀ (w : va_W), post w → Gd K (cells + mc) (slots + ms) (pc + 3) L rest (W ++ w)) : Gd K cells slots pc L st (W ++ wc) := by
  subst hst
  obtain ⟨p, l, e, R, s, m, args, below, meth, c, A, H0, Q, D, t⟩ := K
  obtain ⟨hx, hb, hml, ho, hts, hK, hA⟩ := C
  obtain ⟨c1, c2, c3, c4, c5⟩ := hc
  obtain rfl : R = z_rm fR lR cR sR := hR
  intro H locs ls hP hD hS hl
  have hF := z_allow hD hS hA (wc := wc) fun _ h => List.mem_append_right _ h
  have hPc := z_Pr hP
  have hDc := z_Dr hD
  refine va_callv (va_runIN ⟨hx, hb, hml, ho, hts⟩ (hM H.size) ⟨va_cnB As.length hts (z_goodIn (ws := z_wy y b n none) fun w hw => ?_) rfl rfl rfl (hlk s hao) (hts _ c2) c5 ⟨Nat.le_of_ble_eq_true hr.1, Nat.le_of_ble_eq_true hr.2.1⟩, c4, hts _ c1⟩ ⟨z_blindO, fun U hU hW => ⟨rfl, ⟨by rw [hU], by rw [hU]; exact hPc, va_K.moved hW.alike hK, hDc.weaken (fun _ _ _ _ => trivial)⟩, z_No.warm hW hao⟩⟩ rfl rfl (by show ls.size = nL; rw [hl.1]; exact hL) rfl (lv_room (Nat.le_of_ble_eq_true hcat)) d ⟨Nat.le_of_ble_eq_true hr.2.2.1, Nat.le_of_ble_eq_true hr.2.2.2⟩) hS (fun q _ h => hF q h) hF (fun u T H1 locs1 ht hvm hw hB hz1 hk1 hS => ?_)
  · rcases List.mem_cons.mp hw with rfl | h
    · exact c3
    · exact h
  · obtain ⟨hP1, hK1, hD1⟩ := hB
    rw [ht] at hP1
    obtain ⟨hP2, hD2⟩ := z_jn hP hD hk1 hF hP1 hD1
    exact k u hw H1 locs1 ls hP2 hD2 hS hl
/-- calls on an object of the callee's cells, the others ahead of them -/
theorem z_callVF (C : Fc K cc own nL) {idx : Nat} (d : decode cc pc = .ok (.invokevirtual idx, 3)) {y : MethodName} {b : ByteArray} {n : Nat} {ty : FieldType} {fr lo mc ms a : Nat} {As : List Value} {post : Int → va_W → Prop} (hM : z_Ci (z_l K) (z_D K) (z_t K) y b n ty fr lo mc ms (.ref a :: As) wc post) (hc : z_cV y b n (some ty) As.length) (hlk : Cond.methodLink own idx y ∈ wsL_law) (hst : st = As.reverse ++ .ref a :: rest) (q0 ci : Nat) {q : vw_C} {fs : List Value} (he : wc[q0]? = some (a, .inr (ci, fs))) (hq : vwCl[ci]? = some q) (hqc : q.1 = y.cls) (hL : L.length = nL) {fR lR cR sR : Nat} (hR : z_Rm K = z_rm fR lR cR sR) (hr : Nat.ble (fr + 1) fR = true ∧ Nat.ble (8 + (n + 11) + lo) lR = true) (hr2 : cells + mc ≤ cR ∧ slots + ms ≤ sR) (hcat : Nat.ble (rest.map fun v => v.category).sum 8 = true)
    (k : ∀ (r : Int) (w : va_W), post r w → Gd K (cells + mc) (slots + ms) (pc + 3) L (.int (zI r) :: rest) (W ++ w)) : Gd K cells slots pc L st (W ++ wc) := by
  subst hst
  obtain ⟨p, l, e, R, s, m, args, below, meth, c, A, H0, Q, D, t⟩ := K
  obtain ⟨hx, hb, hml, ho, hts, hK, hA⟩ := C
  obtain ⟨c1, c2, c3, c4, c5⟩ := hc
  obtain rfl : R = z_rm fR lR cR sR := hR
  intro H locs ls hP hD hS hl
  have hF := z_allow hD hS hA (wc := wc) fun _ h => List.mem_append_right _ h
  have hPc := z_Pr hP
  have hDc := z_Dr hD
  refine va_calli (va_runV ⟨hx, hb, hml, ho, hts⟩ (hM H.size) (cwV As.length hts (z_goodIn (ws := wsV own idx y.cls y (z_wy y b n (some ty))) fun w hw => ?_) rfl rfl rfl ⟨rfl, c5⟩ ⟨Nat.le_of_ble_eq_true hr.1, Nat.le_of_ble_eq_true hr.2⟩) ⟨z_blind, ?_, fun U hU hW => ⟨rfl, by rw [hU], by rw [hU]; exact hPc, va_K.moved hW.alike hK, hDc.weaken (fun _ _ _ _ => trivial)⟩⟩ rfl rfl (by show ls.size = nL; rw [hl.1]; exact hL) rfl (lv_room (Nat.le_of_ble_eq_true hcat)) d hr2) hS (fun q _ h => hF q h) hF (fun r u T H1 locs1 ht hvm hw hB hz1 hk1 hS => ?_)
  · rcases List.mem_append.mp hw with h | h
    · simp only [List.mem_cons, List.not_mem_nil, or_false] at h
      rcases h with rfl | rfl | rfl | rfl
      · exact hlk
      · exact c1
      · exact c2
      · exact c3
    · rcases List.mem_cons.mp h with rfl | h
      · exact c4
      · exact h
  · rw [← hqc]; exact va_recv hK hPc hq he
  · obtain ⟨z, rfl, hpost⟩ := hw
    obtain ⟨hP1, hK1, hD1⟩ := hB
    rw [ht] at hP1
    obtain ⟨hP2, hD2⟩ := z_jn hP hD hk1 hF hP1 hD1
    exact k z u hpost H1 locs1 ls hP2 hD2 hS hl
theorem z_callVlF (C : Fc K cc own nL) {idx : Nat} (d : decode cc pc = .ok (.invokevirtual idx, 3)) {y : MethodName} {b : ByteArray} {n : Nat} {fr lo mc ms a : Nat} {As : List Value} {post : Int → va_W → Prop} (hM : z_Cl (z_l K) (z_D K) (z_t K) y b n fr lo mc ms (.ref a :: As) wc post) (hc : z_cV y b n (some .long) As.length) (hlk : Cond.methodLink own idx y ∈ wsL_law) (hst : st = As.reverse ++ .ref a :: rest) (q0 ci : Nat) {q : vw_C} {fs : List Value} (he : wc[q0]? = some (a, .inr (ci, fs))) (hq : vwCl[ci]? = some q) (hqc : q.1 = y.cls) (hL : L.length = nL) {fR lR cR sR : Nat} (hR : z_Rm K = z_rm fR lR cR sR) (hr : Nat.ble (fr + 1) fR = true ∧ Nat.ble (8 + (n + 11) + lo) lR = true) (hr2 : cells + mc ≤ cR ∧ slots + ms ≤ sR) (hcat : Nat.ble (rest.map fun v => v.category).sum 8 = true)
    (k : ∀ (r : Int) (w : va_W), post r w → Gd K (cells + mc) (slots + ms) (pc + 3) L (.long (zL r) :: rest) (W ++ w)) : Gd K cells slots pc L st (W ++ wc) := by
  subst hst
  obtain ⟨p, l, e, R, s, m, args, below, meth, c, A, H0, Q, D, t⟩ := K
  obtain ⟨hx, hb, hml, ho, hts, hK, hA⟩ := C
  obtain ⟨c1, c2, c3, c4, c5⟩ := hc
  obtain rfl : R = z_rm fR lR cR sR := hR
  intro H locs ls hP hD hS hl
  have hF := z_allow hD hS hA (wc := wc) fun _ h => List.mem_append_right _ h
  have hPc := z_Pr hP
  have hDc := z_Dr hD
  refine va_calll (va_runV ⟨hx, hb, hml, ho, hts⟩ (hM H.size) (cwV As.length hts (z_goodIn (ws := wsV own idx y.cls y (z_wy y b n (some .long))) fun w hw => ?_) rfl rfl rfl ⟨rfl, c5⟩ ⟨Nat.le_of_ble_eq_true hr.1, Nat.le_of_ble_eq_true hr.2⟩) ⟨z_blind, ?_, fun U hU hW => ⟨rfl, by rw [hU], by rw [hU]; exact hPc, va_K.moved hW.alike hK, hDc.weaken (fun _ _ _ _ => trivial)⟩⟩ rfl rfl (by show ls.size = nL; rw [hl.1]; exact hL) rfl (lv_room (Nat.le_of_ble_eq_true hcat)) d hr2) hS (fun q _ h => hF q h) hF (fun r u T H1 locs1 ht hvm hw hB hz1 hk1 hS => ?_)
  · rcases List.mem_append.mp hw with h | h
    · simp only [List.mem_cons, List.not_mem_nil, or_false] at h
      rcases h with rfl | rfl | rfl | rfl
      · exact hlk
      · exact c1
      · exact c2
      · exact c3
    · rcases List.mem_cons.mp h with rfl | h
      · exact c4
      · exact h
  · rw [← hqc]; exact va_recv hK hPc hq he
  · obtain ⟨z, rfl, hpost⟩ := hw
    obtain ⟨hP1, hK1, hD1⟩ := hB
    rw [ht] at hP1
    obtain ⟨hP2, hD2⟩ := z_jn hP hD hk1 hF hP1 hD1
    exact k z u hpost H1 locs1 ls hP2 hD2 hS hl
theorem z_sw (k : Gd K cells slots pc L st (wc ++ W)) : Gd K cells slots pc L st (W ++ wc) := by
  obtain ⟨p, l, e, R, s, m, args, below, meth, c, A, H0, Q, D, t⟩ := K
  intro H locs ls hP hD hS hl
  exact k H locs ls (z_swP hP) (z_swD hD) hS hl
theorem z_arrq {a : Nat} {cA : ClassId} {n : Nat} {f f' : Nat → Option Nat} (q0 : Nat) (ha : ws[q0]? = some (a, .inl (cA, n, .inr (.inr (.inr (.inr f)))))) (hf : ∀ j, j < n → f j = f' j) (k : Gd K cells slots pc L st (ws.set q0 (a, .inl (cA, n, .inr (.inr (.inr (.inr f'))))))) : Gd K cells slots pc L st ws := by
  obtain ⟨p, l, e, R, s, m, args, below, meth, c, A, H0, Q, D, t⟩ := K
  intro H locs ls hP hD hS hl
  refine k H locs ls (hP.set hD ha ?_ fun _ _ => rfl) (hD.set ha) hS hl
  have h := hP q0 _ ha
  show H[a]? = some (vp_cell _ _)
  have h2 : H[a]? = some (vp_cell cA (n, .inr (.inr (.inr (.inr f))))) := h
  rw [h2, vp_cell_q, vp_cell_q]
  unfold arrV
  congr 3
  funext j
  exact congrArg va_rf (hf j.val j.isLt)
theorem z_astS (C : Fc K cc own nL) {i : Int} {n v a : Nat} {f : Nat → Option Nat} {vs : List Value} (q0 qk : Nat) (ha : ws[q0]? = some (a, .inl (z_t K 3, n, .inr (.inr (.inr (.inr f)))))) (hv : ws[qk]? = some (v, .inr (5, vs))) (d : decode cc pc = .ok (.aastore, 1)) (hi : 0 ≤ i ∧ i < n) (hn : Nat.ble n 2147483647 = true) (k : Gd K cells slots (pc + 1) L rest (ws.set q0 (a, .inl (z_t K 3, n, .inr (.inr (.inr (.inr (va_up f i.toNat (some v))))))))) : Gd K cells slots pc L (.ref v :: .int (zI i) :: .ref a :: rest) ws := by
  have hn := Nat.le_of_ble_eq_true hn
  obtain ⟨p, l, ee, R, s, m, args, below, meth, c, A, H0, Q, D, t⟩ := K
  obtain ⟨hx, hb, hml, ho, hts, hK, hA⟩ := C
  intro H locs ls hP hD hS hl
  refine va_astq hx hb hK hP hD hS q0 3 qk 5 (n := n) (f := f) (r := (RX5, TX5, 4)) ha rfl hv rfl (zI_in hi.1 hi.2 (by omega)) d fun H1 locs1 hP hD hS => ?_
  rw [zI_clamp hi.1 (by omega)] at hP hD
  exact k H1 locs1 ls hP hD hS hl
end ZNN
/-- the memories of fresh objects -/
def zF0 : zMem := fun k => bif Nat.beq k 0 then zC 1 else bif Nat.beq k 1 then zC 1 else bif Nat.beq k 2 then zC 1 else bif Nat.beq k 3 then zC 1 else bif Nat.beq k 11 then zC 3 else bif Nat.beq k 51 then zC (-1) else zC 0
def zM0 : zMem := fun k => bif Nat.beq k 3 then zC 1 else bif Nat.beq k 11 then zC 3 else bif Nat.beq k 51 then zC (-1) else zC 0
