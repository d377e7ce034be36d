/-! CONTRACTS over a whole world: a method y, from a world ws, returns with an answer and a world that 'post' holds of -/
def z_wy (y : MethodName) (b : ByteArray) (n : Nat) (ret : Option FieldType) : List Cond := Cond.code y b n ret :: wsL_law
def z_pre (D : va_G) (t : Nat → ClassId) (ws : va_W) (sz : Nat) : State → Prop := fun U => U.heap.size = sz ∧ va_P D vwCl ws U.heap ∧ va_K D vwCl (z_tys t) U ∧ va_D (fun _ => True) ws
def z_at (D : va_G) (t : Nat → ClassId) (A : Nat → Prop) (ws : va_W) : State → Prop := fun T => va_P D vwCl ws T.heap ∧ va_K D vwCl (z_tys t) T ∧ va_D A ws
def z_rm (fr lo mc ms : Nat) : Room := { frames := fr, cells := mc, slots := ms, locals := lo }
def z_Ci (l : Launch) (D : va_G) (t : Nat → ClassId) (y : MethodName) (b : ByteArray) (n : Nat) (ty : FieldType) (fr lo mc ms : Nat) (args : List Value) (ws : va_W) (post : Int → va_W → Prop) : Prop :=
  ∀ sz : Nat, Met l y (z_wy y b n (some ty)) (z_rm fr lo mc ms) (va_Pc args (z_pre D t ws sz)) (va_Qi (S := va_W) (fun r w => ∃ z : Int, r = zI z ∧ post z w) (fun w T => z_at D t (va_A ws sz) w T) (va_A ws sz)) mc ms (va_A ws sz)
def z_Cl (l : Launch) (D : va_G) (t : Nat → ClassId) (y : MethodName) (b : ByteArray) (n : Nat) (fr lo mc ms : Nat) (args : List Value) (ws : va_W) (post : Int → va_W → Prop) : Prop :=
  ∀ sz : Nat, Met l y (z_wy y b n (some .long)) (z_rm fr lo mc ms) (va_Pc args (z_pre D t ws sz)) (va_Ql (S := va_W) (fun r w => ∃ z : Int, r = zL z ∧ post z w) (fun w T => z_at D t (va_A ws sz) w T) (va_A ws sz)) mc ms (va_A ws sz)
def z_Cv (l : Launch) (D : va_G) (t : Nat → ClassId) (y : MethodName) (b : ByteArray) (n : Nat) (fr lo mc ms : Nat) (args : List Value) (ws : va_W) (post : va_W → Prop) : Prop :=
  ∀ sz : Nat, Met l y (z_wy y b n none) (z_rm fr lo mc ms) (va_Pc args (z_pre D t ws sz)) (va_Qv (S := va_W) post (fun w T => z_at D t (va_A ws sz) w T) (va_A ws sz)) mc ms (va_A ws sz)
/-- a state's own ends: what an answer needs -/
def z_Ri (K : z_KT) (b : ByteArray) (mc ms : Nat) (ty : FieldType) (post : Int → va_W → Prop) : Prop := ∀ (pc : Nat) (L : List (Option Value)) (r : Int) (ws : va_W), decode b pc = .ok (.ireturn, 1) → post r ws → narrow ty (.int (zI r)) = .int (zI r) → Gd K mc ms pc L [.int (zI r)] ws
def z_Rl (K : z_KT) (b : ByteArray) (mc ms : Nat) (post : Int → va_W → Prop) : Prop := ∀ (pc : Nat) (L : List (Option Value)) (r : Int) (ws : va_W), decode b pc = .ok (.lreturn, 1) → post r ws → Gd K mc ms pc L [.long (zL r)] ws
def z_Rv (K : z_KT) (b : ByteArray) (mc ms : Nat) (post : va_W → Prop) : Prop := ∀ (pc : Nat) (L : List (Option Value)) (ws : va_W), decode b pc = .ok (.return_, 1) → post ws → Gd K mc ms pc L [] ws
theorem z_nb {r : Int} (h : r = 0 ∨ r = 1) : narrow .boolean (.int (zI r)) = .int (zI r) := by
  rcases h with rfl | rfl <;> decide +kernel
theorem z_Ci_of {l : Launch} {D : va_G} {t : Nat → ClassId} {y : MethodName} {b : ByteArray} {n : Nat} {ty : FieldType} {fr lo mc ms : Nat} {args : List Value} {ws : va_W} {post : Int → va_W → Prop} (hy : plainName y.cls = true) (L0 : List (Option Value)) (hL : z_asc 0 L0 = lv_args 0 args) (hn : L0.length = n) (hle : (lg_sl args).length ≤ n)
    (body : ∀ K : z_KT, z_l K = l → z_D K = D → z_t K = t → z_Rm K = z_rm fr lo mc ms → z_nm K = y.name → Fc K b y.cls n → z_Ri K b mc ms ty post → Gd K 0 0 0 L0 [] ws) : z_Ci l D t y b n ty fr lo mc ms args ws post := by
  refine fun sz => Met.ofW (cc := b) (maxL := n) (ret := some ty) hy rfl ?_
  intro p e s m args' below meth c s₁ B hml hv
  obtain ⟨rfl, hsz, hP, hK, hD0⟩ := hv
  have hx := B.exec
  have hb := B.bytes
  have hr := B.returns
  have hts := atoms_spec (ws := z_wy y b n (some ty)) B.pre
  have hown : s.vm.findClass y.cls = some m.cls := findClass_of_methodNamed B.named
  have hlocks := B.notSynchronized
  have hin : meth.name = y.name := (name_of_methodNamed B.named B.method).1
  subst hsz
  have hD := hD0.self (sz := s.heap.size)
  have hl := lv_entry args (n := n) hle
  rw [lg_entry_eq]
  generalize (lg_sl args ++ List.replicate (n - (lg_sl args).length) Slot.unset).toArray = ls at hl ⊢
  rw [← hL, ← hn] at hl
  refine body (p, l, e, z_rm fr lo mc ms, s, m, args.toArray, below, meth, c, va_A ws s.heap.size, s.heap, _, D, t) rfl rfl rfl rfl hin ⟨hx, hb, hml, hown, fun w hw => hts w (List.mem_cons_of_mem _ hw), hK, fun q h => Or.inr h⟩ ?_ s.heap [] ls hP hD va_S.rf hl
  intro pc L r ws' d hpost hnar H locs ls' hP' hD' hS' hl'
  exact W.zret hx hb hr hnar (fun t' ht hW => ⟨⟨zI r, ws', rfl, ⟨r, rfl, hpost⟩, by rw [ht]; exact hP', va_K.moved hW.alike hK, hD'⟩, hS'.F ht⟩) hS'.2.2 d
theorem z_Cl_of {l : Launch} {D : va_G} {t : Nat → ClassId} {y : MethodName} {b : ByteArray} {n : Nat} {fr lo mc ms : Nat} {args : List Value} {ws : va_W} {post : Int → va_W → Prop} (hy : plainName y.cls = true) (L0 : List (Option Value)) (hL : z_asc 0 L0 = lv_args 0 args) (hn : L0.length = n) (hle : (lg_sl args).length ≤ n)
    (body : ∀ K : z_KT, z_l K = l → z_D K = D → z_t K = t → z_Rm K = z_rm fr lo mc ms → z_nm K = y.name → Fc K b y.cls n → z_Rl K b mc ms post → Gd K 0 0 0 L0 [] ws) : z_Cl l D t y b n fr lo mc ms args ws post := by
  refine fun sz => Met.ofW (cc := b) (maxL := n) (ret := some .long) hy rfl ?_
  intro p e s m args' below meth c s₁ B hml hv
  obtain ⟨rfl, hsz, hP, hK, hD0⟩ := hv
  have hx := B.exec
  have hb := B.bytes
  have hr := B.returns
  have hts := atoms_spec (ws := z_wy y b n (some .long)) B.pre
  have hown : s.vm.findClass y.cls = some m.cls := findClass_of_methodNamed B.named
  have hlocks := B.notSynchronized
  have hin : meth.name = y.name := (name_of_methodNamed B.named B.method).1
  subst hsz
  have hD := hD0.self (sz := s.heap.size)
  have hl := lv_entry args (n := n) hle
  rw [lg_entry_eq]
  generalize (lg_sl args ++ List.replicate (n - (lg_sl args).length) Slot.unset).toArray = ls at hl ⊢
  rw [← hL, ← hn] at hl
  refine body (p, l, e, z_rm fr lo mc ms, s, m, args.toArray, below, meth, c, va_A ws s.heap.size, s.heap, _, D, t) rfl rfl rfl rfl hin ⟨hx, hb, hml, hown, fun w hw => hts w (List.mem_cons_of_mem _ hw), hK, fun q h => Or.inr h⟩ ?_ s.heap [] ls hP hD va_S.rf hl
  intro pc L r ws' d hpost H locs ls' hP' hD' hS' hl'
  exact W.lret hx hb hr (fun t' ht hW => ⟨⟨zL r, ws', rfl, ⟨r, rfl, hpost⟩, by rw [ht]; exact hP', va_K.moved hW.alike hK, hD'⟩, hS'.F ht⟩) hS'.2.2 d
theorem z_Cv_of {l : Launch} {D : va_G} {t : Nat → ClassId} {y : MethodName} {b : ByteArray} {n : Nat} {fr lo mc ms : Nat} {args : List Value} {ws : va_W} {post : va_W → Prop} (hy : plainName y.cls = true) (L0 : List (Option Value)) (hL : z_asc 0 L0 = lv_args 0 args) (hn : L0.length = n) (hle : (lg_sl args).length ≤ n)
    (body : ∀ K : z_KT, z_l K = l → z_D K = D → z_t K = t → z_Rm K = z_rm fr lo mc ms → z_nm K = y.name → Fc K b y.cls n → z_Rv K b mc ms post → Gd K 0 0 0 L0 [] ws) : z_Cv l D t y b n fr lo mc ms args ws post := by
  refine fun sz => Met.ofW (cc := b) (maxL := n) (ret := none) hy rfl ?_
  intro p e s m args' below meth c s₁ B hml hv
  obtain ⟨rfl, hsz, hP, hK, hD0⟩ := hv
  have hx := B.exec
  have hb := B.bytes
  have hr := B.returns
  have hts := atoms_spec (ws := z_wy y b n none) B.pre
  have hown : s.vm.findClass y.cls = some m.cls := findClass_of_methodNamed B.named
  have hlocks := B.notSynchronized
  have hin : meth.name = y.name := (name_of_methodNamed B.named B.method).1
  subst hsz
  have hD := hD0.self (sz := s.heap.size)
  have hl := lv_entry args (n := n) hle
  rw [lg_entry_eq]
  generalize (lg_sl args ++ List.replicate (n - (lg_sl args).length) Slot.unset).toArray = ls at hl ⊢
  rw [← hL, ← hn] at hl
  refine body (p, l, e, z_rm fr lo mc ms, s, m, args.toArray, below, meth, c, va_A ws s.heap.size, s.heap, _, D, t) rfl rfl rfl rfl hin ⟨hx, hb, hml, hown, fun w hw => hts w (List.mem_cons_of_mem _ hw), hK, fun q h => Or.inr h⟩ ?_ s.heap [] ls hP hD va_S.rf hl
  intro pc L ws' d hpost H locs ls' hP' hD' hS' hl'
  exact W.vret hx hb hr (fun t' ht hW => ⟨⟨ws', rfl, hpost, by rw [ht]; exact hP', va_K.moved hW.alike hK, hD'⟩, hS'.F ht⟩) hS'.2.2 d
theorem z_blind {D : va_G} {t : Nat → ClassId} {ws : va_W} {sz : Nat} {av : List Value} : FrameBlind (va_Pc av (z_pre D t ws sz)) := fun a U g mk q => by
  obtain ⟨q0, q1, qP, qK, qD⟩ := q
  exact ⟨q0, q1, qP, va_K.moved (u := U) (U := U.calling g mk a) (Vm.Alike.refl U.vm) qK, qD⟩
theorem z_allow {A : Nat → Prop} {ws wc : va_W} {H0 H : Heap} {locs : List Loc} (hD : va_D A ws) (hS : va_S A H0 H locs) (hA : ∀ q, H0.size ≤ q → A q) (hw : ∀ q ∈ wc, q ∈ ws) : ∀ q, va_A wc H.size q → A q := by
  intro q h
  rcases h with ⟨k, e, h⟩ | h
  · obtain ⟨j, hj⟩ := List.getElem?_of_mem (hw _ (List.mem_of_getElem? h))
    exact hD.2 j (q, e) hj
  · exact hA q (Nat.le_trans hS.1 h)
section ZC
variable {K : z_KT} {cc : ByteArray} {own : String} {nL cells slots pc : Nat} {L : List (Option Value)} {st rest : List Value} {ws : va_W}
/-- a call on an object, an int answer, the callee's world the caller's whole world -/
theorem z_callV (C : Fc K cc own nL) {idx : Nat} (d : decode cc pc = .ok (.invokevirtual idx, 3)) {y : MethodName} {b : ByteArray} {n : Nat} {ty : FieldType} {fr lo mc ms a : Nat} {As : List Value} {post : Int → va_W → Prop} (hM : z_Ci (z_l K) (z_D K) (z_t K) y b n ty fr lo mc ms (.ref a :: As) ws post) (hc : z_cV y b n (some ty) As.length) (hlk : Cond.methodLink own idx y ∈ wsL_law) (hst : st = As.reverse ++ .ref a :: rest) (q0 ci : Nat) {q : vw_C} {fs : List Value} (he : ws[q0]? = some (a, .inr (ci, fs))) (hq : vwCl[ci]? = some q) (hqc : q.1 = y.cls) (hL : L.length = nL) {fR lR cR sR : Nat} (hR : z_Rm K = z_rm fR lR cR sR) (hr : Nat.ble (fr + 1) fR = true ∧ Nat.ble (8 + (n + 11) + lo) lR = true ∧ Nat.ble (cells + mc) cR = true ∧ Nat.ble (slots + ms) sR = true) (hcat : Nat.ble (rest.map fun v => v.category).sum 8 = true)
    (k : ∀ (r : Int) (w : va_W), post r w → Gd K (cells + mc) (slots + ms) (pc + 3) L (.int (zI r) :: rest) w) : Gd K cells slots pc L st ws := by
  subst hst
  obtain ⟨p, l, e, R, s, m, args, below, meth, c, A, H0, Q, D, t⟩ := K
  obtain ⟨hx, hb, hml, ho, hts, hK, hA⟩ := C
  obtain ⟨c1, c2, c3, c4, c5⟩ := hc
  obtain rfl : R = z_rm fR lR cR sR := hR
  intro H locs ls hP hD hS hl
  have hF := z_allow hD hS hA (wc := ws) fun _ h => h
  refine va_calli (va_runV ⟨hx, hb, hml, ho, hts⟩ (hM H.size) (cwV As.length hts (z_goodIn (ws := wsV own idx y.cls y (z_wy y b n (some ty))) fun w hw => ?_) rfl rfl rfl ⟨rfl, c5⟩ ⟨Nat.le_of_ble_eq_true hr.1, Nat.le_of_ble_eq_true hr.2.1⟩) ⟨z_blind, ?_, fun U hU hW => ⟨rfl, by rw [hU], by rw [hU]; exact hP, va_K.moved hW.alike hK, hD.weaken (fun _ _ _ _ => trivial)⟩⟩ rfl rfl (by show ls.size = nL; rw [hl.1]; exact hL) rfl (lv_room (Nat.le_of_ble_eq_true hcat)) d ⟨Nat.le_of_ble_eq_true hr.2.2.1, Nat.le_of_ble_eq_true hr.2.2.2⟩) hS (fun q _ h => hF q h) hF (fun r u T H1 locs1 ht hvm hw hB hz1 hk1 hS => ?_)
  · rcases List.mem_append.mp hw with h | h
    · simp only [List.mem_cons, List.not_mem_nil, or_false] at h
      rcases h with rfl | rfl | rfl | rfl
      · exact hlk
      · exact c1
      · exact c2
      · exact c3
    · rcases List.mem_cons.mp h with rfl | h
      · exact c4
      · exact h
  · rw [← hqc]; exact va_recv hK hP hq he
  · obtain ⟨z, rfl, hpost⟩ := hw
    obtain ⟨hP1, hK1, hD1⟩ := hB
    rw [ht] at hP1
    exact k z u hpost H1 locs1 ls hP1 (hD1.weaken fun _ q _ h => hF q.1 h) hS hl
theorem z_callVl (C : Fc K cc own nL) {idx : Nat} (d : decode cc pc = .ok (.invokevirtual idx, 3)) {y : MethodName} {b : ByteArray} {n : Nat} {fr lo mc ms a : Nat} {As : List Value} {post : Int → va_W → Prop} (hM : z_Cl (z_l K) (z_D K) (z_t K) y b n fr lo mc ms (.ref a :: As) ws post) (hc : z_cV y b n (some .long) As.length) (hlk : Cond.methodLink own idx y ∈ wsL_law) (hst : st = As.reverse ++ .ref a :: rest) (q0 ci : Nat) {q : vw_C} {fs : List Value} (he : ws[q0]? = some (a, .inr (ci, fs))) (hq : vwCl[ci]? = some q) (hqc : q.1 = y.cls) (hL : L.length = nL) {fR lR cR sR : Nat} (hR : z_Rm K = z_rm fR lR cR sR) (hr : Nat.ble (fr + 1) fR = true ∧ Nat.ble (8 + (n + 11) + lo) lR = true ∧ Nat.ble (cells + mc) cR = true ∧ Nat.ble (slots + ms) sR = true) (hcat : Nat.ble (rest.map fun v => v.category).sum 8 = true)
    (k : ∀ (r : Int) (w : va_W), post r w → Gd K (cells + mc) (slots + ms) (pc + 3) L (.long (zL r) :: rest) w) : Gd K cells slots pc L st ws := by
  subst hst
  obtain ⟨p, l, e, R, s, m, args, below, meth, c, A, H0, Q, D, t⟩ := K
  obtain ⟨hx, hb, hml, ho, hts, hK, hA⟩ := C
  obtain ⟨c1, c2, c3, c4, c5⟩ := hc
  obtain rfl : R = z_rm fR lR cR sR := hR
  intro H locs ls hP hD hS hl
  have hF := z_allow hD hS hA (wc := ws) fun _ h => h
  refine va_calll (va_runV ⟨hx, hb, hml, ho, hts⟩ (hM H.size) (cwV As.length hts (z_goodIn (ws := wsV own idx y.cls y (z_wy y b n (some .long))) fun w hw => ?_) rfl rfl rfl ⟨rfl, c5⟩ ⟨Nat.le_of_ble_eq_true hr.1, Nat.le_of_ble_eq_true hr.2.1⟩) ⟨z_blind, ?_, fun U hU hW => ⟨rfl, by rw [hU], by rw [hU]; exact hP, va_K.moved hW.alike hK, hD.weaken (fun _ _ _ _ => trivial)⟩⟩ rfl rfl (by show ls.size = nL; rw [hl.1]; exact hL) rfl (lv_room (Nat.le_of_ble_eq_true hcat)) d ⟨Nat.le_of_ble_eq_true hr.2.2.1, Nat.le_of_ble_eq_true hr.2.2.2⟩) hS (fun q _ h => hF q h) hF (fun r u T H1 locs1 ht hvm hw hB hz1 hk1 hS => ?_)
  · rcases List.mem_append.mp hw with h | h
    · simp only [List.mem_cons, List.not_mem_nil, or_false] at h
      rcases h with rfl | rfl | rfl | rfl
      · exact hlk
      · exact c1
      · exact c2
      · exact c3
    · rcases List.mem_cons.mp h with rfl | h
      · exact c4
      · exact h
  · rw [← hqc]; exact va_recv hK hP hq he
  · obtain ⟨z, rfl, hpost⟩ := hw
    obtain ⟨hP1, hK1, hD1⟩ := hB
    rw [ht] at hP1
    exact k z u hpost H1 locs1 ls hP1 (hD1.weaken fun _ q _ h => hF q.1 h) hS hl
theorem z_callVv (C : Fc K cc own nL) {idx : Nat} (d : decode cc pc = .ok (.invokevirtual idx, 3)) {y : MethodName} {b : ByteArray} {n : Nat} {fr lo mc ms a : Nat} {As : List Value} {post : va_W → Prop} (hM : z_Cv (z_l K) (z_D K) (z_t K) y b n fr lo mc ms (.ref a :: As) ws post) (hc : z_cV y b n none As.length) (hlk : Cond.methodLink own idx y ∈ wsL_law) (hst : st = As.reverse ++ .ref a :: rest) (q0 ci : Nat) {q : vw_C} {fs : List Value} (he : ws[q0]? = some (a, .inr (ci, fs))) (hq : vwCl[ci]? = some q) (hqc : q.1 = y.cls) (hL : L.length = nL) {fR lR cR sR : Nat} (hR : z_Rm K = z_rm fR lR cR sR) (hr : Nat.ble (fr + 1) fR = true ∧ Nat.ble (8 + (n + 11) + lo) lR = true ∧ Nat.ble (cells + mc) cR = true ∧ Nat.ble (slots + ms) sR = true) (hcat : Nat.ble (rest.map fun v => v.category).sum 8 = true)
    (k : ∀ (w : va_W), post w → Gd K (cells + mc) (slots + ms) (pc + 3) L rest w) : Gd K cells slots pc L st ws := by
  subst hst
  obtain ⟨p, l, e, R, s, m, args, below, meth, c, A, H0, Q, D, t⟩ := K
  obtain ⟨hx, hb, hml, ho, hts, hK, hA⟩ := C
  obtain ⟨c1, c2, c3, c4, c5⟩ := hc
  obtain rfl : R = z_rm fR lR cR sR := hR
  intro H locs ls hP hD hS hl
  have hF := z_allow hD hS hA (wc := ws) fun _ h => h
  refine va_callv (va_runV ⟨hx, hb, hml, ho, hts⟩ (hM H.size) (cwV As.length hts (z_goodIn (ws := wsV own idx y.cls y (z_wy y b n none)) fun w hw => ?_) rfl rfl rfl ⟨rfl, c5⟩ ⟨Nat.le_of_ble_eq_true hr.1, Nat.le_of_ble_eq_true hr.2.1⟩) ⟨z_blind, ?_, fun U hU hW => ⟨rfl, by rw [hU], by rw [hU]; exact hP, va_K.moved hW.alike hK, hD.weaken (fun _ _ _ _ => trivial)⟩⟩ rfl rfl (by show ls.size = nL; rw [hl.1]; exact hL) rfl (lv_room (Nat.le_of_ble_eq_true hcat)) d ⟨Nat.le_of_ble_eq_true hr.2.2.1, Nat.le_of_ble_eq_true hr.2.2.2⟩) hS (fun q _ h => hF q h) hF (fun u T H1 locs1 ht hvm hw hB hz1 hk1 hS => ?_)
  · rcases List.mem_append.mp hw with h | h
    · simp only [List.mem_cons, List.not_mem_nil, or_false] at h
      rcases h with rfl | rfl | rfl | rfl
      · exact hlk
      · exact c1
      · exact c2
      · exact c3
    · rcases List.mem_cons.mp h with rfl | h
      · exact c4
      · exact h
  · rw [← hqc]; exact va_recv hK hP hq he
  · obtain ⟨hP1, hK1, hD1⟩ := hB
    rw [ht] at hP1
    exact k u hw H1 locs1 ls hP1 (hD1.weaken fun _ q _ h => hF q.1 h) hS hl
theorem z_callS (C : Fc K cc own nL) {idx : Nat} (d : decode cc pc = .ok (.invokestatic idx, 3)) {y : MethodName} {b : ByteArray} {n : Nat} {ty : FieldType} {fr lo mc ms : Nat} {As : List Value} {post : Int → va_W → Prop} (hM : z_Ci (z_l K) (z_D K) (z_t K) y b n ty fr lo mc ms As ws post) (hc : z_cS y b n (some ty) As.length) (hlk : Cond.methodLink own idx y ∈ wsL_law) (hst : st = As.reverse ++ rest) (hL : L.length = nL) {fR lR cR sR : Nat} (hR : z_Rm K = z_rm fR lR cR sR) (hr : Nat.ble (fr + 1) fR = true ∧ Nat.ble (8 + (n + 11) + lo) lR = true ∧ Nat.ble (cells + mc) cR = true ∧ Nat.ble (slots + ms) sR = true) (hcat : Nat.ble (rest.map fun v => v.category).sum 8 = true)
    (k : ∀ (r : Int) (w : va_W), post r w → Gd K (cells + mc) (slots + ms) (pc + 3) L (.int (zI r) :: rest) w) : Gd K cells slots pc L st ws := by
  subst hst
  obtain ⟨p, l, e, R, s, m, args, below, meth, c, A, H0, Q, D, t⟩ := K
  obtain ⟨hx, hb, hml, ho, hts, hK, hA⟩ := C
  obtain ⟨c1, c2, c3, c5⟩ := hc
  obtain rfl : R = z_rm fR lR cR sR := hR
  intro H locs ls hP hD hS hl
  have hF := z_allow hD hS hA (wc := ws) fun _ h => h
  refine va_calli (va_runS ⟨hx, hb, hml, ho, hts⟩ (hM H.size) (va_cwS As.length hts (z_goodIn (ws := va_wsS own idx y (z_wy y b n (some ty))) fun w hw => ?_) rfl rfl rfl c5 ⟨Nat.le_of_ble_eq_true hr.1, Nat.le_of_ble_eq_true hr.2.1⟩) ⟨z_blind, fun U hU hW => ⟨rfl, by rw [hU], by rw [hU]; exact hP, va_K.moved hW.alike hK, hD.weaken (fun _ _ _ _ => trivial)⟩⟩ rfl rfl (by show ls.size = nL; rw [hl.1]; exact hL) rfl (lv_room (Nat.le_of_ble_eq_true hcat)) d ⟨Nat.le_of_ble_eq_true hr.2.2.1, Nat.le_of_ble_eq_true hr.2.2.2⟩) hS (fun q _ h => hF q h) hF (fun r u T H1 locs1 ht hvm hw hB hz1 hk1 hS => ?_)
  · rcases List.mem_append.mp hw with h | h
    · simp only [List.mem_cons, List.not_mem_nil, or_false] at h
      rcases h with rfl | rfl | rfl
      · exact hlk
      · exact c1
      · exact c2
    · rcases List.mem_cons.mp h with rfl | h
      · exact c3
      · exact h
  · obtain ⟨z, rfl, hpost⟩ := hw
    obtain ⟨hP1, hK1, hD1⟩ := hB
    rw [ht] at hP1
    exact k z u hpost H1 locs1 ls hP1 (hD1.weaken fun _ q _ h => hF q.1 h) hS hl
theorem z_callSv (C : Fc K cc own nL) {idx : Nat} (d : decode cc pc = .ok (.invokestatic idx, 3)) {y : MethodName} {b : ByteArray} {n : Nat} {fr lo mc ms : Nat} {As : List Value} {post : va_W → Prop} (hM : z_Cv (z_l K) (z_D K) (z_t K) y b n fr lo mc ms As ws post) (hc : z_cS y b n none As.length) (hlk : Cond.methodLink own idx y ∈ wsL_law) (hst : st = As.reverse ++ rest) (hL : L.length = nL) {fR lR cR sR : Nat} (hR : z_Rm K = z_rm fR lR cR sR) (hr : Nat.ble (fr + 1) fR = true ∧ Nat.ble (8 + (n + 11) + lo) lR = true ∧ Nat.ble (cells + mc) cR = true ∧ Nat.ble (slots + ms) sR = true) (hcat : Nat.ble (rest.map fun v => v.category).sum 8 = true)
    (k : ∀ (w : va_W), post w → Gd K (cells + mc) (slots + ms) (pc + 3) L rest w) : Gd K cells slots pc L st ws := by
  subst hst
  obtain ⟨p, l, e, R, s, m, args, below, meth, c, A, H0, Q, D, t⟩ := K
  obtain ⟨hx, hb, hml, ho, hts, hK, hA⟩ := C
  obtain ⟨c1, c2, c3, c5⟩ := hc
  obtain rfl : R = z_rm fR lR cR sR := hR
  intro H locs ls hP hD hS hl
  have hF := z_allow hD hS hA (wc := ws) fun _ h => h
  refine va_callv (va_runS ⟨hx, hb, hml, ho, hts⟩ (hM H.size) (va_cwS As.length hts (z_goodIn (ws := va_wsS own idx y (z_wy y b n none)) fun w hw => ?_) rfl rfl rfl c5 ⟨Nat.le_of_ble_eq_true hr.1, Nat.le_of_ble_eq_true hr.2.1⟩) ⟨z_blind, fun U hU hW => ⟨rfl, by rw [hU], by rw [hU]; exact hP, va_K.moved hW.alike hK, hD.weaken (fun _ _ _ _ => trivial)⟩⟩ rfl rfl (by show ls.size = nL; rw [hl.1]; exact hL) rfl (lv_room (Nat.le_of_ble_eq_true hcat)) d ⟨Nat.le_of_ble_eq_true hr.2.2.1, Nat.le_of_ble_eq_true hr.2.2.2⟩) hS (fun q _ h => hF q h) hF (fun u T H1 locs1 ht hvm hw hB hz1 hk1 hS => ?_)
  · rcases List.mem_append.mp hw with h | h
    · simp only [List.mem_cons, List.not_mem_nil, or_false] at h
      rcases h with rfl | rfl | rfl
      · exact hlk
      · exact c1
      · exact c2
    · rcases List.mem_cons.mp h with rfl | h
      · exact c3
      · exact h
  · obtain ⟨hP1, hK1, hD1⟩ := hB
    rw [ht] at hP1
    exact k u hw H1 locs1 ls hP1 (hD1.weaken fun _ q _ h => hF q.1 h) hS hl
end ZC
