/-! MAKING: objects, arrays, constructors; calls within a wider world -/
def z_AO (K : z_KT) : Prop := match K with
  | (_, _, _, _, s, _) => va_AO RX5 s ∧ va_AO RX0 s
section ZN
variable {K : z_KT} {cc : ByteArray} {own : String} {nL cells slots pc : Nat} {L : List (Option Value)} {st rest : List Value} {ws : va_W}
theorem z_new (C : Fc K cc own nL) {idx : Nat} {CC : String} {T : u_T} {N : Nat} (ci : Nat) (d : decode cc pc = .ok (.new idx, 3)) (hin : ∀ w ∈ u_ws CC T N, w ∈ wsL_law) (ty : Nat → FieldType) (hty : ∀ k, k < N → parseFieldDescriptor (T k).2.2.1 = some (ty k)) (hcl : Cond.classLink own idx CC ∈ wsL_law) (hinst : Cond.instantiable CC N ∈ wsL_law) (hini : Cond.initialized CC ∈ wsL_law) (hc : vwCl[ci]? = some (CC, T, N)) {fs : List Value} (hfs : ∀ j, j < N → defaultValue (ty j) = vp_V fs j) {fR lR cR sR : Nat} (hR : z_Rm K = z_rm fR lR cR sR) (hr : Nat.ble (cells + 1) cR = true ∧ Nat.ble (slots + N) sR = true) (k : ∀ q : Nat, Gd K (cells + 1) (slots + N) (pc + 3) L (.ref q :: rest) (ws ++ [(q, .inr (ci, fs))])) : Gd K cells slots pc L rest ws := by
  obtain ⟨p, l, e, R, s, m, args, below, meth, c, A, H0, Q, D, t⟩ := K
  obtain ⟨hx, hb, hml, ho, hts, hK, hA⟩ := C
  obtain rfl : R = z_rm fR lR cR sR := hR
  intro H locs ls hP hD hS hl
  exact va_new hx hb hts hin ty hty ho (hts _ hcl) (hts _ hinst) (hts _ hini) hK hP hD hS hA hc hfs (Nat.le_of_ble_eq_true hr.1) (Nat.le_of_ble_eq_true hr.2) d fun q H1 hP hD hS => k q H1 locs ls hP hD hS hl
theorem z_cls {D : va_G} {t : Nat → ClassId} {s : State} {cA : ClassId} {ty : FieldType} (hK : va_K D vwCl (z_tys t) s) (hK2 : va_K D vwCl (z_tys t ++ [(cA, ty)]) s) (i : Nat) (hi : (z_tys t)[i]? = some (t i, ty)) : cA = t i := by
  have a := (hK.2 i _ hi).2
  have b := (hK2.2 5 (cA, ty) rfl).2
  cases ty with
  | object C =>
    obtain ⟨_, _, _, _, _, a4⟩ := a
    obtain ⟨_, _, _, _, _, b4⟩ := b
    exact Option.some.inj (b4.symm.trans a4)
  | _ => exact Option.some.inj ((show s.vm.findClass _ = some cA from b).symm.trans a)
theorem z_newI (C : Fc K cc own nL) {n : Int} {N : Nat} (hn : n = (N : Int)) (hN : Nat.ble N 100000000 = true) (d : decode cc pc = .ok (.newarray .int, 2)) {fR lR cR sR : Nat} (hR : z_Rm K = z_rm fR lR cR sR) (hr : Nat.ble (cells + 1) cR = true ∧ Nat.ble (slots + N) sR = true) (k : ∀ q : Nat, Gd K (cells + 1) (slots + N) (pc + 2) L (.ref q :: rest) (ws ++ [(q, .inl (z_t K 0, N, .inl (fun _ => zI 0)))])) : Gd K cells slots pc L (.int (zI n) :: rest) ws := by
  obtain ⟨p, l, e, R, s, m, args, below, meth, c, A, H0, Q, D, t⟩ := K
  obtain ⟨hx, hb, hml, ho, hts, hK, hA⟩ := C
  obtain rfl : R = z_rm fR lR cR sR := hR
  subst hn
  have hN := Nat.le_of_ble_eq_true hN
  intro H locs ls hP hD hS hl
  refine va_newa (atype := .int) (ty := .int) (a0 := (N, .inl (fun _ => zI 0))) hx hb (hts _ gw_2_12) rfl hK hP hD hS hA (fun cA => rfl) (by rw [zI_0, zI_lt (by omega) (by omega)]; omega) (by rw [zI_clamp (by omega) (by omega), Int.toNat_natCast]) (by show N * 4 ≤ _; omega) (Nat.le_of_ble_eq_true hr.1) (Nat.le_of_ble_eq_true hr.2) d fun q cA H1 hK2 hP hD hS => ?_
  obtain rfl := z_cls hK hK2 0 rfl
  exact k q H1 locs ls hP hD hS hl
theorem z_newL (C : Fc K cc own nL) {n : Int} {N : Nat} (hn : n = (N : Int)) (hN : Nat.ble N 50000000 = true) (d : decode cc pc = .ok (.newarray .long, 2)) {fR lR cR sR : Nat} (hR : z_Rm K = z_rm fR lR cR sR) (hr : Nat.ble (cells + 1) cR = true ∧ Nat.ble (slots + N) sR = true) (k : ∀ q : Nat, Gd K (cells + 1) (slots + N) (pc + 2) L (.ref q :: rest) (ws ++ [(q, .inl (z_t K 1, N, .inr (.inl (fun _ => zL 0))))])) : Gd K cells slots pc L (.int (zI n) :: rest) ws := by
  obtain ⟨p, l, e, R, s, m, args, below, meth, c, A, H0, Q, D, t⟩ := K
  obtain ⟨hx, hb, hml, ho, hts, hK, hA⟩ := C
  obtain rfl : R = z_rm fR lR cR sR := hR
  subst hn
  have hN := Nat.le_of_ble_eq_true hN
  intro H locs ls hP hD hS hl
  refine va_newa (atype := .long) (ty := .long) (a0 := (N, .inr (.inl (fun _ => zL 0)))) hx hb (hts _ gw_3_18) rfl hK hP hD hS hA (fun cA => rfl) (by rw [zI_0, zI_lt (by omega) (by omega)]; omega) (by rw [zI_clamp (by omega) (by omega), Int.toNat_natCast]) (by show N * 8 ≤ _; omega) (Nat.le_of_ble_eq_true hr.1) (Nat.le_of_ble_eq_true hr.2) d fun q cA H1 hK2 hP hD hS => ?_
  obtain rfl := z_cls hK hK2 1 rfl
  exact k q H1 locs ls hP hD hS hl
theorem z_newZ (C : Fc K cc own nL) {n : Int} {N : Nat} (hn : n = (N : Int)) (hN : Nat.ble N 100000000 = true) (d : decode cc pc = .ok (.newarray .boolean, 2)) {fR lR cR sR : Nat} (hR : z_Rm K = z_rm fR lR cR sR) (hr : Nat.ble (cells + 1) cR = true ∧ Nat.ble (slots + N) sR = true) (k : ∀ q : Nat, Gd K (cells + 1) (slots + N) (pc + 2) L (.ref q :: rest) (ws ++ [(q, .inl (z_t K 2, N, .inl (fun _ => zI 0)))])) : Gd K cells slots pc L (.int (zI n) :: rest) ws := by
  obtain ⟨p, l, e, R, s, m, args, below, meth, c, A, H0, Q, D, t⟩ := K
  obtain ⟨hx, hb, hml, ho, hts, hK, hA⟩ := C
  obtain rfl : R = z_rm fR lR cR sR := hR
  subst hn
  have hN := Nat.le_of_ble_eq_true hN
  intro H locs ls hP hD hS hl
  refine va_newa (atype := .boolean) (ty := .boolean) (a0 := (N, .inl (fun _ => zI 0))) hx hb (hts _ gw_3_1) rfl hK hP hD hS hA (fun cA => rfl) (by rw [zI_0, zI_lt (by omega) (by omega)]; omega) (by rw [zI_clamp (by omega) (by omega), Int.toNat_natCast]) (by show N * 1 ≤ _; omega) (Nat.le_of_ble_eq_true hr.1) (Nat.le_of_ble_eq_true hr.2) d fun q cA H1 hK2 hP hD hS => ?_
  obtain rfl := z_cls hK hK2 2 rfl
  exact k q H1 locs ls hP hD hS hl
theorem z_newQ (C : Fc K cc own nL) (hao : z_AO K) {n : Int} {N idx : Nat} {CC : String} (i : Nat) (hi : (i = 3 ∧ CC = RX5) ∨ (i = 4 ∧ CC = RX0)) (hcl : Cond.classLink own idx CC ∈ wsL_law) (hn : n = (N : Int)) (hN : Nat.ble N 100000000 = true) (d : decode cc pc = .ok (.anewarray idx, 3)) {fR lR cR sR : Nat} (hR : z_Rm K = z_rm fR lR cR sR) (hr : Nat.ble (cells + 1) cR = true ∧ Nat.ble (slots + N) sR = true) (k : ∀ q : Nat, Gd K (cells + 1) (slots + N) (pc + 3) L (.ref q :: rest) (ws ++ [(q, .inl (z_t K i, N, .inr (.inr (.inr (.inr (fun _ => none))))))])) : Gd K cells slots pc L (.int (zI n) :: rest) ws := by
  obtain ⟨p, l, e, R, s, m, args, below, meth, c, A, H0, Q, D, t⟩ := K
  obtain ⟨hx, hb, hml, ho, hts, hK, hA⟩ := C
  obtain rfl : R = z_rm fR lR cR sR := hR
  subst hn
  have hN := Nat.le_of_ble_eq_true hN
  have hov : va_AO CC s := by
    rcases hi with ⟨_, h⟩ | ⟨_, h⟩ <;> rw [h]
    · exact hao.1
    · exact hao.2
  have hty : (z_tys t)[i]? = some (t i, .object CC) := by
    rcases hi with ⟨h1, h2⟩ | ⟨h1, h2⟩ <;> subst h1 <;> rw [h2] <;> rfl
  intro H locs ls hP hD hS hl
  refine va_newq hx hb ho (hts _ hcl) hov hK hP hD hS hA (N' := N) (by rw [zI_0, zI_lt (by omega) (by omega)]; omega) (by rw [zI_clamp (by omega) (by omega), Int.toNat_natCast]) (by omega) (Nat.le_of_ble_eq_true hr.1) (Nat.le_of_ble_eq_true hr.2) d fun q cA H1 hK2 hP hD hS => ?_
  obtain rfl := z_cls hK hK2 i hty
  exact k q H1 locs ls hP hD hS hl
theorem z_objInit (C : Fc K cc own nL) {idx a : Nat} (d : decode cc pc = .ok (.invokespecial idx, 3)) (hlk : Cond.methodLink own idx objectInit ∈ wsL_law) (hL : L.length = nL) {fR lR cR sR : Nat} (hR : z_Rm K = z_rm fR lR cR sR) (hr : Nat.ble 1 fR = true ∧ Nat.ble 20 lR = true) (hcat : Nat.ble (rest.map fun v => v.category).sum 8 = true) (k : Gd K cells slots (pc + 3) L rest ws) : Gd K cells slots pc L (.ref a :: rest) ws := by
  obtain ⟨p, l, e, R, s, m, args, below, meth, c, A, H0, Q, D, t⟩ := K
  obtain ⟨hx, hb, hml, ho, hts, hK, hA⟩ := C
  obtain rfl : R = z_rm fR lR cR sR := hR
  intro H locs ls hP hD hS hl
  refine W.objInit hx hb ho (hts _ hlk) (hts _ gw_1_10) (hts _ gw_1_11) rfl (by show ls.size = _; rw [hl.1, hml]; exact hL) rfl d (Nat.le_of_ble_eq_true hr.1) ?_ (k H locs ls hP hD hS hl)
  have h1 := Nat.le_of_ble_eq_true hcat
  have h2 := Nat.le_of_ble_eq_true hr.2
  show 2 * 0 + (rest.map fun v => v.category).sum + 12 ≤ lR
  omega
/-- a constructor's call, the callee's world the caller's whole world -/
theorem z_callI (C : Fc K cc own nL) {idx : Nat} (d : decode cc pc = .ok (.invokespecial idx, 3)) {y : MethodName} {b : ByteArray} {n : Nat} {fr lo mc ms a : Nat} {As : List Value} {post : va_W → Prop} (hM : z_Cv (z_l K) (z_D K) (z_t K) y b n fr lo mc ms (.ref a :: As) ws post) (hc : z_cI y b n As.length) (hlk : Cond.methodLink own idx y ∈ wsL_law) (hst : st = As.reverse ++ .ref a :: rest) (hL : L.length = nL) {fR lR cR sR : Nat} (hR : z_Rm K = z_rm fR lR cR sR) (hr : Nat.ble (fr + 1) fR = true ∧ Nat.ble (8 + (n + 11) + lo) lR = true ∧ Nat.ble (cells + mc) cR = true ∧ Nat.ble (slots + ms) sR = true) (hcat : Nat.ble (rest.map fun v => v.category).sum 8 = true)
    (k : ∀ (w : va_W), post w → Gd K (cells + mc) (slots + ms) (pc + 3) L rest w) : Gd K cells slots pc L st ws := by
  subst hst
  obtain ⟨p, l, e, R, s, m, args, below, meth, c, A, H0, Q, D, t⟩ := K
  obtain ⟨hx, hb, hml, ho, hts, hK, hA⟩ := C
  obtain ⟨c1, c2, c3, c4, c5⟩ := hc
  obtain rfl : R = z_rm fR lR cR sR := hR
  intro H locs ls hP hD hS hl
  have hF := z_allow hD hS hA (wc := ws) fun _ h => h
  refine va_callv (va_runI ⟨hx, hb, hml, ho, hts⟩ (hM H.size) (cwI As.length hts (z_goodIn (ws := z_wy y b n none) fun w hw => ?_) rfl rfl rfl (hts _ c2) (hts _ hlk) (hts _ c1) c4 c5 ⟨Nat.le_of_ble_eq_true hr.1, Nat.le_of_ble_eq_true hr.2.1⟩) ⟨z_blind, fun U hU hW => ⟨rfl, by rw [hU], by rw [hU]; exact hP, va_K.moved hW.alike hK, hD.weaken (fun _ _ _ _ => trivial)⟩⟩ rfl rfl (by show ls.size = nL; rw [hl.1]; exact hL) rfl (lv_room (Nat.le_of_ble_eq_true hcat)) d ⟨Nat.le_of_ble_eq_true hr.2.2.1, Nat.le_of_ble_eq_true hr.2.2.2⟩) hS (fun q _ h => hF q h) hF (fun u T H1 locs1 ht hvm hw hB hz1 hk1 hS => ?_)
  · rcases List.mem_cons.mp hw with rfl | h
    · exact c3
    · exact h
  · obtain ⟨hP1, hK1, hD1⟩ := hB
    rw [ht] at hP1
    exact k u hw H1 locs1 ls hP1 (hD1.weaken fun _ q _ h => hF q.1 h) hS hl
/-- the cells in another order -/
theorem z_perm (is : List Nat) {ws' : va_W} (h1 : is.filterMap (fun i => ws[i]?) = ws') (hn : va_nd is = true) (h2 : is.map (fun i => ws[i]?) = ws'.map some) (k : Gd K cells slots pc L st ws') : Gd K cells slots pc L st ws := by
  obtain ⟨p, l, e, R, s, m, args, below, meth, c, A, H0, Q, D, t⟩ := K
  intro H locs ls hP hD hS hl
  exact k H locs ls (hP.sub is h1) (hD.sub is hn h2) hS hl
end ZN
theorem z_apg {α : Type} (W r : List α) (j : Nat) : (W ++ r)[W.length + j]? = r[j]? := by
  rw [List.getElem?_append_right (Nat.le_add_right _ _), Nat.add_sub_cancel_left]
theorem z_aps {α : Type} (W r : List α) (j : Nat) (x : α) : (W ++ r).set (W.length + j) x = W ++ r.set j x := by
  rw [List.set_append_right _ _ (Nat.le_add_right _ _), Nat.add_sub_cancel_left]
