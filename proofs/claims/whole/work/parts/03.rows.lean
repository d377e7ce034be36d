/-! THE JUDGEMENT Gd: from pc, with these locals, this stack and this world, the machine comes to Q. One row an instruction. -/
abbrev z_KT : Type := Program × Launch × Env × Room × State × MethodId × Array Value × List Frame × Method × Code × (Nat → Prop) × Heap × (State → Prop) × va_G × (Nat → ClassId)
def z_tys (t : Nat → ClassId) : List (ClassId × FieldType) := [(t 0, .int), (t 1, .long), (t 2, .boolean), (t 3, .object RX5), (t 4, .object RX0)]
def z_asc : Nat → List (Option Value) → List (Nat × Value)
  | _, [] => []
  | k, none :: r => z_asc (k + 1) r
  | k, some v :: r => (k, v) :: z_asc (k + 1) r
theorem z_asc_mem : ∀ (L : List (Option Value)) (k j : Nat) (v : Value), (j, v) ∈ z_asc k L ↔ k ≤ j ∧ L[j - k]? = some (some v)
  | [], k, j, v => by simp [z_asc]
  | none :: r, k, j, v => by
    rw [z_asc, z_asc_mem r (k + 1) j v]
    constructor
    · rintro ⟨h1, h2⟩
      refine ⟨by omega, ?_⟩
      rw [show j - k = (j - (k + 1)) + 1 by omega]
      exact h2
    · rintro ⟨h1, h2⟩
      rcases Nat.eq_or_lt_of_le h1 with h | h
      · subst h; simp at h2
      · refine ⟨h, ?_⟩
        rw [show j - k = (j - (k + 1)) + 1 by omega] at h2
        exact h2
  | some u :: r, k, j, v => by
    rw [z_asc, List.mem_cons, z_asc_mem r (k + 1) j v]
    constructor
    · rintro (h | ⟨h1, h2⟩)
      · cases h; simp
      · refine ⟨by omega, ?_⟩
        rw [show j - k = (j - (k + 1)) + 1 by omega]
        exact h2
    · rintro ⟨h1, h2⟩
      rcases Nat.eq_or_lt_of_le h1 with h | h
      · subst h; simp at h2; exact Or.inl (by rw [h2])
      · refine Or.inr ⟨h, ?_⟩
        rw [show j - k = (j - (k + 1)) + 1 by omega] at h2
        exact h2
def Gd (K : z_KT) (cells slots pc : Nat) (L : List (Option Value)) (st : List Value) (ws : va_W) : Prop :=
  match K with
  | (p, l, e, R, s, m, args, below, meth, c, A, H0, Q, D, _) => ∀ (H : Heap) (locs : List Loc) (ls : Array Slot), va_P D vwCl ws H → va_D A ws → va_S A H0 H locs → lv_has ls L.length (z_asc 0 L) → W p l e R s m args below meth c H locs cells slots Q (F0 m pc ls st)
def Fc (K : z_KT) (cc : ByteArray) (own : String) (nL : Nat) : Prop :=
  match K with
  | (p, _, _, _, s, m, args, _, _, c, A, H0, _, D, t) => p.tables.exec = Jvm.exec ∧ c.code = cc ∧ c.maxLocals = nL ∧ s.vm.findClass own = some m.cls ∧ (∀ w ∈ wsL_law, w.before args s = true) ∧ va_K D vwCl (z_tys t) s ∧ (∀ q, H0.size ≤ q → A q)
/-- the room, and which method it is -/
def z_Rm (K : z_KT) : Room := match K with
  | (_, _, _, R, _) => R
def z_nm (K : z_KT) : String := match K with
  | (_, _, _, _, _, _, _, _, meth, _) => meth.name
def z_D (K : z_KT) : va_G := match K with
  | (_, _, _, _, _, _, _, _, _, _, _, _, _, D, _) => D
def z_t (K : z_KT) : Nat → ClassId := match K with
  | (_, _, _, _, _, _, _, _, _, _, _, _, _, _, t) => t
def z_l (K : z_KT) : Launch := match K with
  | (_, l, _) => l
theorem z_has {ls : Array Slot} {L : List (Option Value)} (h : lv_has ls L.length (z_asc 0 L)) {i : Nat} {v : Value} (hi : L[i]? = some (some v)) : ls[i]? = some (.val v) := h.2.2 (i, v) ((z_asc_mem L 0 i v).mpr ⟨Nat.zero_le _, hi⟩)
theorem z_sub {ls : Array Slot} {n : Nat} {lv : List (Nat × Value)} {L : List (Option Value)} (h : lv_has ls n lv) (hn : L.length = n) (hs : ∀ (j : Nat) (v : Value), L[j]? = some (some v) → (j, v) ∈ lv) : lv_has ls L.length (z_asc 0 L) := by
  rw [hn]
  refine ⟨h.1, h.2.1, fun q hq => h.2.2 q ?_⟩
  have := (z_asc_mem L 0 q.1 q.2).mp hq
  exact hs q.1 q.2 this.2

section ZR
variable {K : z_KT} {cc : ByteArray} {own : String} {nL cells slots pc : Nat} {L : List (Option Value)} {rest : List Value} {ws : va_W}
theorem z_iconst (C : Fc K cc own nL) {n : Int} (d : decode cc pc = .ok (.iconst n, 1)) (k : Gd K cells slots (pc + 1) L (.int (zI n) :: rest) ws) : Gd K cells slots pc L (rest) ws := by
  obtain ⟨p, l, e, R, s, m, args, below, meth, c, A, H0, Q, D, t⟩ := K
  obtain ⟨hx, hb, hml, ho, hts, hK, hA⟩ := C
  intro H locs ls hP hD hS hl
  exact lv_iconst hx hb d rfl (k H locs ls hP hD hS hl)
theorem z_bipush (C : Fc K cc own nL) {n : Int} (d : decode cc pc = .ok (.bipush n, 2)) (hv : (Int8.ofInt n).toInt32 = zI n) (k : Gd K cells slots (pc + 2) L (.int (zI n) :: rest) ws) : Gd K cells slots pc L (rest) ws := by
  obtain ⟨p, l, e, R, s, m, args, below, meth, c, A, H0, Q, D, t⟩ := K
  obtain ⟨hx, hb, hml, ho, hts, hK, hA⟩ := C
  intro H locs ls hP hD hS hl
  exact lv_bipush hx hb d hv (k H locs ls hP hD hS hl)
theorem z_sipush (C : Fc K cc own nL) {n : Int} (d : decode cc pc = .ok (.sipush n, 3)) (hv : (Int16.ofInt n).toInt32 = zI n) (k : Gd K cells slots (pc + 3) L (.int (zI n) :: rest) ws) : Gd K cells slots pc L (rest) ws := by
  obtain ⟨p, l, e, R, s, m, args, below, meth, c, A, H0, Q, D, t⟩ := K
  obtain ⟨hx, hb, hml, ho, hts, hK, hA⟩ := C
  intro H locs ls hP hD hS hl
  exact lv_sipush hx hb d hv (k H locs ls hP hD hS hl)
theorem z_ldc (C : Fc K cc own nL) {n : Int} {idx : Nat} (hw : Cond.constant own idx (zI n) ∈ wsL_law) (d : decode cc pc = .ok (.ldc idx, 2)) (k : Gd K cells slots (pc + 2) L (.int (zI n) :: rest) ws) : Gd K cells slots pc L (rest) ws := by
  obtain ⟨p, l, e, R, s, m, args, below, meth, c, A, H0, Q, D, t⟩ := K
  obtain ⟨hx, hb, hml, ho, hts, hK, hA⟩ := C
  intro H locs ls hP hD hS hl
  exact lv_ldc hx hb ho (hts _ hw) d (k H locs ls hP hD hS hl)
theorem z_ldc2 (C : Fc K cc own nL) {n : Int} {idx : Nat} (hw : Cond.constantLong own idx (zL n) ∈ wsL_law) (d : decode cc pc = .ok (.ldc2_w idx, 3)) (k : Gd K cells slots (pc + 3) L (.long (zL n) :: rest) ws) : Gd K cells slots pc L (rest) ws := by
  obtain ⟨p, l, e, R, s, m, args, below, meth, c, A, H0, Q, D, t⟩ := K
  obtain ⟨hx, hb, hml, ho, hts, hK, hA⟩ := C
  intro H locs ls hP hD hS hl
  exact lv_ldc2 hx hb ho (hts _ hw) d (k H locs ls hP hD hS hl)
theorem z_lconst (C : Fc K cc own nL) {n : Fin 2} {x : Int} (hv : Int64.ofNat (n : Nat) = zL x) (d : decode cc pc = .ok (.lconst n, 1)) (k : Gd K cells slots (pc + 1) L (.long (zL x) :: rest) ws) : Gd K cells slots pc L (rest) ws := by
  obtain ⟨p, l, e, R, s, m, args, below, meth, c, A, H0, Q, D, t⟩ := K
  obtain ⟨hx, hb, hml, ho, hts, hK, hA⟩ := C
  intro H locs ls hP hD hS hl
  exact lv_lconst hx hb d hv (k H locs ls hP hD hS hl)
theorem z_iload_n (C : Fc K cc own nL) {i : Fin 4} {x : Int32} (d : decode cc pc = .ok (.iload_n i, 1)) (hi : L[(i : Nat)]? = some (some (.int x))) (k : Gd K cells slots (pc + 1) L (.int x :: rest) ws) : Gd K cells slots pc L (rest) ws := by
  obtain ⟨p, l, e, R, s, m, args, below, meth, c, A, H0, Q, D, t⟩ := K
  obtain ⟨hx, hb, hml, ho, hts, hK, hA⟩ := C
  intro H locs ls hP hD hS hl
  exact lv_iload_n hx hb d rfl (z_has hl hi) (k H locs ls hP hD hS hl)
theorem z_iload (C : Fc K cc own nL) {i : Nat} {x : Int32} (d : decode cc pc = .ok (.iload i, 2)) (hi : L[i]? = some (some (.int x))) (k : Gd K cells slots (pc + 2) L (.int x :: rest) ws) : Gd K cells slots pc L (rest) ws := by
  obtain ⟨p, l, e, R, s, m, args, below, meth, c, A, H0, Q, D, t⟩ := K
  obtain ⟨hx, hb, hml, ho, hts, hK, hA⟩ := C
  intro H locs ls hP hD hS hl
  exact lv_iload hx hb d (z_has hl hi) (k H locs ls hP hD hS hl)
theorem z_lload_n (C : Fc K cc own nL) {i : Fin 4} {x : Int64} (d : decode cc pc = .ok (.lload_n i, 1)) (hi : L[(i : Nat)]? = some (some (.long x))) (k : Gd K cells slots (pc + 1) L (.long x :: rest) ws) : Gd K cells slots pc L (rest) ws := by
  obtain ⟨p, l, e, R, s, m, args, below, meth, c, A, H0, Q, D, t⟩ := K
  obtain ⟨hx, hb, hml, ho, hts, hK, hA⟩ := C
  intro H locs ls hP hD hS hl
  exact lv_lload_n hx hb d rfl (z_has hl hi) (k H locs ls hP hD hS hl)
theorem z_lload (C : Fc K cc own nL) {i : Nat} {x : Int64} (d : decode cc pc = .ok (.lload i, 2)) (hi : L[i]? = some (some (.long x))) (k : Gd K cells slots (pc + 2) L (.long x :: rest) ws) : Gd K cells slots pc L (rest) ws := by
  obtain ⟨p, l, e, R, s, m, args, below, meth, c, A, H0, Q, D, t⟩ := K
  obtain ⟨hx, hb, hml, ho, hts, hK, hA⟩ := C
  intro H locs ls hP hD hS hl
  exact lv_lload hx hb d (z_has hl hi) (k H locs ls hP hD hS hl)
theorem z_aload_n (C : Fc K cc own nL) {i : Fin 4} {x : Nat} (d : decode cc pc = .ok (.aload_n i, 1)) (hi : L[(i : Nat)]? = some (some (.ref x))) (k : Gd K cells slots (pc + 1) L (.ref x :: rest) ws) : Gd K cells slots pc L (rest) ws := by
  obtain ⟨p, l, e, R, s, m, args, below, meth, c, A, H0, Q, D, t⟩ := K
  obtain ⟨hx, hb, hml, ho, hts, hK, hA⟩ := C
  intro H locs ls hP hD hS hl
  exact lv_aload_n hx hb d rfl (z_has hl hi) (k H locs ls hP hD hS hl)
theorem z_aload (C : Fc K cc own nL) {i : Nat} {x : Nat} (d : decode cc pc = .ok (.aload i, 2)) (hi : L[i]? = some (some (.ref x))) (k : Gd K cells slots (pc + 2) L (.ref x :: rest) ws) : Gd K cells slots pc L (rest) ws := by
  obtain ⟨p, l, e, R, s, m, args, below, meth, c, A, H0, Q, D, t⟩ := K
  obtain ⟨hx, hb, hml, ho, hts, hK, hA⟩ := C
  intro H locs ls hP hD hS hl
  exact lv_aload hx hb d (z_has hl hi) (k H locs ls hP hD hS hl)
def z_ok1 : Option Value → Bool
  | some (.long _) => false
  | some (.double _) => false
  | _ => true
theorem z_ok1_c {v : Value} (h : z_ok1 (some v) = true) : v.category = 1 := by cases v <;> first | rfl | (simp [z_ok1] at h)
theorem z_set1 {ls : Array Slot} {L L' : List (Option Value)} {i : Nat} {v : Value} (hL : L' = L.set i (some v)) (hi : i < L.length) (hp : ∀ j, j + 1 = i → ∀ u, L[j]? = some u → z_ok1 u = true) (h : lv_has ls L.length ((i, v) :: (z_asc 0 L).filter (fun q => !(q.1 == i) && !(q.1 + 1 == i && q.2.category == 2)))) : lv_has ls L'.length (z_asc 0 L') := by
  subst hL
  refine z_sub h (by simp) fun j u hj => ?_
  by_cases e : j = i
  · subst e
    rw [List.getElem?_set_self hi] at hj
    cases hj
    exact List.mem_cons_self
  · rw [List.getElem?_set_ne (Ne.symm e)] at hj
    refine List.mem_cons_of_mem _ (List.mem_filter.mpr ⟨(z_asc_mem L 0 j u).mpr ⟨Nat.zero_le _, hj⟩, ?_⟩)
    by_cases e2 : j + 1 = i
    · have hc := z_ok1_c (hp j e2 _ hj)
      simp [e, e2, hc]
    · simp [e, e2]
theorem z_set2 {ls : Array Slot} {L L' : List (Option Value)} {i : Nat} {v : Value} (hL : L' = (L.set i (some v)).set (i + 1) none) (hi : i + 1 < L.length) (hp : ∀ j, j + 1 = i → ∀ u, L[j]? = some u → z_ok1 u = true) (h : lv_has ls L.length ((i, v) :: (z_asc 0 L).filter (fun q => !(q.1 == i) && (!(q.1 == i + 1) && !(q.1 + 1 == i && q.2.category == 2))))) : lv_has ls L'.length (z_asc 0 L') := by
  subst hL
  refine z_sub h (by simp) fun j u hj => ?_
  by_cases e1 : j = i + 1
  · subst e1
    rw [List.getElem?_set_self (by simpa using hi)] at hj
    cases hj
  rw [List.getElem?_set_ne (Ne.symm e1)] at hj
  by_cases e : j = i
  · subst e
    rw [List.getElem?_set_self (by omega)] at hj
    cases hj
    exact List.mem_cons_self
  · rw [List.getElem?_set_ne (Ne.symm e)] at hj
    refine List.mem_cons_of_mem _ (List.mem_filter.mpr ⟨(z_asc_mem L 0 j u).mpr ⟨Nat.zero_le _, hj⟩, ?_⟩)
    by_cases e2 : j + 1 = i
    · have hc := z_ok1_c (hp j e2 _ hj)
      simp [e, e1, e2, hc]
    · simp [e, e1, e2]
theorem z_istore_n0 (C : Fc K cc own nL) {a0 : Option Value} {r : List (Option Value)} {x : Int32} (d : decode cc pc = .ok (.istore_n 0, 1)) (k : Gd K cells slots (pc + 1) (some (.int x) :: r) rest ws) : Gd K cells slots pc (a0 :: r) (.int x :: rest) ws := by
  obtain ⟨p, l, e, R, s, m, args, below, meth, c, A, H0, Q, D, t⟩ := K
  obtain ⟨hx, hb, hml, ho, hts, hK, hA⟩ := C
  intro H locs ls hP hD hS hl
  refine lv_istore_n hx hb d rfl hl (by simp only [List.length_cons]; omega) rfl fun ls' hl' => ?_
  exact k H locs ls' hP hD hS (z_set1 (i := 0) rfl (by simp only [List.length_cons]; omega) (fun j hj => by omega) hl')
theorem z_istore0 (C : Fc K cc own nL) {a0 : Option Value} {r : List (Option Value)} {x : Int32} (d : decode cc pc = .ok (.istore 0, 2)) (k : Gd K cells slots (pc + 2) (some (.int x) :: r) rest ws) : Gd K cells slots pc (a0 :: r) (.int x :: rest) ws := by
  obtain ⟨p, l, e, R, s, m, args, below, meth, c, A, H0, Q, D, t⟩ := K
  obtain ⟨hx, hb, hml, ho, hts, hK, hA⟩ := C
  intro H locs ls hP hD hS hl
  refine lv_istore hx hb d hl (by simp only [List.length_cons]; omega) rfl fun ls' hl' => ?_
  exact k H locs ls' hP hD hS (z_set1 (i := 0) rfl (by simp only [List.length_cons]; omega) (fun j hj => by omega) hl')
theorem z_istore_n1 (C : Fc K cc own nL) {a0 a1 : Option Value} {r : List (Option Value)} {x : Int32} (d : decode cc pc = .ok (.istore_n 1, 1)) (hp : z_ok1 a0 = true) (k : Gd K cells slots (pc + 1) (a0 :: some (.int x) :: r) rest ws) : Gd K cells slots pc (a0 :: a1 :: r) (.int x :: rest) ws := by
  obtain ⟨p, l, e, R, s, m, args, below, meth, c, A, H0, Q, D, t⟩ := K
  obtain ⟨hx, hb, hml, ho, hts, hK, hA⟩ := C
  intro H locs ls hP hD hS hl
  refine lv_istore_n hx hb d rfl hl (by simp only [List.length_cons]; omega) rfl fun ls' hl' => ?_
  exact k H locs ls' hP hD hS (z_set1 (i := 1) rfl (by simp only [List.length_cons]; omega) (fun j hj u hu => by
    obtain rfl : j = 0 := by omega
    cases hu; exact hp) hl')
theorem z_istore1 (C : Fc K cc own nL) {a0 a1 : Option Value} {r : List (Option Value)} {x : Int32} (d : decode cc pc = .ok (.istore 1, 2)) (hp : z_ok1 a0 = true) (k : Gd K cells slots (pc + 2) (a0 :: some (.int x) :: r) rest ws) : Gd K cells slots pc (a0 :: a1 :: r) (.int x :: rest) ws := by
  obtain ⟨p, l, e, R, s, m, args, below, meth, c, A, H0, Q, D, t⟩ := K
  obtain ⟨hx, hb, hml, ho, hts, hK, hA⟩ := C
  intro H locs ls hP hD hS hl
  refine lv_istore hx hb d hl (by simp only [List.length_cons]; omega) rfl fun ls' hl' => ?_
  exact k H locs ls' hP hD hS (z_set1 (i := 1) rfl (by simp only [List.length_cons]; omega) (fun j hj u hu => by
    obtain rfl : j = 0 := by omega
    cases hu; exact hp) hl')
theorem z_istore_n2 (C : Fc K cc own nL) {a0 a1 a2 : Option Value} {r : List (Option Value)} {x : Int32} (d : decode cc pc = .ok (.istore_n 2, 1)) (hp : z_ok1 a1 = true) (k : Gd K cells slots (pc + 1) (a0 :: a1 :: some (.int x) :: r) rest ws) : Gd K cells slots pc (a0 :: a1 :: a2 :: r) (.int x :: rest) ws := by
  obtain ⟨p, l, e, R, s, m, args, below, meth, c, A, H0, Q, D, t⟩ := K
  obtain ⟨hx, hb, hml, ho, hts, hK, hA⟩ := C
  intro H locs ls hP hD hS hl
  refine lv_istore_n hx hb d rfl hl (by simp only [List.length_cons]; omega) rfl fun ls' hl' => ?_
  exact k H locs ls' hP hD hS (z_set1 (i := 2) rfl (by simp only [List.length_cons]; omega) (fun j hj u hu => by
    obtain rfl : j = 1 := by omega
    cases hu; exact hp) hl')
theorem z_istore2 (C : Fc K cc own nL) {a0 a1 a2 : Option Value} {r : List (Option Value)} {x : Int32} (d : decode cc pc = .ok (.istore 2, 2)) (hp : z_ok1 a1 = true) (k : Gd K cells slots (pc + 2) (a0 :: a1 :: some (.int x) :: r) rest ws) : Gd K cells slots pc (a0 :: a1 :: a2 :: r) (.int x :: rest) ws := by
  obtain ⟨p, l, e, R, s, m, args, below, meth, c, A, H0, Q, D, t⟩ := K
  obtain ⟨hx, hb, hml, ho, hts, hK, hA⟩ := C
  intro H locs ls hP hD hS hl
  refine lv_istore hx hb d hl (by simp only [List.length_cons]; omega) rfl fun ls' hl' => ?_
  exact k H locs ls' hP hD hS (z_set1 (i := 2) rfl (by simp only [List.length_cons]; omega) (fun j hj u hu => by
    obtain rfl : j = 1 := by omega
    cases hu; exact hp) hl')
theorem z_istore_n3 (C : Fc K cc own nL) {a0 a1 a2 a3 : Option Value} {r : List (Option Value)} {x : Int32} (d : decode cc pc = .ok (.istore_n 3, 1)) (hp : z_ok1 a2 = true) (k : Gd K cells slots (pc + 1) (a0 :: a1 :: a2 :: some (.int x) :: r) rest ws) : Gd K cells slots pc (a0 :: a1 :: a2 :: a3 :: r) (.int x :: rest) ws := by
  obtain ⟨p, l, e, R, s, m, args, below, meth, c, A, H0, Q, D, t⟩ := K
  obtain ⟨hx, hb, hml, ho, hts, hK, hA⟩ := C
  intro H locs ls hP hD hS hl
  refine lv_istore_n hx hb d rfl hl (by simp only [List.length_cons]; omega) rfl fun ls' hl' => ?_
  exact k H locs ls' hP hD hS (z_set1 (i := 3) rfl (by simp only [List.length_cons]; omega) (fun j hj u hu => by
    obtain rfl : j = 2 := by omega
    cases hu; exact hp) hl')
theorem z_istore3 (C : Fc K cc own nL) {a0 a1 a2 a3 : Option Value} {r : List (Option Value)} {x : Int32} (d : decode cc pc = .ok (.istore 3, 2)) (hp : z_ok1 a2 = true) (k : Gd K cells slots (pc + 2) (a0 :: a1 :: a2 :: some (.int x) :: r) rest ws) : Gd K cells slots pc (a0 :: a1 :: a2 :: a3 :: r) (.int x :: rest) ws := by
  obtain ⟨p, l, e, R, s, m, args, below, meth, c, A, H0, Q, D, t⟩ := K
  obtain ⟨hx, hb, hml, ho, hts, hK, hA⟩ := C
  intro H locs ls hP hD hS hl
  refine lv_istore hx hb d hl (by simp only [List.length_cons]; omega) rfl fun ls' hl' => ?_
  exact k H locs ls' hP hD hS (z_set1 (i := 3) rfl (by simp only [List.length_cons]; omega) (fun j hj u hu => by
    obtain rfl : j = 2 := by omega
    cases hu; exact hp) hl')
theorem z_istore4 (C : Fc K cc own nL) {a0 a1 a2 a3 a4 : Option Value} {r : List (Option Value)} {x : Int32} (d : decode cc pc = .ok (.istore 4, 2)) (hp : z_ok1 a3 = true) (k : Gd K cells slots (pc + 2) (a0 :: a1 :: a2 :: a3 :: some (.int x) :: r) rest ws) : Gd K cells slots pc (a0 :: a1 :: a2 :: a3 :: a4 :: r) (.int x :: rest) ws := by
  obtain ⟨p, l, e, R, s, m, args, below, meth, c, A, H0, Q, D, t⟩ := K
  obtain ⟨hx, hb, hml, ho, hts, hK, hA⟩ := C
  intro H locs ls hP hD hS hl
  refine lv_istore hx hb d hl (by simp only [List.length_cons]; omega) rfl fun ls' hl' => ?_
  exact k H locs ls' hP hD hS (z_set1 (i := 4) rfl (by simp only [List.length_cons]; omega) (fun j hj u hu => by
    obtain rfl : j = 3 := by omega
    cases hu; exact hp) hl')
theorem z_istore5 (C : Fc K cc own nL) {a0 a1 a2 a3 a4 a5 : Option Value} {r : List (Option Value)} {x : Int32} (d : decode cc pc = .ok (.istore 5, 2)) (hp : z_ok1 a4 = true) (k : Gd K cells slots (pc + 2) (a0 :: a1 :: a2 :: a3 :: a4 :: some (.int x) :: r) rest ws) : Gd K cells slots pc (a0 :: a1 :: a2 :: a3 :: a4 :: a5 :: r) (.int x :: rest) ws := by
  obtain ⟨p, l, e, R, s, m, args, below, meth, c, A, H0, Q, D, t⟩ := K
  obtain ⟨hx, hb, hml, ho, hts, hK, hA⟩ := C
  intro H locs ls hP hD hS hl
  refine lv_istore hx hb d hl (by simp only [List.length_cons]; omega) rfl fun ls' hl' => ?_
  exact k H locs ls' hP hD hS (z_set1 (i := 5) rfl (by simp only [List.length_cons]; omega) (fun j hj u hu => by
    obtain rfl : j = 4 := by omega
    cases hu; exact hp) hl')
theorem z_istore6 (C : Fc K cc own nL) {a0 a1 a2 a3 a4 a5 a6 : Option Value} {r : List (Option Value)} {x : Int32} (d : decode cc pc = .ok (.istore 6, 2)) (hp : z_ok1 a5 = true) (k : Gd K cells slots (pc + 2) (a0 :: a1 :: a2 :: a3 :: a4 :: a5 :: some (.int x) :: r) rest ws) : Gd K cells slots pc (a0 :: a1 :: a2 :: a3 :: a4 :: a5 :: a6 :: r) (.int x :: rest) ws := by
  obtain ⟨p, l, e, R, s, m, args, below, meth, c, A, H0, Q, D, t⟩ := K
  obtain ⟨hx, hb, hml, ho, hts, hK, hA⟩ := C
  intro H locs ls hP hD hS hl
  refine lv_istore hx hb d hl (by simp only [List.length_cons]; omega) rfl fun ls' hl' => ?_
  exact k H locs ls' hP hD hS (z_set1 (i := 6) rfl (by simp only [List.length_cons]; omega) (fun j hj u hu => by
    obtain rfl : j = 5 := by omega
    cases hu; exact hp) hl')
theorem z_istore7 (C : Fc K cc own nL) {a0 a1 a2 a3 a4 a5 a6 a7 : Option Value} {r : List (Option Value)} {x : Int32} (d : decode cc pc = .ok (.istore 7, 2)) (hp : z_ok1 a6 = true) (k : Gd K cells slots (pc + 2) (a0 :: a1 :: a2 :: a3 :: a4 :: a5 :: a6 :: some (.int x) :: r) rest ws) : Gd K cells slots pc (a0 :: a1 :: a2 :: a3 :: a4 :: a5 :: a6 :: a7 :: r) (.int x :: rest) ws := by
  obtain ⟨p, l, e, R, s, m, args, below, meth, c, A, H0, Q, D, t⟩ := K
  obtain ⟨hx, hb, hml, ho, hts, hK, hA⟩ := C
  intro H locs ls hP hD hS hl
  refine lv_istore hx hb d hl (by simp only [List.length_cons]; omega) rfl fun ls' hl' => ?_
  exact k H locs ls' hP hD hS (z_set1 (i := 7) rfl (by simp only [List.length_cons]; omega) (fun j hj u hu => by
    obtain rfl : j = 6 := by omega
    cases hu; exact hp) hl')
theorem z_istore8 (C : Fc K cc own nL) {a0 a1 a2 a3 a4 a5 a6 a7 a8 : Option Value} {r : List (Option Value)} {x : Int32} (d : decode cc pc = .ok (.istore 8, 2)) (hp : z_ok1 a7 = true) (k : Gd K cells slots (pc + 2) (a0 :: a1 :: a2 :: a3 :: a4 :: a5 :: a6 :: a7 :: some (.int x) :: r) rest ws) : Gd K cells slots pc (a0 :: a1 :: a2 :: a3 :: a4 :: a5 :: a6 :: a7 :: a8 :: r) (.int x :: rest) ws := by
  obtain ⟨p, l, e, R, s, m, args, below, meth, c, A, H0, Q, D, t⟩ := K
  obtain ⟨hx, hb, hml, ho, hts, hK, hA⟩ := C
  intro H locs ls hP hD hS hl
  refine lv_istore hx hb d hl (by simp only [List.length_cons]; omega) rfl fun ls' hl' => ?_
  exact k H locs ls' hP hD hS (z_set1 (i := 8) rfl (by simp only [List.length_cons]; omega) (fun j hj u hu => by
    obtain rfl : j = 7 := by omega
    cases hu; exact hp) hl')
theorem z_istore9 (C : Fc K cc own nL) {a0 a1 a2 a3 a4 a5 a6 a7 a8 a9 : Option Value} {r : List (Option Value)} {x : Int32} (d : decode cc pc = .ok (.istore 9, 2)) (hp : z_ok1 a8 = true) (k : Gd K cells slots (pc + 2) (a0 :: a1 :: a2 :: a3 :: a4 :: a5 :: a6 :: a7 :: a8 :: some (.int x) :: r) rest ws) : Gd K cells slots pc (a0 :: a1 :: a2 :: a3 :: a4 :: a5 :: a6 :: a7 :: a8 :: a9 :: r) (.int x :: rest) ws := by
  obtain ⟨p, l, e, R, s, m, args, below, meth, c, A, H0, Q, D, t⟩ := K
  obtain ⟨hx, hb, hml, ho, hts, hK, hA⟩ := C
  intro H locs ls hP hD hS hl
  refine lv_istore hx hb d hl (by simp only [List.length_cons]; omega) rfl fun ls' hl' => ?_
  exact k H locs ls' hP hD hS (z_set1 (i := 9) rfl (by simp only [List.length_cons]; omega) (fun j hj u hu => by
    obtain rfl : j = 8 := by omega
    cases hu; exact hp) hl')
theorem z_istore10 (C : Fc K cc own nL) {a0 a1 a2 a3 a4 a5 a6 a7 a8 a9 a10 : Option Value} {r : List (Option Value)} {x : Int32} (d : decode cc pc = .ok (.istore 10, 2)) (hp : z_ok1 a9 = true) (k : Gd K cells slots (pc + 2) (a0 :: a1 :: a2 :: a3 :: a4 :: a5 :: a6 :: a7 :: a8 :: a9 :: some (.int x) :: r) rest ws) : Gd K cells slots pc (a0 :: a1 :: a2 :: a3 :: a4 :: a5 :: a6 :: a7 :: a8 :: a9 :: a10 :: r) (.int x :: rest) ws := by
  obtain ⟨p, l, e, R, s, m, args, below, meth, c, A, H0, Q, D, t⟩ := K
  obtain ⟨hx, hb, hml, ho, hts, hK, hA⟩ := C
  intro H locs ls hP hD hS hl
  refine lv_istore hx hb d hl (by simp only [List.length_cons]; omega) rfl fun ls' hl' => ?_
  exact k H locs ls' hP hD hS (z_set1 (i := 10) rfl (by simp only [List.length_cons]; omega) (fun j hj u hu => by
    obtain rfl : j = 9 := by omega
    cases hu; exact hp) hl')
theorem z_istore11 (C : Fc K cc own nL) {a0 a1 a2 a3 a4 a5 a6 a7 a8 a9 a10 a11 : Option Value} {r : List (Option Value)} {x : Int32} (d : decode cc pc = .ok (.istore 11, 2)) (hp : z_ok1 a10 = true) (k : Gd K cells slots (pc + 2) (a0 :: a1 :: a2 :: a3 :: a4 :: a5 :: a6 :: a7 :: a8 :: a9 :: a10 :: some (.int x) :: r) rest ws) : Gd K cells slots pc (a0 :: a1 :: a2 :: a3 :: a4 :: a5 :: a6 :: a7 :: a8 :: a9 :: a10 :: a11 :: r) (.int x :: rest) ws := by
  obtain ⟨p, l, e, R, s, m, args, below, meth, c, A, H0, Q, D, t⟩ := K
  obtain ⟨hx, hb, hml, ho, hts, hK, hA⟩ := C
  intro H locs ls hP hD hS hl
  refine lv_istore hx hb d hl (by simp only [List.length_cons]; omega) rfl fun ls' hl' => ?_
  exact k H locs ls' hP hD hS (z_set1 (i := 11) rfl (by simp only [List.length_cons]; omega) (fun j hj u hu => by
    obtain rfl : j = 10 := by omega
    cases hu; exact hp) hl')
theorem z_istore12 (C : Fc K cc own nL) {a0 a1 a2 a3 a4 a5 a6 a7 a8 a9 a10 a11 a12 : Option Value} {r : List (Option Value)} {x : Int32} (d : decode cc pc = .ok (.istore 12, 2)) (hp : z_ok1 a11 = true) (k : Gd K cells slots (pc + 2) (a0 :: a1 :: a2 :: a3 :: a4 :: a5 :: a6 :: a7 :: a8 :: a9 :: a10 :: a11 :: some (.int x) :: r) rest ws) : Gd K cells slots pc (a0 :: a1 :: a2 :: a3 :: a4 :: a5 :: a6 :: a7 :: a8 :: a9 :: a10 :: a11 :: a12 :: r) (.int x :: rest) ws := by
  obtain ⟨p, l, e, R, s, m, args, below, meth, c, A, H0, Q, D, t⟩ := K
  obtain ⟨hx, hb, hml, ho, hts, hK, hA⟩ := C
  intro H locs ls hP hD hS hl
  refine lv_istore hx hb d hl (by simp only [List.length_cons]; omega) rfl fun ls' hl' => ?_
  exact k H locs ls' hP hD hS (z_set1 (i := 12) rfl (by simp only [List.length_cons]; omega) (fun j hj u hu => by
    obtain rfl : j = 11 := by omega
    cases hu; exact hp) hl')
theorem z_istore13 (C : Fc K cc own nL) {a0 a1 a2 a3 a4 a5 a6 a7 a8 a9 a10 a11 a12 a13 : Option Value} {r : List (Option Value)} {x : Int32} (d : decode cc pc = .ok (.istore 13, 2)) (hp : z_ok1 a12 = true) (k : Gd K cells slots (pc + 2) (a0 :: a1 :: a2 :: a3 :: a4 :: a5 :: a6 :: a7 :: a8 :: a9 :: a10 :: a11 :: a12 :: some (.int x) :: r) rest ws) : Gd K cells slots pc (a0 :: a1 :: a2 :: a3 :: a4 :: a5 :: a6 :: a7 :: a8 :: a9 :: a10 :: a11 :: a12 :: a13 :: r) (.int x :: rest) ws := by
  obtain ⟨p, l, e, R, s, m, args, below, meth, c, A, H0, Q, D, t⟩ := K
  obtain ⟨hx, hb, hml, ho, hts, hK, hA⟩ := C
  intro H locs ls hP hD hS hl
  refine lv_istore hx hb d hl (by simp only [List.length_cons]; omega) rfl fun ls' hl' => ?_
  exact k H locs ls' hP hD hS (z_set1 (i := 13) rfl (by simp only [List.length_cons]; omega) (fun j hj u hu => by
    obtain rfl : j = 12 := by omega
    cases hu; exact hp) hl')
theorem z_istore14 (C : Fc K cc own nL) {a0 a1 a2 a3 a4 a5 a6 a7 a8 a9 a10 a11 a12 a13 a14 : Option Value} {r : List (Option Value)} {x : Int32} (d : decode cc pc = .ok (.istore 14, 2)) (hp : z_ok1 a13 = true) (k : Gd K cells slots (pc + 2) (a0 :: a1 :: a2 :: a3 :: a4 :: a5 :: a6 :: a7 :: a8 :: a9 :: a10 :: a11 :: a12 :: a13 :: some (.int x) :: r) rest ws) : Gd K cells slots pc (a0 :: a1 :: a2 :: a3 :: a4 :: a5 :: a6 :: a7 :: a8 :: a9 :: a10 :: a11 :: a12 :: a13 :: a14 :: r) (.int x :: rest) ws := by
  obtain ⟨p, l, e, R, s, m, args, below, meth, c, A, H0, Q, D, t⟩ := K
  obtain ⟨hx, hb, hml, ho, hts, hK, hA⟩ := C
  intro H locs ls hP hD hS hl
  refine lv_istore hx hb d hl (by simp only [List.length_cons]; omega) rfl fun ls' hl' => ?_
  exact k H locs ls' hP hD hS (z_set1 (i := 14) rfl (by simp only [List.length_cons]; omega) (fun j hj u hu => by
    obtain rfl : j = 13 := by omega
    cases hu; exact hp) hl')
theorem z_istore15 (C : Fc K cc own nL) {a0 a1 a2 a3 a4 a5 a6 a7 a8 a9 a10 a11 a12 a13 a14 a15 : Option Value} {r : List (Option Value)} {x : Int32} (d : decode cc pc = .ok (.istore 15, 2)) (hp : z_ok1 a14 = true) (k : Gd K cells slots (pc + 2) (a0 :: a1 :: a2 :: a3 :: a4 :: a5 :: a6 :: a7 :: a8 :: a9 :: a10 :: a11 :: a12 :: a13 :: a14 :: some (.int x) :: r) rest ws) : Gd K cells slots pc (a0 :: a1 :: a2 :: a3 :: a4 :: a5 :: a6 :: a7 :: a8 :: a9 :: a10 :: a11 :: a12 :: a13 :: a14 :: a15 :: r) (.int x :: rest) ws := by
  obtain ⟨p, l, e, R, s, m, args, below, meth, c, A, H0, Q, D, t⟩ := K
  obtain ⟨hx, hb, hml, ho, hts, hK, hA⟩ := C
  intro H locs ls hP hD hS hl
  refine lv_istore hx hb d hl (by simp only [List.length_cons]; omega) rfl fun ls' hl' => ?_
  exact k H locs ls' hP hD hS (z_set1 (i := 15) rfl (by simp only [List.length_cons]; omega) (fun j hj u hu => by
    obtain rfl : j = 14 := by omega
    cases hu; exact hp) hl')
theorem z_astore_n0 (C : Fc K cc own nL) {a0 : Option Value} {r : List (Option Value)} {x : Nat} (d : decode cc pc = .ok (.astore_n 0, 1)) (k : Gd K cells slots (pc + 1) (some (.ref x) :: r) rest ws) : Gd K cells slots pc (a0 :: r) (.ref x :: rest) ws := by
  obtain ⟨p, l, e, R, s, m, args, below, meth, c, A, H0, Q, D, t⟩ := K
  obtain ⟨hx, hb, hml, ho, hts, hK, hA⟩ := C
  intro H locs ls hP hD hS hl
  refine lv_astore_n hx hb d rfl hl (by simp only [List.length_cons]; omega) rfl fun ls' hl' => ?_
  exact k H locs ls' hP hD hS (z_set1 (i := 0) rfl (by simp only [List.length_cons]; omega) (fun j hj => by omega) hl')
theorem z_astore0 (C : Fc K cc own nL) {a0 : Option Value} {r : List (Option Value)} {x : Nat} (d : decode cc pc = .ok (.astore 0, 2)) (k : Gd K cells slots (pc + 2) (some (.ref x) :: r) rest ws) : Gd K cells slots pc (a0 :: r) (.ref x :: rest) ws := by
  obtain ⟨p, l, e, R, s, m, args, below, meth, c, A, H0, Q, D, t⟩ := K
  obtain ⟨hx, hb, hml, ho, hts, hK, hA⟩ := C
  intro H locs ls hP hD hS hl
  refine lv_astore hx hb d hl (by simp only [List.length_cons]; omega) rfl fun ls' hl' => ?_
  exact k H locs ls' hP hD hS (z_set1 (i := 0) rfl (by simp only [List.length_cons]; omega) (fun j hj => by omega) hl')
theorem z_astore_n1 (C : Fc K cc own nL) {a0 a1 : Option Value} {r : List (Option Value)} {x : Nat} (d : decode cc pc = .ok (.astore_n 1, 1)) (hp : z_ok1 a0 = true) (k : Gd K cells slots (pc + 1) (a0 :: some (.ref x) :: r) rest ws) : Gd K cells slots pc (a0 :: a1 :: r) (.ref x :: rest) ws := by
  obtain ⟨p, l, e, R, s, m, args, below, meth, c, A, H0, Q, D, t⟩ := K
  obtain ⟨hx, hb, hml, ho, hts, hK, hA⟩ := C
  intro H locs ls hP hD hS hl
  refine lv_astore_n hx hb d rfl hl (by simp only [List.length_cons]; omega) rfl fun ls' hl' => ?_
  exact k H locs ls' hP hD hS (z_set1 (i := 1) rfl (by simp only [List.length_cons]; omega) (fun j hj u hu => by
    obtain rfl : j = 0 := by omega
    cases hu; exact hp) hl')
theorem z_astore1 (C : Fc K cc own nL) {a0 a1 : Option Value} {r : List (Option Value)} {x : Nat} (d : decode cc pc = .ok (.astore 1, 2)) (hp : z_ok1 a0 = true) (k : Gd K cells slots (pc + 2) (a0 :: some (.ref x) :: r) rest ws) : Gd K cells slots pc (a0 :: a1 :: r) (.ref x :: rest) ws := by
  obtain ⟨p, l, e, R, s, m, args, below, meth, c, A, H0, Q, D, t⟩ := K
  obtain ⟨hx, hb, hml, ho, hts, hK, hA⟩ := C
  intro H locs ls hP hD hS hl
  refine lv_astore hx hb d hl (by simp only [List.length_cons]; omega) rfl fun ls' hl' => ?_
  exact k H locs ls' hP hD hS (z_set1 (i := 1) rfl (by simp only [List.length_cons]; omega) (fun j hj u hu => by
    obtain rfl : j = 0 := by omega
    cases hu; exact hp) hl')
theorem z_astore_n2 (C : Fc K cc own nL) {a0 a1 a2 : Option Value} {r : List (Option Value)} {x : Nat} (d : decode cc pc = .ok (.astore_n 2, 1)) (hp : z_ok1 a1 = true) (k : Gd K cells slots (pc + 1) (a0 :: a1 :: some (.ref x) :: r) rest ws) : Gd K cells slots pc (a0 :: a1 :: a2 :: r) (.ref x :: rest) ws := by
  obtain ⟨p, l, e, R, s, m, args, below, meth, c, A, H0, Q, D, t⟩ := K
  obtain ⟨hx, hb, hml, ho, hts, hK, hA⟩ := C
  intro H locs ls hP hD hS hl
  refine lv_astore_n hx hb d rfl hl (by simp only [List.length_cons]; omega) rfl fun ls' hl' => ?_
  exact k H locs ls' hP hD hS (z_set1 (i := 2) rfl (by simp only [List.length_cons]; omega) (fun j hj u hu => by
    obtain rfl : j = 1 := by omega
    cases hu; exact hp) hl')
theorem z_astore2 (C : Fc K cc own nL) {a0 a1 a2 : Option Value} {r : List (Option Value)} {x : Nat} (d : decode cc pc = .ok (.astore 2, 2)) (hp : z_ok1 a1 = true) (k : Gd K cells slots (pc + 2) (a0 :: a1 :: some (.ref x) :: r) rest ws) : Gd K cells slots pc (a0 :: a1 :: a2 :: r) (.ref x :: rest) ws := by
  obtain ⟨p, l, e, R, s, m, args, below, meth, c, A, H0, Q, D, t⟩ := K
  obtain ⟨hx, hb, hml, ho, hts, hK, hA⟩ := C
  intro H locs ls hP hD hS hl
  refine lv_astore hx hb d hl (by simp only [List.length_cons]; omega) rfl fun ls' hl' => ?_
  exact k H locs ls' hP hD hS (z_set1 (i := 2) rfl (by simp only [List.length_cons]; omega) (fun j hj u hu => by
    obtain rfl : j = 1 := by omega
    cases hu; exact hp) hl')
theorem z_astore_n3 (C : Fc K cc own nL) {a0 a1 a2 a3 : Option Value} {r : List (Option Value)} {x : Nat} (d : decode cc pc = .ok (.astore_n 3, 1)) (hp : z_ok1 a2 = true) (k : Gd K cells slots (pc + 1) (a0 :: a1 :: a2 :: some (.ref x) :: r) rest ws) : Gd K cells slots pc (a0 :: a1 :: a2 :: a3 :: r) (.ref x :: rest) ws := by
  obtain ⟨p, l, e, R, s, m, args, below, meth, c, A, H0, Q, D, t⟩ := K
  obtain ⟨hx, hb, hml, ho, hts, hK, hA⟩ := C
  intro H locs ls hP hD hS hl
  refine lv_astore_n hx hb d rfl hl (by simp only [List.length_cons]; omega) rfl fun ls' hl' => ?_
  exact k H locs ls' hP hD hS (z_set1 (i := 3) rfl (by simp only [List.length_cons]; omega) (fun j hj u hu => by
    obtain rfl : j = 2 := by omega
    cases hu; exact hp) hl')
theorem z_astore3 (C : Fc K cc own nL) {a0 a1 a2 a3 : Option Value} {r : List (Option Value)} {x : Nat} (d : decode cc pc = .ok (.astore 3, 2)) (hp : z_ok1 a2 = true) (k : Gd K cells slots (pc + 2) (a0 :: a1 :: a2 :: some (.ref x) :: r) rest ws) : Gd K cells slots pc (a0 :: a1 :: a2 :: a3 :: r) (.ref x :: rest) ws := by
  obtain ⟨p, l, e, R, s, m, args, below, meth, c, A, H0, Q, D, t⟩ := K
  obtain ⟨hx, hb, hml, ho, hts, hK, hA⟩ := C
  intro H locs ls hP hD hS hl
  refine lv_astore hx hb d hl (by simp only [List.length_cons]; omega) rfl fun ls' hl' => ?_
  exact k H locs ls' hP hD hS (z_set1 (i := 3) rfl (by simp only [List.length_cons]; omega) (fun j hj u hu => by
    obtain rfl : j = 2 := by omega
    cases hu; exact hp) hl')
theorem z_astore4 (C : Fc K cc own nL) {a0 a1 a2 a3 a4 : Option Value} {r : List (Option Value)} {x : Nat} (d : decode cc pc = .ok (.astore 4, 2)) (hp : z_ok1 a3 = true) (k : Gd K cells slots (pc + 2) (a0 :: a1 :: a2 :: a3 :: some (.ref x) :: r) rest ws) : Gd K cells slots pc (a0 :: a1 :: a2 :: a3 :: a4 :: r) (.ref x :: rest) ws := by
  obtain ⟨p, l, e, R, s, m, args, below, meth, c, A, H0, Q, D, t⟩ := K
  obtain ⟨hx, hb, hml, ho, hts, hK, hA⟩ := C
  intro H locs ls hP hD hS hl
  refine lv_astore hx hb d hl (by simp only [List.length_cons]; omega) rfl fun ls' hl' => ?_
  exact k H locs ls' hP hD hS (z_set1 (i := 4) rfl (by simp only [List.length_cons]; omega) (fun j hj u hu => by
    obtain rfl : j = 3 := by omega
    cases hu; exact hp) hl')
theorem z_astore5 (C : Fc K cc own nL) {a0 a1 a2 a3 a4 a5 : Option Value} {r : List (Option Value)} {x : Nat} (d : decode cc pc = .ok (.astore 5, 2)) (hp : z_ok1 a4 = true) (k : Gd K cells slots (pc + 2) (a0 :: a1 :: a2 :: a3 :: a4 :: some (.ref x) :: r) rest ws) : Gd K cells slots pc (a0 :: a1 :: a2 :: a3 :: a4 :: a5 :: r) (.ref x :: rest) ws := by
  obtain ⟨p, l, e, R, s, m, args, below, meth, c, A, H0, Q, D, t⟩ := K
  obtain ⟨hx, hb, hml, ho, hts, hK, hA⟩ := C
  intro H locs ls hP hD hS hl
  refine lv_astore hx hb d hl (by simp only [List.length_cons]; omega) rfl fun ls' hl' => ?_
  exact k H locs ls' hP hD hS (z_set1 (i := 5) rfl (by simp only [List.length_cons]; omega) (fun j hj u hu => by
    obtain rfl : j = 4 := by omega
    cases hu; exact hp) hl')
theorem z_astore6 (C : Fc K cc own nL) {a0 a1 a2 a3 a4 a5 a6 : Option Value} {r : List (Option Value)} {x : Nat} (d : decode cc pc = .ok (.astore 6, 2)) (hp : z_ok1 a5 = true) (k : Gd K cells slots (pc + 2) (a0 :: a1 :: a2 :: a3 :: a4 :: a5 :: some (.ref x) :: r) rest ws) : Gd K cells slots pc (a0 :: a1 :: a2 :: a3 :: a4 :: a5 :: a6 :: r) (.ref x :: rest) ws := by
  obtain ⟨p, l, e, R, s, m, args, below, meth, c, A, H0, Q, D, t⟩ := K
  obtain ⟨hx, hb, hml, ho, hts, hK, hA⟩ := C
  intro H locs ls hP hD hS hl
  refine lv_astore hx hb d hl (by simp only [List.length_cons]; omega) rfl fun ls' hl' => ?_
  exact k H locs ls' hP hD hS (z_set1 (i := 6) rfl (by simp only [List.length_cons]; omega) (fun j hj u hu => by
    obtain rfl : j = 5 := by omega
    cases hu; exact hp) hl')
theorem z_astore7 (C : Fc K cc own nL) {a0 a1 a2 a3 a4 a5 a6 a7 : Option Value} {r : List (Option Value)} {x : Nat} (d : decode cc pc = .ok (.astore 7, 2)) (hp : z_ok1 a6 = true) (k : Gd K cells slots (pc + 2) (a0 :: a1 :: a2 :: a3 :: a4 :: a5 :: a6 :: some (.ref x) :: r) rest ws) : Gd K cells slots pc (a0 :: a1 :: a2 :: a3 :: a4 :: a5 :: a6 :: a7 :: r) (.ref x :: rest) ws := by
  obtain ⟨p, l, e, R, s, m, args, below, meth, c, A, H0, Q, D, t⟩ := K
  obtain ⟨hx, hb, hml, ho, hts, hK, hA⟩ := C
  intro H locs ls hP hD hS hl
  refine lv_astore hx hb d hl (by simp only [List.length_cons]; omega) rfl fun ls' hl' => ?_
  exact k H locs ls' hP hD hS (z_set1 (i := 7) rfl (by simp only [List.length_cons]; omega) (fun j hj u hu => by
    obtain rfl : j = 6 := by omega
    cases hu; exact hp) hl')
theorem z_astore8 (C : Fc K cc own nL) {a0 a1 a2 a3 a4 a5 a6 a7 a8 : Option Value} {r : List (Option Value)} {x : Nat} (d : decode cc pc = .ok (.astore 8, 2)) (hp : z_ok1 a7 = true) (k : Gd K cells slots (pc + 2) (a0 :: a1 :: a2 :: a3 :: a4 :: a5 :: a6 :: a7 :: some (.ref x) :: r) rest ws) : Gd K cells slots pc (a0 :: a1 :: a2 :: a3 :: a4 :: a5 :: a6 :: a7 :: a8 :: r) (.ref x :: rest) ws := by
  obtain ⟨p, l, e, R, s, m, args, below, meth, c, A, H0, Q, D, t⟩ := K
  obtain ⟨hx, hb, hml, ho, hts, hK, hA⟩ := C
  intro H locs ls hP hD hS hl
  refine lv_astore hx hb d hl (by simp only [List.length_cons]; omega) rfl fun ls' hl' => ?_
  exact k H locs ls' hP hD hS (z_set1 (i := 8) rfl (by simp only [List.length_cons]; omega) (fun j hj u hu => by
    obtain rfl : j = 7 := by omega
    cases hu; exact hp) hl')
theorem z_astore9 (C : Fc K cc own nL) {a0 a1 a2 a3 a4 a5 a6 a7 a8 a9 : Option Value} {r : List (Option Value)} {x : Nat} (d : decode cc pc = .ok (.astore 9, 2)) (hp : z_ok1 a8 = true) (k : Gd K cells slots (pc + 2) (a0 :: a1 :: a2 :: a3 :: a4 :: a5 :: a6 :: a7 :: a8 :: some (.ref x) :: r) rest ws) : Gd K cells slots pc (a0 :: a1 :: a2 :: a3 :: a4 :: a5 :: a6 :: a7 :: a8 :: a9 :: r) (.ref x :: rest) ws := by
  obtain ⟨p, l, e, R, s, m, args, below, meth, c, A, H0, Q, D, t⟩ := K
  obtain ⟨hx, hb, hml, ho, hts, hK, hA⟩ := C
  intro H locs ls hP hD hS hl
  refine lv_astore hx hb d hl (by simp only [List.length_cons]; omega) rfl fun ls' hl' => ?_
  exact k H locs ls' hP hD hS (z_set1 (i := 9) rfl (by simp only [List.length_cons]; omega) (fun j hj u hu => by
    obtain rfl : j = 8 := by omega
    cases hu; exact hp) hl')
theorem z_astore10 (C : Fc K cc own nL) {a0 a1 a2 a3 a4 a5 a6 a7 a8 a9 a10 : Option Value} {r : List (Option Value)} {x : Nat} (d : decode cc pc = .ok (.astore 10, 2)) (hp : z_ok1 a9 = true) (k : Gd K cells slots (pc + 2) (a0 :: a1 :: a2 :: a3 :: a4 :: a5 :: a6 :: a7 :: a8 :: a9 :: some (.ref x) :: r) rest ws) : Gd K cells slots pc (a0 :: a1 :: a2 :: a3 :: a4 :: a5 :: a6 :: a7 :: a8 :: a9 :: a10 :: r) (.ref x :: rest) ws := by
  obtain ⟨p, l, e, R, s, m, args, below, meth, c, A, H0, Q, D, t⟩ := K
  obtain ⟨hx, hb, hml, ho, hts, hK, hA⟩ := C
  intro H locs ls hP hD hS hl
  refine lv_astore hx hb d hl (by simp only [List.length_cons]; omega) rfl fun ls' hl' => ?_
  exact k H locs ls' hP hD hS (z_set1 (i := 10) rfl (by simp only [List.length_cons]; omega) (fun j hj u hu => by
    obtain rfl : j = 9 := by omega
    cases hu; exact hp) hl')
theorem z_astore11 (C : Fc K cc own nL) {a0 a1 a2 a3 a4 a5 a6 a7 a8 a9 a10 a11 : Option Value} {r : List (Option Value)} {x : Nat} (d : decode cc pc = .ok (.astore 11, 2)) (hp : z_ok1 a10 = true) (k : Gd K cells slots (pc + 2) (a0 :: a1 :: a2 :: a3 :: a4 :: a5 :: a6 :: a7 :: a8 :: a9 :: a10 :: some (.ref x) :: r) rest ws) : Gd K cells slots pc (a0 :: a1 :: a2 :: a3 :: a4 :: a5 :: a6 :: a7 :: a8 :: a9 :: a10 :: a11 :: r) (.ref x :: rest) ws := by
  obtain ⟨p, l, e, R, s, m, args, below, meth, c, A, H0, Q, D, t⟩ := K
  obtain ⟨hx, hb, hml, ho, hts, hK, hA⟩ := C
  intro H locs ls hP hD hS hl
  refine lv_astore hx hb d hl (by simp only [List.length_cons]; omega) rfl fun ls' hl' => ?_
  exact k H locs ls' hP hD hS (z_set1 (i := 11) rfl (by simp only [List.length_cons]; omega) (fun j hj u hu => by
    obtain rfl : j = 10 := by omega
    cases hu; exact hp) hl')
theorem z_astore12 (C : Fc K cc own nL) {a0 a1 a2 a3 a4 a5 a6 a7 a8 a9 a10 a11 a12 : Option Value} {r : List (Option Value)} {x : Nat} (d : decode cc pc = .ok (.astore 12, 2)) (hp : z_ok1 a11 = true) (k : Gd K cells slots (pc + 2) (a0 :: a1 :: a2 :: a3 :: a4 :: a5 :: a6 :: a7 :: a8 :: a9 :: a10 :: a11 :: some (.ref x) :: r) rest ws) : Gd K cells slots pc (a0 :: a1 :: a2 :: a3 :: a4 :: a5 :: a6 :: a7 :: a8 :: a9 :: a10 :: a11 :: a12 :: r) (.ref x :: rest) ws := by
  obtain ⟨p, l, e, R, s, m, args, below, meth, c, A, H0, Q, D, t⟩ := K
  obtain ⟨hx, hb, hml, ho, hts, hK, hA⟩ := C
  intro H locs ls hP hD hS hl
  refine lv_astore hx hb d hl (by simp only [List.length_cons]; omega) rfl fun ls' hl' => ?_
  exact k H locs ls' hP hD hS (z_set1 (i := 12) rfl (by simp only [List.length_cons]; omega) (fun j hj u hu => by
    obtain rfl : j = 11 := by omega
    cases hu; exact hp) hl')
theorem z_astore13 (C : Fc K cc own nL) {a0 a1 a2 a3 a4 a5 a6 a7 a8 a9 a10 a11 a12 a13 : Option Value} {r : List (Option Value)} {x : Nat} (d : decode cc pc = .ok (.astore 13, 2)) (hp : z_ok1 a12 = true) (k : Gd K cells slots (pc + 2) (a0 :: a1 :: a2 :: a3 :: a4 :: a5 :: a6 :: a7 :: a8 :: a9 :: a10 :: a11 :: a12 :: some (.ref x) :: r) rest ws) : Gd K cells slots pc (a0 :: a1 :: a2 :: a3 :: a4 :: a5 :: a6 :: a7 :: a8 :: a9 :: a10 :: a11 :: a12 :: a13 :: r) (.ref x :: rest) ws := by
  obtain ⟨p, l, e, R, s, m, args, below, meth, c, A, H0, Q, D, t⟩ := K
  obtain ⟨hx, hb, hml, ho, hts, hK, hA⟩ := C
  intro H locs ls hP hD hS hl
  refine lv_astore hx hb d hl (by simp only [List.length_cons]; omega) rfl fun ls' hl' => ?_
  exact k H locs ls' hP hD hS (z_set1 (i := 13) rfl (by simp only [List.length_cons]; omega) (fun j hj u hu => by
    obtain rfl : j = 12 := by omega
    cases hu; exact hp) hl')
theorem z_astore14 (C : Fc K cc own nL) {a0 a1 a2 a3 a4 a5 a6 a7 a8 a9 a10 a11 a12 a13 a14 : Option Value} {r : List (Option Value)} {x : Nat} (d : decode cc pc = .ok (.astore 14, 2)) (hp : z_ok1 a13 = true) (k : Gd K cells slots (pc + 2) (a0 :: a1 :: a2 :: a3 :: a4 :: a5 :: a6 :: a7 :: a8 :: a9 :: a10 :: a11 :: a12 :: a13 :: some (.ref x) :: r) rest ws) : Gd K cells slots pc (a0 :: a1 :: a2 :: a3 :: a4 :: a5 :: a6 :: a7 :: a8 :: a9 :: a10 :: a11 :: a12 :: a13 :: a14 :: r) (.ref x :: rest) ws := by
  obtain ⟨p, l, e, R, s, m, args, below, meth, c, A, H0, Q, D, t⟩ := K
  obtain ⟨hx, hb, hml, ho, hts, hK, hA⟩ := C
  intro H locs ls hP hD hS hl
  refine lv_astore hx hb d hl (by simp only [List.length_cons]; omega) rfl fun ls' hl' => ?_
  exact k H locs ls' hP hD hS (z_set1 (i := 14) rfl (by simp only [List.length_cons]; omega) (fun j hj u hu => by
    obtain rfl : j = 13 := by omega
    cases hu; exact hp) hl')
theorem z_astore15 (C : Fc K cc own nL) {a0 a1 a2 a3 a4 a5 a6 a7 a8 a9 a10 a11 a12 a13 a14 a15 : Option Value} {r : List (Option Value)} {x : Nat} (d : decode cc pc = .ok (.astore 15, 2)) (hp : z_ok1 a14 = true) (k : Gd K cells slots (pc + 2) (a0 :: a1 :: a2 :: a3 :: a4 :: a5 :: a6 :: a7 :: a8 :: a9 :: a10 :: a11 :: a12 :: a13 :: a14 :: some (.ref x) :: r) rest ws) : Gd K cells slots pc (a0 :: a1 :: a2 :: a3 :: a4 :: a5 :: a6 :: a7 :: a8 :: a9 :: a10 :: a11 :: a12 :: a13 :: a14 :: a15 :: r) (.ref x :: rest) ws := by
  obtain ⟨p, l, e, R, s, m, args, below, meth, c, A, H0, Q, D, t⟩ := K
  obtain ⟨hx, hb, hml, ho, hts, hK, hA⟩ := C
  intro H locs ls hP hD hS hl
  refine lv_astore hx hb d hl (by simp only [List.length_cons]; omega) rfl fun ls' hl' => ?_
  exact k H locs ls' hP hD hS (z_set1 (i := 15) rfl (by simp only [List.length_cons]; omega) (fun j hj u hu => by
    obtain rfl : j = 14 := by omega
    cases hu; exact hp) hl')
theorem z_lstore_n0 (C : Fc K cc own nL) {a0 a1 : Option Value} {r : List (Option Value)} {x : Int64} (d : decode cc pc = .ok (.lstore_n 0, 1)) (k : Gd K cells slots (pc + 1) (some (.long x) :: none :: r) rest ws) : Gd K cells slots pc (a0 :: a1 :: r) (.long x :: rest) ws := by
  obtain ⟨p, l, e, R, s, m, args, below, meth, c, A, H0, Q, D, t⟩ := K
  obtain ⟨hx, hb, hml, ho, hts, hK, hA⟩ := C
  intro H locs ls hP hD hS hl
  refine lv_lstore_n hx hb d rfl hl (by simp only [List.length_cons]; omega) rfl fun ls' hl' => ?_
  exact k H locs ls' hP hD hS (z_set2 (i := 0) rfl (by simp only [List.length_cons]; omega) (fun j hj => by omega) hl')
theorem z_lstore0 (C : Fc K cc own nL) {a0 a1 : Option Value} {r : List (Option Value)} {x : Int64} (d : decode cc pc = .ok (.lstore 0, 2)) (k : Gd K cells slots (pc + 2) (some (.long x) :: none :: r) rest ws) : Gd K cells slots pc (a0 :: a1 :: r) (.long x :: rest) ws := by
  obtain ⟨p, l, e, R, s, m, args, below, meth, c, A, H0, Q, D, t⟩ := K
  obtain ⟨hx, hb, hml, ho, hts, hK, hA⟩ := C
  intro H locs ls hP hD hS hl
  refine lv_lstore hx hb d hl (by simp only [List.length_cons]; omega) rfl fun ls' hl' => ?_
  exact k H locs ls' hP hD hS (z_set2 (i := 0) rfl (by simp only [List.length_cons]; omega) (fun j hj => by omega) hl')
theorem z_lstore_n1 (C : Fc K cc own nL) {a0 a1 a2 : Option Value} {r : List (Option Value)} {x : Int64} (d : decode cc pc = .ok (.lstore_n 1, 1)) (hp : z_ok1 a0 = true) (k : Gd K cells slots (pc + 1) (a0 :: some (.long x) :: none :: r) rest ws) : Gd K cells slots pc (a0 :: a1 :: a2 :: r) (.long x :: rest) ws := by
  obtain ⟨p, l, e, R, s, m, args, below, meth, c, A, H0, Q, D, t⟩ := K
  obtain ⟨hx, hb, hml, ho, hts, hK, hA⟩ := C
  intro H locs ls hP hD hS hl
  refine lv_lstore_n hx hb d rfl hl (by simp only [List.length_cons]; omega) rfl fun ls' hl' => ?_
  exact k H locs ls' hP hD hS (z_set2 (i := 1) rfl (by simp only [List.length_cons]; omega) (fun j hj u hu => by
    obtain rfl : j = 0 := by omega
    cases hu; exact hp) hl')
theorem z_lstore1 (C : Fc K cc own nL) {a0 a1 a2 : Option Value} {r : List (Option Value)} {x : Int64} (d : decode cc pc = .ok (.lstore 1, 2)) (hp : z_ok1 a0 = true) (k : Gd K cells slots (pc + 2) (a0 :: some (.long x) :: none :: r) rest ws) : Gd K cells slots pc (a0 :: a1 :: a2 :: r) (.long x :: rest) ws := by
  obtain ⟨p, l, e, R, s, m, args, below, meth, c, A, H0, Q, D, t⟩ := K
  obtain ⟨hx, hb, hml, ho, hts, hK, hA⟩ := C
  intro H locs ls hP hD hS hl
  refine lv_lstore hx hb d hl (by simp only [List.length_cons]; omega) rfl fun ls' hl' => ?_
  exact k H locs ls' hP hD hS (z_set2 (i := 1) rfl (by simp only [List.length_cons]; omega) (fun j hj u hu => by
    obtain rfl : j = 0 := by omega
    cases hu; exact hp) hl')
theorem z_lstore_n2 (C : Fc K cc own nL) {a0 a1 a2 a3 : Option Value} {r : List (Option Value)} {x : Int64} (d : decode cc pc = .ok (.lstore_n 2, 1)) (hp : z_ok1 a1 = true) (k : Gd K cells slots (pc + 1) (a0 :: a1 :: some (.long x) :: none :: r) rest ws) : Gd K cells slots pc (a0 :: a1 :: a2 :: a3 :: r) (.long x :: rest) ws := by
  obtain ⟨p, l, e, R, s, m, args, below, meth, c, A, H0, Q, D, t⟩ := K
  obtain ⟨hx, hb, hml, ho, hts, hK, hA⟩ := C
  intro H locs ls hP hD hS hl
  refine lv_lstore_n hx hb d rfl hl (by simp only [List.length_cons]; omega) rfl fun ls' hl' => ?_
  exact k H locs ls' hP hD hS (z_set2 (i := 2) rfl (by simp only [List.length_cons]; omega) (fun j hj u hu => by
    obtain rfl : j = 1 := by omega
    cases hu; exact hp) hl')
theorem z_lstore2 (C : Fc K cc own nL) {a0 a1 a2 a3 : Option Value} {r : List (Option Value)} {x : Int64} (d : decode cc pc = .ok (.lstore 2, 2)) (hp : z_ok1 a1 = true) (k : Gd K cells slots (pc + 2) (a0 :: a1 :: some (.long x) :: none :: r) rest ws) : Gd K cells slots pc (a0 :: a1 :: a2 :: a3 :: r) (.long x :: rest) ws := by
  obtain ⟨p, l, e, R, s, m, args, below, meth, c, A, H0, Q, D, t⟩ := K
  obtain ⟨hx, hb, hml, ho, hts, hK, hA⟩ := C
  intro H locs ls hP hD hS hl
  refine lv_lstore hx hb d hl (by simp only [List.length_cons]; omega) rfl fun ls' hl' => ?_
  exact k H locs ls' hP hD hS (z_set2 (i := 2) rfl (by simp only [List.length_cons]; omega) (fun j hj u hu => by
    obtain rfl : j = 1 := by omega
    cases hu; exact hp) hl')
theorem z_lstore_n3 (C : Fc K cc own nL) {a0 a1 a2 a3 a4 : Option Value} {r : List (Option Value)} {x : Int64} (d : decode cc pc = .ok (.lstore_n 3, 1)) (hp : z_ok1 a2 = true) (k : Gd K cells slots (pc + 1) (a0 :: a1 :: a2 :: some (.long x) :: none :: r) rest ws) : Gd K cells slots pc (a0 :: a1 :: a2 :: a3 :: a4 :: r) (.long x :: rest) ws := by
  obtain ⟨p, l, e, R, s, m, args, below, meth, c, A, H0, Q, D, t⟩ := K
  obtain ⟨hx, hb, hml, ho, hts, hK, hA⟩ := C
  intro H locs ls hP hD hS hl
  refine lv_lstore_n hx hb d rfl hl (by simp only [List.length_cons]; omega) rfl fun ls' hl' => ?_
  exact k H locs ls' hP hD hS (z_set2 (i := 3) rfl (by simp only [List.length_cons]; omega) (fun j hj u hu => by
    obtain rfl : j = 2 := by omega
    cases hu; exact hp) hl')
theorem z_lstore3 (C : Fc K cc own nL) {a0 a1 a2 a3 a4 : Option Value} {r : List (Option Value)} {x : Int64} (d : decode cc pc = .ok (.lstore 3, 2)) (hp : z_ok1 a2 = true) (k : Gd K cells slots (pc + 2) (a0 :: a1 :: a2 :: some (.long x) :: none :: r) rest ws) : Gd K cells slots pc (a0 :: a1 :: a2 :: a3 :: a4 :: r) (.long x :: rest) ws := by
  obtain ⟨p, l, e, R, s, m, args, below, meth, c, A, H0, Q, D, t⟩ := K
  obtain ⟨hx, hb, hml, ho, hts, hK, hA⟩ := C
  intro H locs ls hP hD hS hl
  refine lv_lstore hx hb d hl (by simp only [List.length_cons]; omega) rfl fun ls' hl' => ?_
  exact k H locs ls' hP hD hS (z_set2 (i := 3) rfl (by simp only [List.length_cons]; omega) (fun j hj u hu => by
    obtain rfl : j = 2 := by omega
    cases hu; exact hp) hl')
theorem z_lstore4 (C : Fc K cc own nL) {a0 a1 a2 a3 a4 a5 : Option Value} {r : List (Option Value)} {x : Int64} (d : decode cc pc = .ok (.lstore 4, 2)) (hp : z_ok1 a3 = true) (k : Gd K cells slots (pc + 2) (a0 :: a1 :: a2 :: a3 :: some (.long x) :: none :: r) rest ws) : Gd K cells slots pc (a0 :: a1 :: a2 :: a3 :: a4 :: a5 :: r) (.long x :: rest) ws := by
  obtain ⟨p, l, e, R, s, m, args, below, meth, c, A, H0, Q, D, t⟩ := K
  obtain ⟨hx, hb, hml, ho, hts, hK, hA⟩ := C
  intro H locs ls hP hD hS hl
  refine lv_lstore hx hb d hl (by simp only [List.length_cons]; omega) rfl fun ls' hl' => ?_
  exact k H locs ls' hP hD hS (z_set2 (i := 4) rfl (by simp only [List.length_cons]; omega) (fun j hj u hu => by
    obtain rfl : j = 3 := by omega
    cases hu; exact hp) hl')
theorem z_lstore5 (C : Fc K cc own nL) {a0 a1 a2 a3 a4 a5 a6 : Option Value} {r : List (Option Value)} {x : Int64} (d : decode cc pc = .ok (.lstore 5, 2)) (hp : z_ok1 a4 = true) (k : Gd K cells slots (pc + 2) (a0 :: a1 :: a2 :: a3 :: a4 :: some (.long x) :: none :: r) rest ws) : Gd K cells slots pc (a0 :: a1 :: a2 :: a3 :: a4 :: a5 :: a6 :: r) (.long x :: rest) ws := by
  obtain ⟨p, l, e, R, s, m, args, below, meth, c, A, H0, Q, D, t⟩ := K
  obtain ⟨hx, hb, hml, ho, hts, hK, hA⟩ := C
  intro H locs ls hP hD hS hl
  refine lv_lstore hx hb d hl (by simp only [List.length_cons]; omega) rfl fun ls' hl' => ?_
  exact k H locs ls' hP hD hS (z_set2 (i := 5) rfl (by simp only [List.length_cons]; omega) (fun j hj u hu => by
    obtain rfl : j = 4 := by omega
    cases hu; exact hp) hl')
theorem z_lstore6 (C : Fc K cc own nL) {a0 a1 a2 a3 a4 a5 a6 a7 : Option Value} {r : List (Option Value)} {x : Int64} (d : decode cc pc = .ok (.lstore 6, 2)) (hp : z_ok1 a5 = true) (k : Gd K cells slots (pc + 2) (a0 :: a1 :: a2 :: a3 :: a4 :: a5 :: some (.long x) :: none :: r) rest ws) : Gd K cells slots pc (a0 :: a1 :: a2 :: a3 :: a4 :: a5 :: a6 :: a7 :: r) (.long x :: rest) ws := by
  obtain ⟨p, l, e, R, s, m, args, below, meth, c, A, H0, Q, D, t⟩ := K
  obtain ⟨hx, hb, hml, ho, hts, hK, hA⟩ := C
  intro H locs ls hP hD hS hl
  refine lv_lstore hx hb d hl (by simp only [List.length_cons]; omega) rfl fun ls' hl' => ?_
  exact k H locs ls' hP hD hS (z_set2 (i := 6) rfl (by simp only [List.length_cons]; omega) (fun j hj u hu => by
    obtain rfl : j = 5 := by omega
    cases hu; exact hp) hl')
theorem z_lstore7 (C : Fc K cc own nL) {a0 a1 a2 a3 a4 a5 a6 a7 a8 : Option Value} {r : List (Option Value)} {x : Int64} (d : decode cc pc = .ok (.lstore 7, 2)) (hp : z_ok1 a6 = true) (k : Gd K cells slots (pc + 2) (a0 :: a1 :: a2 :: a3 :: a4 :: a5 :: a6 :: some (.long x) :: none :: r) rest ws) : Gd K cells slots pc (a0 :: a1 :: a2 :: a3 :: a4 :: a5 :: a6 :: a7 :: a8 :: r) (.long x :: rest) ws := by
  obtain ⟨p, l, e, R, s, m, args, below, meth, c, A, H0, Q, D, t⟩ := K
  obtain ⟨hx, hb, hml, ho, hts, hK, hA⟩ := C
  intro H locs ls hP hD hS hl
  refine lv_lstore hx hb d hl (by simp only [List.length_cons]; omega) rfl fun ls' hl' => ?_
  exact k H locs ls' hP hD hS (z_set2 (i := 7) rfl (by simp only [List.length_cons]; omega) (fun j hj u hu => by
    obtain rfl : j = 6 := by omega
    cases hu; exact hp) hl')
theorem z_lstore8 (C : Fc K cc own nL) {a0 a1 a2 a3 a4 a5 a6 a7 a8 a9 : Option Value} {r : List (Option Value)} {x : Int64} (d : decode cc pc = .ok (.lstore 8, 2)) (hp : z_ok1 a7 = true) (k : Gd K cells slots (pc + 2) (a0 :: a1 :: a2 :: a3 :: a4 :: a5 :: a6 :: a7 :: some (.long x) :: none :: r) rest ws) : Gd K cells slots pc (a0 :: a1 :: a2 :: a3 :: a4 :: a5 :: a6 :: a7 :: a8 :: a9 :: r) (.long x :: rest) ws := by
  obtain ⟨p, l, e, R, s, m, args, below, meth, c, A, H0, Q, D, t⟩ := K
  obtain ⟨hx, hb, hml, ho, hts, hK, hA⟩ := C
  intro H locs ls hP hD hS hl
  refine lv_lstore hx hb d hl (by simp only [List.length_cons]; omega) rfl fun ls' hl' => ?_
  exact k H locs ls' hP hD hS (z_set2 (i := 8) rfl (by simp only [List.length_cons]; omega) (fun j hj u hu => by
    obtain rfl : j = 7 := by omega
    cases hu; exact hp) hl')
theorem z_lstore9 (C : Fc K cc own nL) {a0 a1 a2 a3 a4 a5 a6 a7 a8 a9 a10 : Option Value} {r : List (Option Value)} {x : Int64} (d : decode cc pc = .ok (.lstore 9, 2)) (hp : z_ok1 a8 = true) (k : Gd K cells slots (pc + 2) (a0 :: a1 :: a2 :: a3 :: a4 :: a5 :: a6 :: a7 :: a8 :: some (.long x) :: none :: r) rest ws) : Gd K cells slots pc (a0 :: a1 :: a2 :: a3 :: a4 :: a5 :: a6 :: a7 :: a8 :: a9 :: a10 :: r) (.long x :: rest) ws := by
  obtain ⟨p, l, e, R, s, m, args, below, meth, c, A, H0, Q, D, t⟩ := K
  obtain ⟨hx, hb, hml, ho, hts, hK, hA⟩ := C
  intro H locs ls hP hD hS hl
  refine lv_lstore hx hb d hl (by simp only [List.length_cons]; omega) rfl fun ls' hl' => ?_
  exact k H locs ls' hP hD hS (z_set2 (i := 9) rfl (by simp only [List.length_cons]; omega) (fun j hj u hu => by
    obtain rfl : j = 8 := by omega
    cases hu; exact hp) hl')
theorem z_lstore10 (C : Fc K cc own nL) {a0 a1 a2 a3 a4 a5 a6 a7 a8 a9 a10 a11 : Option Value} {r : List (Option Value)} {x : Int64} (d : decode cc pc = .ok (.lstore 10, 2)) (hp : z_ok1 a9 = true) (k : Gd K cells slots (pc + 2) (a0 :: a1 :: a2 :: a3 :: a4 :: a5 :: a6 :: a7 :: a8 :: a9 :: some (.long x) :: none :: r) rest ws) : Gd K cells slots pc (a0 :: a1 :: a2 :: a3 :: a4 :: a5 :: a6 :: a7 :: a8 :: a9 :: a10 :: a11 :: r) (.long x :: rest) ws := by
  obtain ⟨p, l, e, R, s, m, args, below, meth, c, A, H0, Q, D, t⟩ := K
  obtain ⟨hx, hb, hml, ho, hts, hK, hA⟩ := C
  intro H locs ls hP hD hS hl
  refine lv_lstore hx hb d hl (by simp only [List.length_cons]; omega) rfl fun ls' hl' => ?_
  exact k H locs ls' hP hD hS (z_set2 (i := 10) rfl (by simp only [List.length_cons]; omega) (fun j hj u hu => by
    obtain rfl : j = 9 := by omega
    cases hu; exact hp) hl')
theorem z_lstore11 (C : Fc K cc own nL) {a0 a1 a2 a3 a4 a5 a6 a7 a8 a9 a10 a11 a12 : Option Value} {r : List (Option Value)} {x : Int64} (d : decode cc pc = .ok (.lstore 11, 2)) (hp : z_ok1 a10 = true) (k : Gd K cells slots (pc + 2) (a0 :: a1 :: a2 :: a3 :: a4 :: a5 :: a6 :: a7 :: a8 :: a9 :: a10 :: some (.long x) :: none :: r) rest ws) : Gd K cells slots pc (a0 :: a1 :: a2 :: a3 :: a4 :: a5 :: a6 :: a7 :: a8 :: a9 :: a10 :: a11 :: a12 :: r) (.long x :: rest) ws := by
  obtain ⟨p, l, e, R, s, m, args, below, meth, c, A, H0, Q, D, t⟩ := K
  obtain ⟨hx, hb, hml, ho, hts, hK, hA⟩ := C
  intro H locs ls hP hD hS hl
  refine lv_lstore hx hb d hl (by simp only [List.length_cons]; omega) rfl fun ls' hl' => ?_
  exact k H locs ls' hP hD hS (z_set2 (i := 11) rfl (by simp only [List.length_cons]; omega) (fun j hj u hu => by
    obtain rfl : j = 10 := by omega
    cases hu; exact hp) hl')
theorem z_lstore12 (C : Fc K cc own nL) {a0 a1 a2 a3 a4 a5 a6 a7 a8 a9 a10 a11 a12 a13 : Option Value} {r : List (Option Value)} {x : Int64} (d : decode cc pc = .ok (.lstore 12, 2)) (hp : z_ok1 a11 = true) (k : Gd K cells slots (pc + 2) (a0 :: a1 :: a2 :: a3 :: a4 :: a5 :: a6 :: a7 :: a8 :: a9 :: a10 :: a11 :: some (.long x) :: none :: r) rest ws) : Gd K cells slots pc (a0 :: a1 :: a2 :: a3 :: a4 :: a5 :: a6 :: a7 :: a8 :: a9 :: a10 :: a11 :: a12 :: a13 :: r) (.long x :: rest) ws := by
  obtain ⟨p, l, e, R, s, m, args, below, meth, c, A, H0, Q, D, t⟩ := K
  obtain ⟨hx, hb, hml, ho, hts, hK, hA⟩ := C
  intro H locs ls hP hD hS hl
  refine lv_lstore hx hb d hl (by simp only [List.length_cons]; omega) rfl fun ls' hl' => ?_
  exact k H locs ls' hP hD hS (z_set2 (i := 12) rfl (by simp only [List.length_cons]; omega) (fun j hj u hu => by
    obtain rfl : j = 11 := by omega
    cases hu; exact hp) hl')
theorem z_lstore13 (C : Fc K cc own nL) {a0 a1 a2 a3 a4 a5 a6 a7 a8 a9 a10 a11 a12 a13 a14 : Option Value} {r : List (Option Value)} {x : Int64} (d : decode cc pc = .ok (.lstore 13, 2)) (hp : z_ok1 a12 = true) (k : Gd K cells slots (pc + 2) (a0 :: a1 :: a2 :: a3 :: a4 :: a5 :: a6 :: a7 :: a8 :: a9 :: a10 :: a11 :: a12 :: some (.long x) :: none :: r) rest ws) : Gd K cells slots pc (a0 :: a1 :: a2 :: a3 :: a4 :: a5 :: a6 :: a7 :: a8 :: a9 :: a10 :: a11 :: a12 :: a13 :: a14 :: r) (.long x :: rest) ws := by
  obtain ⟨p, l, e, R, s, m, args, below, meth, c, A, H0, Q, D, t⟩ := K
  obtain ⟨hx, hb, hml, ho, hts, hK, hA⟩ := C
  intro H locs ls hP hD hS hl
  refine lv_lstore hx hb d hl (by simp only [List.length_cons]; omega) rfl fun ls' hl' => ?_
  exact k H locs ls' hP hD hS (z_set2 (i := 13) rfl (by simp only [List.length_cons]; omega) (fun j hj u hu => by
    obtain rfl : j = 12 := by omega
    cases hu; exact hp) hl')
theorem z_lstore14 (C : Fc K cc own nL) {a0 a1 a2 a3 a4 a5 a6 a7 a8 a9 a10 a11 a12 a13 a14 a15 : Option Value} {r : List (Option Value)} {x : Int64} (d : decode cc pc = .ok (.lstore 14, 2)) (hp : z_ok1 a13 = true) (k : Gd K cells slots (pc + 2) (a0 :: a1 :: a2 :: a3 :: a4 :: a5 :: a6 :: a7 :: a8 :: a9 :: a10 :: a11 :: a12 :: a13 :: some (.long x) :: none :: r) rest ws) : Gd K cells slots pc (a0 :: a1 :: a2 :: a3 :: a4 :: a5 :: a6 :: a7 :: a8 :: a9 :: a10 :: a11 :: a12 :: a13 :: a14 :: a15 :: r) (.long x :: rest) ws := by
  obtain ⟨p, l, e, R, s, m, args, below, meth, c, A, H0, Q, D, t⟩ := K
  obtain ⟨hx, hb, hml, ho, hts, hK, hA⟩ := C
  intro H locs ls hP hD hS hl
  refine lv_lstore hx hb d hl (by simp only [List.length_cons]; omega) rfl fun ls' hl' => ?_
  exact k H locs ls' hP hD hS (z_set2 (i := 14) rfl (by simp only [List.length_cons]; omega) (fun j hj u hu => by
    obtain rfl : j = 13 := by omega
    cases hu; exact hp) hl')
theorem z_lstore15 (C : Fc K cc own nL) {a0 a1 a2 a3 a4 a5 a6 a7 a8 a9 a10 a11 a12 a13 a14 a15 a16 : Option Value} {r : List (Option Value)} {x : Int64} (d : decode cc pc = .ok (.lstore 15, 2)) (hp : z_ok1 a14 = true) (k : Gd K cells slots (pc + 2) (a0 :: a1 :: a2 :: a3 :: a4 :: a5 :: a6 :: a7 :: a8 :: a9 :: a10 :: a11 :: a12 :: a13 :: a14 :: some (.long x) :: none :: r) rest ws) : Gd K cells slots pc (a0 :: a1 :: a2 :: a3 :: a4 :: a5 :: a6 :: a7 :: a8 :: a9 :: a10 :: a11 :: a12 :: a13 :: a14 :: a15 :: a16 :: r) (.long x :: rest) ws := by
  obtain ⟨p, l, e, R, s, m, args, below, meth, c, A, H0, Q, D, t⟩ := K
  obtain ⟨hx, hb, hml, ho, hts, hK, hA⟩ := C
  intro H locs ls hP hD hS hl
  refine lv_lstore hx hb d hl (by simp only [List.length_cons]; omega) rfl fun ls' hl' => ?_
  exact k H locs ls' hP hD hS (z_set2 (i := 15) rfl (by simp only [List.length_cons]; omega) (fun j hj u hu => by
    obtain rfl : j = 14 := by omega
    cases hu; exact hp) hl')
theorem z_iinc0 (C : Fc K cc own nL) {r : List (Option Value)} {n x : Int} (d : decode cc pc = .ok (.iinc 0 n, 3)) (k : Gd K cells slots (pc + 3) (some (.int (zI (x + n))) :: r) rest ws) : Gd K cells slots pc (some (.int (zI x)) :: r) rest ws := by
  obtain ⟨p, l, e, R, s, m, args, below, meth, c, A, H0, Q, D, t⟩ := K
  obtain ⟨hx, hb, hml, ho, hts, hK, hA⟩ := C
  intro H locs ls hP hD hS hl
  obtain ⟨k0, hk0⟩ := List.getElem?_of_mem ((z_asc_mem (some (.int (zI x)) :: r) 0 0 (.int (zI x))).mpr ⟨Nat.zero_le _, rfl⟩)
  refine lv_iinc hx hb d hl hk0 (zI_add x n) (by simp only [List.length_cons]; omega) rfl fun ls' hl' => ?_
  exact k H locs ls' hP hD hS (z_set1 (i := 0) rfl (by simp only [List.length_cons]; omega) (fun j hj => by omega) hl')
theorem z_iinc1 (C : Fc K cc own nL) {a0 : Option Value} {r : List (Option Value)} {n x : Int} (d : decode cc pc = .ok (.iinc 1 n, 3)) (hp : z_ok1 a0 = true) (k : Gd K cells slots (pc + 3) (a0 :: some (.int (zI (x + n))) :: r) rest ws) : Gd K cells slots pc (a0 :: some (.int (zI x)) :: r) rest ws := by
  obtain ⟨p, l, e, R, s, m, args, below, meth, c, A, H0, Q, D, t⟩ := K
  obtain ⟨hx, hb, hml, ho, hts, hK, hA⟩ := C
  intro H locs ls hP hD hS hl
  obtain ⟨k0, hk0⟩ := List.getElem?_of_mem ((z_asc_mem (a0 :: some (.int (zI x)) :: r) 0 1 (.int (zI x))).mpr ⟨Nat.zero_le _, rfl⟩)
  refine lv_iinc hx hb d hl hk0 (zI_add x n) (by simp only [List.length_cons]; omega) rfl fun ls' hl' => ?_
  exact k H locs ls' hP hD hS (z_set1 (i := 1) rfl (by simp only [List.length_cons]; omega) (fun j hj u hu => by
    obtain rfl : j = 0 := by omega
    cases hu; exact hp) hl')
theorem z_iinc2 (C : Fc K cc own nL) {a0 a1 : Option Value} {r : List (Option Value)} {n x : Int} (d : decode cc pc = .ok (.iinc 2 n, 3)) (hp : z_ok1 a1 = true) (k : Gd K cells slots (pc + 3) (a0 :: a1 :: some (.int (zI (x + n))) :: r) rest ws) : Gd K cells slots pc (a0 :: a1 :: some (.int (zI x)) :: r) rest ws := by
  obtain ⟨p, l, e, R, s, m, args, below, meth, c, A, H0, Q, D, t⟩ := K
  obtain ⟨hx, hb, hml, ho, hts, hK, hA⟩ := C
  intro H locs ls hP hD hS hl
  obtain ⟨k0, hk0⟩ := List.getElem?_of_mem ((z_asc_mem (a0 :: a1 :: some (.int (zI x)) :: r) 0 2 (.int (zI x))).mpr ⟨Nat.zero_le _, rfl⟩)
  refine lv_iinc hx hb d hl hk0 (zI_add x n) (by simp only [List.length_cons]; omega) rfl fun ls' hl' => ?_
  exact k H locs ls' hP hD hS (z_set1 (i := 2) rfl (by simp only [List.length_cons]; omega) (fun j hj u hu => by
    obtain rfl : j = 1 := by omega
    cases hu; exact hp) hl')
theorem z_iinc3 (C : Fc K cc own nL) {a0 a1 a2 : Option Value} {r : List (Option Value)} {n x : Int} (d : decode cc pc = .ok (.iinc 3 n, 3)) (hp : z_ok1 a2 = true) (k : Gd K cells slots (pc + 3) (a0 :: a1 :: a2 :: some (.int (zI (x + n))) :: r) rest ws) : Gd K cells slots pc (a0 :: a1 :: a2 :: some (.int (zI x)) :: r) rest ws := by
  obtain ⟨p, l, e, R, s, m, args, below, meth, c, A, H0, Q, D, t⟩ := K
  obtain ⟨hx, hb, hml, ho, hts, hK, hA⟩ := C
  intro H locs ls hP hD hS hl
  obtain ⟨k0, hk0⟩ := List.getElem?_of_mem ((z_asc_mem (a0 :: a1 :: a2 :: some (.int (zI x)) :: r) 0 3 (.int (zI x))).mpr ⟨Nat.zero_le _, rfl⟩)
  refine lv_iinc hx hb d hl hk0 (zI_add x n) (by simp only [List.length_cons]; omega) rfl fun ls' hl' => ?_
  exact k H locs ls' hP hD hS (z_set1 (i := 3) rfl (by simp only [List.length_cons]; omega) (fun j hj u hu => by
    obtain rfl : j = 2 := by omega
    cases hu; exact hp) hl')
theorem z_iinc4 (C : Fc K cc own nL) {a0 a1 a2 a3 : Option Value} {r : List (Option Value)} {n x : Int} (d : decode cc pc = .ok (.iinc 4 n, 3)) (hp : z_ok1 a3 = true) (k : Gd K cells slots (pc + 3) (a0 :: a1 :: a2 :: a3 :: some (.int (zI (x + n))) :: r) rest ws) : Gd K cells slots pc (a0 :: a1 :: a2 :: a3 :: some (.int (zI x)) :: r) rest ws := by
  obtain ⟨p, l, e, R, s, m, args, below, meth, c, A, H0, Q, D, t⟩ := K
  obtain ⟨hx, hb, hml, ho, hts, hK, hA⟩ := C
  intro H locs ls hP hD hS hl
  obtain ⟨k0, hk0⟩ := List.getElem?_of_mem ((z_asc_mem (a0 :: a1 :: a2 :: a3 :: some (.int (zI x)) :: r) 0 4 (.int (zI x))).mpr ⟨Nat.zero_le _, rfl⟩)
  refine lv_iinc hx hb d hl hk0 (zI_add x n) (by simp only [List.length_cons]; omega) rfl fun ls' hl' => ?_
  exact k H locs ls' hP hD hS (z_set1 (i := 4) rfl (by simp only [List.length_cons]; omega) (fun j hj u hu => by
    obtain rfl : j = 3 := by omega
    cases hu; exact hp) hl')
theorem z_iinc5 (C : Fc K cc own nL) {a0 a1 a2 a3 a4 : Option Value} {r : List (Option Value)} {n x : Int} (d : decode cc pc = .ok (.iinc 5 n, 3)) (hp : z_ok1 a4 = true) (k : Gd K cells slots (pc + 3) (a0 :: a1 :: a2 :: a3 :: a4 :: some (.int (zI (x + n))) :: r) rest ws) : Gd K cells slots pc (a0 :: a1 :: a2 :: a3 :: a4 :: some (.int (zI x)) :: r) rest ws := by
  obtain ⟨p, l, e, R, s, m, args, below, meth, c, A, H0, Q, D, t⟩ := K
  obtain ⟨hx, hb, hml, ho, hts, hK, hA⟩ := C
  intro H locs ls hP hD hS hl
  obtain ⟨k0, hk0⟩ := List.getElem?_of_mem ((z_asc_mem (a0 :: a1 :: a2 :: a3 :: a4 :: some (.int (zI x)) :: r) 0 5 (.int (zI x))).mpr ⟨Nat.zero_le _, rfl⟩)
  refine lv_iinc hx hb d hl hk0 (zI_add x n) (by simp only [List.length_cons]; omega) rfl fun ls' hl' => ?_
  exact k H locs ls' hP hD hS (z_set1 (i := 5) rfl (by simp only [List.length_cons]; omega) (fun j hj u hu => by
    obtain rfl : j = 4 := by omega
    cases hu; exact hp) hl')
theorem z_iinc6 (C : Fc K cc own nL) {a0 a1 a2 a3 a4 a5 : Option Value} {r : List (Option Value)} {n x : Int} (d : decode cc pc = .ok (.iinc 6 n, 3)) (hp : z_ok1 a5 = true) (k : Gd K cells slots (pc + 3) (a0 :: a1 :: a2 :: a3 :: a4 :: a5 :: some (.int (zI (x + n))) :: r) rest ws) : Gd K cells slots pc (a0 :: a1 :: a2 :: a3 :: a4 :: a5 :: some (.int (zI x)) :: r) rest ws := by
  obtain ⟨p, l, e, R, s, m, args, below, meth, c, A, H0, Q, D, t⟩ := K
  obtain ⟨hx, hb, hml, ho, hts, hK, hA⟩ := C
  intro H locs ls hP hD hS hl
  obtain ⟨k0, hk0⟩ := List.getElem?_of_mem ((z_asc_mem (a0 :: a1 :: a2 :: a3 :: a4 :: a5 :: some (.int (zI x)) :: r) 0 6 (.int (zI x))).mpr ⟨Nat.zero_le _, rfl⟩)
  refine lv_iinc hx hb d hl hk0 (zI_add x n) (by simp only [List.length_cons]; omega) rfl fun ls' hl' => ?_
  exact k H locs ls' hP hD hS (z_set1 (i := 6) rfl (by simp only [List.length_cons]; omega) (fun j hj u hu => by
    obtain rfl : j = 5 := by omega
    cases hu; exact hp) hl')
theorem z_iinc7 (C : Fc K cc own nL) {a0 a1 a2 a3 a4 a5 a6 : Option Value} {r : List (Option Value)} {n x : Int} (d : decode cc pc = .ok (.iinc 7 n, 3)) (hp : z_ok1 a6 = true) (k : Gd K cells slots (pc + 3) (a0 :: a1 :: a2 :: a3 :: a4 :: a5 :: a6 :: some (.int (zI (x + n))) :: r) rest ws) : Gd K cells slots pc (a0 :: a1 :: a2 :: a3 :: a4 :: a5 :: a6 :: some (.int (zI x)) :: r) rest ws := by
  obtain ⟨p, l, e, R, s, m, args, below, meth, c, A, H0, Q, D, t⟩ := K
  obtain ⟨hx, hb, hml, ho, hts, hK, hA⟩ := C
  intro H locs ls hP hD hS hl
  obtain ⟨k0, hk0⟩ := List.getElem?_of_mem ((z_asc_mem (a0 :: a1 :: a2 :: a3 :: a4 :: a5 :: a6 :: some (.int (zI x)) :: r) 0 7 (.int (zI x))).mpr ⟨Nat.zero_le _, rfl⟩)
  refine lv_iinc hx hb d hl hk0 (zI_add x n) (by simp only [List.length_cons]; omega) rfl fun ls' hl' => ?_
  exact k H locs ls' hP hD hS (z_set1 (i := 7) rfl (by simp only [List.length_cons]; omega) (fun j hj u hu => by
    obtain rfl : j = 6 := by omega
    cases hu; exact hp) hl')
theorem z_iinc8 (C : Fc K cc own nL) {a0 a1 a2 a3 a4 a5 a6 a7 : Option Value} {r : List (Option Value)} {n x : Int} (d : decode cc pc = .ok (.iinc 8 n, 3)) (hp : z_ok1 a7 = true) (k : Gd K cells slots (pc + 3) (a0 :: a1 :: a2 :: a3 :: a4 :: a5 :: a6 :: a7 :: some (.int (zI (x + n))) :: r) rest ws) : Gd K cells slots pc (a0 :: a1 :: a2 :: a3 :: a4 :: a5 :: a6 :: a7 :: some (.int (zI x)) :: r) rest ws := by
  obtain ⟨p, l, e, R, s, m, args, below, meth, c, A, H0, Q, D, t⟩ := K
  obtain ⟨hx, hb, hml, ho, hts, hK, hA⟩ := C
  intro H locs ls hP hD hS hl
  obtain ⟨k0, hk0⟩ := List.getElem?_of_mem ((z_asc_mem (a0 :: a1 :: a2 :: a3 :: a4 :: a5 :: a6 :: a7 :: some (.int (zI x)) :: r) 0 8 (.int (zI x))).mpr ⟨Nat.zero_le _, rfl⟩)
  refine lv_iinc hx hb d hl hk0 (zI_add x n) (by simp only [List.length_cons]; omega) rfl fun ls' hl' => ?_
  exact k H locs ls' hP hD hS (z_set1 (i := 8) rfl (by simp only [List.length_cons]; omega) (fun j hj u hu => by
    obtain rfl : j = 7 := by omega
    cases hu; exact hp) hl')
theorem z_iinc9 (C : Fc K cc own nL) {a0 a1 a2 a3 a4 a5 a6 a7 a8 : Option Value} {r : List (Option Value)} {n x : Int} (d : decode cc pc = .ok (.iinc 9 n, 3)) (hp : z_ok1 a8 = true) (k : Gd K cells slots (pc + 3) (a0 :: a1 :: a2 :: a3 :: a4 :: a5 :: a6 :: a7 :: a8 :: some (.int (zI (x + n))) :: r) rest ws) : Gd K cells slots pc (a0 :: a1 :: a2 :: a3 :: a4 :: a5 :: a6 :: a7 :: a8 :: some (.int (zI x)) :: r) rest ws := by
  obtain ⟨p, l, e, R, s, m, args, below, meth, c, A, H0, Q, D, t⟩ := K
  obtain ⟨hx, hb, hml, ho, hts, hK, hA⟩ := C
  intro H locs ls hP hD hS hl
  obtain ⟨k0, hk0⟩ := List.getElem?_of_mem ((z_asc_mem (a0 :: a1 :: a2 :: a3 :: a4 :: a5 :: a6 :: a7 :: a8 :: some (.int (zI x)) :: r) 0 9 (.int (zI x))).mpr ⟨Nat.zero_le _, rfl⟩)
  refine lv_iinc hx hb d hl hk0 (zI_add x n) (by simp only [List.length_cons]; omega) rfl fun ls' hl' => ?_
  exact k H locs ls' hP hD hS (z_set1 (i := 9) rfl (by simp only [List.length_cons]; omega) (fun j hj u hu => by
    obtain rfl : j = 8 := by omega
    cases hu; exact hp) hl')
theorem z_iinc10 (C : Fc K cc own nL) {a0 a1 a2 a3 a4 a5 a6 a7 a8 a9 : Option Value} {r : List (Option Value)} {n x : Int} (d : decode cc pc = .ok (.iinc 10 n, 3)) (hp : z_ok1 a9 = true) (k : Gd K cells slots (pc + 3) (a0 :: a1 :: a2 :: a3 :: a4 :: a5 :: a6 :: a7 :: a8 :: a9 :: some (.int (zI (x + n))) :: r) rest ws) : Gd K cells slots pc (a0 :: a1 :: a2 :: a3 :: a4 :: a5 :: a6 :: a7 :: a8 :: a9 :: some (.int (zI x)) :: r) rest ws := by
  obtain ⟨p, l, e, R, s, m, args, below, meth, c, A, H0, Q, D, t⟩ := K
  obtain ⟨hx, hb, hml, ho, hts, hK, hA⟩ := C
  intro H locs ls hP hD hS hl
  obtain ⟨k0, hk0⟩ := List.getElem?_of_mem ((z_asc_mem (a0 :: a1 :: a2 :: a3 :: a4 :: a5 :: a6 :: a7 :: a8 :: a9 :: some (.int (zI x)) :: r) 0 10 (.int (zI x))).mpr ⟨Nat.zero_le _, rfl⟩)
  refine lv_iinc hx hb d hl hk0 (zI_add x n) (by simp only [List.length_cons]; omega) rfl fun ls' hl' => ?_
  exact k H locs ls' hP hD hS (z_set1 (i := 10) rfl (by simp only [List.length_cons]; omega) (fun j hj u hu => by
    obtain rfl : j = 9 := by omega
    cases hu; exact hp) hl')
theorem z_iinc11 (C : Fc K cc own nL) {a0 a1 a2 a3 a4 a5 a6 a7 a8 a9 a10 : Option Value} {r : List (Option Value)} {n x : Int} (d : decode cc pc = .ok (.iinc 11 n, 3)) (hp : z_ok1 a10 = true) (k : Gd K cells slots (pc + 3) (a0 :: a1 :: a2 :: a3 :: a4 :: a5 :: a6 :: a7 :: a8 :: a9 :: a10 :: some (.int (zI (x + n))) :: r) rest ws) : Gd K cells slots pc (a0 :: a1 :: a2 :: a3 :: a4 :: a5 :: a6 :: a7 :: a8 :: a9 :: a10 :: some (.int (zI x)) :: r) rest ws := by
  obtain ⟨p, l, e, R, s, m, args, below, meth, c, A, H0, Q, D, t⟩ := K
  obtain ⟨hx, hb, hml, ho, hts, hK, hA⟩ := C
  intro H locs ls hP hD hS hl
  obtain ⟨k0, hk0⟩ := List.getElem?_of_mem ((z_asc_mem (a0 :: a1 :: a2 :: a3 :: a4 :: a5 :: a6 :: a7 :: a8 :: a9 :: a10 :: some (.int (zI x)) :: r) 0 11 (.int (zI x))).mpr ⟨Nat.zero_le _, rfl⟩)
  refine lv_iinc hx hb d hl hk0 (zI_add x n) (by simp only [List.length_cons]; omega) rfl fun ls' hl' => ?_
  exact k H locs ls' hP hD hS (z_set1 (i := 11) rfl (by simp only [List.length_cons]; omega) (fun j hj u hu => by
    obtain rfl : j = 10 := by omega
    cases hu; exact hp) hl')
theorem z_iinc12 (C : Fc K cc own nL) {a0 a1 a2 a3 a4 a5 a6 a7 a8 a9 a10 a11 : Option Value} {r : List (Option Value)} {n x : Int} (d : decode cc pc = .ok (.iinc 12 n, 3)) (hp : z_ok1 a11 = true) (k : Gd K cells slots (pc + 3) (a0 :: a1 :: a2 :: a3 :: a4 :: a5 :: a6 :: a7 :: a8 :: a9 :: a10 :: a11 :: some (.int (zI (x + n))) :: r) rest ws) : Gd K cells slots pc (a0 :: a1 :: a2 :: a3 :: a4 :: a5 :: a6 :: a7 :: a8 :: a9 :: a10 :: a11 :: some (.int (zI x)) :: r) rest ws := by
  obtain ⟨p, l, e, R, s, m, args, below, meth, c, A, H0, Q, D, t⟩ := K
  obtain ⟨hx, hb, hml, ho, hts, hK, hA⟩ := C
  intro H locs ls hP hD hS hl
  obtain ⟨k0, hk0⟩ := List.getElem?_of_mem ((z_asc_mem (a0 :: a1 :: a2 :: a3 :: a4 :: a5 :: a6 :: a7 :: a8 :: a9 :: a10 :: a11 :: some (.int (zI x)) :: r) 0 12 (.int (zI x))).mpr ⟨Nat.zero_le _, rfl⟩)
  refine lv_iinc hx hb d hl hk0 (zI_add x n) (by simp only [List.length_cons]; omega) rfl fun ls' hl' => ?_
  exact k H locs ls' hP hD hS (z_set1 (i := 12) rfl (by simp only [List.length_cons]; omega) (fun j hj u hu => by
    obtain rfl : j = 11 := by omega
    cases hu; exact hp) hl')
theorem z_iinc13 (C : Fc K cc own nL) {a0 a1 a2 a3 a4 a5 a6 a7 a8 a9 a10 a11 a12 : Option Value} {r : List (Option Value)} {n x : Int} (d : decode cc pc = .ok (.iinc 13 n, 3)) (hp : z_ok1 a12 = true) (k : Gd K cells slots (pc + 3) (a0 :: a1 :: a2 :: a3 :: a4 :: a5 :: a6 :: a7 :: a8 :: a9 :: a10 :: a11 :: a12 :: some (.int (zI (x + n))) :: r) rest ws) : Gd K cells slots pc (a0 :: a1 :: a2 :: a3 :: a4 :: a5 :: a6 :: a7 :: a8 :: a9 :: a10 :: a11 :: a12 :: some (.int (zI x)) :: r) rest ws := by
  obtain ⟨p, l, e, R, s, m, args, below, meth, c, A, H0, Q, D, t⟩ := K
  obtain ⟨hx, hb, hml, ho, hts, hK, hA⟩ := C
  intro H locs ls hP hD hS hl
  obtain ⟨k0, hk0⟩ := List.getElem?_of_mem ((z_asc_mem (a0 :: a1 :: a2 :: a3 :: a4 :: a5 :: a6 :: a7 :: a8 :: a9 :: a10 :: a11 :: a12 :: some (.int (zI x)) :: r) 0 13 (.int (zI x))).mpr ⟨Nat.zero_le _, rfl⟩)
  refine lv_iinc hx hb d hl hk0 (zI_add x n) (by simp only [List.length_cons]; omega) rfl fun ls' hl' => ?_
  exact k H locs ls' hP hD hS (z_set1 (i := 13) rfl (by simp only [List.length_cons]; omega) (fun j hj u hu => by
    obtain rfl : j = 12 := by omega
    cases hu; exact hp) hl')
theorem z_iinc14 (C : Fc K cc own nL) {a0 a1 a2 a3 a4 a5 a6 a7 a8 a9 a10 a11 a12 a13 : Option Value} {r : List (Option Value)} {n x : Int} (d : decode cc pc = .ok (.iinc 14 n, 3)) (hp : z_ok1 a13 = true) (k : Gd K cells slots (pc + 3) (a0 :: a1 :: a2 :: a3 :: a4 :: a5 :: a6 :: a7 :: a8 :: a9 :: a10 :: a11 :: a12 :: a13 :: some (.int (zI (x + n))) :: r) rest ws) : Gd K cells slots pc (a0 :: a1 :: a2 :: a3 :: a4 :: a5 :: a6 :: a7 :: a8 :: a9 :: a10 :: a11 :: a12 :: a13 :: some (.int (zI x)) :: r) rest ws := by
  obtain ⟨p, l, e, R, s, m, args, below, meth, c, A, H0, Q, D, t⟩ := K
  obtain ⟨hx, hb, hml, ho, hts, hK, hA⟩ := C
  intro H locs ls hP hD hS hl
  obtain ⟨k0, hk0⟩ := List.getElem?_of_mem ((z_asc_mem (a0 :: a1 :: a2 :: a3 :: a4 :: a5 :: a6 :: a7 :: a8 :: a9 :: a10 :: a11 :: a12 :: a13 :: some (.int (zI x)) :: r) 0 14 (.int (zI x))).mpr ⟨Nat.zero_le _, rfl⟩)
  refine lv_iinc hx hb d hl hk0 (zI_add x n) (by simp only [List.length_cons]; omega) rfl fun ls' hl' => ?_
  exact k H locs ls' hP hD hS (z_set1 (i := 14) rfl (by simp only [List.length_cons]; omega) (fun j hj u hu => by
    obtain rfl : j = 13 := by omega
    cases hu; exact hp) hl')
theorem z_iinc15 (C : Fc K cc own nL) {a0 a1 a2 a3 a4 a5 a6 a7 a8 a9 a10 a11 a12 a13 a14 : Option Value} {r : List (Option Value)} {n x : Int} (d : decode cc pc = .ok (.iinc 15 n, 3)) (hp : z_ok1 a14 = true) (k : Gd K cells slots (pc + 3) (a0 :: a1 :: a2 :: a3 :: a4 :: a5 :: a6 :: a7 :: a8 :: a9 :: a10 :: a11 :: a12 :: a13 :: a14 :: some (.int (zI (x + n))) :: r) rest ws) : Gd K cells slots pc (a0 :: a1 :: a2 :: a3 :: a4 :: a5 :: a6 :: a7 :: a8 :: a9 :: a10 :: a11 :: a12 :: a13 :: a14 :: some (.int (zI x)) :: r) rest ws := by
  obtain ⟨p, l, e, R, s, m, args, below, meth, c, A, H0, Q, D, t⟩ := K
  obtain ⟨hx, hb, hml, ho, hts, hK, hA⟩ := C
  intro H locs ls hP hD hS hl
  obtain ⟨k0, hk0⟩ := List.getElem?_of_mem ((z_asc_mem (a0 :: a1 :: a2 :: a3 :: a4 :: a5 :: a6 :: a7 :: a8 :: a9 :: a10 :: a11 :: a12 :: a13 :: a14 :: some (.int (zI x)) :: r) 0 15 (.int (zI x))).mpr ⟨Nat.zero_le _, rfl⟩)
  refine lv_iinc hx hb d hl hk0 (zI_add x n) (by simp only [List.length_cons]; omega) rfl fun ls' hl' => ?_
  exact k H locs ls' hP hD hS (z_set1 (i := 15) rfl (by simp only [List.length_cons]; omega) (fun j hj u hu => by
    obtain rfl : j = 14 := by omega
    cases hu; exact hp) hl')
theorem z_iadd (C : Fc K cc own nL) {x y : Int} (d : decode cc pc = .ok (.iadd, 1)) (k : Gd K cells slots (pc + 1) L (.int (zI (x + y)) :: rest) ws) : Gd K cells slots pc L (.int (zI y) :: .int (zI x) :: rest) ws := by
  obtain ⟨p, l, e, R, s, m, args, below, meth, c, A, H0, Q, D, t⟩ := K
  obtain ⟨hx, hb, hml, ho, hts, hK, hA⟩ := C
  intro H locs ls hP hD hS hl
  exact lv_iadd hx hb d (by rw [zI_add]; exact k H locs ls hP hD hS hl)
theorem z_isub (C : Fc K cc own nL) {x y : Int} (d : decode cc pc = .ok (.isub, 1)) (k : Gd K cells slots (pc + 1) L (.int (zI (x - y)) :: rest) ws) : Gd K cells slots pc L (.int (zI y) :: .int (zI x) :: rest) ws := by
  obtain ⟨p, l, e, R, s, m, args, below, meth, c, A, H0, Q, D, t⟩ := K
  obtain ⟨hx, hb, hml, ho, hts, hK, hA⟩ := C
  intro H locs ls hP hD hS hl
  exact lv_isub hx hb d (by rw [zI_sub]; exact k H locs ls hP hD hS hl)
theorem z_imul (C : Fc K cc own nL) {x y : Int} (d : decode cc pc = .ok (.imul, 1)) (k : Gd K cells slots (pc + 1) L (.int (zI (x * y)) :: rest) ws) : Gd K cells slots pc L (.int (zI y) :: .int (zI x) :: rest) ws := by
  obtain ⟨p, l, e, R, s, m, args, below, meth, c, A, H0, Q, D, t⟩ := K
  obtain ⟨hx, hb, hml, ho, hts, hK, hA⟩ := C
  intro H locs ls hP hD hS hl
  exact lv_imul hx hb d (by rw [zI_mul]; exact k H locs ls hP hD hS hl)
theorem z_ineg (C : Fc K cc own nL) {x : Int} (d : decode cc pc = .ok (.ineg, 1)) (k : Gd K cells slots (pc + 1) L (.int (zI (-x)) :: rest) ws) : Gd K cells slots pc L (.int (zI x) :: rest) ws := by
  obtain ⟨p, l, e, R, s, m, args, below, meth, c, A, H0, Q, D, t⟩ := K
  obtain ⟨hx, hb, hml, ho, hts, hK, hA⟩ := C
  intro H locs ls hP hD hS hl
  exact lv_ineg hx hb d (by rw [zI_neg]; exact k H locs ls hP hD hS hl)
theorem z_idiv (C : Fc K cc own nL) {x y : Int} (d : decode cc pc = .ok (.idiv, 1)) (hb1 : (0 ≤ x ∧ x < 2147483648) ∧ (0 < y ∧ y < 2147483648)) (k : Gd K cells slots (pc + 1) L (.int (zI (x / y)) :: rest) ws) : Gd K cells slots pc L (.int (zI y) :: .int (zI x) :: rest) ws := by
  obtain ⟨p, l, e, R, s, m, args, below, meth, c, A, H0, Q, D, t⟩ := K
  obtain ⟨hx, hb, hml, ho, hts, hK, hA⟩ := C
  intro H locs ls hP hD hS hl
  exact lv_idiv hx hb d (zI_ne0 hb1.2) (by rw [zI_div hb1.1 hb1.2]; exact k H locs ls hP hD hS hl)
theorem z_irem (C : Fc K cc own nL) {x y : Int} (d : decode cc pc = .ok (.irem, 1)) (hb1 : (0 ≤ x ∧ x < 2147483648) ∧ (0 < y ∧ y < 2147483648)) (k : Gd K cells slots (pc + 1) L (.int (zI (x % y)) :: rest) ws) : Gd K cells slots pc L (.int (zI y) :: .int (zI x) :: rest) ws := by
  obtain ⟨p, l, e, R, s, m, args, below, meth, c, A, H0, Q, D, t⟩ := K
  obtain ⟨hx, hb, hml, ho, hts, hK, hA⟩ := C
  intro H locs ls hP hD hS hl
  exact lv_irem hx hb d (zI_ne0 hb1.2) (by rw [zI_rem hb1.1 hb1.2]; exact k H locs ls hP hD hS hl)
theorem z_ladd (C : Fc K cc own nL) {x y : Int} (d : decode cc pc = .ok (.ladd, 1)) (k : Gd K cells slots (pc + 1) L (.long (zL (x + y)) :: rest) ws) : Gd K cells slots pc L (.long (zL y) :: .long (zL x) :: rest) ws := by
  obtain ⟨p, l, e, R, s, m, args, below, meth, c, A, H0, Q, D, t⟩ := K
  obtain ⟨hx, hb, hml, ho, hts, hK, hA⟩ := C
  intro H locs ls hP hD hS hl
  exact lv_ladd hx hb d (by rw [zL_add]; exact k H locs ls hP hD hS hl)
theorem z_lmul (C : Fc K cc own nL) {x y : Int} (d : decode cc pc = .ok (.lmul, 1)) (k : Gd K cells slots (pc + 1) L (.long (zL (x * y)) :: rest) ws) : Gd K cells slots pc L (.long (zL y) :: .long (zL x) :: rest) ws := by
  obtain ⟨p, l, e, R, s, m, args, below, meth, c, A, H0, Q, D, t⟩ := K
  obtain ⟨hx, hb, hml, ho, hts, hK, hA⟩ := C
  intro H locs ls hP hD hS hl
  exact lv_lmul hx hb d (by rw [zL_mul]; exact k H locs ls hP hD hS hl)
theorem z_ldiv (C : Fc K cc own nL) {x y : Int} (d : decode cc pc = .ok (.ldiv, 1)) (hb1 : (0 ≤ x ∧ x < 9223372036854775808) ∧ (0 < y ∧ y < 9223372036854775808)) (k : Gd K cells slots (pc + 1) L (.long (zL (x / y)) :: rest) ws) : Gd K cells slots pc L (.long (zL y) :: .long (zL x) :: rest) ws := by
  obtain ⟨p, l, e, R, s, m, args, below, meth, c, A, H0, Q, D, t⟩ := K
  obtain ⟨hx, hb, hml, ho, hts, hK, hA⟩ := C
  intro H locs ls hP hD hS hl
  exact lv_ldiv hx hb d (zL_ne0 hb1.2) (by rw [zL_div hb1.1 hb1.2]; exact k H locs ls hP hD hS hl)
theorem z_lrem (C : Fc K cc own nL) {x y : Int} (d : decode cc pc = .ok (.lrem, 1)) (hb1 : (0 ≤ x ∧ x < 9223372036854775808) ∧ (0 < y ∧ y < 9223372036854775808)) (k : Gd K cells slots (pc + 1) L (.long (zL (x % y)) :: rest) ws) : Gd K cells slots pc L (.long (zL y) :: .long (zL x) :: rest) ws := by
  obtain ⟨p, l, e, R, s, m, args, below, meth, c, A, H0, Q, D, t⟩ := K
  obtain ⟨hx, hb, hml, ho, hts, hK, hA⟩ := C
  intro H locs ls hP hD hS hl
  exact lv_lrem hx hb d (zL_ne0 hb1.2) (by rw [zL_rem hb1.1 hb1.2]; exact k H locs ls hP hD hS hl)
theorem z_lcmp (C : Fc K cc own nL) {x y : Int} (d : decode cc pc = .ok (.lcmp, 1)) (hb1 : (-9223372036854775808 ≤ x ∧ x < 9223372036854775808) ∧ (-9223372036854775808 ≤ y ∧ y < 9223372036854775808)) (k : Gd K cells slots (pc + 1) L (.int (zI (if y < x then 1 else if x = y then 0 else -1)) :: rest) ws) : Gd K cells slots pc L (.long (zL y) :: .long (zL x) :: rest) ws := by
  obtain ⟨p, l, e, R, s, m, args, below, meth, c, A, H0, Q, D, t⟩ := K
  obtain ⟨hx, hb, hml, ho, hts, hK, hA⟩ := C
  intro H locs ls hP hD hS hl
  exact W.lcmp hx hb d (by rw [zI_cmp hb1.1 hb1.2]; exact k H locs ls hP hD hS hl)
theorem z_i2l (C : Fc K cc own nL) {x : Int} (d : decode cc pc = .ok (.i2l, 1)) (hb1 : -2147483648 ≤ x ∧ x < 2147483648) (k : Gd K cells slots (pc + 1) L (.long (zL x) :: rest) ws) : Gd K cells slots pc L (.int (zI x) :: rest) ws := by
  obtain ⟨p, l, e, R, s, m, args, below, meth, c, A, H0, Q, D, t⟩ := K
  obtain ⟨hx, hb, hml, ho, hts, hK, hA⟩ := C
  intro H locs ls hP hD hS hl
  exact lv_i2l hx hb d (zI_long hb1) (k H locs ls hP hD hS hl)
theorem z_l2i (C : Fc K cc own nL) {x : Int} (d : decode cc pc = .ok (.l2i, 1)) (k : Gd K cells slots (pc + 1) L (.int (zI x) :: rest) ws) : Gd K cells slots pc L (.long (zL x) :: rest) ws := by
  obtain ⟨p, l, e, R, s, m, args, below, meth, c, A, H0, Q, D, t⟩ := K
  obtain ⟨hx, hb, hml, ho, hts, hK, hA⟩ := C
  intro H locs ls hP hD hS hl
  exact lv_l2i hx hb d (zL_small x) (k H locs ls hP hD hS hl)
theorem z_i2b (C : Fc K cc own nL) {x y : Int} (d : decode cc pc = .ok (.i2b, 1)) (hy : (zI x).toInt8.toInt32 = zI y) (k : Gd K cells slots (pc + 1) L (.int (zI y) :: rest) ws) : Gd K cells slots pc L (.int (zI x) :: rest) ws := by
  obtain ⟨p, l, e, R, s, m, args, below, meth, c, A, H0, Q, D, t⟩ := K
  obtain ⟨hx, hb, hml, ho, hts, hK, hA⟩ := C
  intro H locs ls hP hD hS hl
  exact lv_i2b hx hb d hy (k H locs ls hP hD hS hl)
theorem z_i2s (C : Fc K cc own nL) {x y : Int} (d : decode cc pc = .ok (.i2s, 1)) (hy : (zI x).toInt16.toInt32 = zI y) (k : Gd K cells slots (pc + 1) L (.int (zI y) :: rest) ws) : Gd K cells slots pc L (.int (zI x) :: rest) ws := by
  obtain ⟨p, l, e, R, s, m, args, below, meth, c, A, H0, Q, D, t⟩ := K
  obtain ⟨hx, hb, hml, ho, hts, hK, hA⟩ := C
  intro H locs ls hP hD hS hl
  exact lv_i2s hx hb d hy (k H locs ls hP hD hS hl)
theorem z_iand (C : Fc K cc own nL) {x y z : Int} (d : decode cc pc = .ok (.iand, 1)) (hz : zI x &&& zI y = zI z) (k : Gd K cells slots (pc + 1) L (.int (zI z) :: rest) ws) : Gd K cells slots pc L (.int (zI y) :: .int (zI x) :: rest) ws := by
  obtain ⟨p, l, e, R, s, m, args, below, meth, c, A, H0, Q, D, t⟩ := K
  obtain ⟨hx, hb, hml, ho, hts, hK, hA⟩ := C
  intro H locs ls hP hD hS hl
  exact lv_iand hx hb d (by rw [hz]; exact k H locs ls hP hD hS hl)
theorem z_ior (C : Fc K cc own nL) {x y z : Int} (d : decode cc pc = .ok (.ior, 1)) (hz : zI x ||| zI y = zI z) (k : Gd K cells slots (pc + 1) L (.int (zI z) :: rest) ws) : Gd K cells slots pc L (.int (zI y) :: .int (zI x) :: rest) ws := by
  obtain ⟨p, l, e, R, s, m, args, below, meth, c, A, H0, Q, D, t⟩ := K
  obtain ⟨hx, hb, hml, ho, hts, hK, hA⟩ := C
  intro H locs ls hP hD hS hl
  exact lv_ior hx hb d (by rw [hz]; exact k H locs ls hP hD hS hl)
theorem z_ixor (C : Fc K cc own nL) {x y z : Int} (d : decode cc pc = .ok (.ixor, 1)) (hz : zI x ^^^ zI y = zI z) (k : Gd K cells slots (pc + 1) L (.int (zI z) :: rest) ws) : Gd K cells slots pc L (.int (zI y) :: .int (zI x) :: rest) ws := by
  obtain ⟨p, l, e, R, s, m, args, below, meth, c, A, H0, Q, D, t⟩ := K
  obtain ⟨hx, hb, hml, ho, hts, hK, hA⟩ := C
  intro H locs ls hP hD hS hl
  exact lv_ixor hx hb d (by rw [hz]; exact k H locs ls hP hD hS hl)
theorem z_ishl (C : Fc K cc own nL) {x y z : Int} (d : decode cc pc = .ok (.ishl, 1)) (hz : zI x <<< (zI y &&& 31) = zI z) (k : Gd K cells slots (pc + 1) L (.int (zI z) :: rest) ws) : Gd K cells slots pc L (.int (zI y) :: .int (zI x) :: rest) ws := by
  obtain ⟨p, l, e, R, s, m, args, below, meth, c, A, H0, Q, D, t⟩ := K
  obtain ⟨hx, hb, hml, ho, hts, hK, hA⟩ := C
  intro H locs ls hP hD hS hl
  exact lv_ishl hx hb d (by rw [hz]; exact k H locs ls hP hD hS hl)
theorem z_ishr (C : Fc K cc own nL) {x y z : Int} (d : decode cc pc = .ok (.ishr, 1)) (hz : zI x >>> (zI y &&& 31) = zI z) (k : Gd K cells slots (pc + 1) L (.int (zI z) :: rest) ws) : Gd K cells slots pc L (.int (zI y) :: .int (zI x) :: rest) ws := by
  obtain ⟨p, l, e, R, s, m, args, below, meth, c, A, H0, Q, D, t⟩ := K
  obtain ⟨hx, hb, hml, ho, hts, hK, hA⟩ := C
  intro H locs ls hP hD hS hl
  exact lv_ishr hx hb d (by rw [hz]; exact k H locs ls hP hD hS hl)
theorem z_dup (C : Fc K cc own nL) {v : Value} (d : decode cc pc = .ok (.dup, 1)) (hv : v.category = 1) (k : Gd K cells slots (pc + 1) L (v :: v :: rest) ws) : Gd K cells slots pc L (v :: rest) ws := by
  obtain ⟨p, l, e, R, s, m, args, below, meth, c, A, H0, Q, D, t⟩ := K
  obtain ⟨hx, hb, hml, ho, hts, hK, hA⟩ := C
  intro H locs ls hP hD hS hl
  exact lv_dup hx hb d hv (k H locs ls hP hD hS hl)
theorem z_pop (C : Fc K cc own nL) {v : Value} (d : decode cc pc = .ok (.pop, 1)) (hv : v.category = 1) (k : Gd K cells slots (pc + 1) L (rest) ws) : Gd K cells slots pc L (v :: rest) ws := by
  obtain ⟨p, l, e, R, s, m, args, below, meth, c, A, H0, Q, D, t⟩ := K
  obtain ⟨hx, hb, hml, ho, hts, hK, hA⟩ := C
  intro H locs ls hP hD hS hl
  exact lv_pop hx hb d hv (k H locs ls hP hD hS hl)
theorem z_dup2 (C : Fc K cc own nL) {v u : Value} (d : decode cc pc = .ok (.dup2, 1)) (hv : v.category = 1) (hu : u.category = 1) (k : Gd K cells slots (pc + 1) L (v :: u :: v :: u :: rest) ws) : Gd K cells slots pc L (v :: u :: rest) ws := by
  obtain ⟨p, l, e, R, s, m, args, below, meth, c, A, H0, Q, D, t⟩ := K
  obtain ⟨hx, hb, hml, ho, hts, hK, hA⟩ := C
  intro H locs ls hP hD hS hl
  exact lv_dup2_11 hx hb d hv hu (k H locs ls hP hD hS hl)
theorem z_icmp_eq (C : Fc K cc own nL) {x y off : Int} {tgt : Nat} (d : decode cc pc = .ok (.if_icmp .eq off, 3)) (ht : (pc : Int) + off = (tgt : Int)) (hb1 : (-2147483648 ≤ x ∧ x < 2147483648) ∧ (-2147483648 ≤ y ∧ y < 2147483648)) (kt : x = y → Gd K cells slots tgt L (rest) ws) (kf : ¬ x = y → Gd K cells slots (pc + 3) L (rest) ws) : Gd K cells slots pc L (.int (zI y) :: .int (zI x) :: rest) ws := by
  obtain ⟨p, l, e, R, s, m, args, below, meth, c, A, H0, Q, D, t⟩ := K
  obtain ⟨hx, hb, hml, ho, hts, hK, hA⟩ := C
  intro H locs ls hP hD hS hl
  exact lv_icmp_eq hx hb d ht (fun h => kt ((zI_eq hb1.1 hb1.2).mp h) H locs ls hP hD hS hl) (fun h => kf (fun q => h ((zI_eq hb1.1 hb1.2).mpr q)) H locs ls hP hD hS hl)
theorem z_icmp_ne (C : Fc K cc own nL) {x y off : Int} {tgt : Nat} (d : decode cc pc = .ok (.if_icmp .ne off, 3)) (ht : (pc : Int) + off = (tgt : Int)) (hb1 : (-2147483648 ≤ x ∧ x < 2147483648) ∧ (-2147483648 ≤ y ∧ y < 2147483648)) (kt : ¬ x = y → Gd K cells slots tgt L (rest) ws) (kf : x = y → Gd K cells slots (pc + 3) L (rest) ws) : Gd K cells slots pc L (.int (zI y) :: .int (zI x) :: rest) ws := by
  obtain ⟨p, l, e, R, s, m, args, below, meth, c, A, H0, Q, D, t⟩ := K
  obtain ⟨hx, hb, hml, ho, hts, hK, hA⟩ := C
  intro H locs ls hP hD hS hl
  exact lv_icmp_ne hx hb d ht (fun h => kt (fun q => h ((zI_eq hb1.1 hb1.2).mpr q)) H locs ls hP hD hS hl) (fun h => kf ((zI_eq hb1.1 hb1.2).mp h) H locs ls hP hD hS hl)
theorem z_icmp_lt (C : Fc K cc own nL) {x y off : Int} {tgt : Nat} (d : decode cc pc = .ok (.if_icmp .lt off, 3)) (ht : (pc : Int) + off = (tgt : Int)) (hb1 : (-2147483648 ≤ x ∧ x < 2147483648) ∧ (-2147483648 ≤ y ∧ y < 2147483648)) (kt : x < y → Gd K cells slots tgt L (rest) ws) (kf : ¬ x < y → Gd K cells slots (pc + 3) L (rest) ws) : Gd K cells slots pc L (.int (zI y) :: .int (zI x) :: rest) ws := by
  obtain ⟨p, l, e, R, s, m, args, below, meth, c, A, H0, Q, D, t⟩ := K
  obtain ⟨hx, hb, hml, ho, hts, hK, hA⟩ := C
  intro H locs ls hP hD hS hl
  exact lv_icmp_lt hx hb d ht (fun h => kt ((zI_lt hb1.1 hb1.2).mp h) H locs ls hP hD hS hl) (fun h => kf (fun q => h ((zI_lt hb1.1 hb1.2).mpr q)) H locs ls hP hD hS hl)
theorem z_icmp_ge (C : Fc K cc own nL) {x y off : Int} {tgt : Nat} (d : decode cc pc = .ok (.if_icmp .ge off, 3)) (ht : (pc : Int) + off = (tgt : Int)) (hb1 : (-2147483648 ≤ x ∧ x < 2147483648) ∧ (-2147483648 ≤ y ∧ y < 2147483648)) (kt : y ≤ x → Gd K cells slots tgt L (rest) ws) (kf : ¬ y ≤ x → Gd K cells slots (pc + 3) L (rest) ws) : Gd K cells slots pc L (.int (zI y) :: .int (zI x) :: rest) ws := by
  obtain ⟨p, l, e, R, s, m, args, below, meth, c, A, H0, Q, D, t⟩ := K
  obtain ⟨hx, hb, hml, ho, hts, hK, hA⟩ := C
  intro H locs ls hP hD hS hl
  exact lv_icmp_ge hx hb d ht (fun h => kt ((zI_le hb1.2 hb1.1).mp h) H locs ls hP hD hS hl) (fun h => kf (fun q => h ((zI_le hb1.2 hb1.1).mpr q)) H locs ls hP hD hS hl)
theorem z_icmp_gt (C : Fc K cc own nL) {x y off : Int} {tgt : Nat} (d : decode cc pc = .ok (.if_icmp .gt off, 3)) (ht : (pc : Int) + off = (tgt : Int)) (hb1 : (-2147483648 ≤ x ∧ x < 2147483648) ∧ (-2147483648 ≤ y ∧ y < 2147483648)) (kt : y < x → Gd K cells slots tgt L (rest) ws) (kf : ¬ y < x → Gd K cells slots (pc + 3) L (rest) ws) : Gd K cells slots pc L (.int (zI y) :: .int (zI x) :: rest) ws := by
  obtain ⟨p, l, e, R, s, m, args, below, meth, c, A, H0, Q, D, t⟩ := K
  obtain ⟨hx, hb, hml, ho, hts, hK, hA⟩ := C
  intro H locs ls hP hD hS hl
  exact lv_icmp_gt hx hb d ht (fun h => kt ((zI_lt hb1.2 hb1.1).mp h) H locs ls hP hD hS hl) (fun h => kf (fun q => h ((zI_lt hb1.2 hb1.1).mpr q)) H locs ls hP hD hS hl)
theorem z_icmp_le (C : Fc K cc own nL) {x y off : Int} {tgt : Nat} (d : decode cc pc = .ok (.if_icmp .le off, 3)) (ht : (pc : Int) + off = (tgt : Int)) (hb1 : (-2147483648 ≤ x ∧ x < 2147483648) ∧ (-2147483648 ≤ y ∧ y < 2147483648)) (kt : x ≤ y → Gd K cells slots tgt L (rest) ws) (kf : ¬ x ≤ y → Gd K cells slots (pc + 3) L (rest) ws) : Gd K cells slots pc L (.int (zI y) :: .int (zI x) :: rest) ws := by
  obtain ⟨p, l, e, R, s, m, args, below, meth, c, A, H0, Q, D, t⟩ := K
  obtain ⟨hx, hb, hml, ho, hts, hK, hA⟩ := C
  intro H locs ls hP hD hS hl
  exact lv_icmp_le hx hb d ht (fun h => kt ((zI_le hb1.1 hb1.2).mp h) H locs ls hP hD hS hl) (fun h => kf (fun q => h ((zI_le hb1.1 hb1.2).mpr q)) H locs ls hP hD hS hl)
theorem z_if_eq (C : Fc K cc own nL) {x off : Int} {tgt : Nat} (d : decode cc pc = .ok (.ifCond .eq off, 3)) (ht : (pc : Int) + off = (tgt : Int)) (hb1 : -2147483648 ≤ x ∧ x < 2147483648) (kt : x = 0 → Gd K cells slots tgt L (rest) ws) (kf : ¬ x = 0 → Gd K cells slots (pc + 3) L (rest) ws) : Gd K cells slots pc L (.int (zI x) :: rest) ws := by
  obtain ⟨p, l, e, R, s, m, args, below, meth, c, A, H0, Q, D, t⟩ := K
  obtain ⟨hx, hb, hml, ho, hts, hK, hA⟩ := C
  intro H locs ls hP hD hS hl
  exact lv_if_eq hx hb d ht (fun h => kt ((zI_eq hb1 (show (-2147483648 : Int) ≤ 0 ∧ (0 : Int) < 2147483648 from ⟨by decide, by decide⟩)).mp h) H locs ls hP hD hS hl) (fun h => kf (fun q => h ((zI_eq hb1 (show (-2147483648 : Int) ≤ 0 ∧ (0 : Int) < 2147483648 from ⟨by decide, by decide⟩)).mpr q)) H locs ls hP hD hS hl)
theorem z_if_ne (C : Fc K cc own nL) {x off : Int} {tgt : Nat} (d : decode cc pc = .ok (.ifCond .ne off, 3)) (ht : (pc : Int) + off = (tgt : Int)) (hb1 : -2147483648 ≤ x ∧ x < 2147483648) (kt : ¬ x = 0 → Gd K cells slots tgt L (rest) ws) (kf : x = 0 → Gd K cells slots (pc + 3) L (rest) ws) : Gd K cells slots pc L (.int (zI x) :: rest) ws := by
  obtain ⟨p, l, e, R, s, m, args, below, meth, c, A, H0, Q, D, t⟩ := K
  obtain ⟨hx, hb, hml, ho, hts, hK, hA⟩ := C
  intro H locs ls hP hD hS hl
  exact lv_if_ne hx hb d ht (fun h => kt (fun q => h ((zI_eq hb1 (show (-2147483648 : Int) ≤ 0 ∧ (0 : Int) < 2147483648 from ⟨by decide, by decide⟩)).mpr q)) H locs ls hP hD hS hl) (fun h => kf ((zI_eq hb1 (show (-2147483648 : Int) ≤ 0 ∧ (0 : Int) < 2147483648 from ⟨by decide, by decide⟩)).mp h) H locs ls hP hD hS hl)
theorem z_if_lt (C : Fc K cc own nL) {x off : Int} {tgt : Nat} (d : decode cc pc = .ok (.ifCond .lt off, 3)) (ht : (pc : Int) + off = (tgt : Int)) (hb1 : -2147483648 ≤ x ∧ x < 2147483648) (kt : x < 0 → Gd K cells slots tgt L (rest) ws) (kf : ¬ x < 0 → Gd K cells slots (pc + 3) L (rest) ws) : Gd K cells slots pc L (.int (zI x) :: rest) ws := by
  obtain ⟨p, l, e, R, s, m, args, below, meth, c, A, H0, Q, D, t⟩ := K
  obtain ⟨hx, hb, hml, ho, hts, hK, hA⟩ := C
  intro H locs ls hP hD hS hl
  exact lv_if_lt hx hb d ht (fun h => kt ((zI_lt hb1 (show (-2147483648 : Int) ≤ 0 ∧ (0 : Int) < 2147483648 from ⟨by decide, by decide⟩)).mp h) H locs ls hP hD hS hl) (fun h => kf (fun q => h ((zI_lt hb1 (show (-2147483648 : Int) ≤ 0 ∧ (0 : Int) < 2147483648 from ⟨by decide, by decide⟩)).mpr q)) H locs ls hP hD hS hl)
theorem z_if_ge (C : Fc K cc own nL) {x off : Int} {tgt : Nat} (d : decode cc pc = .ok (.ifCond .ge off, 3)) (ht : (pc : Int) + off = (tgt : Int)) (hb1 : -2147483648 ≤ x ∧ x < 2147483648) (kt : 0 ≤ x → Gd K cells slots tgt L (rest) ws) (kf : ¬ 0 ≤ x → Gd K cells slots (pc + 3) L (rest) ws) : Gd K cells slots pc L (.int (zI x) :: rest) ws := by
  obtain ⟨p, l, e, R, s, m, args, below, meth, c, A, H0, Q, D, t⟩ := K
  obtain ⟨hx, hb, hml, ho, hts, hK, hA⟩ := C
  intro H locs ls hP hD hS hl
  exact lv_if_ge hx hb d ht (fun h => kt ((zI_le (show (-2147483648 : Int) ≤ 0 ∧ (0 : Int) < 2147483648 from ⟨by decide, by decide⟩) hb1).mp h) H locs ls hP hD hS hl) (fun h => kf (fun q => h ((zI_le (show (-2147483648 : Int) ≤ 0 ∧ (0 : Int) < 2147483648 from ⟨by decide, by decide⟩) hb1).mpr q)) H locs ls hP hD hS hl)
theorem z_if_gt (C : Fc K cc own nL) {x off : Int} {tgt : Nat} (d : decode cc pc = .ok (.ifCond .gt off, 3)) (ht : (pc : Int) + off = (tgt : Int)) (hb1 : -2147483648 ≤ x ∧ x < 2147483648) (kt : 0 < x → Gd K cells slots tgt L (rest) ws) (kf : ¬ 0 < x → Gd K cells slots (pc + 3) L (rest) ws) : Gd K cells slots pc L (.int (zI x) :: rest) ws := by
  obtain ⟨p, l, e, R, s, m, args, below, meth, c, A, H0, Q, D, t⟩ := K
  obtain ⟨hx, hb, hml, ho, hts, hK, hA⟩ := C
  intro H locs ls hP hD hS hl
  exact lv_if_gt hx hb d ht (fun h => kt ((zI_lt (show (-2147483648 : Int) ≤ 0 ∧ (0 : Int) < 2147483648 from ⟨by decide, by decide⟩) hb1).mp h) H locs ls hP hD hS hl) (fun h => kf (fun q => h ((zI_lt (show (-2147483648 : Int) ≤ 0 ∧ (0 : Int) < 2147483648 from ⟨by decide, by decide⟩) hb1).mpr q)) H locs ls hP hD hS hl)
theorem z_if_le (C : Fc K cc own nL) {x off : Int} {tgt : Nat} (d : decode cc pc = .ok (.ifCond .le off, 3)) (ht : (pc : Int) + off = (tgt : Int)) (hb1 : -2147483648 ≤ x ∧ x < 2147483648) (kt : x ≤ 0 → Gd K cells slots tgt L (rest) ws) (kf : ¬ x ≤ 0 → Gd K cells slots (pc + 3) L (rest) ws) : Gd K cells slots pc L (.int (zI x) :: rest) ws := by
  obtain ⟨p, l, e, R, s, m, args, below, meth, c, A, H0, Q, D, t⟩ := K
  obtain ⟨hx, hb, hml, ho, hts, hK, hA⟩ := C
  intro H locs ls hP hD hS hl
  exact lv_if_le hx hb d ht (fun h => kt ((zI_le hb1 (show (-2147483648 : Int) ≤ 0 ∧ (0 : Int) < 2147483648 from ⟨by decide, by decide⟩)).mp h) H locs ls hP hD hS hl) (fun h => kf (fun q => h ((zI_le hb1 (show (-2147483648 : Int) ≤ 0 ∧ (0 : Int) < 2147483648 from ⟨by decide, by decide⟩)).mpr q)) H locs ls hP hD hS hl)
theorem z_goto (C : Fc K cc own nL) {off : Int} {tgt : Nat} (d : decode cc pc = .ok (.goto off, 3)) (ht : (pc : Int) + off = (tgt : Int)) (k : Gd K cells slots tgt L (rest) ws) : Gd K cells slots pc L (rest) ws := by
  obtain ⟨p, l, e, R, s, m, args, below, meth, c, A, H0, Q, D, t⟩ := K
  obtain ⟨hx, hb, hml, ho, hts, hK, hA⟩ := C
  intro H locs ls hP hD hS hl
  exact lv_goto hx hb d ht (k H locs ls hP hD hS hl)
theorem z_tableIn (C : Fc K cc own nL) {dflt lo hi : Int} {offs : Array Int} {len : Nat} {x off : Int} {tgt : Nat} (d : decode cc pc = .ok (.tableswitch dflt lo hi offs, len)) (hb1 : -2147483648 ≤ x ∧ x < 2147483648) (h1 : ¬ x < lo) (h2 : ¬ hi < x) (ho2 : offs[(x - lo).toNat]? = some off) (ht : (pc : Int) + off = (tgt : Int)) (k : Gd K cells slots tgt L (rest) ws) : Gd K cells slots pc L (.int (zI x) :: rest) ws := by
  obtain ⟨p, l, e, R, s, m, args, below, meth, c, A, H0, Q, D, t⟩ := K
  obtain ⟨hx, hb, hml, ho, hts, hK, hA⟩ := C
  intro H locs ls hP hD hS hl
  exact lv_tableIn hx hb d (by rw [zI_int hb1]; exact h1) (by rw [zI_int hb1]; exact h2) (by rw [zI_int hb1]; exact ho2) ht (k H locs ls hP hD hS hl)
theorem z_tableOut (C : Fc K cc own nL) {dflt lo hi : Int} {offs : Array Int} {len : Nat} {x : Int} {tgt : Nat} (d : decode cc pc = .ok (.tableswitch dflt lo hi offs, len)) (hb1 : -2147483648 ≤ x ∧ x < 2147483648) (h1 : x < lo ∨ hi < x) (ht : (pc : Int) + dflt = (tgt : Int)) (k : Gd K cells slots tgt L (rest) ws) : Gd K cells slots pc L (.int (zI x) :: rest) ws := by
  obtain ⟨p, l, e, R, s, m, args, below, meth, c, A, H0, Q, D, t⟩ := K
  obtain ⟨hx, hb, hml, ho, hts, hK, hA⟩ := C
  intro H locs ls hP hD hS hl
  exact lv_tableOut hx hb d (by rw [zI_int hb1]; exact h1) ht (k H locs ls hP hD hS hl)
theorem z_iald (C : Fc K cc own nL) {a n : Nat} {F : Int → Int} {i : Int} (d : decode cc pc = .ok (.iaload, 1)) (q0 : Nat) (ha : ws[q0]? = some (a, .inl (z_t K 0, n, .inl (fun j : Nat => zI (F j))))) (hi : 0 ≤ i ∧ i < n) (hn : n < 2147483648) (k : Gd K cells slots (pc + 1) L (.int (zI (F i)) :: rest) ws) : Gd K cells slots pc L (.int (zI i) :: .ref a :: rest) ws := by
  obtain ⟨p, l, e, R, s, m, args, below, meth, c, A, H0, Q, D, t⟩ := K
  obtain ⟨hx, hb, hml, ho, hts, hK, hA⟩ := C
  intro H locs ls hP hD hS hl
  exact va_iald hx hb hK hP q0 0 ha rfl (zI_in hi.1 hi.2 hn) d (by rw [zI_idx hi.1 (by omega)]; exact k H locs ls hP hD hS hl)
theorem z_zald (C : Fc K cc own nL) {a n : Nat} {F : Int → Int} {i : Int} (d : decode cc pc = .ok (.baload, 1)) (q0 : Nat) (ha : ws[q0]? = some (a, .inl (z_t K 2, n, .inl (fun j : Nat => zI (F j))))) (hi : 0 ≤ i ∧ i < n) (hn : n < 2147483648) (k : Gd K cells slots (pc + 1) L (.int (zI (F i)) :: rest) ws) : Gd K cells slots pc L (.int (zI i) :: .ref a :: rest) ws := by
  obtain ⟨p, l, e, R, s, m, args, below, meth, c, A, H0, Q, D, t⟩ := K
  obtain ⟨hx, hb, hml, ho, hts, hK, hA⟩ := C
  intro H locs ls hP hD hS hl
  exact va_zald hx hb hK hP q0 2 ha rfl (zI_in hi.1 hi.2 hn) d (by rw [zI_idx hi.1 (by omega)]; exact k H locs ls hP hD hS hl)
theorem z_lald (C : Fc K cc own nL) {a n : Nat} {F : Int → Int} {i : Int} (d : decode cc pc = .ok (.laload, 1)) (q0 : Nat) (ha : ws[q0]? = some (a, .inl (z_t K 1, n, .inr (.inl (fun j : Nat => zL (F j)))))) (hi : 0 ≤ i ∧ i < n) (hn : n < 2147483648) (k : Gd K cells slots (pc + 1) L (.long (zL (F i)) :: rest) ws) : Gd K cells slots pc L (.int (zI i) :: .ref a :: rest) ws := by
  obtain ⟨p, l, e, R, s, m, args, below, meth, c, A, H0, Q, D, t⟩ := K
  obtain ⟨hx, hb, hml, ho, hts, hK, hA⟩ := C
  intro H locs ls hP hD hS hl
  exact va_lald hx hb hK hP q0 1 ha rfl (zI_in hi.1 hi.2 hn) d (by rw [zI_idx hi.1 (by omega)]; exact k H locs ls hP hD hS hl)
theorem z_iast (C : Fc K cc own nL) {a n : Nat} {F : Int → Int} {i x : Int} (d : decode cc pc = .ok (.iastore, 1)) (q0 : Nat) (ha : ws[q0]? = some (a, .inl (z_t K 0, n, .inl (fun j : Nat => zI (F j))))) (hi : 0 ≤ i ∧ i < n) (hn : n < 2147483648) (k : Gd K cells slots (pc + 1) L (rest) (ws.set q0 (a, .inl (z_t K 0, n, .inl (fun j : Nat => zI (zU F i x j)))))) : Gd K cells slots pc L (.int (zI x) :: .int (zI i) :: .ref a :: rest) ws := by
  obtain ⟨p, l, e, R, s, m, args, below, meth, c, A, H0, Q, D, t⟩ := K
  obtain ⟨hx, hb, hml, ho, hts, hK, hA⟩ := C
  intro H locs ls hP hD hS hl
  refine va_iast hx hb hK hP hD hS q0 0 ha rfl (zI_in hi.1 hi.2 hn) d fun H1 locs1 hP hD hS => ?_
  rw [zI_clamp hi.1 (by omega), zU_upd hi.1] at hP hD
  exact k H1 locs1 ls hP hD hS hl
theorem z_zast (C : Fc K cc own nL) {a n : Nat} {F : Int → Int} {i x : Int} (d : decode cc pc = .ok (.bastore, 1)) (q0 : Nat) (ha : ws[q0]? = some (a, .inl (z_t K 2, n, .inl (fun j : Nat => zI (F j))))) (hi : 0 ≤ i ∧ i < n) (hn : n < 2147483648) (hx01 : x = 0 ∨ x = 1) (k : Gd K cells slots (pc + 1) L (rest) (ws.set q0 (a, .inl (z_t K 2, n, .inl (fun j : Nat => zI (zU F i x j)))))) : Gd K cells slots pc L (.int (zI x) :: .int (zI i) :: .ref a :: rest) ws := by
  obtain ⟨p, l, e, R, s, m, args, below, meth, c, A, H0, Q, D, t⟩ := K
  obtain ⟨hx, hb, hml, ho, hts, hK, hA⟩ := C
  intro H locs ls hP hD hS hl
  refine va_zast hx hb hK hP hD hS q0 2 ha rfl (zI_in hi.1 hi.2 hn) d fun H1 locs1 hP hD hS => ?_
  rw [zI_clamp hi.1 (by omega), zI_bool hx01, zU_upd hi.1] at hP hD
  exact k H1 locs1 ls hP hD hS hl
theorem z_last (C : Fc K cc own nL) {a n : Nat} {F : Int → Int} {i x : Int} (d : decode cc pc = .ok (.lastore, 1)) (q0 : Nat) (ha : ws[q0]? = some (a, .inl (z_t K 1, n, .inr (.inl (fun j : Nat => zL (F j)))))) (hi : 0 ≤ i ∧ i < n) (hn : n < 2147483648) (k : Gd K cells slots (pc + 1) L (rest) (ws.set q0 (a, .inl (z_t K 1, n, .inr (.inl (fun j : Nat => zL (zU F i x j))))))) : Gd K cells slots pc L (.long (zL x) :: .int (zI i) :: .ref a :: rest) ws := by
  obtain ⟨p, l, e, R, s, m, args, below, meth, c, A, H0, Q, D, t⟩ := K
  obtain ⟨hx, hb, hml, ho, hts, hK, hA⟩ := C
  intro H locs ls hP hD hS hl
  refine va_last hx hb hK hP hD hS q0 1 ha rfl (zI_in hi.1 hi.2 hn) d fun H1 locs1 hP hD hS => ?_
  rw [zI_clamp hi.1 (by omega), zU_updL hi.1] at hP hD
  exact k H1 locs1 ls hP hD hS hl
theorem z_alen (C : Fc K cc own nL) {a : Nat} {x : vp_A} {tx : Nat} {ty : FieldType} (d : decode cc pc = .ok (.arraylength, 1)) (q0 : Nat) (ha : ws[q0]? = some (a, .inl (z_t K tx, x))) (ht : (z_tys (z_t K))[tx]? = some (z_t K tx, ty)) (k : Gd K cells slots (pc + 1) L (.int (zI x.1) :: rest) ws) : Gd K cells slots pc L (.ref a :: rest) ws := by
  obtain ⟨p, l, e, R, s, m, args, below, meth, c, A, H0, Q, D, t⟩ := K
  obtain ⟨hx, hb, hml, ho, hts, hK, hA⟩ := C
  intro H locs ls hP hD hS hl
  exact va_alen hx hb hK hP q0 tx ha ht (zI_nat x.1) d (k H locs ls hP hD hS hl)
theorem z_aldq (C : Fc K cc own nL) {a n tx : Nat} {CC : String} {f : Nat → Option Nat} {i : Int} (d : decode cc pc = .ok (.aaload, 1)) (q0 : Nat) (ha : ws[q0]? = some (a, .inl (z_t K tx, n, .inr (.inr (.inr (.inr f)))))) (ht : (z_tys (z_t K))[tx]? = some (z_t K tx, .object CC)) (hi : 0 ≤ i ∧ i < n) (hn : n < 2147483648) (k : Gd K cells slots (pc + 1) L (va_rf (f i.toNat) :: rest) ws) : Gd K cells slots pc L (.int (zI i) :: .ref a :: rest) ws := by
  obtain ⟨p, l, e, R, s, m, args, below, meth, c, A, H0, Q, D, t⟩ := K
  obtain ⟨hx, hb, hml, ho, hts, hK, hA⟩ := C
  intro H locs ls hP hD hS hl
  exact va_aldq hx hb hK hP q0 tx ha ht (zI_in hi.1 hi.2 hn) d (by rw [zI_clamp hi.1 (by omega)]; exact k H locs ls hP hD hS hl)
theorem z_get (C : Fc K cc own nL) {ref CC : String} {T : u_T} {N idx a : Nat} {fs : List Value} {v : Value} (ci : Nat) (q0 k0 : Nat) (d : decode cc pc = .ok (.getfield idx, 3)) (hin : ∀ w ∈ u_ws CC T N, w ∈ wsL_law) (he : ws[q0]? = some (a, .inr (ci, fs))) (hc : vwCl[ci]? = some (CC, T, N)) (hk : k0 < N) (hw : Cond.fieldLink own idx ref (T k0).2.1 (T k0).2.2.1 ∈ wsL_law) (hr : (T k0).1 = ref) (hv : fs[k0]? = some v) (k : Gd K cells slots (pc + 3) L (v :: rest) ws) : Gd K cells slots pc L (.ref a :: rest) ws := by
  obtain ⟨p, l, e, R, s, m, args, below, meth, c, A, H0, Q, D, t⟩ := K
  obtain ⟨hx, hb, hml, ho, hts, hK, hA⟩ := C
  intro H locs ls hP hD hS hl
  exact va_get (D := D) hx hb hts hin ho hK hP q0 he hc k0 hk (hts _ hw) (fun _ h => by rw [← hr]; exact h) hv d (k H locs ls hP hD hS hl)
theorem z_put (C : Fc K cc own nL) {ref CC : String} {T : u_T} {N idx a : Nat} {fs : List Value} {v : Value} (ci : Nat) (q0 k0 : Nat) (d : decode cc pc = .ok (.putfield idx, 3)) (hin : ∀ w ∈ u_ws CC T N, w ∈ wsL_law) (ty0 : Nat → FieldType) (hty : ∀ k, k < N → parseFieldDescriptor (T k).2.2.1 = some (ty0 k)) (hnm : ∀ a, a < N → ∀ b, b < N → a ≠ b → (T a).2.1 ≠ (T b).2.1) (he : ws[q0]? = some (a, .inr (ci, fs))) (hc : vwCl[ci]? = some (CC, T, N)) (hk : k0 < N) (hw : Cond.fieldLink own idx ref (T k0).2.1 (T k0).2.2.1 ∈ wsL_law) (hr : (T k0).1 = ref) (hfin : (T k0).2.2.2 = false) {ty : FieldType} (hd : parseFieldDescriptor (T k0).2.2.1 = some ty) (hnar : narrow ty v = v) (hfit : fits ty v = true) (hlen : k0 < fs.length) (k : Gd K cells slots (pc + 3) L (rest) (ws.set q0 (a, .inr (ci, fs.set k0 v)))) : Gd K cells slots pc L (v :: .ref a :: rest) ws := by
  obtain ⟨p, l, e, R, s, m, args, below, meth, c, A, H0, Q, D, t⟩ := K
  obtain ⟨hx, hb, hml, ho, hts, hK, hA⟩ := C
  intro H locs ls hP hD hS hl
  exact va_put (D := D) hx hb hts hin ty0 hty hnm ho hK hP hD hS q0 he hc k0 hk (hts _ hw) (fun _ h => by rw [← hr]; exact h) hfin hd hnar hfit hlen d fun H1 locs1 hP hD hS => k H1 locs1 ls hP hD hS hl
theorem z_putF (C : Fc K cc own nL) {ref CC : String} {T : u_T} {N idx a : Nat} {fs : List Value} {v : Value} (ci : Nat) (q0 k0 : Nat) (d : decode cc pc = .ok (.putfield idx, 3)) (hin : ∀ w ∈ u_ws CC T N, w ∈ wsL_law) (ty0 : Nat → FieldType) (hty : ∀ k, k < N → parseFieldDescriptor (T k).2.2.1 = some (ty0 k)) (hnm : ∀ a, a < N → ∀ b, b < N → a ≠ b → (T a).2.1 ≠ (T b).2.1) (he : ws[q0]? = some (a, .inr (ci, fs))) (hc : vwCl[ci]? = some (CC, T, N)) (hk : k0 < N) (hw : Cond.fieldLink own idx ref (T k0).2.1 (T k0).2.2.1 ∈ wsL_law) (hr : (T k0).1 = ref) (hfin : (T k0).2.2.2 = true) (hini : z_nm K = "<init>") (hdecl : (T k0).1 = own) {ty : FieldType} (hd : parseFieldDescriptor (T k0).2.2.1 = some ty) (hnar : narrow ty v = v) (hfit : fits ty v = true) (hlen : k0 < fs.length) (k : Gd K cells slots (pc + 3) L (rest) (ws.set q0 (a, .inr (ci, fs.set k0 v)))) : Gd K cells slots pc L (v :: .ref a :: rest) ws := by
  obtain ⟨p, l, e, R, s, m, args, below, meth, c, A, H0, Q, D, t⟩ := K
  obtain ⟨hx, hb, hml, ho, hts, hK, hA⟩ := C
  intro H locs ls hP hD hS hl
  exact va_putF (D := D) hx hb hts hin ty0 hty hnm ho hK hP hD hS q0 he hc k0 hk (hts _ hw) (fun _ h => by rw [← hr]; exact h) hfin hini hdecl hd hnar hfit hlen d fun H1 locs1 hP hD hS => k H1 locs1 ls hP hD hS hl
theorem z_mmax (C : Fc K cc own nL) {idx : Nat} {x y : Int} (d : decode cc pc = .ok (.invokestatic idx, 3)) (w1 : Cond.methodLink own idx Lib.Math.max.name ∈ wsL_law) (w2 : Cond.static Lib.Math.max.name ∈ wsL_law) (w3 : Cond.initialized "java/lang/Math" ∈ wsL_law) (w4 : Cond.code Lib.Math.max.name Lib.Math.max.code 2 (some .int) ∈ wsL_law) (hL : L.length = nL) (hf : 1 ≤ (z_Rm K).frames) (hlo : (rest.map fun v => v.category).sum + 13 ≤ (z_Rm K).locals) (hc : cells ≤ (z_Rm K).cells) (hs : slots ≤ (z_Rm K).slots) (hb1 : (-2147483648 ≤ x ∧ x < 2147483648) ∧ (-2147483648 ≤ y ∧ y < 2147483648)) (k : Gd K cells slots (pc + 3) L (.int (zI (if x < y then y else x)) :: rest) ws) : Gd K cells slots pc L (.int (zI y) :: .int (zI x) :: rest) ws := by
  obtain ⟨p, l, e, R, s, m, args, below, meth, c, A, H0, Q, D, t⟩ := K
  obtain ⟨hx, hb, hml, ho, hts, hK, hA⟩ := C
  intro H locs ls hP hD hS hl
  refine va_mmax hx hb (by rw [hml, ← hL]; exact hl.1.symm) ho (hts _ w1) (hts _ w2) (hts _ w3) (hts _ w4) hf hlo hc hs d ?_
  have q := k H locs ls hP hD hS hl
  simp only [zI_lt hb1.1 hb1.2]
  rw [apply_ite zI] at q
  exact q
theorem z_mmin (C : Fc K cc own nL) {idx : Nat} {x y : Int} (d : decode cc pc = .ok (.invokestatic idx, 3)) (w1 : Cond.methodLink own idx Lib.Math.min.name ∈ wsL_law) (w2 : Cond.static Lib.Math.min.name ∈ wsL_law) (w3 : Cond.initialized "java/lang/Math" ∈ wsL_law) (w4 : Cond.code Lib.Math.min.name Lib.Math.min.code 2 (some .int) ∈ wsL_law) (hL : L.length = nL) (hf : 1 ≤ (z_Rm K).frames) (hlo : (rest.map fun v => v.category).sum + 13 ≤ (z_Rm K).locals) (hc : cells ≤ (z_Rm K).cells) (hs : slots ≤ (z_Rm K).slots) (hb1 : (-2147483648 ≤ x ∧ x < 2147483648) ∧ (-2147483648 ≤ y ∧ y < 2147483648)) (k : Gd K cells slots (pc + 3) L (.int (zI (if y < x then y else x)) :: rest) ws) : Gd K cells slots pc L (.int (zI y) :: .int (zI x) :: rest) ws := by
  obtain ⟨p, l, e, R, s, m, args, below, meth, c, A, H0, Q, D, t⟩ := K
  obtain ⟨hx, hb, hml, ho, hts, hK, hA⟩ := C
  intro H locs ls hP hD hS hl
  refine va_mmin hx hb (by rw [hml, ← hL]; exact hl.1.symm) ho (hts _ w1) (hts _ w2) (hts _ w3) (hts _ w4) hf hlo hc hs d ?_
  have q := k H locs ls hP hD hS hl
  simp only [zI_lt hb1.2 hb1.1]
  rw [apply_ite zI] at q
  exact q
theorem z_mabs (C : Fc K cc own nL) {idx : Nat} {x : Int} (d : decode cc pc = .ok (.invokestatic idx, 3)) (w1 : Cond.methodLink own idx Lib.Math.abs.name ∈ wsL_law) (w2 : Cond.static Lib.Math.abs.name ∈ wsL_law) (w3 : Cond.initialized "java/lang/Math" ∈ wsL_law) (w4 : Cond.code Lib.Math.abs.name Lib.Math.abs.code 1 (some .int) ∈ wsL_law) (hL : L.length = nL) (hf : 1 ≤ (z_Rm K).frames) (hlo : (rest.map fun v => v.category).sum + 13 ≤ (z_Rm K).locals) (hc : cells ≤ (z_Rm K).cells) (hs : slots ≤ (z_Rm K).slots) (hb1 : -2147483648 ≤ x ∧ x < 2147483648) (k : Gd K cells slots (pc + 3) L (.int (zI (if 0 ≤ x then x else 0 - x)) :: rest) ws) : Gd K cells slots pc L (.int (zI x) :: rest) ws := by
  obtain ⟨p, l, e, R, s, m, args, below, meth, c, A, H0, Q, D, t⟩ := K
  obtain ⟨hx, hb, hml, ho, hts, hK, hA⟩ := C
  intro H locs ls hP hD hS hl
  refine va_mabs hx hb (by rw [hml, ← hL]; exact hl.1.symm) ho (hts _ w1) (hts _ w2) (hts _ w3) (hts _ w4) hf hlo hc hs d ?_
  have q := k H locs ls hP hD hS hl
  simp only [zI_0, zI_le (show (-2147483648 : Int) ≤ 0 ∧ (0 : Int) < 2147483648 from ⟨by decide, by decide⟩) hb1, zI_sub]
  rw [apply_ite zI] at q
  exact q
theorem z_mmaxP (C : Fc K cc own nL) {idx : Nat} {x y : Int} (d : decode cc pc = .ok (.invokestatic idx, 3)) (w1 : Cond.methodLink own idx Lib.Math.max.name ∈ wsL_law) (w2 : Cond.static Lib.Math.max.name ∈ wsL_law) (w3 : Cond.initialized "java/lang/Math" ∈ wsL_law) (w4 : Cond.code Lib.Math.max.name Lib.Math.max.code 2 (some .int) ∈ wsL_law) (hL : L.length = nL) (hf : 1 ≤ (z_Rm K).frames) (hlo : (rest.map fun v => v.category).sum + 13 ≤ (z_Rm K).locals) (hc : cells ≤ (z_Rm K).cells) (hs : slots ≤ (z_Rm K).slots) (hb1 : (-2147483648 ≤ x ∧ x < 2147483648) ∧ (-2147483648 ≤ y ∧ y < 2147483648)) (k : ∀ m : Int, x ≤ m ∧ y ≤ m ∧ (m = x ∨ m = y) → Gd K cells slots (pc + 3) L (.int (zI m) :: rest) ws) : Gd K cells slots pc L (.int (zI y) :: .int (zI x) :: rest) ws := z_mmax C d w1 w2 w3 w4 hL hf hlo hc hs hb1 (k _ (by split <;> omega))
theorem z_mminP (C : Fc K cc own nL) {idx : Nat} {x y : Int} (d : decode cc pc = .ok (.invokestatic idx, 3)) (w1 : Cond.methodLink own idx Lib.Math.min.name ∈ wsL_law) (w2 : Cond.static Lib.Math.min.name ∈ wsL_law) (w3 : Cond.initialized "java/lang/Math" ∈ wsL_law) (w4 : Cond.code Lib.Math.min.name Lib.Math.min.code 2 (some .int) ∈ wsL_law) (hL : L.length = nL) (hf : 1 ≤ (z_Rm K).frames) (hlo : (rest.map fun v => v.category).sum + 13 ≤ (z_Rm K).locals) (hc : cells ≤ (z_Rm K).cells) (hs : slots ≤ (z_Rm K).slots) (hb1 : (-2147483648 ≤ x ∧ x < 2147483648) ∧ (-2147483648 ≤ y ∧ y < 2147483648)) (k : ∀ m : Int, m ≤ x ∧ m ≤ y ∧ (m = x ∨ m = y) → Gd K cells slots (pc + 3) L (.int (zI m) :: rest) ws) : Gd K cells slots pc L (.int (zI y) :: .int (zI x) :: rest) ws := z_mmin C d w1 w2 w3 w4 hL hf hlo hc hs hb1 (k _ (by split <;> omega))
theorem z_mabsP (C : Fc K cc own nL) {idx : Nat} {x : Int} (d : decode cc pc = .ok (.invokestatic idx, 3)) (w1 : Cond.methodLink own idx Lib.Math.abs.name ∈ wsL_law) (w2 : Cond.static Lib.Math.abs.name ∈ wsL_law) (w3 : Cond.initialized "java/lang/Math" ∈ wsL_law) (w4 : Cond.code Lib.Math.abs.name Lib.Math.abs.code 1 (some .int) ∈ wsL_law) (hL : L.length = nL) (hf : 1 ≤ (z_Rm K).frames) (hlo : (rest.map fun v => v.category).sum + 13 ≤ (z_Rm K).locals) (hc : cells ≤ (z_Rm K).cells) (hs : slots ≤ (z_Rm K).slots) (hb1 : -2147483648 ≤ x ∧ x < 2147483648) (k : ∀ m : Int, 0 ≤ m ∧ (m = x ∨ m = -x) → Gd K cells slots (pc + 3) L (.int (zI m) :: rest) ws) : Gd K cells slots pc L (.int (zI x) :: rest) ws := z_mabs C d w1 w2 w3 w4 hL hf hlo hc hs hb1 (k _ (by split <;> omega))
theorem z_ws {st : List Value} {ws' : va_W} (h : ws' = ws) (k : Gd K cells slots pc L st ws') : Gd K cells slots pc L st ws := h ▸ k
theorem z_top {x y : Int} (h : x = y) (k : Gd K cells slots pc L (.int (zI y) :: rest) ws) : Gd K cells slots pc L (.int (zI x) :: rest) ws := h ▸ k
theorem z_topL {x y : Int} (h : x = y) (k : Gd K cells slots pc L (.long (zL y) :: rest) ws) : Gd K cells slots pc L (.long (zL x) :: rest) ws := h ▸ k
theorem z_forget {st : List Value} {L' : List (Option Value)} (hlen : L'.length = L.length) (h : ∀ (j : Nat) (v : Value), L'[j]? = some (some v) → L[j]? = some (some v)) (k : Gd K cells slots pc L' st ws) : Gd K cells slots pc L st ws := by
  obtain ⟨p, l, e, R, s, m, args, below, meth, c, A, H0, Q, D, t⟩ := K
  intro H locs ls hP hD hS hl
  exact k H locs ls hP hD hS (z_sub hl hlen fun j v hj => (z_asc_mem L 0 j v).mpr ⟨Nat.zero_le _, h j v hj⟩)
end ZR
