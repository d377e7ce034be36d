/-! give: an AREA is made -/
section ZG
variable {K : z_KT} {cc : ByteArray} {own : String} {nL cells slots pc : Nat} {L : List (Option Value)} {st rest : List Value} {ws : va_W} {ad : Nat → Nat} {t : Nat → ClassId} {σ : zMem}
theorem z_widen {c2 s2 : Nat} (h1 : cells ≤ c2) (h2 : slots ≤ s2) (k : Gd K c2 s2 pc L st ws) : Gd K cells slots pc L st ws := by
  obtain ⟨p, l, e, R, s, m, args, below, meth, c, A, H0, Q, D, t⟩ := K
  intro H locs ls hP hD hS hl
  exact W.widen h1 h2 (k H locs ls hP hD hS hl)
theorem wX_aset {z : Int} (hz : 0 ≤ z ∧ z < σ 49 0) {G : Int → Int} (hG : ∀ j : Int, 0 ≤ j → ¬ j = z → ∀ k : Int, 0 ≤ k → k < 5 → G (5 * j + k) = σ 50 (5 * j + k)) : (wX ad t σ).set (30 + z.toNat) ((σ 48 z).toNat, arO (zS σ 50 G) z) = wX ad t (zS σ 50 G) := by
  show (wXf ad t σ ++ wXa σ).set (30 + z.toNat) _ = wXf ad t (zS σ 50 G) ++ wXa (zS σ 50 G)
  rw [List.set_append_right _ _ (by show 30 ≤ _; omega)]
  show wXf ad t σ ++ (wXa σ).set (30 + z.toNat - 30) _ = wXf ad t σ ++ wXa (zS σ 50 G)
  rw [show 30 + z.toNat - 30 = z.toNat by omega]
  congr 1
  apply List.ext_getElem?
  intro i
  have hlen : (wXa σ).length = (σ 49 0).toNat := by unfold wXa; rw [List.length_map, List.length_range]
  rw [List.getElem?_set, hlen]
  show _ = ((List.range (σ 49 0).toNat).map (fun j : Nat => ((σ 48 j).toNat, arO (zS σ 50 G) j)))[i]?
  by_cases g : z.toNat = i
  · rw [if_pos g, if_pos (by omega), List.getElem?_map, List.getElem?_range (by omega)]
    show _ = some ((σ 48 (i : Int)).toNat, arO (zS σ 50 G) (i : Int))
    rw [show (i : Int) = z by omega]
  · rw [if_neg g]
    unfold wXa
    rw [List.getElem?_map, List.getElem?_map]
    by_cases q : i < (σ 49 0).toNat
    · rw [List.getElem?_range q]
      show some ((σ 48 (i : Int)).toNat, arO σ (i : Int)) = some ((σ 48 (i : Int)).toNat, arO (zS σ 50 G) (i : Int))
      unfold arO
      rw [zS_s]
      have a0 := hG i (by omega) (by omega) 0 (by omega) (by omega)
      have a1 := hG i (by omega) (by omega) 1 (by omega) (by omega)
      have a2 := hG i (by omega) (by omega) 2 (by omega) (by omega)
      have a3 := hG i (by omega) (by omega) 3 (by omega) (by omega)
      have a4 := hG i (by omega) (by omega) 4 (by omega) (by omega)
      rw [Int.add_zero] at a0
      rw [a0, a1, a2, a3, a4]
    · rw [List.getElem?_eq_none (by rw [List.length_range]; omega)]
      rfl
theorem pf_X0 (C : Fc K cc RX0 nL) (hnm : z_nm K = "<init>") {z x i : Int} {idx kk : Nat} (hz : 0 ≤ z ∧ z < σ 49 0) (d : decode cc pc = .ok (.putfield idx, 3)) (hk : (kk = 0 ∧ i = 5 * z ∧ idx = 7) ∨ (kk = 1 ∧ i = 5 * z + 1 ∧ idx = 13) ∨ (kk = 2 ∧ i = 5 * z + 2 ∧ idx = 16) ∨ (kk = 3 ∧ i = 5 * z + 3 ∧ idx = 19) ∨ (kk = 4 ∧ i = 5 * z + 4 ∧ idx = 22)) (k : Gd K cells slots (pc + 3) L rest (wX ad (z_t K) (zS σ 50 (zU (σ 50) i x)))) : Gd K cells slots pc L (.int (zI x) :: .ref (σ 48 z).toNat :: rest) (wX ad (z_t K) σ) := by
  have key := wX_aset (ad := ad) (t := z_t K) hz (G := zU (σ 50) i x) (fun j h0 h1 q h2 h3 => zU_n (by omega))
  have n1 : ∀ a b : Int, ¬ a = b → zU (σ 50) b x a = σ 50 a := fun a b q => zU_n q
  rcases hk with ⟨rfl, rfl, rfl⟩ | ⟨rfl, rfl, rfl⟩ | ⟨rfl, rfl, rfl⟩ | ⟨rfl, rfl, rfl⟩ | ⟨rfl, rfl, rfl⟩
  · refine z_putF C 0 (30 + z.toNat) 0 d inlX0 tyX0 tyX0_ok nmX0 (wX_ar hz) rfl (by decide) gw_30_15 rfl rfl hnm rfl (ty := tyX0 0) (tyX0_ok 0 (by decide)) rfl rfl (by show _ < 5; decide) (z_ws ?_ k)
    rw [← key]
    unfold arO
    rw [zS_s, zU_s, n1 _ _ (by omega), n1 _ _ (by omega), n1 _ _ (by omega), n1 _ _ (by omega)]
    rfl
  · refine z_putF C 0 (30 + z.toNat) 1 d inlX0 tyX0 tyX0_ok nmX0 (wX_ar hz) rfl (by decide) gw_30_16 rfl rfl hnm rfl (ty := tyX0 1) (tyX0_ok 1 (by decide)) rfl rfl (by show _ < 5; decide) (z_ws ?_ k)
    rw [← key]
    unfold arO
    rw [zS_s, zU_s, n1 (5 * z) _ (by omega), n1 (5 * z + 2) _ (by omega), n1 (5 * z + 3) _ (by omega), n1 (5 * z + 4) _ (by omega)]
    rfl
  · refine z_putF C 0 (30 + z.toNat) 2 d inlX0 tyX0 tyX0_ok nmX0 (wX_ar hz) rfl (by decide) gw_30_17 rfl rfl hnm rfl (ty := tyX0 2) (tyX0_ok 2 (by decide)) rfl rfl (by show _ < 5; decide) (z_ws ?_ k)
    rw [← key]
    unfold arO
    rw [zS_s, zU_s, n1 (5 * z) _ (by omega), n1 (5 * z + 1) _ (by omega), n1 (5 * z + 3) _ (by omega), n1 (5 * z + 4) _ (by omega)]
    rfl
  · refine z_putF C 0 (30 + z.toNat) 3 d inlX0 tyX0 tyX0_ok nmX0 (wX_ar hz) rfl (by decide) gw_30_18 rfl rfl hnm rfl (ty := tyX0 3) (tyX0_ok 3 (by decide)) rfl rfl (by show _ < 5; decide) (z_ws ?_ k)
    rw [← key]
    unfold arO
    rw [zS_s, zU_s, n1 (5 * z) _ (by omega), n1 (5 * z + 1) _ (by omega), n1 (5 * z + 2) _ (by omega), n1 (5 * z + 4) _ (by omega)]
    rfl
  · refine z_putF C 0 (30 + z.toNat) 4 d inlX0 tyX0 tyX0_ok nmX0 (wX_ar hz) rfl (by decide) gw_30_19 rfl rfl hnm rfl (ty := tyX0 4) (tyX0_ok 4 (by decide)) rfl rfl (by show _ < 5; decide) (z_ws ?_ k)
    rw [← key]
    unfold arO
    rw [zS_s, zU_s, n1 (5 * z) _ (by omega), n1 (5 * z + 1) _ (by omega), n1 (5 * z + 2) _ (by omega), n1 (5 * z + 3) _ (by omega)]
    rfl
theorem wX_new {q : Nat} (h49 : 0 ≤ σ 49 0) (har : ∀ i, σ 51 i < σ 49 0) : ∃ μ : zMem, wX ad t μ = wX ad t σ ++ [(q, .inr (0, [.int (zI 0), .int (zI 0), .int (zI 0), .int (zI 0), .int (zI 0)]))] ∧ (μ 48 (σ 49 0)).toNat = q ∧ zE μ σ [48, 49, 50] ∧ μ 49 0 = σ 49 0 + 1 ∧ ∀ j : Int, j < σ 49 0 → ∀ k : Int, 0 ≤ k → k < 5 → μ 50 (5 * j + k) = σ 50 (5 * j + k) := by
  refine ⟨zS (zS (zS σ 48 (zU (σ 48) (σ 49 0) q)) 49 (zC (σ 49 0 + 1))) 50 (fun i => if 5 * σ 49 0 ≤ i then 0 else σ 50 i), ?_, ?_, zE_set (zE_set (zE_set zE_rf (by decide)) (by decide)) (by decide), rfl, fun j h1 k h2 h3 => ?_⟩
  · generalize hμ : zS (zS (zS σ 48 (zU (σ 48) (σ 49 0) q)) 49 (zC (σ 49 0 + 1))) 50 (fun i => if 5 * σ 49 0 ≤ i then 0 else σ 50 i) = μ
    have e48 : μ 48 = zU (σ 48) (σ 49 0) q := by rw [← hμ]; rfl
    have e49 : μ 49 0 = σ 49 0 + 1 := by rw [← hμ]; rfl
    have e50 : ∀ i, μ 50 i = if 5 * σ 49 0 ≤ i then 0 else σ 50 i := fun i => by rw [← hμ]; rfl
    have ea : arF μ = arF σ := by
      funext j
      unfold arF
      rw [show μ 51 = σ 51 by rw [← hμ]; rfl, e48]
      have := har j
      by_cases g : σ 51 j < 0
      · rw [if_pos g, if_pos g]
      · rw [if_neg g, if_neg g, zU_n (by omega)]
    have ef : wXf ad t μ = wXf ad t σ := by
      unfold wXf
      rw [ea, ← hμ]
      rfl
    show wXf ad t μ ++ wXa μ = (wXf ad t σ ++ wXa σ) ++ _
    rw [ef, List.append_assoc]
    congr 1
    unfold wXa
    rw [e49, show (σ 49 0 + 1).toNat = (σ 49 0).toNat + 1 by omega, List.range_succ, List.map_append]
    congr 1
    · refine List.map_congr_left fun j hj => ?_
      have hj := List.mem_range.mp hj
      rw [e48, zU_n (by omega)]
      unfold arO
      rw [e50, e50, e50, e50, e50, if_neg (by omega), if_neg (by omega), if_neg (by omega), if_neg (by omega), if_neg (by omega)]
    · show [((μ 48 ((σ 49 0).toNat : Int)).toNat, arO μ ((σ 49 0).toNat : Int))] = _
      rw [show ((σ 49 0).toNat : Int) = σ 49 0 by omega, e48, zU_s]
      unfold arO
      rw [e50, e50, e50, e50, e50, if_pos (by omega), if_pos (by omega), if_pos (by omega), if_pos (by omega), if_pos (by omega)]
      rfl
  · show (zU (σ 48) (σ 49 0) q (σ 49 0)).toNat = q
    rw [zU_s]
    rfl
  · show (if 5 * σ 49 0 ≤ 5 * j + k then 0 else σ 50 (5 * j + k)) = _
    rw [if_neg (by omega)]
end ZG
def zA5 (F : Int → Int) (z f x0 x1 y0 y1 : Int) : Int → Int := zU (zU (zU (zU (zU F (5 * z) f) (5 * z + 1) x0) (5 * z + 2) x1) (5 * z + 3) y0) (5 * z + 4) y1
theorem zA5_v (F : Int → Int) (z f x0 x1 y0 y1 : Int) : zA5 F z f x0 x1 y0 y1 (5 * z) = f ∧ zA5 F z f x0 x1 y0 y1 (5 * z + 1) = x0 ∧ zA5 F z f x0 x1 y0 y1 (5 * z + 2) = x1 ∧ zA5 F z f x0 x1 y0 y1 (5 * z + 3) = y0 ∧ zA5 F z f x0 x1 y0 y1 (5 * z + 4) = y1 ∧ ∀ i : Int, i < 5 * z ∨ 5 * z + 5 ≤ i → zA5 F z f x0 x1 y0 y1 i = F i := by
  unfold zA5 zU
  refine ⟨?_, ?_, ?_, ?_, ?_, fun i hi => ?_⟩
  · rw [if_neg (by omega), if_neg (by omega), if_neg (by omega), if_neg (by omega), if_pos rfl]
  · rw [if_neg (by omega), if_neg (by omega), if_neg (by omega), if_pos rfl]
  · rw [if_neg (by omega), if_neg (by omega), if_pos rfl]
  · rw [if_neg (by omega), if_pos rfl]
  · rw [if_pos rfl]
  · rw [if_neg (by omega), if_neg (by omega), if_neg (by omega), if_neg (by omega), if_neg (by omega)]
theorem zAz_i {σ : zMem} (hw : zHw σ) {z f x0 x1 y0 y1 : Int} (h : zIsA σ f x0 x1 y0 y1) (e0 : σ 50 (5 * z) = f) (e1 : σ 50 (5 * z + 1) = x0) (e2 : σ 50 (5 * z + 2) = x1) (e3 : σ 50 (5 * z + 3) = y0) (e4 : σ 50 (5 * z + 4) = y1) : zAz σ z := by
  unfold zHw at hw
  unfold zIsA at h
  unfold zAz
  rw [e0, e1, e2, e3, e4]
  omega

set_option maxRecDepth 100000 in
set_option maxHeartbeats 4000000 in
theorem k_X0_init {l : Launch} {D : va_G} {t : Nat → ClassId} {ad : Nat → Nat} {σ : zMem} {z f x0 x1 y0 y1 : Int} (hz : 0 ≤ z ∧ z < σ 49 0) : z_Cv l D t yX0_init cX0_init 6 1 20 0 0 [.ref (σ 48 z).toNat, .int (zI f), .int (zI x0), .int (zI x1), .int (zI y0), .int (zI y1)] (wX ad t σ) (fun w => w = wX ad t (zS σ 50 (zA5 (σ 50) z f x0 x1 y0 y1))) := by
  refine z_Cv_of (by decide +kernel) [some (.ref (σ 48 z).toNat), some (.int (zI f)), some (.int (zI x0)), some (.int (zI x1)), some (.int (zI y0)), some (.int (zI y1))] rfl rfl (Nat.le_of_ble_eq_true rfl) fun K hl hD ht hR hnm C ret => ?_
  subst hl; subst hD; subst ht
  refine z_aload_n C (z_d dtX0_init_0 0 rfl) rfl ?_
  refine z_objInit C (z_d dtX0_init_0 1 rfl) gw_30_14 rfl hR ⟨rfl, rfl⟩ rfl ?_
  refine z_aload_n C (z_d dtX0_init_0 2 rfl) rfl ?_
  refine z_iload_n C (z_d dtX0_init_0 3 rfl) rfl ?_
  refine pf_X0 (z := z) (i := 5 * z) (kk := 0) C hnm hz (z_d dtX0_init_0 4 rfl) (Or.inl ⟨rfl, rfl, rfl⟩) ?_
  refine z_aload_n C (z_d dtX0_init_0 5 rfl) rfl ?_
  refine z_iload_n C (z_d dtX0_init_0 6 rfl) rfl ?_
  refine pf_X0 (z := z) (i := 5 * z + 1) (kk := 1) C hnm hz (z_d dtX0_init_0 7 rfl) (Or.inr (Or.inl ⟨rfl, rfl, rfl⟩)) ?_
  simp only [zS_s, zS_zS]
  refine z_aload_n C (z_d dtX0_init_0 8 rfl) rfl ?_
  refine z_iload_n C (z_d dtX0_init_0 9 rfl) rfl ?_
  refine pf_X0 (z := z) (i := 5 * z + 2) (kk := 2) C hnm hz (z_d dtX0_init_0 10 rfl) (Or.inr (Or.inr (Or.inl ⟨rfl, rfl, rfl⟩))) ?_
  simp only [zS_s, zS_zS]
  refine z_aload_n C (z_d dtX0_init_0 11 rfl) rfl ?_
  refine z_iload C (z_d dtX0_init_0 12 rfl) rfl ?_
  refine pf_X0 (z := z) (i := 5 * z + 3) (kk := 3) C hnm hz (z_d dtX0_init_0 13 rfl) (Or.inr (Or.inr (Or.inr (Or.inl ⟨rfl, rfl, rfl⟩)))) ?_
  simp only [zS_s, zS_zS]
  refine z_aload_n C (z_d dtX0_init_0 14 rfl) rfl ?_
  refine z_iload C (z_d dtX0_init_0 15 rfl) rfl ?_
  refine pf_X0 (z := z) (i := 5 * z + 4) (kk := 4) C hnm hz (z_d dtX0_init_0 16 rfl) (Or.inr (Or.inr (Or.inr (Or.inr ⟨rfl, rfl, rfl⟩)))) ?_
  simp only [zS_s, zS_zS]
  exact ret _ _ _ (z_d dtX0_init_0 17 rfl) (rfl)

set_option maxRecDepth 100000 in
set_option maxHeartbeats 4000000 in
theorem k_X7_give {l : Launch} {D : va_G} {t : Nat → ClassId} {ad : Nat → Nat} {σ : zMem} {f x0 x1 y0 y1 : Int} (ok : okX σ) (har : ∀ i, σ 51 i < σ 49 0) (hf : -2147483648 ≤ f ∧ f < 2147483648) (hx0 : -2147483648 ≤ x0 ∧ x0 < 2147483648) (hx1 : -2147483648 ≤ x1 ∧ x1 < 2147483648) (hy0 : -2147483648 ≤ y0 ∧ y0 < 2147483648) (hy1 : -2147483648 ≤ y1 ∧ y1 < 2147483648) : z_Ci l D t yX7_give cX7_give 6 .int 5 111 1 5 [.ref (ad 0), .int (zI f), .int (zI x0), .int (zI x1), .int (zI y0), .int (zI y1)] (wX ad t σ) (fun r w => ∃ σ', w = wX ad t σ' ∧ ((¬ zIsA σ f x0 x1 y0 y1 ∧ r = -2 ∧ σ' = σ) ∨ (zIsA σ f x0 x1 y0 y1 ∧ ∃ ν : zMem, zE ν σ [48, 49, 50] ∧ ν 49 0 = σ 49 0 + 1 ∧ (∀ j : Int, j < σ 49 0 → ∀ k : Int, 0 ≤ k → k < 5 → ν 50 (5 * j + k) = σ 50 (5 * j + k)) ∧ (ν 50 (5 * σ 49 0) = f ∧ ν 50 (5 * σ 49 0 + 1) = x0 ∧ ν 50 (5 * σ 49 0 + 2) = x1 ∧ ν 50 (5 * σ 49 0 + 3) = y0 ∧ ν 50 (5 * σ 49 0 + 4) = y1) ∧ (((zNi ν (ν 50 (5 * σ 49 0)) (ν 50 (5 * σ 49 0 + 1)) (ν 50 (5 * σ 49 0 + 2)) (ν 50 (5 * σ 49 0 + 3)) (ν 50 (5 * σ 49 0 + 4)) 20 < ν 11 0 ∨ (∃ i, 0 ≤ i ∧ i < ν 12 0 ∧ 0 < zAp ν (σ 49 0) (ν 51 i) ∧ zAp ν (σ 49 0) (ν 51 i) < ν 11 0)) ∧ r = -3 ∧ σ' = ν) ∨ (¬ (zNi ν (ν 50 (5 * σ 49 0)) (ν 50 (5 * σ 49 0 + 1)) (ν 50 (5 * σ 49 0 + 2)) (ν 50 (5 * σ 49 0 + 3)) (ν 50 (5 * σ 49 0 + 4)) 20 < ν 11 0 ∨ (∃ i, 0 ≤ i ∧ i < ν 12 0 ∧ 0 < zAp ν (σ 49 0) (ν 51 i) ∧ zAp ν (σ 49 0) (ν 51 i) < ν 11 0)) ∧ ((¬ (∃ i, 0 ≤ i ∧ i < ν 12 0 ∧ zAp ν (σ 49 0) (ν 51 i) = 0) ∧ 30 ≤ ν 12 0 ∧ r = -4 ∧ σ' = ν) ∨ ((∃ i, 0 ≤ i ∧ i < ν 12 0 ∧ zAp ν (σ 49 0) (ν 51 i) = 0) ∧ r = zNi ν (ν 50 (5 * σ 49 0)) (ν 50 (5 * σ 49 0 + 1)) (ν 50 (5 * σ 49 0 + 2)) (ν 50 (5 * σ 49 0 + 3)) (ν 50 (5 * σ 49 0 + 4)) 20 - zNi ν (ν 50 (5 * σ 49 0)) (ν 50 (5 * σ 49 0 + 1)) (ν 50 (5 * σ 49 0 + 2)) (ν 50 (5 * σ 49 0 + 3)) (ν 50 (5 * σ 49 0 + 4)) 20 % ν 11 0 ∧ σ' = ν) ∨ (¬ (∃ i, 0 ≤ i ∧ i < ν 12 0 ∧ zAp ν (σ 49 0) (ν 51 i) = 0) ∧ ν 12 0 < 30 ∧ r = zNi ν (ν 50 (5 * σ 49 0)) (ν 50 (5 * σ 49 0 + 1)) (ν 50 (5 * σ 49 0 + 2)) (ν 50 (5 * σ 49 0 + 3)) (ν 50 (5 * σ 49 0 + 4)) 20 - zNi ν (ν 50 (5 * σ 49 0)) (ν 50 (5 * σ 49 0 + 1)) (ν 50 (5 * σ 49 0 + 2)) (ν 50 (5 * σ 49 0 + 3)) (ν 50 (5 * σ 49 0 + 4)) 20 % ν 11 0 ∧ σ' = zS (zS ν 51 (zU (ν 51) (ν 12 0) (σ 49 0))) 12 (zC (ν 12 0 + 1))))))))) := by
  refine z_Ci_of (by decide +kernel) [some (.ref (ad 0)), some (.int (zI f)), some (.int (zI x0)), some (.int (zI x1)), some (.int (zI y0)), some (.int (zI y1))] rfl rfl (Nat.le_of_ble_eq_true rfl) fun K hl hD ht hR hnm C ret => ?_
  subst hl; subst hD; subst ht
  have ok2 := ok
  obtain ⟨⟨hw, hs, ht, h4, h5, h6, hwc, hlc⟩, ⟨h7, hdd⟩, hmp, oS1, oW1, oA1, oT1, oB1⟩ := ok2
  have hN := zHw_N hw
  have hW := hw; unfold zHw at hW
  refine z_aload_n C (z_d dtX7_give_0 0 rfl) rfl ?_
  refine gf_X7_10 C (z_d dtX7_give_0 1 rfl) ?_
  refine z_iload_n C (z_d dtX7_give_0 2 rfl) rfl ?_
  refine z_iload_n C (z_d dtX7_give_0 3 rfl) rfl ?_
  refine z_iload_n C (z_d dtX7_give_0 4 rfl) rfl ?_
  refine z_iload C (z_d dtX7_give_0 5 rfl) rfl ?_
  refine z_iload C (z_d dtX7_give_0 6 rfl) rfl ?_
  refine z_callV C (z_d dtX7_give_0 7 rfl) (k_X3_hasArea  (by first | assumption | omega) (by first | assumption | omega) (by first | assumption | omega) (by first | assumption | omega) (by first | assumption | omega) (by first | assumption | omega)) cal_X3_hasArea gw_24_3 rfl 1 3 rfl rfl rfl rfl hR ⟨rfl, rfl, rfl, rfl⟩ rfl (fun r_11 w_11 h_11 => ?_)
  obtain ⟨rfl, h_11⟩ := h_11
  refine z_if_ne (tgt := 20) C (z_d dtX7_give_0 8 rfl) (by decide) (by omega) (fun h_14 => ?_) (fun h_14 => ?_)
  · have hisA : zIsA σ f x0 x1 y0 y1 := h_11.elim (fun q => q.2) (fun q => absurd q.1 h_14)
    refine z_aload_n C (z_d dtX7_give_0 11 rfl) rfl ?_
    refine gf_X7_40 C (z_d dtX7_give_0 12 rfl) ?_
    refine z_new C 0 (z_d dtX7_give_0 13 rfl) inlX0 tyX0 tyX0_ok gw_30_8 gw_30_9 gw_30_10 rfl (fs := [.int (zI 0), .int (zI 0), .int (zI 0), .int (zI 0), .int (zI 0)]) (fun j hj => by rcases (show j = 0 ∨ j = 1 ∨ j = 2 ∨ j = 3 ∨ j = 4 by omega) with rfl | rfl | rfl | rfl | rfl <;> rfl) hR ⟨rfl, rfl⟩ (fun q => ?_)
    obtain ⟨μ, e1, e2, e3, e4, e5⟩ := wX_new (ad := ad) (t := z_t K) (σ := σ) (q := q) oA1.2.2.1 har
    have h490 := oA1.2.2.1
    refine z_ws e1 ?_
    subst e2
    refine z_dup C (z_d dtX7_give_0 14 rfl) rfl ?_
    refine z_iload_n C (z_d dtX7_give_0 15 rfl) rfl ?_
    refine z_iload_n C (z_d dtX7_give_0 16 rfl) rfl ?_
    refine z_iload_n C (z_d dtX7_give_0 17 rfl) rfl ?_
    refine z_iload C (z_d dtX7_give_0 18 rfl) rfl ?_
    refine z_iload C (z_d dtX7_give_0 19 rfl) rfl ?_
    refine z_callI C (z_d dtX7_give_0 20 rfl) (k_X0_init (σ := μ) (z := σ 49 0) (f := f) (x0 := x0) (x1 := x1) (y0 := y0) (y1 := y1) (by rw [e4]; omega)) cal_X0_init gw_30_11 rfl rfl hR ⟨rfl, rfl, rfl, rfl⟩ rfl (fun w h_35 => ?_)
    subst h_35
    obtain ⟨v0, v1, v2, v3, v4, v5⟩ := zA5_v (μ 50) (σ 49 0) f x0 x1 y0 y1
    generalize hν : zS μ 50 (zA5 (μ 50) (σ 49 0) f x0 x1 y0 y1) = ν
    have e50 : ν 50 = zA5 (μ 50) (σ 49 0) f x0 x1 y0 y1 := by rw [← hν]; rfl
    have hEn : zE ν σ [48, 49, 50] := by rw [← hν]; exact zE_set e3 (by decide)
    have en49 : ν 49 0 = σ 49 0 + 1 := by rw [← hν]; exact e4
    have e48 : μ 48 = ν 48 := by rw [← hν]; rfl
    rw [e48]
    have enj : ∀ j : Int, j < σ 49 0 → ∀ k : Int, 0 ≤ k → k < 5 → ν 50 (5 * j + k) = σ 50 (5 * j + k) := fun j h1 k h2 h3 => by rw [e50, v5 _ (by omega)]; exact e5 j h1 k h2 h3
    have en5 : ν 50 (5 * σ 49 0) = f ∧ ν 50 (5 * σ 49 0 + 1) = x0 ∧ ν 50 (5 * σ 49 0 + 2) = x1 ∧ ν 50 (5 * σ 49 0 + 3) = y0 ∧ ν 50 (5 * σ 49 0 + 4) = y1 := by rw [e50]; exact ⟨v0, v1, v2, v3, v4⟩
    have hwn : zHw ν := zHw_E hEn (by decide) (by decide) (by decide) hw
    have hisn : zIsA ν f x0 x1 y0 y1 := by unfold zIsA; rw [hEn 0 (by decide), hEn 1 (by decide), hEn 2 (by decide)]; exact hisA
    have hazn : zAz ν (σ 49 0) := zAz_i hwn hisn en5.1 en5.2.1 en5.2.2.1 en5.2.2.2.1 en5.2.2.2.2
    have hzn : 0 ≤ σ 49 0 ∧ σ 49 0 < ν 49 0 := by omega
    have h10n : ∀ i, -1 ≤ ν 10 i ∧ ν 10 i < 72 := fun i => by rw [hEn 10 (by decide)]; have := oW1 i; omega
    have hgn : 0 ≤ ν 12 0 ∧ ν 12 0 ≤ 30 := by rw [hEn 12 (by decide)]; exact oA1.2.1
    have hln : 1 ≤ ν 11 0 ∧ ν 11 0 ≤ 20 := by rw [hEn 11 (by decide)]; exact oA1.1
    have hain : ∀ i, 0 ≤ i → i < ν 12 0 → (0 ≤ ν 51 i ∧ ν 51 i < ν 49 0) ∧ zAz ν (ν 51 i) := by
      intro i h0 h1
      rw [hEn 12 (by decide)] at h1
      rw [hEn 51 (by decide)]
      obtain ⟨b0, b1, b2, b3, b4, b5, b6⟩ := oA1.2.2.2 i h0 h1
      refine ⟨by omega, ?_⟩
      have n0 := enj (σ 51 i) b0.2 0 (by omega) (by omega)
      rw [Int.add_zero] at n0
      have n1 := enj (σ 51 i) b0.2 1 (by omega) (by omega)
      have n2 := enj (σ 51 i) b0.2 2 (by omega) (by omega)
      have n3 := enj (σ 51 i) b0.2 3 (by omega) (by omega)
      have n4 := enj (σ 51 i) b0.2 4 (by omega) (by omega)
      refine zAz_i hwn (f := σ 13 (5 * i)) (x0 := σ 13 (5 * i + 1)) (x1 := σ 13 (5 * i + 2)) (y0 := σ 13 (5 * i + 3)) (y1 := σ 13 (5 * i + 4)) ?_ (by omega) (by omega) (by omega) (by omega) (by omega)
      unfold zIsA at b1 ⊢
      rw [hEn 0 (by decide), hEn 1 (by decide), hEn 2 (by decide)]
      exact b1
    refine z_aload_n C (z_d dtX7_give_0 21 rfl) rfl ?_
    refine gf_X7_10 C (z_d dtX7_give_0 22 rfl) ?_
    refine z_callV C (z_d dtX7_give_0 23 rfl) (k_X2_giveAway  hwn hzn hazn h10n hgn hln hain) cal_X2_giveAway gw_30_20 rfl 5 2 rfl rfl rfl rfl hR ⟨rfl, rfl, rfl, rfl⟩ rfl (fun r_42 w_42 h_42 => ?_)
    obtain ⟨σ_42, rfl, h_42⟩ := h_42
    exact ret _ _ _ _ (z_d dtX7_give_0 24 rfl) (⟨_, rfl, Or.inr ⟨hisA, _, hEn, en49, enj, en5, h_42⟩⟩) rfl
  · have hnA : ¬ zIsA σ f x0 x1 y0 y1 := h_11.elim (fun q => by omega) (fun q => q.2)
    refine z_bipush C (z_d dtX7_give_0 9 rfl) zb_m2 ?_
    refine z_widen (c2 := 1) (s2 := 5) (by decide) (by decide) ?_
    exact ret _ _ _ _ (z_d dtX7_give_0 10 rfl) (⟨σ, rfl, Or.inl ⟨hnA, rfl, rfl⟩⟩) rfl
