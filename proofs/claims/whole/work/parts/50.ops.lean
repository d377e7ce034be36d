/-! THE CALLS, both sides together: one answer, and the memories go together again -/
theorem zSum_1 : ∀ n : Nat, zSum (zC 1) n = n
  | 0 => rfl
  | n + 1 => by
    rw [zSum, zSum_1 n]
    show (n : Int) + 1 = _
    omega
theorem zU_same {F : Int → Int} {i v : Int} (h : F i = v) (j : Int) : zU F i v j = F j := by
  unfold zU
  split
  · rename_i e; rw [e, h]
  · rfl
theorem zN_lay {σ' : zMem} {f x y : Int} (b0 : σ' 0 = zC f) (b1 : σ' 1 = zC x) (b2 : σ' 2 = zC y) : zN σ' = f * x * y := by
  unfold zN
  rw [b0, b1, b2]
  rfl
theorem okX_lay {σ σ' : zMem} {f x y : Int} (p : (1 ≤ f ∧ f ≤ 3) ∧ (1 ≤ x ∧ x ≤ 6) ∧ (1 ≤ y ∧ y ≤ 6) ∧ f * x * y ≤ 72) (a : zE σ' σ [0, 1, 2, 4, 5, 6, 8, 9, 10, 12, 31, 32, 33, 36, 37, 38]) (b0 : σ' 0 = zC f) (b1 : σ' 1 = zC x) (b2 : σ' 2 = zC y) (b4 : σ' 4 = zC 0) (b5 : σ' 5 = zC 0) (b6 : σ' 6 = zC 0) (b8 : σ' 8 = zC 0) (b10 : σ' 10 = zC (-1)) (b12 : σ' 12 = zC 0) (b31 : σ' 31 = zC 0) (b32 : σ' 32 = zC 0) (b36 : σ' 36 = zC (f * x * y)) (bt : zTb σ') (b9 : ∀ c, 0 ≤ c → c < f * x * y → σ' 9 c = zWh (zC 1) (f * x * y).toNat c) (hs : 0 ≤ σ 3 0 ∧ σ 3 0 ≤ 9) (o2 : oD σ) (h11 : 1 ≤ σ 11 0 ∧ σ 11 0 ≤ 20) (h49 : 0 ≤ σ 49 0) (o7 : oT σ) (o8 : oB σ) : okX σ' := by
  have eN := zN_lay b0 b1 b2
  have hw : zHw σ' := by
    unfold zHw
    rw [eN, b0, b1, b2]
    exact p
  have hN := zHw_N hw
  rw [eN] at hN
  have K := zWh_ok (W := zC 1) (n := (f * x * y).toNat) (by omega) (fun _ _ _ => by show (0 : Int) ≤ 1; decide) (by rw [zSum_1]; omega)
  have e12 : σ' 12 0 = 0 := by rw [b12]; rfl
  refine ⟨⟨hw, by rw [a 3 (by decide)]; exact hs, bt, zBo_C b4 (Or.inl rfl), zBo_C b5 (Or.inl rfl), zBo_C b6 (Or.inl rfl), ?_, ?_⟩, oD_E a (by decide) o2, ?_, ⟨by rw [b36, eN]; rfl, fun c h0 h1 => by rw [eN] at h1; rw [b9 c h0 h1]; exact K.1 c h0 (by omega), ?_⟩, fun i => by rw [b10]; exact Or.inl rfl, ?_, oT_E a (by decide) o7, oB_E a (by decide) o8⟩
  · rw [b31]
    unfold zWc
    rw [b4, b5]
    exact (zSum_0 _ (fun c _ _ => rfl)).symm
  · rw [b32]
    unfold zLc
    rw [b6]
    exact (zSum_0 _ (fun c _ _ => rfl)).symm
  · intro i
    rw [b8]
    show (0 : Int) ≤ 0 ∧ (0 : Int) ≤ 255
    decide
  · rw [eN, zSum_cg _ (fun c h0 h1 => b9 c h0 (by omega))]
    exact K.2
  · unfold oA
    rw [e12, a 49 (by decide), a 11 (by decide)]
    exact ⟨h11, by decide, h49, fun i h0 h1 => by omega⟩
theorem hc_lay {σ' τ' : zMem} {k : Nat} (hk : k ∈ [0, 1, 2, 4, 5, 6, 8, 9, 10, 12, 31, 32, 33, 36, 37, 38] ∨ k ∈ [0, 1, 2, 4, 5, 6, 8, 9, 10, 12, 60, 62, 63]) (hn : k ∉ zLL) (q0 : τ' 0 = σ' 0) (q1 : τ' 1 = σ' 1) (q2 : τ' 2 = σ' 2) (q4 : τ' 4 = σ' 4) (q5 : τ' 5 = σ' 5) (q6 : τ' 6 = σ' 6) (q8 : τ' 8 = σ' 8) (q10 : τ' 10 = σ' 10) (q12 : τ' 12 = σ' 12) : τ' k = σ' k := by
  unfold zLL at hn
  simp only [List.mem_cons, List.not_mem_nil, or_false] at hk hn
  rcases (show k = 0 ∨ k = 1 ∨ k = 2 ∨ k = 4 ∨ k = 5 ∨ k = 6 ∨ k = 8 ∨ k = 10 ∨ k = 12 by omega) with rfl | rfl | rfl | rfl | rfl | rfl | rfl | rfl | rfl
  · exact q0
  · exact q1
  · exact q2
  · exact q4
  · exact q5
  · exact q6
  · exact q8
  · exact q10
  · exact q12
/-- beside each other: which wall it is -/
theorem zWl {σ : zMem} (hw : zHw σ) {a b : Int} (ha : 0 ≤ a ∧ a < zN σ) (hb : 0 ≤ b ∧ b < zN σ) : (zRt σ (min a b) (max a b) ↔ (a / (σ 1 0 * σ 2 0) = b / (σ 1 0 * σ 2 0) ∧ a / σ 1 0 % σ 2 0 = b / σ 1 0 % σ 2 0 ∧ (a % σ 1 0 - b % σ 1 0 = 1 ∨ a % σ 1 0 - b % σ 1 0 = -1))) ∧ (zBl σ (min a b) (max a b) ↔ (a / (σ 1 0 * σ 2 0) = b / (σ 1 0 * σ 2 0) ∧ a % σ 1 0 = b % σ 1 0 ∧ (a / σ 1 0 % σ 2 0 - b / σ 1 0 % σ 2 0 = 1 ∨ a / σ 1 0 % σ 2 0 - b / σ 1 0 % σ 2 0 = -1))) := by
  have hW := hw
  unfold zHw at hW
  have key : ∀ {c d : Int}, (0 ≤ c ∧ c < zN σ) → (0 ≤ d ∧ d < zN σ) → c ≤ d → (zRt σ c d ↔ (c / (σ 1 0 * σ 2 0) = d / (σ 1 0 * σ 2 0) ∧ c / σ 1 0 % σ 2 0 = d / σ 1 0 % σ 2 0 ∧ (c % σ 1 0 - d % σ 1 0 = 1 ∨ c % σ 1 0 - d % σ 1 0 = -1))) ∧ (zBl σ c d ↔ (c / (σ 1 0 * σ 2 0) = d / (σ 1 0 * σ 2 0) ∧ c % σ 1 0 = d % σ 1 0 ∧ (c / σ 1 0 % σ 2 0 - d / σ 1 0 % σ 2 0 = 1 ∨ c / σ 1 0 % σ 2 0 - d / σ 1 0 % σ 2 0 = -1))) := by
    intro c d hc hd hcd
    obtain ⟨Z, Y, X, hX, hY, hZ, e, eX, eY, eZ, -⟩ := zCo hw hc
    obtain ⟨Z', Y', X', hX', hY', hZ', e', eX', eY', eZ', -⟩ := zCo hw hd
    unfold zRt zBl
    rw [eX, eY, eZ, eX', eY', eZ']
    refine ⟨⟨fun q => by omega, fun q => ?_⟩, ⟨fun q => by omega, fun q => ?_⟩⟩
    · obtain ⟨rfl, rfl, q⟩ := q
      refine ⟨rfl, rfl, ?_⟩
      omega
    · obtain ⟨rfl, rfl, q⟩ := q
      refine ⟨rfl, rfl, ?_⟩
      rcases q with q | q
      · exfalso
        have s := (zUs (w := σ 1 0) (h := σ 2 0) (Z := Z) (Y := Y') (X := X)).1
        rw [show Y' + 1 = Y by omega] at s
        omega
      · omega
  rcases Int.lt_or_le b a with g | g
  · have k := key hb ha (by omega)
    rw [show min a b = b by omega, show max a b = a by omega, k.1, k.2]
    refine ⟨⟨fun q => ⟨q.1.symm, q.2.1.symm, by omega⟩, fun q => ⟨q.1.symm, q.2.1.symm, by omega⟩⟩, ⟨fun q => ⟨q.1.symm, q.2.1.symm, by omega⟩, fun q => ⟨q.1.symm, q.2.1.symm, by omega⟩⟩⟩
  · have k := key ha hb g
    rw [show min a b = a by omega, show max a b = b by omega]
    exact k
theorem okX_w4 {σ σ' : zMem} {lo s : Int} (ok : okX σ) (hlo : 0 ≤ lo ∧ lo < zN σ) (h01 : s = 0 ∨ s = 1) (hne : ¬ σ 4 lo = s) (a : zE σ' (zS (zS σ 4 (zU (σ 4) lo s)) 31 (zC (σ 31 0 + (2 * s - 1)))) [33]) (ht : zTb σ') : okX σ' := by
  obtain ⟨⟨hw, hs, _, h4, h5, h6, hwc, hlc⟩, o2, o3, o4, o5, o6, o7, o8⟩ := ok
  have hN := zHw_N hw
  have E1 : zE σ' σ [4, 31, 33] := zE_tr (zE_mo a (by decide)) (zE_set (zE_set zE_rf (by decide)) (by decide))
  have e4 : σ' 4 = zU (σ 4) lo s := a 4 (by decide)
  have e31 : σ' 31 0 = σ 31 0 + (2 * s - 1) := congrFun (a 31 (by decide)) 0
  have b := h4 lo
  refine ⟨⟨zHw_E E1 (by decide) (by decide) (by decide) hw, by rw [E1 3 (by decide)]; exact hs, ht, ?_, zBo_E E1 (by decide) h5, zBo_E E1 (by decide) h6, ?_, ?_⟩, oD_E E1 (by decide) o2, zMp_E E1 (by decide) o3, oS_E E1 (by decide) o4, oW_E E1 (by decide) o5, oA_E E1 (by decide) o6, oT_E E1 (by decide) o7, oB_E E1 (by decide) o8⟩
  · unfold zBo
    rw [e4]
    exact zBo_u h4 h01
  · rw [e31, hwc]
    unfold zWc
    rw [e4, E1 5 (by decide), zN_E E1 (by decide) (by decide) (by decide)]
    have q : zSum (fun c => zU (σ 4) lo s c + σ 5 c) (zN σ).toNat = zSum (zU (fun c => σ 4 c + σ 5 c) lo (s + σ 5 lo)) (zN σ).toNat := zSum_cg _ (fun c _ _ => by
      show zU (σ 4) lo s c + σ 5 c = zU (fun c => σ 4 c + σ 5 c) lo (s + σ 5 lo) c
      by_cases g : c = lo
      · subst g; rw [zU_s, zU_s]
      · rw [zU_n g, zU_n g])
    rw [q, zSum_U _ hlo.1 (by omega)]
    show _ = _ + (s + σ 5 lo - (σ 4 lo + σ 5 lo))
    omega
  · unfold zLc at hlc ⊢
    rw [E1 32 (by decide), E1 6 (by decide)]
    exact hlc
theorem okX_w5 {σ σ' : zMem} {lo s : Int} (ok : okX σ) (hlo : 0 ≤ lo ∧ lo < zN σ) (h01 : s = 0 ∨ s = 1) (hne : ¬ σ 5 lo = s) (a : zE σ' (zS (zS σ 5 (zU (σ 5) lo s)) 31 (zC (σ 31 0 + (2 * s - 1)))) [33]) (ht : zTb σ') : okX σ' := by
  obtain ⟨⟨hw, hs, _, h4, h5, h6, hwc, hlc⟩, o2, o3, o4, o5, o6, o7, o8⟩ := ok
  have hN := zHw_N hw
  have E1 : zE σ' σ [5, 31, 33] := zE_tr (zE_mo a (by decide)) (zE_set (zE_set zE_rf (by decide)) (by decide))
  have e5 : σ' 5 = zU (σ 5) lo s := a 5 (by decide)
  have e31 : σ' 31 0 = σ 31 0 + (2 * s - 1) := congrFun (a 31 (by decide)) 0
  have b := h5 lo
  refine ⟨⟨zHw_E E1 (by decide) (by decide) (by decide) hw, by rw [E1 3 (by decide)]; exact hs, ht, zBo_E E1 (by decide) h4, ?_, zBo_E E1 (by decide) h6, ?_, ?_⟩, oD_E E1 (by decide) o2, zMp_E E1 (by decide) o3, oS_E E1 (by decide) o4, oW_E E1 (by decide) o5, oA_E E1 (by decide) o6, oT_E E1 (by decide) o7, oB_E E1 (by decide) o8⟩
  · unfold zBo
    rw [e5]
    exact zBo_u h5 h01
  · rw [e31, hwc]
    unfold zWc
    rw [e5, E1 4 (by decide), zN_E E1 (by decide) (by decide) (by decide)]
    have q : zSum (fun c => σ 4 c + zU (σ 5) lo s c) (zN σ).toNat = zSum (zU (fun c => σ 4 c + σ 5 c) lo (σ 4 lo + s)) (zN σ).toNat := zSum_cg _ (fun c _ _ => by
      show σ 4 c + zU (σ 5) lo s c = zU (fun c => σ 4 c + σ 5 c) lo (σ 4 lo + s) c
      by_cases g : c = lo
      · subst g; rw [zU_s, zU_s]
      · rw [zU_n g, zU_n g])
    rw [q, zSum_U _ hlo.1 (by omega)]
    show _ = _ + (σ 4 lo + s - (σ 4 lo + σ 5 lo))
    omega
  · unfold zLc at hlc ⊢
    rw [E1 32 (by decide), E1 6 (by decide)]
    exact hlc
theorem okX_l6 {σ σ' : zMem} {lo s : Int} (ok : okX σ) (hlo : 0 ≤ lo ∧ lo < 36) (h01 : s = 0 ∨ s = 1) (hne : ¬ σ 6 lo = s) (a : zE σ' (zS (zS σ 6 (zU (σ 6) lo s)) 32 (zC (σ 32 0 + (2 * s - 1)))) [33]) (ht : zTb σ') : okX σ' := by
  obtain ⟨⟨hw, hs, _, h4, h5, h6, hwc, hlc⟩, o2, o3, o4, o5, o6, o7, o8⟩ := ok
  have E1 : zE σ' σ [6, 32, 33] := zE_tr (zE_mo a (by decide)) (zE_set (zE_set zE_rf (by decide)) (by decide))
  have e6 : σ' 6 = zU (σ 6) lo s := a 6 (by decide)
  have e32 : σ' 32 0 = σ 32 0 + (2 * s - 1) := congrFun (a 32 (by decide)) 0
  have b := h6 lo
  refine ⟨⟨zHw_E E1 (by decide) (by decide) (by decide) hw, by rw [E1 3 (by decide)]; exact hs, ht, zBo_E E1 (by decide) h4, zBo_E E1 (by decide) h5, ?_, ?_, ?_⟩, oD_E E1 (by decide) o2, zMp_E E1 (by decide) o3, oS_E E1 (by decide) o4, oW_E E1 (by decide) o5, oA_E E1 (by decide) o6, oT_E E1 (by decide) o7, oB_E E1 (by decide) o8⟩
  · unfold zBo
    rw [e6]
    exact zBo_u h6 h01
  · unfold zWc at hwc ⊢
    rw [E1 31 (by decide), E1 4 (by decide), E1 5 (by decide), zN_E E1 (by decide) (by decide) (by decide)]
    exact hwc
  · rw [e32, hlc]
    unfold zLc
    rw [e6, zSum_U _ hlo.1 (by omega)]
    omega
theorem okX_8 {σ : zMem} {F : Int → Int} (ok : okX σ) (hF : ∀ i, 0 ≤ F i ∧ F i ≤ 255) : okX (zS σ 8 F) := by
  obtain ⟨o1, o2, o3, o4, o5, o6, o7, o8⟩ := ok
  have E1 : zE (zS σ 8 F) σ [8] := zE_set zE_rf (by decide)
  exact ⟨oH_E E1 (by decide) o1, oD_E E1 (by decide) o2, hF, oS_E E1 (by decide) o4, oW_E E1 (by decide) o5, oA_E E1 (by decide) o6, oT_E E1 (by decide) o7, oB_E E1 (by decide) o8⟩
theorem okX_20 {σ : zMem} {F : Int → Int} (ok : okX σ) (hF : ∀ i, -2147483648 ≤ F i ∧ F i < 2147483648) : okX (zS σ 20 F) := by
  obtain ⟨o1, o2, o3, o4, o5, o6, o7, o8⟩ := ok
  have E1 : zE (zS σ 20 F) σ [20] := zE_set zE_rf (by decide)
  exact ⟨oH_E E1 (by decide) o1, oD_E E1 (by decide) o2, zMp_E E1 (by decide) o3, oS_E E1 (by decide) o4, oW_E E1 (by decide) o5, oA_E E1 (by decide) o6, oT_E E1 (by decide) o7, ⟨o8.1, o8.2.1, o8.2.2.1, hF, o8.2.2.2.2⟩⟩
theorem cMn {σ τ : zMem} (hE : zE τ σ zLL) (hw : zHw σ) (h9 : ∀ c, 0 ≤ c → c < zN σ → τ 9 c = σ 9 c) : ∀ (n : Nat) (c : Int), 0 ≤ c → c < zN σ → zMn τ n c = zMn σ n c
  | 0, c, h0, h1 => h9 c h0 h1
  | n + 1, c, h0, h1 => by
    have i := cMn hE hw h9 n
    have hN := zHw_N hw
    have k : zLr (zS τ 9 (zMn τ n)) (zN σ).toNat = zLr (zS σ 9 (zMn σ n)) (zN σ).toNat := zLr_c (μ := zS τ 9 (zMn τ n)) (σ := zS σ 9 (zMn σ n)) (show τ 0 = σ 0 from e_0 hE) (show τ 1 = σ 1 from e_1 hE) (show τ 2 = σ 2 from e_2 hE) (show τ 3 = σ 3 from e_3 hE) (show τ 4 = σ 4 from e_4 hE) (show τ 5 = σ 5 from e_5 hE) (show τ 6 = σ 6 from e_6 hE) _ (fun c a b => i c a (by omega))
    rw [zMn, zMn]
    unfold zM1
    rw [cN hE, k]
    split
    · exact i c h0 h1
    · rfl
theorem cHx {σ τ : zMem} (hE : zE τ σ zLL) (h9 : ∀ c, 0 ≤ c → c < zN σ → τ 9 c = σ 9 c) (z row o c : Int) (h0 : 0 ≤ c) (h1 : c < zN σ) : zHx τ z row o c = zHx σ z row o c := by
  unfold zHx
  rw [cHm hE, cN hE, h9 c h0 h1]
theorem cD2 {σ τ : zMem} (hE : zE τ σ zLL) (h9 : ∀ c, 0 ≤ c → c < zN σ → τ 9 c = σ 9 c) : ∀ n : Nat, (n : Int) ≤ zN σ → zD2 τ n = zD2 σ n
  | 0, _ => by rw [zD2, zD2, cD1 hE]
  | n + 1, h => by rw [zD2, zD2, cD2 hE h9 n (by omega), h9 n (by omega) (by omega)]
theorem cD3 {σ τ : zMem} (hE : zE τ σ zLL) (h9 : ∀ c, 0 ≤ c → c < zN σ → τ 9 c = σ 9 c) (hN : 1 ≤ zN σ ∧ zN σ ≤ 72) : ∀ n : Nat, zD3 τ n = zD3 σ n
  | 0 => by rw [zD3, zD3, cN hE, cD2 hE h9 _ (by omega)]
  | n + 1 => by rw [zD3, zD3, cD3 hE h9 hN n, cN hE, cD4 hE]
/-- the way that was told, and what was learnt by it -/
theorem jn_1415 {σ τ σ' τ' : zMem} {l1 l2 : List Nat} {F : Int → Int} (J : zJn σ τ) (h1 : zE σ' σ l1) (h2 : zE τ' τ l2) (hl1 : ∀ k ∈ l1, k ∈ [8, 14, 15, 39, 41]) (hl2 : ∀ k ∈ l2, k ∈ [8, 14, 15, 65, 66]) (b14 : 0 ≤ σ' 14 0 ∧ σ' 14 0 ≤ 30) (e14 : τ' 14 = σ' 14) (e15 : τ' 15 = σ' 15) (hF : zMp (zS σ 8 F)) (e8 : σ' 8 = (zS σ 8 F) 8 ∧ τ' 8 = (zS σ 8 F) 8) : zJn σ' τ' := by
  obtain ⟨ok, har, hE, h9, h60⟩ := id J
  obtain ⟨o1, o2, o3, o4, o5, o6, o7, o8⟩ := id ok
  have E1 : zE σ' σ [8, 14, 15, 39, 41] := zE_mo h1 hl1
  have E2 : zE τ' τ [8, 14, 15, 65, 66] := zE_mo h2 hl2
  have eN : zN σ' = zN σ := zN_E E1 (by decide) (by decide) (by decide)
  refine jn_mk J E1 E2 (fun k hk hn => ?_) ⟨oH_E E1 (by decide) o1, oD_E E1 (by decide) o2, ?_, oS_E E1 (by decide) o4, oW_E E1 (by decide) o5, oA_E E1 (by decide) o6, b14, oB_E E1 (by decide) o8⟩ (fun i => by rw [E1 51 (by decide), E1 49 (by decide)]; exact har i) (fun c h0 h1 => by rw [E1 9 (by decide), E2 9 (by decide)]; exact h9 c h0 (by rw [← eN]; exact h1)) (by rw [E2 60 (by decide), eN]; exact h60)
  · unfold zLL at hn
    simp only [List.mem_cons, List.not_mem_nil, or_false] at hk hn
    rcases (show k = 8 ∨ k = 14 ∨ k = 15 by omega) with rfl | rfl | rfl
    · rw [e8.1, e8.2]
    · exact e14
    · exact e15
  · unfold zMp at hF ⊢
    rw [e8.1]
    exact hF
theorem zNi_E {μ σ : zMem} {l : List Nat} (h : zE μ σ l) (hl : ∀ k ∈ [0, 1, 2, 10], k ∉ l := by decide) (f x0 x1 y0 y1 : Int) : ∀ n : Nat, zNi μ f x0 x1 y0 y1 n = zNi σ f x0 x1 y0 y1 n
  | 0 => rfl
  | n + 1 => by
    have q : ((0 ≤ μ 10 n ∧ μ 10 n < zN μ) ∧ zIn μ (μ 10 n) f x0 x1 y0 y1) ↔ ((0 ≤ σ 10 n ∧ σ 10 n < zN σ) ∧ zIn σ (σ 10 n) f x0 x1 y0 y1) := by
      unfold zIn
      rw [h 10 (hl 10 (by decide)), h 1 (hl 1 (by decide)), h 2 (hl 2 (by decide)), zN_E h (hl 0 (by decide)) (hl 1 (by decide)) (hl 2 (by decide))]
    rw [zNi, zNi, zNi_E h hl f x0 x1 y0 y1 n]
    by_cases g : (0 ≤ σ 10 n ∧ σ 10 n < zN σ) ∧ zIn σ (σ 10 n) f x0 x1 y0 y1
    · rw [if_pos g, if_pos (q.mpr g)]
    · rw [if_neg g, if_neg (fun p => g (q.mp p))]

set_option maxRecDepth 20000 in
set_option maxHeartbeats 2000000 in
theorem j_building {σ τ : zMem} {f x y : Int} {r r2 : Int} (J : zJn σ τ) (hf : -2147483648 ≤ f ∧ f < 2147483648) (hx : -2147483648 ≤ x ∧ x < 2147483648) (hy : -2147483648 ≤ y ∧ y < 2147483648) {σ' τ' : zMem} (hX : ((¬ ((1 ≤ f ∧ f ≤ 3) ∧ (1 ≤ x ∧ x ≤ 6) ∧ (1 ≤ y ∧ y ≤ 6) ∧ f * x * y ≤ 72) ∧ r = -2 ∧ σ' = σ) ∨ (((1 ≤ f ∧ f ≤ 3) ∧ (1 ≤ x ∧ x ≤ 6) ∧ (1 ≤ y ∧ y ≤ 6) ∧ f * x * y ≤ 72) ∧ r = f * x * y ∧ zE σ' σ [0, 1, 2, 4, 5, 6, 8, 9, 10, 12, 31, 32, 33, 36, 37, 38] ∧ σ' 0 = zC f ∧ σ' 1 = zC x ∧ σ' 2 = zC y ∧ σ' 4 = zC 0 ∧ σ' 5 = zC 0 ∧ σ' 6 = zC 0 ∧ σ' 8 = zC 0 ∧ σ' 10 = zC (-1) ∧ σ' 12 = zC 0 ∧ σ' 31 = zC 0 ∧ σ' 32 = zC 0 ∧ σ' 36 = zC (f * x * y) ∧ zTb σ' ∧ ∀ c, 0 ≤ c → c < f * x * y → σ' 9 c = zWh (zC 1) (f * x * y).toNat c))) (hM : ((¬ ((1 ≤ f ∧ f ≤ 3) ∧ (1 ≤ x ∧ x ≤ 6) ∧ (1 ≤ y ∧ y ≤ 6) ∧ f * x * y ≤ 72) ∧ r2 = -2 ∧ τ' = τ) ∨ (((1 ≤ f ∧ f ≤ 3) ∧ (1 ≤ x ∧ x ≤ 6) ∧ (1 ≤ y ∧ y ≤ 6) ∧ f * x * y ≤ 72) ∧ r2 = f * x * y ∧ zE τ' τ [0, 1, 2, 4, 5, 6, 8, 9, 10, 12, 60, 62, 63] ∧ τ' 0 = zC f ∧ τ' 1 = zC x ∧ τ' 2 = zC y ∧ τ' 4 = zC 0 ∧ τ' 5 = zC 0 ∧ τ' 6 = zC 0 ∧ τ' 8 = zC 0 ∧ τ' 10 = zC (-1) ∧ τ' 12 = zC 0 ∧ τ' 60 = zC (f * x * y) ∧ ∀ c, 0 ≤ c → c < f * x * y → τ' 9 c = zWh (zC 1) (f * x * y).toNat c))) : r = r2 ∧ zK σ' τ' := by
  obtain ⟨ok, har, hE, h9, h60⟩ := id J
  obtain ⟨⟨hw, hs, ht, h4, h5, h6, hwc, hlc⟩, ⟨h7, hdd⟩, hmp, oS1, oW1, oA1, oT1, oB1⟩ := id ok
  have hN := zHw_N hw
  try simp only [cN hE, cIsA hE, cRp hE, cIp hE, cSn hE, cSv hE, cWt hE, cOf hE, cLy hE, cEy hE, cYf hE, cYw hE, cYt hE, cLm hE, cCt hE, cNi hE, cNs hE, cWs hE, cGv hE, cRt hE, cBl hE, e_0 hE, e_1 hE, e_2 hE, e_3 hE, e_4 hE, e_5 hE, e_6 hE, e_7 hE, e_8 hE, e_10 hE, e_11 hE, e_12 hE, e_13 hE, e_14 hE, e_15 hE, e_16 hE, e_17 hE, e_18 hE, e_19 hE, e_20 hE] at hM
  rcases hX with ⟨n1, rfl, rfl⟩ | ⟨p1, rfl, a, b0, b1, b2, b4, b5, b6, b8, b10, b12, b31, b32, b36, bt, b9⟩ <;> rcases hM with ⟨n2, rfl, rfl⟩ | ⟨p2, rfl, c, d0, d1, d2, d4, d5, d6, d8, d10, d12, d60, d9⟩
  · exact ⟨rfl, J.k⟩
  · exact absurd p2 n1
  · exact absurd p1 n2
  · have eN := zN_lay b0 b1 b2
    refine ⟨rfl, zJn.k (jn_mk J a c (fun k hk hn => ?_) (okX_lay p1 a b0 b1 b2 b4 b5 b6 b8 b10 b12 b31 b32 b36 bt b9 hs ⟨h7, hdd⟩ oA1.1 oA1.2.2.1 oT1 oB1) (fun i => by rw [a 51 (by decide), a 49 (by decide)]; exact har i) (fun c h0 h1 => by rw [eN] at h1; rw [b9 c h0 h1, d9 c h0 h1]) (by rw [d60, eN]; rfl))⟩
    exact hc_lay hk hn (d0.trans b0.symm) (d1.trans b1.symm) (d2.trans b2.symm) (d4.trans b4.symm) (d5.trans b5.symm) (d6.trans b6.symm) (d8.trans b8.symm) (d10.trans b10.symm) (d12.trans b12.symm)
set_option maxRecDepth 20000 in
set_option maxHeartbeats 2000000 in
theorem j_wall {σ τ : zMem} {a b s : Int} {r r2 : Int} (J : zJn σ τ) (ha : -2147483648 ≤ a ∧ a < 2147483648) (hb : -2147483648 ≤ b ∧ b < 2147483648) (h01 : s = 0 ∨ s = 1) {σ' τ' : zMem} (hX : ((¬ ((0 ≤ a ∧ a < zN σ) ∧ (0 ≤ b ∧ b < zN σ) ∧ (a / (σ 1 0 * σ 2 0) = b / (σ 1 0 * σ 2 0) ∧ ((a % σ 1 0 = b % σ 1 0 ∧ (a / σ 1 0 % σ 2 0 - b / σ 1 0 % σ 2 0 = 1 ∨ a / σ 1 0 % σ 2 0 - b / σ 1 0 % σ 2 0 = -1)) ∨ (a / σ 1 0 % σ 2 0 = b / σ 1 0 % σ 2 0 ∧ (a % σ 1 0 - b % σ 1 0 = 1 ∨ a % σ 1 0 - b % σ 1 0 = -1))))) ∧ r = -2 ∧ σ' = σ) ∨ (((0 ≤ a ∧ a < zN σ) ∧ (0 ≤ b ∧ b < zN σ) ∧ (a / (σ 1 0 * σ 2 0) = b / (σ 1 0 * σ 2 0) ∧ ((a % σ 1 0 = b % σ 1 0 ∧ (a / σ 1 0 % σ 2 0 - b / σ 1 0 % σ 2 0 = 1 ∨ a / σ 1 0 % σ 2 0 - b / σ 1 0 % σ 2 0 = -1)) ∨ (a / σ 1 0 % σ 2 0 = b / σ 1 0 % σ 2 0 ∧ (a % σ 1 0 - b % σ 1 0 = 1 ∨ a % σ 1 0 - b % σ 1 0 = -1))))) ∧ ((σ (zKw σ (min a b) (max a b)) (min a b) = s ∧ r = 0 ∧ σ' = σ) ∨ (¬ σ (zKw σ (min a b) (max a b)) (min a b) = s ∧ r = 1 ∧ zE σ' (zS (zS σ (zKw σ (min a b) (max a b)) (zU (σ (zKw σ (min a b) (max a b))) (min a b) s)) 31 (zC (σ 31 0 + (2 * s - 1)))) [33] ∧ zTb σ'))))) (hM : (((¬ ((0 ≤ a ∧ a < zN τ) ∧ (0 ≤ b ∧ b < zN τ)) ∨ (¬ zRt τ (min a b) (max a b) ∧ ¬ zBl τ (min a b) (max a b))) ∧ r2 = -2 ∧ τ' = τ) ∨ (((0 ≤ a ∧ a < zN τ) ∧ (0 ≤ b ∧ b < zN τ)) ∧ zRt τ (min a b) (max a b) ∧ (r2 = if τ 4 (min a b) = s then 0 else 1) ∧ τ' = zS τ 4 (zU (τ 4) (min a b) s)) ∨ (((0 ≤ a ∧ a < zN τ) ∧ (0 ≤ b ∧ b < zN τ)) ∧ ¬ zRt τ (min a b) (max a b) ∧ zBl τ (min a b) (max a b) ∧ (r2 = if τ 5 (min a b) = s then 0 else 1) ∧ τ' = zS τ 5 (zU (τ 5) (min a b) s)))) : r = r2 ∧ zK σ' τ' := by
  obtain ⟨ok, har, hE, h9, h60⟩ := id J
  obtain ⟨⟨hw, hs, ht, h4, h5, h6, hwc, hlc⟩, ⟨h7, hdd⟩, hmp, oS1, oW1, oA1, oT1, oB1⟩ := id ok
  have hN := zHw_N hw
  rw [cRt hE, cBl hE, cN hE, e_4 hE, e_5 hE] at hM
  rcases hX with ⟨n1, rfl, rfl⟩ | ⟨⟨ca, cb, q⟩, hX⟩
  · rcases hM with ⟨_, rfl, rfl⟩ | ⟨⟨ca, cb⟩, m1, _⟩ | ⟨⟨ca, cb⟩, _, m1, _⟩
    · exact ⟨rfl, J.k⟩
    · have := (zWl hw ca cb).1.mp m1
      exact absurd ⟨ca, cb, this.1, Or.inr ⟨this.2.1, this.2.2⟩⟩ n1
    · have := (zWl hw ca cb).2.mp m1
      exact absurd ⟨ca, cb, this.1, Or.inl ⟨this.2.1, this.2.2⟩⟩ n1
  · obtain ⟨w1, w2⟩ := zWl hw ca cb
    have clo : 0 ≤ min a b ∧ min a b < zN σ := by omega
    rcases hM with ⟨m1, rfl, rfl⟩ | ⟨_, m1, rfl, rfl⟩ | ⟨_, m1, m2, rfl, rfl⟩
    · rcases m1 with m1 | ⟨m1, m2⟩
      · exact absurd ⟨ca, cb⟩ m1
      · rcases q.2 with g | g
        · exact absurd (w2.mpr ⟨q.1, g.1, g.2⟩) m2
        · exact absurd (w1.mpr ⟨q.1, g.1, g.2⟩) m1
    · rw [show zKw σ (min a b) (max a b) = 4 from if_pos m1.2.1] at hX
      rcases hX with ⟨g, rfl, rfl⟩ | ⟨g, rfl, e, et⟩
      · rw [if_pos g]
        exact ⟨rfl, zJn.k (by rw [zS_eq (fun i => by rw [e_4 hE]; exact zU_same g i)]; exact J)⟩
      · rw [if_neg g]
        have E1 : zE σ' σ [4, 31, 33] := zE_tr (zE_mo e (by decide)) (zE_set (zE_set zE_rf (by decide)) (by decide))
        refine ⟨rfl, zJn.k (jn_mk J E1 (l2 := [4]) (zE_set zE_rf (by decide)) (fun k hk hn => ?_) (okX_w4 ok clo h01 g e et) (fun i => by rw [E1 51 (by decide), E1 49 (by decide)]; exact har i) (fun c h0 h1 => by rw [E1 9 (by decide)]; exact h9 c h0 (by rw [← zN_E E1 (by decide) (by decide) (by decide)]; exact h1)) (by rw [zN_E E1 (by decide) (by decide) (by decide)]; exact h60))⟩
        simp only [List.mem_cons, List.not_mem_nil, or_false] at hk
        rcases hk with (rfl | rfl | rfl) | rfl
        · exact (zS_s τ 4 _).trans (e 4 (by decide)).symm
        · exact absurd (by decide) hn
        · exact absurd (by decide) hn
        · exact (zS_s τ 4 _).trans (e 4 (by decide)).symm
    · rw [show zKw σ (min a b) (max a b) = 5 from if_neg (by omega)] at hX
      rcases hX with ⟨g, rfl, rfl⟩ | ⟨g, rfl, e, et⟩
      · rw [if_pos g]
        exact ⟨rfl, zJn.k (by rw [zS_eq (fun i => by rw [e_5 hE]; exact zU_same g i)]; exact J)⟩
      · rw [if_neg g]
        have E1 : zE σ' σ [5, 31, 33] := zE_tr (zE_mo e (by decide)) (zE_set (zE_set zE_rf (by decide)) (by decide))
        refine ⟨rfl, zJn.k (jn_mk J E1 (l2 := [5]) (zE_set zE_rf (by decide)) (fun k hk hn => ?_) (okX_w5 ok clo h01 g e et) (fun i => by rw [E1 51 (by decide), E1 49 (by decide)]; exact har i) (fun c h0 h1 => by rw [E1 9 (by decide)]; exact h9 c h0 (by rw [← zN_E E1 (by decide) (by decide) (by decide)]; exact h1)) (by rw [zN_E E1 (by decide) (by decide) (by decide)]; exact h60))⟩
        simp only [List.mem_cons, List.not_mem_nil, or_false] at hk
        rcases hk with (rfl | rfl | rfl) | rfl
        · exact (zS_s τ 5 _).trans (e 5 (by decide)).symm
        · exact absurd (by decide) hn
        · exact absurd (by decide) hn
        · exact (zS_s τ 5 _).trans (e 5 (by decide)).symm
set_option maxRecDepth 20000 in
set_option maxHeartbeats 2000000 in
theorem j_lift {σ τ : zMem} {x y s : Int} {r r2 : Int} (J : zJn σ τ) (hx : -2147483648 ≤ x ∧ x < 2147483648) (hy : -2147483648 ≤ y ∧ y < 2147483648) (h01 : s = 0 ∨ s = 1) {σ' τ' : zMem} (hX : ((¬ ((0 ≤ x ∧ x < σ 1 0) ∧ (0 ≤ y ∧ y < σ 2 0)) ∧ r = -2 ∧ σ' = σ) ∨ (((0 ≤ x ∧ x < σ 1 0) ∧ (0 ≤ y ∧ y < σ 2 0)) ∧ ((σ 6 (y * σ 1 0 + x) = s ∧ r = 0 ∧ σ' = σ) ∨ (¬ σ 6 (y * σ 1 0 + x) = s ∧ r = 1 ∧ zE σ' (zS (zS σ 6 (zU (σ 6) (y * σ 1 0 + x) s)) 32 (zC (σ 32 0 + (2 * s - 1)))) [33] ∧ zTb σ'))))) (hM : ((¬ ((0 ≤ x ∧ x < τ 1 0) ∧ (0 ≤ y ∧ y < τ 2 0)) ∧ r2 = -2 ∧ τ' = τ) ∨ (((0 ≤ x ∧ x < τ 1 0) ∧ (0 ≤ y ∧ y < τ 2 0)) ∧ (r2 = if τ 6 (y * τ 1 0 + x) = s then 0 else 1) ∧ τ' = zS τ 6 (zU (τ 6) (y * τ 1 0 + x) s)))) : r = r2 ∧ zK σ' τ' := by
  obtain ⟨ok, har, hE, h9, h60⟩ := id J
  obtain ⟨⟨hw, hs, ht, h4, h5, h6, hwc, hlc⟩, ⟨h7, hdd⟩, hmp, oS1, oW1, oA1, oT1, oB1⟩ := id ok
  have hN := zHw_N hw
  try simp only [cN hE, cIsA hE, cRp hE, cIp hE, cSn hE, cSv hE, cWt hE, cOf hE, cLy hE, cEy hE, cYf hE, cYw hE, cYt hE, cLm hE, cCt hE, cNi hE, cNs hE, cWs hE, cGv hE, cRt hE, cBl hE, e_0 hE, e_1 hE, e_2 hE, e_3 hE, e_4 hE, e_5 hE, e_6 hE, e_7 hE, e_8 hE, e_10 hE, e_11 hE, e_12 hE, e_13 hE, e_14 hE, e_15 hE, e_16 hE, e_17 hE, e_18 hE, e_19 hE, e_20 hE] at hM
  rcases hX with ⟨n1, rfl, rfl⟩ | ⟨p1, hX⟩ <;> rcases hM with ⟨n2, rfl, rfl⟩ | ⟨p2, hM⟩
  · exact ⟨rfl, J.k⟩
  · exact absurd p2 n1
  · exact absurd p1 n2
  · obtain ⟨rfl, rfl⟩ := hM
    have hpl := zPlace hw p1.1 p1.2
    rcases hX with ⟨g, rfl, rfl⟩ | ⟨g, rfl, e, et⟩
    · rw [if_pos g]
      exact ⟨rfl, zJn.k (by rw [zS_eq (fun i => by rw [e_6 hE]; exact zU_same g i)]; exact J)⟩
    · rw [if_neg g]
      have E1 : zE σ' σ [6, 32, 33] := zE_tr (zE_mo e (by decide)) (zE_set (zE_set zE_rf (by decide)) (by decide))
      refine ⟨rfl, zJn.k (jn_mk J E1 (l2 := [6]) (zE_set zE_rf (by decide)) (fun k hk hn => ?_) (okX_l6 ok hpl h01 g e et) (fun i => by rw [E1 51 (by decide), E1 49 (by decide)]; exact har i) (fun c h0 h1 => by rw [E1 9 (by decide)]; exact h9 c h0 (by rw [← zN_E E1 (by decide) (by decide) (by decide)]; exact h1)) (by rw [zN_E E1 (by decide) (by decide) (by decide)]; exact h60))⟩
      simp only [List.mem_cons, List.not_mem_nil, or_false] at hk
      rcases hk with (rfl | rfl | rfl) | rfl
      · exact (zS_s τ 6 _).trans (e 6 (by decide)).symm
      · exact absurd (by decide) hn
      · exact absurd (by decide) hn
      · exact (zS_s τ 6 _).trans (e 6 (by decide)).symm
set_option maxRecDepth 20000 in
set_option maxHeartbeats 2000000 in
theorem j_stay {σ τ : zMem} {s : Int} {r r2 : Int} (J : zJn σ τ) (hs : -2147483648 ≤ s ∧ s < 2147483648) {σ' τ' : zMem} (hX : ((¬ (0 ≤ s ∧ s ≤ 9) ∧ r = -2 ∧ σ' = σ) ∨ ((0 ≤ s ∧ s ≤ 9) ∧ r = σ 3 0 ∧ zE σ' (zS σ 3 (zC s)) [33] ∧ zTb σ'))) (hM : ((¬ (0 ≤ s ∧ s ≤ 9) ∧ r2 = -2 ∧ τ' = τ) ∨ ((0 ≤ s ∧ s ≤ 9) ∧ r2 = τ 3 0 ∧ τ' = zS τ 3 (zC s)))) : r = r2 ∧ zK σ' τ' := by
  obtain ⟨ok, har, hE, h9, h60⟩ := id J
  obtain ⟨⟨hw, hs, ht, h4, h5, h6, hwc, hlc⟩, ⟨h7, hdd⟩, hmp, oS1, oW1, oA1, oT1, oB1⟩ := id ok
  have hN := zHw_N hw
  try simp only [cN hE, cIsA hE, cRp hE, cIp hE, cSn hE, cSv hE, cWt hE, cOf hE, cLy hE, cEy hE, cYf hE, cYw hE, cYt hE, cLm hE, cCt hE, cNi hE, cNs hE, cWs hE, cGv hE, cRt hE, cBl hE, e_0 hE, e_1 hE, e_2 hE, e_3 hE, e_4 hE, e_5 hE, e_6 hE, e_7 hE, e_8 hE, e_10 hE, e_11 hE, e_12 hE, e_13 hE, e_14 hE, e_15 hE, e_16 hE, e_17 hE, e_18 hE, e_19 hE, e_20 hE] at hM
  rcases hX with ⟨n1, rfl, rfl⟩ | ⟨p1, hX⟩ <;> rcases hM with ⟨n2, rfl, rfl⟩ | ⟨p2, hM⟩
  · exact ⟨rfl, J.k⟩
  · exact absurd p2 n1
  · exact absurd p1 n2
  · obtain ⟨rfl, e, et⟩ := hX
    obtain ⟨rfl, rfl⟩ := hM
    have E1 : zE σ' σ [3, 33] := zE_tr (zE_mo e (by decide)) (zE_set zE_rf (by decide))
    refine ⟨rfl, zJn.k (jn_mk J E1 (l2 := [3]) (zE_set zE_rf (by decide)) (fun k hk hn => ?_) ⟨oH_mk E1 (by decide) ⟨hw, hs, ht, h4, h5, h6, hwc, hlc⟩ (by rw [e 3 (by decide)]; exact p1) et, oD_E E1 (by decide) ⟨h7, hdd⟩, zMp_E E1 (by decide) hmp, oS_E E1 (by decide) oS1, oW_E E1 (by decide) oW1, oA_E E1 (by decide) oA1, oT_E E1 (by decide) oT1, oB_E E1 (by decide) oB1⟩ (fun i => by rw [E1 51 (by decide), E1 49 (by decide)]; exact har i) (fun c h0 h1 => by rw [E1 9 (by decide)]; exact h9 c h0 (by rw [← zN_E E1 (by decide) (by decide) (by decide)]; exact h1)) (by rw [zN_E E1 (by decide) (by decide) (by decide)]; exact h60))⟩
    simp only [List.mem_cons, List.not_mem_nil, or_false] at hk
    rcases hk with (rfl | rfl) | rfl
    · exact (zS_s τ 3 _).trans (e 3 (by decide)).symm
    · exact absurd (by decide) hn
    · exact (zS_s τ 3 _).trans (e 3 (by decide)).symm
set_option maxRecDepth 20000 in
set_option maxHeartbeats 2000000 in
theorem j_step {σ τ : zMem} {a b : Int} {r r2 : Int} (J : zJn σ τ) (ha : -2147483648 ≤ a ∧ a < 2147483648) (hb : -2147483648 ≤ b ∧ b < 2147483648) (hX : ((¬ ((0 ≤ a ∧ a < zN σ) ∧ (0 ≤ b ∧ b < zN σ)) ∧ r = -2) ∨ (((0 ≤ a ∧ a < zN σ) ∧ (0 ≤ b ∧ b < zN σ)) ∧ ((∃ d, 0 ≤ d ∧ d < 7 ∧ σ 33 (a * 7 + d) = b ∧ (∀ j, 0 ≤ j → j < d → σ 33 (a * 7 + j) ≠ b) ∧ r = zLik σ d) ∨ ((∀ d, 0 ≤ d → d < 7 → σ 33 (a * 7 + d) ≠ b) ∧ r = 0))))) (hM : ((¬ ((0 ≤ a ∧ a < zN τ) ∧ (0 ≤ b ∧ b < zN τ)) ∧ r2 = -2) ∨ (((0 ≤ a ∧ a < zN τ) ∧ (0 ≤ b ∧ b < zN τ)) ∧ r2 = zLy τ a b))) : r = r2 := by
  obtain ⟨ok, har, hE, h9, h60⟩ := id J
  obtain ⟨⟨hw, hs, ht, h4, h5, h6, hwc, hlc⟩, ⟨h7, hdd⟩, hmp, oS1, oW1, oA1, oT1, oB1⟩ := id ok
  have hN := zHw_N hw
  try simp only [cN hE, cIsA hE, cRp hE, cIp hE, cSn hE, cSv hE, cWt hE, cOf hE, cLy hE, cEy hE, cYf hE, cYw hE, cYt hE, cLm hE, cCt hE, cNi hE, cNs hE, cWs hE, cGv hE, cRt hE, cBl hE, e_0 hE, e_1 hE, e_2 hE, e_3 hE, e_4 hE, e_5 hE, e_6 hE, e_7 hE, e_8 hE, e_10 hE, e_11 hE, e_12 hE, e_13 hE, e_14 hE, e_15 hE, e_16 hE, e_17 hE, e_18 hE, e_19 hE, e_20 hE] at hM
  rcases hX with ⟨n1, rfl⟩ | ⟨p1, hX⟩ <;> rcases hM with ⟨n2, rfl⟩ | ⟨p2, hM⟩
  · rfl
  · exact absurd p2 n1
  · exact absurd p1 n2
  · rw [hM]
    exact zSt_e hw hs ht p1.1 p1.2 hX
set_option maxRecDepth 20000 in
set_option maxHeartbeats 2000000 in
theorem j_far {σ τ : zMem} {a b : Int} {r r2 : Int} (J : zJn σ τ) (ha : -2147483648 ≤ a ∧ a < 2147483648) (hb : -2147483648 ≤ b ∧ b < 2147483648) {σ' τ' : zMem} (hX : ((¬ ((0 ≤ a ∧ a < zN σ) ∧ (0 ≤ b ∧ b < zN σ)) ∧ r = -2 ∧ σ' = σ) ∨ (((0 ≤ a ∧ a < zN σ) ∧ (0 ≤ b ∧ b < zN σ)) ∧ zE σ' σ [34, 35] ∧ zFr (zEd (zN σ) (zTa σ)) a b r))) (hM : ((¬ ((0 ≤ a ∧ a < zN τ) ∧ (0 ≤ b ∧ b < zN τ)) ∧ r2 = -2 ∧ τ' = τ) ∨ (((0 ≤ a ∧ a < zN τ) ∧ (0 ≤ b ∧ b < zN τ)) ∧ zE τ' τ [61] ∧ zFr (zEy τ) a b r2))) : r = r2 ∧ zK σ' τ' := by
  obtain ⟨ok, har, hE, h9, h60⟩ := id J
  obtain ⟨⟨hw, hs, ht, h4, h5, h6, hwc, hlc⟩, ⟨h7, hdd⟩, hmp, oS1, oW1, oA1, oT1, oB1⟩ := id ok
  have hN := zHw_N hw
  try simp only [cN hE, cIsA hE, cRp hE, cIp hE, cSn hE, cSv hE, cWt hE, cOf hE, cLy hE, cEy hE, cYf hE, cYw hE, cYt hE, cLm hE, cCt hE, cNi hE, cNs hE, cWs hE, cGv hE, cRt hE, cBl hE, e_0 hE, e_1 hE, e_2 hE, e_3 hE, e_4 hE, e_5 hE, e_6 hE, e_7 hE, e_8 hE, e_10 hE, e_11 hE, e_12 hE, e_13 hE, e_14 hE, e_15 hE, e_16 hE, e_17 hE, e_18 hE, e_19 hE, e_20 hE] at hM
  rcases hX with ⟨n1, rfl, rfl⟩ | ⟨p1, hX⟩ <;> rcases hM with ⟨n2, rfl, rfl⟩ | ⟨p2, hM⟩
  · exact ⟨rfl, J.k⟩
  · exact absurd p2 n1
  · exact absurd p1 n2
  · obtain ⟨e1, f1⟩ := hX
    obtain ⟨e2, f2⟩ := hM
    exact ⟨zFr_u (zFr_cg (zEd_e hw ht) f1) f2, (jn_f J e1 e2).k⟩
set_option maxRecDepth 20000 in
set_option maxHeartbeats 2000000 in
theorem j_dead {σ τ : zMem} {k s : Int} {r r2 : Int} (J : zJn σ τ) (hk : -2147483648 ≤ k ∧ k < 2147483648) (h01 : s = 0 ∨ s = 1) {σ' τ' : zMem} (hX : ((¬ (0 ≤ k ∧ k < 8) ∧ r = -2 ∧ σ' = σ) ∨ ((0 ≤ k ∧ k < 8) ∧ r = 1 ∧ σ' = zS σ 30 (zC (zDb (zU (σ 7) k s)))))) (hM : ((¬ (0 ≤ k ∧ k < 8) ∧ r2 = -2 ∧ τ' = τ) ∨ ((0 ≤ k ∧ k < 8) ∧ r2 = 1 ∧ τ' = zS τ 7 (zU (τ 7) k s)))) : r = r2 ∧ zK σ' τ' := by
  obtain ⟨ok, har, hE, h9, h60⟩ := id J
  obtain ⟨⟨hw, hs, ht, h4, h5, h6, hwc, hlc⟩, ⟨h7, hdd⟩, hmp, oS1, oW1, oA1, oT1, oB1⟩ := id ok
  have hN := zHw_N hw
  try simp only [cN hE, cIsA hE, cRp hE, cIp hE, cSn hE, cSv hE, cWt hE, cOf hE, cLy hE, cEy hE, cYf hE, cYw hE, cYt hE, cLm hE, cCt hE, cNi hE, cNs hE, cWs hE, cGv hE, cRt hE, cBl hE, e_0 hE, e_1 hE, e_2 hE, e_3 hE, e_4 hE, e_5 hE, e_6 hE, e_7 hE, e_8 hE, e_10 hE, e_11 hE, e_12 hE, e_13 hE, e_14 hE, e_15 hE, e_16 hE, e_17 hE, e_18 hE, e_19 hE, e_20 hE] at hM
  rcases hX with ⟨n1, rfl, rfl⟩ | ⟨p1, hX⟩ <;> rcases hM with ⟨n2, rfl, rfl⟩ | ⟨p2, hM⟩
  · exact ⟨rfl, J.k⟩
  · exact absurd p2 n1
  · exact absurd p1 n2
  · obtain ⟨rfl, rfl⟩ := hX
    obtain ⟨rfl, rfl⟩ := hM
    have E1 : zE (zS (zS σ 30 (zC (zDb (zU (σ 7) k s)))) 7 (zU (σ 7) k s)) σ [7, 30] := zE_set (zE_set zE_rf (by decide)) (by decide)
    refine ⟨rfl, zS (zS σ 30 (zC (zDb (zU (σ 7) k s)))) 7 (zU (σ 7) k s), _, fun _ _ => rfl, fun _ _ => rfl, jn_mk J E1 (l2 := [7]) (zE_set zE_rf (by decide)) (fun j hk hn => ?_) ⟨oH_E E1 (by decide) ⟨hw, hs, ht, h4, h5, h6, hwc, hlc⟩, ⟨zBo_u h7 h01, rfl⟩, zMp_E E1 (by decide) hmp, oS_E E1 (by decide) oS1, oW_E E1 (by decide) oW1, oA_E E1 (by decide) oA1, oT_E E1 (by decide) oT1, oB_E E1 (by decide) oB1⟩ har h9 h60⟩
    simp only [List.mem_cons, List.not_mem_nil, or_false] at hk
    rcases hk with (rfl | rfl) | rfl
    · rfl
    · exact absurd (by decide) hn
    · rfl
set_option maxRecDepth 20000 in
set_option maxHeartbeats 2000000 in
theorem j_survey {σ τ : zMem} {z row c : Int} {r r2 : Int} (J : zJn σ τ) (hz : -2147483648 ≤ z ∧ z < 2147483648) (hrow : -2147483648 ≤ row ∧ row < 2147483648) (hc : -2147483648 ≤ c ∧ c < 2147483648) {σ' τ' : zMem} (hX : ((¬ ((0 ≤ z ∧ z < 4) ∧ (0 ≤ c ∧ c < zN σ)) ∧ r = -2 ∧ σ' = σ) ∨ (((0 ≤ z ∧ z < 4) ∧ (0 ≤ c ∧ c < zN σ)) ∧ ((¬ zRp σ z row = 0 ∧ r = -10 - zRp σ z row ∧ σ' = zS σ 19 (zC (zRp σ z row))) ∨ (zRp σ z row = 0 ∧ r = zSn σ z row 8 ∧ σ' = zS σ 8 (zSv σ z row c 8)))))) (hM : ((¬ ((0 ≤ z ∧ z < 4) ∧ (0 ≤ c ∧ c < zN τ)) ∧ r2 = -2 ∧ τ' = τ) ∨ (((0 ≤ z ∧ z < 4) ∧ (0 ≤ c ∧ c < zN τ)) ∧ ((¬ zRp τ z row = 0 ∧ r2 = -10 - zRp τ z row ∧ τ' = zS τ 19 (zC (zRp τ z row))) ∨ (zRp τ z row = 0 ∧ r2 = zSn τ z row 8 ∧ τ' = zS τ 8 (zSv τ z row c 8)))))) : r = r2 ∧ zK σ' τ' := by
  obtain ⟨ok, har, hE, h9, h60⟩ := id J
  obtain ⟨⟨hw, hs, ht, h4, h5, h6, hwc, hlc⟩, ⟨h7, hdd⟩, hmp, oS1, oW1, oA1, oT1, oB1⟩ := id ok
  have hN := zHw_N hw
  try simp only [cN hE, cIsA hE, cRp hE, cIp hE, cSn hE, cSv hE, cWt hE, cOf hE, cLy hE, cEy hE, cYf hE, cYw hE, cYt hE, cLm hE, cCt hE, cNi hE, cNs hE, cWs hE, cGv hE, cRt hE, cBl hE, e_0 hE, e_1 hE, e_2 hE, e_3 hE, e_4 hE, e_5 hE, e_6 hE, e_7 hE, e_8 hE, e_10 hE, e_11 hE, e_12 hE, e_13 hE, e_14 hE, e_15 hE, e_16 hE, e_17 hE, e_18 hE, e_19 hE, e_20 hE] at hM
  rcases hX with ⟨n1, rfl, rfl⟩ | ⟨p1, hX⟩ <;> rcases hM with ⟨n2, rfl, rfl⟩ | ⟨p2, hM⟩
  · exact ⟨rfl, J.k⟩
  · exact absurd p2 n1
  · exact absurd p1 n2
  · rcases hX with ⟨q1, rfl, rfl⟩ | ⟨q1, hX⟩ <;> rcases hM with ⟨q2, rfl, rfl⟩ | ⟨q2, hM⟩
    · exact ⟨rfl, (jn_19 J _).k⟩
    · exact absurd q2 q1
    · exact absurd q1 q2
    · obtain ⟨rfl, rfl⟩ := hX
      obtain ⟨rfl, rfl⟩ := hM
      exact ⟨rfl, (jn_u J 8 _ (by decide) (okX_8 ok (zSv_b hmp z row c 8))).k⟩
set_option maxRecDepth 20000 in
set_option maxHeartbeats 2000000 in
theorem j_weight {σ τ : zMem} {k c v : Int} {r r2 : Int} (J : zJn σ τ) (hk : -2147483648 ≤ k ∧ k < 2147483648) (hc : -2147483648 ≤ c ∧ c < 2147483648) (hv : -2147483648 ≤ v ∧ v < 2147483648) (hX : ((¬ ((0 ≤ k ∧ k < 8) ∧ (0 ≤ c ∧ c < zN σ) ∧ (-1 ≤ v ∧ v ≤ 9)) ∧ r = -2) ∨ (((0 ≤ k ∧ k < 8) ∧ (0 ≤ c ∧ c < zN σ) ∧ (-1 ≤ v ∧ v ≤ 9)) ∧ r = zWt σ k c v))) (hM : ((¬ ((0 ≤ k ∧ k < 8) ∧ (0 ≤ c ∧ c < zN τ) ∧ (-1 ≤ v ∧ v ≤ 9)) ∧ r2 = -2) ∨ (((0 ≤ k ∧ k < 8) ∧ (0 ≤ c ∧ c < zN τ) ∧ (-1 ≤ v ∧ v ≤ 9)) ∧ r2 = zWt τ k c v))) : r = r2 := by
  obtain ⟨ok, har, hE, h9, h60⟩ := id J
  obtain ⟨⟨hw, hs, ht, h4, h5, h6, hwc, hlc⟩, ⟨h7, hdd⟩, hmp, oS1, oW1, oA1, oT1, oB1⟩ := id ok
  have hN := zHw_N hw
  try simp only [cN hE, cIsA hE, cRp hE, cIp hE, cSn hE, cSv hE, cWt hE, cOf hE, cLy hE, cEy hE, cYf hE, cYw hE, cYt hE, cLm hE, cCt hE, cNi hE, cNs hE, cWs hE, cGv hE, cRt hE, cBl hE, e_0 hE, e_1 hE, e_2 hE, e_3 hE, e_4 hE, e_5 hE, e_6 hE, e_7 hE, e_8 hE, e_10 hE, e_11 hE, e_12 hE, e_13 hE, e_14 hE, e_15 hE, e_16 hE, e_17 hE, e_18 hE, e_19 hE, e_20 hE] at hM
  rcases hX with ⟨n1, rfl⟩ | ⟨p1, hX⟩ <;> rcases hM with ⟨n2, rfl⟩ | ⟨p2, hM⟩
  · rfl
  · exact absurd p2 n1
  · exact absurd p1 n2
  · rw [hX, hM]
set_option maxRecDepth 20000 in
set_option maxHeartbeats 2000000 in
theorem j_offset {σ τ : zMem} {z row c : Int} {r r2 : Int} (J : zJn σ τ) (hz : -2147483648 ≤ z ∧ z < 2147483648) (hrow : -2147483648 ≤ row ∧ row < 2147483648) (hc : -2147483648 ≤ c ∧ c < 2147483648) {σ' τ' : zMem} (hX : ((¬ ((0 ≤ z ∧ z < 4) ∧ (0 ≤ c ∧ c < zN σ)) ∧ r = -100 ∧ σ' = σ) ∨ (((0 ≤ z ∧ z < 4) ∧ (0 ≤ c ∧ c < zN σ)) ∧ ((¬ zRp σ z row = 0 ∧ r = -10 - zRp σ z row ∧ σ' = zS σ 19 (zC (zRp σ z row))) ∨ (zRp σ z row = 0 ∧ r = (zOf σ z row c 4).1 ∧ σ' = σ))))) (hM : ((¬ ((0 ≤ z ∧ z < 4) ∧ (0 ≤ c ∧ c < zN τ)) ∧ r2 = -100 ∧ τ' = τ) ∨ (((0 ≤ z ∧ z < 4) ∧ (0 ≤ c ∧ c < zN τ)) ∧ ((¬ zRp τ z row = 0 ∧ r2 = -10 - zRp τ z row ∧ τ' = zS τ 19 (zC (zRp τ z row))) ∨ (zRp τ z row = 0 ∧ r2 = (zOf τ z row c 4).1 ∧ τ' = τ))))) : r = r2 ∧ zK σ' τ' := by
  obtain ⟨ok, har, hE, h9, h60⟩ := id J
  obtain ⟨⟨hw, hs, ht, h4, h5, h6, hwc, hlc⟩, ⟨h7, hdd⟩, hmp, oS1, oW1, oA1, oT1, oB1⟩ := id ok
  have hN := zHw_N hw
  try simp only [cN hE, cIsA hE, cRp hE, cIp hE, cSn hE, cSv hE, cWt hE, cOf hE, cLy hE, cEy hE, cYf hE, cYw hE, cYt hE, cLm hE, cCt hE, cNi hE, cNs hE, cWs hE, cGv hE, cRt hE, cBl hE, e_0 hE, e_1 hE, e_2 hE, e_3 hE, e_4 hE, e_5 hE, e_6 hE, e_7 hE, e_8 hE, e_10 hE, e_11 hE, e_12 hE, e_13 hE, e_14 hE, e_15 hE, e_16 hE, e_17 hE, e_18 hE, e_19 hE, e_20 hE] at hM
  rcases hX with ⟨n1, rfl, rfl⟩ | ⟨p1, hX⟩ <;> rcases hM with ⟨n2, rfl, rfl⟩ | ⟨p2, hM⟩
  · exact ⟨rfl, J.k⟩
  · exact absurd p2 n1
  · exact absurd p1 n2
  · rcases hX with ⟨q1, rfl, rfl⟩ | ⟨q1, hX⟩ <;> rcases hM with ⟨q2, rfl, rfl⟩ | ⟨q2, hM⟩
    · exact ⟨rfl, (jn_19 J _).k⟩
    · exact absurd q2 q1
    · exact absurd q1 q2
    · obtain ⟨rfl, rfl⟩ := hX
      obtain ⟨rfl, rfl⟩ := hM
      exact ⟨rfl, J.k⟩
set_option maxRecDepth 20000 in
set_option maxHeartbeats 2000000 in
theorem j_alike {σ τ : zMem}  {r r2 : Int} (J : zJn σ τ)  {σ' τ' : zMem} (hX : zE σ' σ [9, 36, 37, 38] ∧ σ' 36 = zC (zN σ) ∧ (∀ c, 0 ≤ c → c < zN σ → σ' 9 c = zWh (zC 1) (zN σ).toNat c) ∧ r = zWh (zC 1) (zN σ).toNat (zN σ - 1)) (hM : zE τ' τ [9, 62, 63] ∧ (∀ c : Int, 0 ≤ c → c < (zN σ).toNat → τ' 9 c = zWh (zC 1) (zN σ).toNat c) ∧ r2 = zWh (zC 1) (zN σ).toNat (((zN σ).toNat : Int) - 1)) : r = r2 ∧ zK σ' τ' := by
  obtain ⟨ok, har, hE, h9, h60⟩ := id J
  obtain ⟨⟨hw, hs, ht, h4, h5, h6, hwc, hlc⟩, ⟨h7, hdd⟩, hmp, oS1, oW1, oA1, oT1, oB1⟩ := id ok
  have hN := zHw_N hw
  try simp only [cN hE, cIsA hE, cRp hE, cIp hE, cSn hE, cSv hE, cWt hE, cOf hE, cLy hE, cEy hE, cYf hE, cYw hE, cYt hE, cLm hE, cCt hE, cNi hE, cNs hE, cWs hE, cGv hE, cRt hE, cBl hE, e_0 hE, e_1 hE, e_2 hE, e_3 hE, e_4 hE, e_5 hE, e_6 hE, e_7 hE, e_8 hE, e_10 hE, e_11 hE, e_12 hE, e_13 hE, e_14 hE, e_15 hE, e_16 hE, e_17 hE, e_18 hE, e_19 hE, e_20 hE] at hM
  have en : ((zN σ).toNat : Int) = zN σ := by omega
  obtain ⟨a, b36, b9, rfl⟩ := hX
  obtain ⟨c, d9, rfl⟩ := hM
  have K := zWh_ok (W := zC 1) (n := (zN σ).toNat) (by omega) (fun _ _ _ => by show (0 : Int) ≤ 1; decide) (by rw [zSum_1]; omega)
  rw [en]
  exact ⟨rfl, (jn_9 J a (by rw [b36]; rfl) c (by decide) (F := zWh (zC 1) (zN σ).toNat) b9 (fun c h0 h1 => d9 c h0 (by omega)) K).k⟩
set_option maxRecDepth 20000 in
set_option maxHeartbeats 2000000 in
theorem j_known {σ τ : zMem} {c : Int} {r r2 : Int} (J : zJn σ τ) (hc : -2147483648 ≤ c ∧ c < 2147483648) {σ' τ' : zMem} (hX : ((¬ (0 ≤ c ∧ c < zN σ) ∧ r = -2 ∧ σ' = σ) ∨ ((0 ≤ c ∧ c < zN σ) ∧ r = 1 ∧ σ' = zS σ 9 (zU (zC 0) c 1000000)))) (hM : ((¬ (0 ≤ c ∧ c < zN τ) ∧ r2 = -2 ∧ τ' = τ) ∨ ((0 ≤ c ∧ c < zN τ) ∧ r2 = 1 ∧ zE τ' τ [9] ∧ ∀ j, 0 ≤ j → j < zN τ → τ' 9 j = zU (zC 0) c 1000000 j))) : r = r2 ∧ zK σ' τ' := by
  obtain ⟨ok, har, hE, h9, h60⟩ := id J
  obtain ⟨⟨hw, hs, ht, h4, h5, h6, hwc, hlc⟩, ⟨h7, hdd⟩, hmp, oS1, oW1, oA1, oT1, oB1⟩ := id ok
  have hN := zHw_N hw
  try simp only [cN hE, cIsA hE, cRp hE, cIp hE, cSn hE, cSv hE, cWt hE, cOf hE, cLy hE, cEy hE, cYf hE, cYw hE, cYt hE, cLm hE, cCt hE, cNi hE, cNs hE, cWs hE, cGv hE, cRt hE, cBl hE, e_0 hE, e_1 hE, e_2 hE, e_3 hE, e_4 hE, e_5 hE, e_6 hE, e_7 hE, e_8 hE, e_10 hE, e_11 hE, e_12 hE, e_13 hE, e_14 hE, e_15 hE, e_16 hE, e_17 hE, e_18 hE, e_19 hE, e_20 hE] at hM
  rcases hX with ⟨n1, rfl, rfl⟩ | ⟨p1, hX⟩ <;> rcases hM with ⟨n2, rfl, rfl⟩ | ⟨p2, hM⟩
  · exact ⟨rfl, J.k⟩
  · exact absurd p2 n1
  · exact absurd p1 n2
  · obtain ⟨rfl, rfl⟩ := hX
    obtain ⟨rfl, c9, d9⟩ := hM
    refine ⟨rfl, (jn_9 J (zE_set zE_rf (by decide)) (by show σ 36 0 = _; exact oS1.1) c9 (by decide) (F := zU (zC 0) c 1000000) (fun _ _ _ => rfl) d9 ⟨fun j h0 h1 => ?_, ?_⟩).k⟩
    · unfold zU
      split
      · decide
      · show (0 : Int) ≤ 0 ∧ (0 : Int) ≤ 1000000
        decide
    · rw [zSum_U _ p1.1 (by omega), zSum_0 (F := zC 0) _ (fun _ _ _ => rfl)]
      rfl
set_option maxRecDepth 20000 in
set_option maxHeartbeats 2000000 in
theorem j_lead {σ τ : zMem} {n : Int} {r r2 : Int} (J : zJn σ τ) (hn : -2147483648 ≤ n ∧ n < 2147483648) {σ' τ' : zMem} (hX : ((¬ (1 ≤ n ∧ n ≤ 20) ∧ r = -2 ∧ σ' = σ) ∨ ((1 ≤ n ∧ n ≤ 20) ∧ zE σ' σ [9, 37, 38] ∧ (∀ c, 0 ≤ c → c < zN σ → σ' 9 c = zLn σ n.toNat c) ∧ r = zCs (zLn σ n.toNat) (zN σ).toNat))) (hM : ((¬ (1 ≤ n ∧ n ≤ 20) ∧ r2 = -2 ∧ τ' = τ) ∨ ((1 ≤ n ∧ n ≤ 20) ∧ zE τ' τ [9, 62, 63] ∧ (∀ c, 0 ≤ c → c < zN τ → τ' 9 c = zMn τ n.toNat c) ∧ r2 = zCs (zMn τ n.toNat) (zN τ).toNat))) : r = r2 ∧ zK σ' τ' := by
  obtain ⟨ok, har, hE, h9, h60⟩ := id J
  obtain ⟨⟨hw, hs, ht, h4, h5, h6, hwc, hlc⟩, ⟨h7, hdd⟩, hmp, oS1, oW1, oA1, oT1, oB1⟩ := id ok
  have hN := zHw_N hw
  try simp only [cN hE, cIsA hE, cRp hE, cIp hE, cSn hE, cSv hE, cWt hE, cOf hE, cLy hE, cEy hE, cYf hE, cYw hE, cYt hE, cLm hE, cCt hE, cNi hE, cNs hE, cWs hE, cGv hE, cRt hE, cBl hE, e_0 hE, e_1 hE, e_2 hE, e_3 hE, e_4 hE, e_5 hE, e_6 hE, e_7 hE, e_8 hE, e_10 hE, e_11 hE, e_12 hE, e_13 hE, e_14 hE, e_15 hE, e_16 hE, e_17 hE, e_18 hE, e_19 hE, e_20 hE] at hM
  rcases hX with ⟨n1, rfl, rfl⟩ | ⟨p1, hX⟩ <;> rcases hM with ⟨n2, rfl, rfl⟩ | ⟨p2, hM⟩
  · exact ⟨rfl, J.k⟩
  · exact absurd p2 n1
  · exact absurd p1 n2
  · obtain ⟨a, b9, rfl⟩ := hX
    obtain ⟨c, d9, rfl⟩ := hM
    have K := zLn_ok hw hs oS1.2.1 oS1.2.2 n.toNat
    have k1 := zLn_e hw hs ht oS1.2.1 oS1.2.2 n.toNat
    have k2 := cMn hE hw h9 n.toNat
    refine ⟨zCs_cg _ (fun c h0 h1 => by rw [k1 c h0 (by omega), k2 c h0 (by omega)]), (jn_9 J (zE_mo a (by decide)) (by rw [a 36 (by decide)]; exact oS1.1) c (by decide) (F := zLn σ n.toNat) b9 (fun c h0 h1 => by rw [d9 c h0 h1, k2 c h0 h1, k1 c h0 h1]) ⟨fun c h0 h1 => K.1 c h0 (by omega), K.2⟩).k⟩
set_option maxRecDepth 20000 in
set_option maxHeartbeats 2000000 in
theorem j_hear {σ τ : zMem} {z row o : Int} {r r2 : Int} (J : zJn σ τ) (hz : -2147483648 ≤ z ∧ z < 2147483648) (hrow : -2147483648 ≤ row ∧ row < 2147483648) (ho : -2147483648 ≤ o ∧ o < 2147483648) {σ' τ' : zMem} (hX : ((¬ ((0 ≤ z ∧ z < 4) ∧ (-4 ≤ o ∧ o ≤ 4)) ∧ r = -2 ∧ σ' = σ) ∨ (((0 ≤ z ∧ z < 4) ∧ (-4 ≤ o ∧ o ≤ 4)) ∧ ((¬ zRp σ z row = 0 ∧ r = -10 - zRp σ z row ∧ σ' = zS σ 19 (zC (zRp σ z row))) ∨ (zRp σ z row = 0 ∧ zSum (zHx σ z row o) (zN σ).toNat ≤ 0 ∧ r = -3 ∧ zE σ' σ [37, 38]) ∨ (zRp σ z row = 0 ∧ 0 < zSum (zHx σ z row o) (zN σ).toNat ∧ zE σ' σ [9, 37, 38] ∧ (∀ c, 0 ≤ c → c < zN σ → σ' 9 c = zWh (zHx σ z row o) (zN σ).toNat c) ∧ r = zCs (zWh (zHx σ z row o) (zN σ).toNat) (zN σ).toNat))))) (hM : ((¬ ((0 ≤ z ∧ z < 4) ∧ (-4 ≤ o ∧ o ≤ 4)) ∧ r2 = -2 ∧ τ' = τ) ∨ (((0 ≤ z ∧ z < 4) ∧ (-4 ≤ o ∧ o ≤ 4)) ∧ ((¬ zRp τ z row = 0 ∧ r2 = -10 - zRp τ z row ∧ τ' = zS τ 19 (zC (zRp τ z row))) ∨ (zRp τ z row = 0 ∧ zSum (zHx τ z row o) (zN τ).toNat ≤ 0 ∧ r2 = -3 ∧ zE τ' τ [62]) ∨ (zRp τ z row = 0 ∧ 0 < zSum (zHx τ z row o) (zN τ).toNat ∧ zE τ' τ [9, 62, 63] ∧ (∀ c, 0 ≤ c → c < zN τ → τ' 9 c = zWh (zHx τ z row o) (zN τ).toNat c) ∧ r2 = zCs (zWh (zHx τ z row o) (zN τ).toNat) (zN τ).toNat))))) : r = r2 ∧ zK σ' τ' := by
  obtain ⟨ok, har, hE, h9, h60⟩ := id J
  obtain ⟨⟨hw, hs, ht, h4, h5, h6, hwc, hlc⟩, ⟨h7, hdd⟩, hmp, oS1, oW1, oA1, oT1, oB1⟩ := id ok
  have hN := zHw_N hw
  try simp only [cN hE, cIsA hE, cRp hE, cIp hE, cSn hE, cSv hE, cWt hE, cOf hE, cLy hE, cEy hE, cYf hE, cYw hE, cYt hE, cLm hE, cCt hE, cNi hE, cNs hE, cWs hE, cGv hE, cRt hE, cBl hE, e_0 hE, e_1 hE, e_2 hE, e_3 hE, e_4 hE, e_5 hE, e_6 hE, e_7 hE, e_8 hE, e_10 hE, e_11 hE, e_12 hE, e_13 hE, e_14 hE, e_15 hE, e_16 hE, e_17 hE, e_18 hE, e_19 hE, e_20 hE] at hM
  rcases hX with ⟨n1, rfl, rfl⟩ | ⟨p1, hX⟩ <;> rcases hM with ⟨n2, rfl, rfl⟩ | ⟨p2, hM⟩
  · exact ⟨rfl, J.k⟩
  · exact absurd p2 n1
  · exact absurd p1 n2
  · have kx := fun c h0 h1 => cHx hE h9 z row o c h0 h1
    have ks : zSum (zHx τ z row o) (zN σ).toNat = zSum (zHx σ z row o) (zN σ).toNat := zSum_cg _ (fun c h0 h1 => kx c h0 (by omega))
    have kw : ∀ c, 0 ≤ c → c < zN σ → zWh (zHx τ z row o) (zN σ).toNat c = zWh (zHx σ z row o) (zN σ).toNat c := fun c h0 h1 => zWh_cg (by omega) (fun c h0 h1 => kx c h0 (by omega)) c h0 (by omega)
    rw [ks] at hM
    rcases hX with ⟨q1, rfl, rfl⟩ | ⟨q1, s1, rfl, a⟩ | ⟨q1, s1, a, b9, rfl⟩ <;> rcases hM with ⟨q2, rfl, rfl⟩ | ⟨q2, s2, rfl, c⟩ | ⟨q2, s2, c, d9, rfl⟩
    · exact ⟨rfl, (jn_19 J _).k⟩
    · exact absurd q2 q1
    · exact absurd q2 q1
    · exact absurd q1 q2
    · exact ⟨rfl, (jn_f J a c).k⟩
    · omega
    · exact absurd q1 q2
    · omega
    · have K := zWh_ok (W := zHx σ z row o) (n := (zN σ).toNat) (by omega) (fun c h0 h1 => by
        unfold zHx
        have := zHm_b hmp (s := z) (row := row) (o := o) (n := (zN σ).toNat) 8 c.toNat (by omega)
        rw [show ((c.toNat : Nat) : Int) = c by omega] at this
        exact Int.mul_nonneg this.1 (oS1.2.1 c h0 (by omega)).1) s1
      exact ⟨zCs_cg _ (fun c h0 h1 => (kw c h0 (by omega)).symm), (jn_9 J (zE_mo a (by decide)) (by rw [a 36 (by decide)]; exact oS1.1) c (by decide) b9 (fun c h0 h1 => by rw [d9 c h0 h1, kw c h0 h1]) K).k⟩
set_option maxRecDepth 20000 in
set_option maxHeartbeats 2000000 in
theorem j_share {σ τ : zMem} {c : Int} {r r2 : Int} (J : zJn σ τ) (hc : -2147483648 ≤ c ∧ c < 2147483648) (hX : ((¬ (0 ≤ c ∧ c < zN σ) ∧ r = -2) ∨ ((0 ≤ c ∧ c < zN σ) ∧ r = σ 9 c))) (hM : ((¬ (0 ≤ c ∧ c < zN τ) ∧ r2 = -2) ∨ ((0 ≤ c ∧ c < zN τ) ∧ r2 = τ 9 c))) : r = r2 := by
  obtain ⟨ok, har, hE, h9, h60⟩ := id J
  obtain ⟨⟨hw, hs, ht, h4, h5, h6, hwc, hlc⟩, ⟨h7, hdd⟩, hmp, oS1, oW1, oA1, oT1, oB1⟩ := id ok
  have hN := zHw_N hw
  try simp only [cN hE, cIsA hE, cRp hE, cIp hE, cSn hE, cSv hE, cWt hE, cOf hE, cLy hE, cEy hE, cYf hE, cYw hE, cYt hE, cLm hE, cCt hE, cNi hE, cNs hE, cWs hE, cGv hE, cRt hE, cBl hE, e_0 hE, e_1 hE, e_2 hE, e_3 hE, e_4 hE, e_5 hE, e_6 hE, e_7 hE, e_8 hE, e_10 hE, e_11 hE, e_12 hE, e_13 hE, e_14 hE, e_15 hE, e_16 hE, e_17 hE, e_18 hE, e_19 hE, e_20 hE] at hM
  rcases hX with ⟨n1, rfl⟩ | ⟨p1, hX⟩ <;> rcases hM with ⟨n2, rfl⟩ | ⟨p2, hM⟩
  · rfl
  · exact absurd p2 n1
  · exact absurd p1 n2
  · rw [hX, hM, h9 c p1.1 p1.2]
set_option maxRecDepth 20000 in
set_option maxHeartbeats 2000000 in
theorem j_likeliest {σ τ : zMem}  {r r2 : Int} (J : zJn σ τ)  (hX : r = zMx (σ 9) (zN σ).toNat) (hM : r2 = zMx (τ 9) (zN τ).toNat) : r = r2 := by
  obtain ⟨ok, har, hE, h9, h60⟩ := id J
  obtain ⟨⟨hw, hs, ht, h4, h5, h6, hwc, hlc⟩, ⟨h7, hdd⟩, hmp, oS1, oW1, oA1, oT1, oB1⟩ := id ok
  have hN := zHw_N hw
  try simp only [cN hE, cIsA hE, cRp hE, cIp hE, cSn hE, cSv hE, cWt hE, cOf hE, cLy hE, cEy hE, cYf hE, cYw hE, cYt hE, cLm hE, cCt hE, cNi hE, cNs hE, cWs hE, cGv hE, cRt hE, cBl hE, e_0 hE, e_1 hE, e_2 hE, e_3 hE, e_4 hE, e_5 hE, e_6 hE, e_7 hE, e_8 hE, e_10 hE, e_11 hE, e_12 hE, e_13 hE, e_14 hE, e_15 hE, e_16 hE, e_17 hE, e_18 hE, e_19 hE, e_20 hE] at hM
  rw [hX, hM]
  exact (zMx_cg _ (fun c h0 h1 => h9 c h0 (by omega))).symm
set_option maxRecDepth 20000 in
set_option maxHeartbeats 2000000 in
theorem j_within {σ τ : zMem} {f x0 x1 y0 y1 : Int} {r r2 : Int} (J : zJn σ τ) (hf : -2147483648 ≤ f ∧ f < 2147483648) (hx0 : -2147483648 ≤ x0 ∧ x0 < 2147483648) (hx1 : -2147483648 ≤ x1 ∧ x1 < 2147483648) (hy0 : -2147483648 ≤ y0 ∧ y0 < 2147483648) (hy1 : -2147483648 ≤ y1 ∧ y1 < 2147483648) (hX : ((¬ zIsA σ f x0 x1 y0 y1 ∧ r = -2) ∨ (zIsA σ f x0 x1 y0 y1 ∧ r = zW2 σ f x0 y0 (x1 - x0 + 1).toNat (y1 - y0 + 1).toNat))) (hM : ((¬ zIsA τ f x0 x1 y0 y1 ∧ r2 = -2) ∨ (zIsA τ f x0 x1 y0 y1 ∧ r2 = zSum (zFw τ f x0 x1 y0 y1) (zN τ).toNat))) : r = r2 := by
  obtain ⟨ok, har, hE, h9, h60⟩ := id J
  obtain ⟨⟨hw, hs, ht, h4, h5, h6, hwc, hlc⟩, ⟨h7, hdd⟩, hmp, oS1, oW1, oA1, oT1, oB1⟩ := id ok
  have hN := zHw_N hw
  try simp only [cN hE, cIsA hE, cRp hE, cIp hE, cSn hE, cSv hE, cWt hE, cOf hE, cLy hE, cEy hE, cYf hE, cYw hE, cYt hE, cLm hE, cCt hE, cNi hE, cNs hE, cWs hE, cGv hE, cRt hE, cBl hE, e_0 hE, e_1 hE, e_2 hE, e_3 hE, e_4 hE, e_5 hE, e_6 hE, e_7 hE, e_8 hE, e_10 hE, e_11 hE, e_12 hE, e_13 hE, e_14 hE, e_15 hE, e_16 hE, e_17 hE, e_18 hE, e_19 hE, e_20 hE] at hM
  rcases hX with ⟨n1, rfl⟩ | ⟨p1, hX⟩ <;> rcases hM with ⟨n2, rfl⟩ | ⟨p2, hM⟩
  · rfl
  · exact absurd p2 n1
  · exact absurd p1 n2
  · rw [hX, hM, zRs_e hw p1]
    refine zSum_cg _ (fun c h0 h1 => ?_)
    unfold zFw
    rw [h9 c h0 (by omega)]
    by_cases g : zIn σ c f x0 x1 y0 y1
    · rw [if_pos g, if_pos ((cIn2 hE c f x0 x1 y0 y1).mpr g)]
    · rw [if_neg g, if_neg (fun q => g ((cIn2 hE c f x0 x1 y0 y1).mp q))]
set_option maxRecDepth 20000 in
set_option maxHeartbeats 2000000 in
theorem j_sure {σ τ : zMem} {q : Int} {r r2 : Int} (J : zJn σ τ) (hq : -2147483648 ≤ q ∧ q < 2147483648) {σ' τ' : zMem} (hX : ((¬ (0 ≤ q ∧ q ≤ 1000000) ∧ r = -2 ∧ σ' = σ) ∨ ((0 ≤ q ∧ q ≤ 1000000) ∧ zE σ' σ [38] ∧ ∃ k : Nat, r = k ∧ k ≤ (zN σ).toNat ∧ (∀ j : Nat, j < k → (zTk (σ 9) (zN σ).toNat j).1 < q) ∧ (q ≤ (zTk (σ 9) (zN σ).toNat k).1 ∨ k = (zN σ).toNat)))) (hM : ((¬ (0 ≤ q ∧ q ≤ 1000000) ∧ r2 = -2 ∧ τ' = τ) ∨ ((0 ≤ q ∧ q ≤ 1000000) ∧ zE τ' τ [64] ∧ ∃ k : Nat, r2 = k ∧ k ≤ (zN τ).toNat ∧ (∀ j : Nat, j < k → (zTk (τ 9) (zN τ).toNat j).1 < q) ∧ (q ≤ (zTk (τ 9) (zN τ).toNat k).1 ∨ k = (zN τ).toNat)))) : r = r2 ∧ zK σ' τ' := by
  obtain ⟨ok, har, hE, h9, h60⟩ := id J
  obtain ⟨⟨hw, hs, ht, h4, h5, h6, hwc, hlc⟩, ⟨h7, hdd⟩, hmp, oS1, oW1, oA1, oT1, oB1⟩ := id ok
  have hN := zHw_N hw
  try simp only [cN hE, cIsA hE, cRp hE, cIp hE, cSn hE, cSv hE, cWt hE, cOf hE, cLy hE, cEy hE, cYf hE, cYw hE, cYt hE, cLm hE, cCt hE, cNi hE, cNs hE, cWs hE, cGv hE, cRt hE, cBl hE, e_0 hE, e_1 hE, e_2 hE, e_3 hE, e_4 hE, e_5 hE, e_6 hE, e_7 hE, e_8 hE, e_10 hE, e_11 hE, e_12 hE, e_13 hE, e_14 hE, e_15 hE, e_16 hE, e_17 hE, e_18 hE, e_19 hE, e_20 hE] at hM
  rcases hX with ⟨n1, rfl, rfl⟩ | ⟨p1, hX⟩ <;> rcases hM with ⟨n2, rfl, rfl⟩ | ⟨p2, hM⟩
  · exact ⟨rfl, J.k⟩
  · exact absurd p2 n1
  · exact absurd p1 n2
  · obtain ⟨a, j, rfl, j1, j2, j3⟩ := hX
    obtain ⟨c, k, rfl, k1, k2, k3⟩ := hM
    have t := fun i => (zTk_cg (F := τ 9) (G := σ 9) (n := (zN σ).toNat) (by omega) (fun c h0 h1 => h9 c h0 (by omega)) i).1
    rw [zSu_u j1 k1 j2 j3 (fun i h => by rw [← t]; exact k2 i h) (by rw [← t]; exact k3)]
    exact ⟨rfl, (jn_f J a c).k⟩
set_option maxRecDepth 20000 in
set_option maxHeartbeats 2000000 in
theorem j_best {σ τ : zMem} {z : Int} {r r2 : Int} (J : zJn σ τ) (hz : -2147483648 ≤ z ∧ z < 2147483648) {σ' τ' : zMem} (hX : ((¬ (0 ≤ z ∧ z < 4) ∧ r = -2 ∧ σ' = σ) ∨ ((0 ≤ z ∧ z < 4) ∧ ((σ 16 z = 0 ∧ r = -11 ∧ σ' = zS σ 19 (zC 1)) ∨ (σ 16 z = 1 ∧ ((((σ 18 z / 8) = 0 ∨ zVf σ z (-1) (σ 18 z / 8) = -1) ∧ r = -3 ∧ zE σ' σ [39, 41]) ∨ (1 ≤ (σ 18 z / 8) ∧ 0 ≤ r ∧ r = zVf σ z (-1) (σ 18 z / 8) ∧ zE σ' σ [14, 15, 39, 41] ∧ σ' 14 = zC (σ 18 z / 8) ∧ (σ' 15 = fun i => if 0 ≤ i ∧ i < (σ 18 z / 8) then zWy σ z (-1) (σ 18 z / 8) i.toNat else σ 15 i)))))))) (hM : ((¬ (0 ≤ z ∧ z < 4) ∧ r2 = -2 ∧ τ' = τ) ∨ ((0 ≤ z ∧ z < 4) ∧ ((τ 16 z = 0 ∧ r2 = -11 ∧ τ' = zS τ 19 (zC 1)) ∨ (τ 16 z = 1 ∧ ((((τ 18 z / 8) = 0 ∨ zYf τ z (-1) (τ 18 z / 8) = -1) ∧ r2 = -3 ∧ zE τ' τ [65, 66]) ∨ (1 ≤ (τ 18 z / 8) ∧ 0 ≤ r2 ∧ r2 = zYf τ z (-1) (τ 18 z / 8) ∧ zE τ' τ [14, 15, 65, 66] ∧ τ' 14 = zC (τ 18 z / 8) ∧ (τ' 15 = fun i : Int => if 0 ≤ i ∧ i < (τ 18 z / 8) then zYw τ z (-1) (τ 18 z / 8) i.toNat else τ 15 i)))))))) : r = r2 ∧ zK σ' τ' := by
  obtain ⟨ok, har, hE, h9, h60⟩ := id J
  obtain ⟨⟨hw, hs, ht, h4, h5, h6, hwc, hlc⟩, ⟨h7, hdd⟩, hmp, oS1, oW1, oA1, oT1, oB1⟩ := id ok
  have hN := zHw_N hw
  try simp only [cN hE, cIsA hE, cRp hE, cIp hE, cSn hE, cSv hE, cWt hE, cOf hE, cLy hE, cEy hE, cYf hE, cYw hE, cYt hE, cLm hE, cCt hE, cNi hE, cNs hE, cWs hE, cGv hE, cRt hE, cBl hE, e_0 hE, e_1 hE, e_2 hE, e_3 hE, e_4 hE, e_5 hE, e_6 hE, e_7 hE, e_8 hE, e_10 hE, e_11 hE, e_12 hE, e_13 hE, e_14 hE, e_15 hE, e_16 hE, e_17 hE, e_18 hE, e_19 hE, e_20 hE] at hM
  rcases hX with ⟨n1, rfl, rfl⟩ | ⟨p1, hX⟩ <;> rcases hM with ⟨n2, rfl, rfl⟩ | ⟨p2, hM⟩
  · exact ⟨rfl, J.k⟩
  · exact absurd p2 n1
  · exact absurd p1 n2
  · rcases hX with ⟨q1, rfl, rfl⟩ | ⟨q1, hX⟩ <;> rcases hM with ⟨q2, rfl, rfl⟩ | ⟨q2, hM⟩
    · exact ⟨rfl, (jn_19 J _).k⟩
    · omega
    · omega
    · have b18 := oB1.2.2.1 z
      rw [zVf_e hw hmp hs ht] at hX
      rcases hX with ⟨s1, rfl, a⟩ | ⟨s1, s2, rfl, a, b14, b15⟩ <;> rcases hM with ⟨u1, rfl, c⟩ | ⟨u1, u2, u3, c, d14, d15⟩
      · exact ⟨rfl, (jn_f J a c).k⟩
      · omega
      · omega
      · have f : ¬ zYf σ z (-1) (σ 18 z / 8) = -1 := by omega
        have k := zWy_e hw hmp hs ht z (-1) (σ 18 z / 8) s1 f
        refine ⟨u3.symm, (jn_1415 J (l1 := [14, 15, 39, 41]) (l2 := [14, 15, 65, 66]) a c (by decide) (by decide) (by rw [b14]; show 0 ≤ σ 18 z / 8 ∧ σ 18 z / 8 ≤ 30; omega) (d14.trans b14.symm) ?_ hmp ?_).k⟩
        · rw [d15, b15]
          funext i
          by_cases g : 0 ≤ i ∧ i < σ 18 z / 8
          · rw [if_pos g, if_pos g, k _ (by omega)]
          · rw [if_neg g, if_neg g]
        · exact ⟨a 8 (by decide), (c 8 (by decide)).trans (show τ 8 = σ 8 from e_8 hE)⟩
set_option maxRecDepth 20000 in
set_option maxHeartbeats 2000000 in
theorem j_learn {σ τ : zMem} {z : Int} {r r2 : Int} (J : zJn σ τ) (hz : -2147483648 ≤ z ∧ z < 2147483648) {σ' τ' : zMem} (hX : ((¬ (0 ≤ z ∧ z < 4) ∧ r = -2 ∧ σ' = σ) ∨ ((0 ≤ z ∧ z < 4) ∧ ((σ 16 z = 0 ∧ r = -11 ∧ σ' = zS σ 19 (zC 1)) ∨ (σ 16 z = 1 ∧ ((((σ 18 z / 8) = 0 ∨ zVf σ z (-1) (σ 18 z / 8) = -1) ∧ r = -3 ∧ zE σ' σ [39, 41]) ∨ (1 ≤ (σ 18 z / 8) ∧ zVf σ z (-1) (σ 18 z / 8) ≠ -1 ∧ r = (σ 18 z / 8) ∧ zE σ' σ [8, 14, 15, 39, 41] ∧ σ' 14 = zC (σ 18 z / 8) ∧ (σ' 15 = fun i => if 0 ≤ i ∧ i < (σ 18 z / 8) then zWy σ z (-1) (σ 18 z / 8) i.toNat else σ 15 i) ∧ σ' 8 = zLm σ z (zWy σ z (-1) (σ 18 z / 8)) (σ 18 z / 8).toNat))))))) (hM : ((¬ (0 ≤ z ∧ z < 4) ∧ r2 = -2 ∧ τ' = τ) ∨ ((0 ≤ z ∧ z < 4) ∧ ((τ 16 z = 0 ∧ r2 = -11 ∧ τ' = zS τ 19 (zC 1)) ∨ (τ 16 z = 1 ∧ ((((τ 18 z / 8) = 0 ∨ zYf τ z (-1) (τ 18 z / 8) = -1) ∧ r2 = -3 ∧ zE τ' τ [65, 66]) ∨ (1 ≤ (τ 18 z / 8) ∧ zYf τ z (-1) (τ 18 z / 8) ≠ -1 ∧ r2 = (τ 18 z / 8) ∧ zE τ' τ [8, 14, 15, 65, 66] ∧ τ' 14 = zC (τ 18 z / 8) ∧ (τ' 15 = fun i : Int => if 0 ≤ i ∧ i < (τ 18 z / 8) then zYw τ z (-1) (τ 18 z / 8) i.toNat else τ 15 i) ∧ τ' 8 = zLm τ z (zYw τ z (-1) (τ 18 z / 8)) (τ 18 z / 8).toNat))))))) : r = r2 ∧ zK σ' τ' := by
  obtain ⟨ok, har, hE, h9, h60⟩ := id J
  obtain ⟨⟨hw, hs, ht, h4, h5, h6, hwc, hlc⟩, ⟨h7, hdd⟩, hmp, oS1, oW1, oA1, oT1, oB1⟩ := id ok
  have hN := zHw_N hw
  try simp only [cN hE, cIsA hE, cRp hE, cIp hE, cSn hE, cSv hE, cWt hE, cOf hE, cLy hE, cEy hE, cYf hE, cYw hE, cYt hE, cLm hE, cCt hE, cNi hE, cNs hE, cWs hE, cGv hE, cRt hE, cBl hE, e_0 hE, e_1 hE, e_2 hE, e_3 hE, e_4 hE, e_5 hE, e_6 hE, e_7 hE, e_8 hE, e_10 hE, e_11 hE, e_12 hE, e_13 hE, e_14 hE, e_15 hE, e_16 hE, e_17 hE, e_18 hE, e_19 hE, e_20 hE] at hM
  rcases hX with ⟨n1, rfl, rfl⟩ | ⟨p1, hX⟩ <;> rcases hM with ⟨n2, rfl, rfl⟩ | ⟨p2, hM⟩
  · exact ⟨rfl, J.k⟩
  · exact absurd p2 n1
  · exact absurd p1 n2
  · rcases hX with ⟨q1, rfl, rfl⟩ | ⟨q1, hX⟩ <;> rcases hM with ⟨q2, rfl, rfl⟩ | ⟨q2, hM⟩
    · exact ⟨rfl, (jn_19 J _).k⟩
    · omega
    · omega
    · have b18 := oB1.2.2.1 z
      rw [zVf_e hw hmp hs ht] at hX
      rcases hX with ⟨s1, rfl, a⟩ | ⟨s1, s2, rfl, a, b14, b15, b8⟩ <;> rcases hM with ⟨u1, rfl, c⟩ | ⟨u1, u2, rfl, c, d14, d15, d8⟩
      · exact ⟨rfl, (jn_f J a c).k⟩
      · omega
      · omega
      · have k := zWy_e hw hmp hs ht z (-1) (σ 18 z / 8) s1 s2
        have k8 := zLm_e (σ := σ) z (σ 18 z / 8) _ _ k (σ 18 z / 8).toNat (by omega)
        refine ⟨rfl, (jn_1415 J (l1 := [8, 14, 15, 39, 41]) (l2 := [8, 14, 15, 65, 66]) a c (by decide) (by decide) (by rw [b14]; show 0 ≤ σ 18 z / 8 ∧ σ 18 z / 8 ≤ 30; omega) (d14.trans b14.symm) ?_ (zLm_b hmp z (zWy σ z (-1) (σ 18 z / 8)) (σ 18 z / 8).toNat) ?_).k⟩
        · rw [d15, b15]
          funext i
          by_cases g : 0 ≤ i ∧ i < σ 18 z / 8
          · rw [if_pos g, if_pos g, k _ (by omega)]
          · rw [if_neg g, if_neg g]
        · exact ⟨by rw [b8, zS_s], by rw [d8, zS_s, k8]⟩
set_option maxRecDepth 20000 in
set_option maxHeartbeats 2000000 in
theorem j_moved {σ τ : zMem} {z : Int} {r r2 : Int} (J : zJn σ τ) (hz : -2147483648 ≤ z ∧ z < 2147483648) {σ' τ' : zMem} (hX : ((¬ (0 ≤ z ∧ z < 4) ∧ r = -2 ∧ σ' = σ) ∨ ((0 ≤ z ∧ z < 4) ∧ ((σ 16 z = 0 ∧ r = -11 ∧ σ' = zS σ 19 (zC 1)) ∨ (σ 16 z = 1 ∧ ((((σ 18 z / 8) = 0 ∨ zVf σ z (-1) (σ 18 z / 8) = -1) ∧ r = -3 ∧ zE σ' σ [39, 41]) ∨ (1 ≤ (σ 18 z / 8) ∧ zVf σ z (-1) (σ 18 z / 8) ≠ -1 ∧ r = zBt σ z 8 ∧ zE σ' σ [39, 41]))))))) (hM : ((¬ (0 ≤ z ∧ z < 4) ∧ r2 = -2 ∧ τ' = τ) ∨ ((0 ≤ z ∧ z < 4) ∧ ((τ 16 z = 0 ∧ r2 = -11 ∧ τ' = zS τ 19 (zC 1)) ∨ (τ 16 z = 1 ∧ ((((τ 18 z / 8) = 0 ∨ zYf τ z (-1) (τ 18 z / 8) = -1) ∧ r2 = -3 ∧ zE τ' τ [65, 66]) ∨ (1 ≤ (τ 18 z / 8) ∧ zYf τ z (-1) (τ 18 z / 8) ≠ -1 ∧ r2 = zYt τ z 8 ∧ zE τ' τ [65, 66]))))))) : r = r2 ∧ zK σ' τ' := by
  obtain ⟨ok, har, hE, h9, h60⟩ := id J
  obtain ⟨⟨hw, hs, ht, h4, h5, h6, hwc, hlc⟩, ⟨h7, hdd⟩, hmp, oS1, oW1, oA1, oT1, oB1⟩ := id ok
  have hN := zHw_N hw
  try simp only [cN hE, cIsA hE, cRp hE, cIp hE, cSn hE, cSv hE, cWt hE, cOf hE, cLy hE, cEy hE, cYf hE, cYw hE, cYt hE, cLm hE, cCt hE, cNi hE, cNs hE, cWs hE, cGv hE, cRt hE, cBl hE, e_0 hE, e_1 hE, e_2 hE, e_3 hE, e_4 hE, e_5 hE, e_6 hE, e_7 hE, e_8 hE, e_10 hE, e_11 hE, e_12 hE, e_13 hE, e_14 hE, e_15 hE, e_16 hE, e_17 hE, e_18 hE, e_19 hE, e_20 hE] at hM
  rcases hX with ⟨n1, rfl, rfl⟩ | ⟨p1, hX⟩ <;> rcases hM with ⟨n2, rfl, rfl⟩ | ⟨p2, hM⟩
  · exact ⟨rfl, J.k⟩
  · exact absurd p2 n1
  · exact absurd p1 n2
  · rcases hX with ⟨q1, rfl, rfl⟩ | ⟨q1, hX⟩ <;> rcases hM with ⟨q2, rfl, rfl⟩ | ⟨q2, hM⟩
    · exact ⟨rfl, (jn_19 J _).k⟩
    · omega
    · omega
    · have b18 := oB1.2.2.1 z
      rw [zVf_e hw hmp hs ht] at hX
      rcases hX with ⟨s1, rfl, a⟩ | ⟨s1, s2, rfl, a⟩ <;> rcases hM with ⟨u1, rfl, c⟩ | ⟨u1, u2, rfl, c⟩
      · exact ⟨rfl, (jn_f J a c).k⟩
      · omega
      · omega
      · exact ⟨zBt_e hw hmp hs ht z s1 s2 8, (jn_f J a c).k⟩
set_option maxRecDepth 20000 in
set_option maxHeartbeats 2000000 in
theorem j_way {σ τ : zMem} {i : Int} {r r2 : Int} (J : zJn σ τ) (hi : -2147483648 ≤ i ∧ i < 2147483648) (hX : ((¬ (0 ≤ i ∧ i < σ 14 0) ∧ r = -2) ∨ ((0 ≤ i ∧ i < σ 14 0) ∧ r = σ 15 i))) (hM : ((¬ (0 ≤ i ∧ i < τ 14 0) ∧ r2 = -2) ∨ ((0 ≤ i ∧ i < τ 14 0) ∧ r2 = τ 15 i))) : r = r2 := by
  obtain ⟨ok, har, hE, h9, h60⟩ := id J
  obtain ⟨⟨hw, hs, ht, h4, h5, h6, hwc, hlc⟩, ⟨h7, hdd⟩, hmp, oS1, oW1, oA1, oT1, oB1⟩ := id ok
  have hN := zHw_N hw
  try simp only [cN hE, cIsA hE, cRp hE, cIp hE, cSn hE, cSv hE, cWt hE, cOf hE, cLy hE, cEy hE, cYf hE, cYw hE, cYt hE, cLm hE, cCt hE, cNi hE, cNs hE, cWs hE, cGv hE, cRt hE, cBl hE, e_0 hE, e_1 hE, e_2 hE, e_3 hE, e_4 hE, e_5 hE, e_6 hE, e_7 hE, e_8 hE, e_10 hE, e_11 hE, e_12 hE, e_13 hE, e_14 hE, e_15 hE, e_16 hE, e_17 hE, e_18 hE, e_19 hE, e_20 hE] at hM
  rcases hX with ⟨n1, rfl⟩ | ⟨p1, hX⟩ <;> rcases hM with ⟨n2, rfl⟩ | ⟨p2, hM⟩
  · rfl
  · exact absurd p2 n1
  · exact absurd p1 n2
  · rw [hX, hM]
set_option maxRecDepth 20000 in
set_option maxHeartbeats 2000000 in
theorem j_put {σ τ : zMem} {k c : Int} {r r2 : Int} (J : zJn σ τ) (hk : -2147483648 ≤ k ∧ k < 2147483648) (hc : -2147483648 ≤ c ∧ c < 2147483648) {σ' τ' : zMem} (hX : ((¬ ((0 ≤ k ∧ k < 20) ∧ (c = -1 ∨ (0 ≤ c ∧ c < zN σ))) ∧ r = -2 ∧ σ' = σ) ∨ (((0 ≤ k ∧ k < 20) ∧ (c = -1 ∨ (0 ≤ c ∧ c < zN σ))) ∧ r = σ 10 k ∧ σ' = zS (zS σ 10 (zU (σ 10) k c)) 12 (zC 0)))) (hM : ((¬ ((0 ≤ k ∧ k < 20) ∧ (c = -1 ∨ (0 ≤ c ∧ c < zN τ))) ∧ r2 = -2 ∧ τ' = τ) ∨ (((0 ≤ k ∧ k < 20) ∧ (c = -1 ∨ (0 ≤ c ∧ c < zN τ))) ∧ r2 = τ 10 k ∧ τ' = zS (zS τ 10 (zU (τ 10) k c)) 12 (zC 0)))) : r = r2 ∧ zK σ' τ' := by
  obtain ⟨ok, har, hE, h9, h60⟩ := id J
  obtain ⟨⟨hw, hs, ht, h4, h5, h6, hwc, hlc⟩, ⟨h7, hdd⟩, hmp, oS1, oW1, oA1, oT1, oB1⟩ := id ok
  have hN := zHw_N hw
  try simp only [cN hE, cIsA hE, cRp hE, cIp hE, cSn hE, cSv hE, cWt hE, cOf hE, cLy hE, cEy hE, cYf hE, cYw hE, cYt hE, cLm hE, cCt hE, cNi hE, cNs hE, cWs hE, cGv hE, cRt hE, cBl hE, e_0 hE, e_1 hE, e_2 hE, e_3 hE, e_4 hE, e_5 hE, e_6 hE, e_7 hE, e_8 hE, e_10 hE, e_11 hE, e_12 hE, e_13 hE, e_14 hE, e_15 hE, e_16 hE, e_17 hE, e_18 hE, e_19 hE, e_20 hE] at hM
  rcases hX with ⟨n1, rfl, rfl⟩ | ⟨p1, hX⟩ <;> rcases hM with ⟨n2, rfl, rfl⟩ | ⟨p2, hM⟩
  · exact ⟨rfl, J.k⟩
  · exact absurd p2 n1
  · exact absurd p1 n2
  · obtain ⟨rfl, rfl⟩ := hX
    obtain ⟨rfl, rfl⟩ := hM
    have E1 : zE (zS (zS σ 10 (zU (σ 10) k c)) 12 (zC 0)) σ [10, 12] := zE_set (zE_set zE_rf (by decide)) (by decide)
    refine ⟨rfl, zJn.k (jn_mk J E1 (l2 := [10, 12]) (zE_set (zE_set zE_rf (by decide)) (by decide)) (fun j hk hn => ?_) ⟨oH_E E1 (by decide) ⟨hw, hs, ht, h4, h5, h6, hwc, hlc⟩, oD_E E1 (by decide) ⟨h7, hdd⟩, zMp_E E1 (by decide) hmp, oS_E E1 (by decide) oS1, ?_, oA_0 E1 (by decide) oA1.1 rfl oA1, oT_E E1 (by decide) oT1, oB_E E1 (by decide) oB1⟩ har h9 h60)⟩
    · simp only [List.mem_cons, List.not_mem_nil, or_false, or_self] at hk
      rcases hk with rfl | rfl <;> rfl
    · intro i
      show zU (σ 10) k c i = -1 ∨ (0 ≤ zU (σ 10) k c i ∧ zU (σ 10) k c i < zN σ)
      unfold zU
      split
      · exact p1.2
      · exact oW1 i
set_option maxRecDepth 20000 in
set_option maxHeartbeats 2000000 in
theorem j_least {σ τ : zMem} {n : Int} {r r2 : Int} (J : zJn σ τ) (hn : -2147483648 ≤ n ∧ n < 2147483648) {σ' τ' : zMem} (hX : ((¬ (1 ≤ n ∧ n ≤ 20) ∧ r = -2 ∧ σ' = σ) ∨ ((1 ≤ n ∧ n ≤ 20) ∧ r = σ 11 0 ∧ σ' = zS (zS σ 11 (zC n)) 12 (zC 0)))) (hM : ((¬ (1 ≤ n ∧ n ≤ 20) ∧ r2 = -2 ∧ τ' = τ) ∨ ((1 ≤ n ∧ n ≤ 20) ∧ r2 = τ 11 0 ∧ τ' = zS (zS τ 11 (zC n)) 12 (zC 0)))) : r = r2 ∧ zK σ' τ' := by
  obtain ⟨ok, har, hE, h9, h60⟩ := id J
  obtain ⟨⟨hw, hs, ht, h4, h5, h6, hwc, hlc⟩, ⟨h7, hdd⟩, hmp, oS1, oW1, oA1, oT1, oB1⟩ := id ok
  have hN := zHw_N hw
  try simp only [cN hE, cIsA hE, cRp hE, cIp hE, cSn hE, cSv hE, cWt hE, cOf hE, cLy hE, cEy hE, cYf hE, cYw hE, cYt hE, cLm hE, cCt hE, cNi hE, cNs hE, cWs hE, cGv hE, cRt hE, cBl hE, e_0 hE, e_1 hE, e_2 hE, e_3 hE, e_4 hE, e_5 hE, e_6 hE, e_7 hE, e_8 hE, e_10 hE, e_11 hE, e_12 hE, e_13 hE, e_14 hE, e_15 hE, e_16 hE, e_17 hE, e_18 hE, e_19 hE, e_20 hE] at hM
  rcases hX with ⟨n1, rfl, rfl⟩ | ⟨p1, hX⟩ <;> rcases hM with ⟨n2, rfl, rfl⟩ | ⟨p2, hM⟩
  · exact ⟨rfl, J.k⟩
  · exact absurd p2 n1
  · exact absurd p1 n2
  · obtain ⟨rfl, rfl⟩ := hX
    obtain ⟨rfl, rfl⟩ := hM
    have E1 : zE (zS (zS σ 11 (zC n)) 12 (zC 0)) σ [11, 12] := zE_set (zE_set zE_rf (by decide)) (by decide)
    refine ⟨rfl, zJn.k (jn_mk J E1 (l2 := [11, 12]) (zE_set (zE_set zE_rf (by decide)) (by decide)) (fun j hk hn => ?_) ⟨oH_E E1 (by decide) ⟨hw, hs, ht, h4, h5, h6, hwc, hlc⟩, oD_E E1 (by decide) ⟨h7, hdd⟩, zMp_E E1 (by decide) hmp, oS_E E1 (by decide) oS1, oW_E E1 (by decide) oW1, oA_0 E1 (by decide) p1 rfl oA1, oT_E E1 (by decide) oT1, oB_E E1 (by decide) oB1⟩ har h9 h60)⟩
    simp only [List.mem_cons, List.not_mem_nil, or_false, or_self] at hk
    rcases hk with rfl | rfl <;> rfl
set_option maxRecDepth 20000 in
set_option maxHeartbeats 2000000 in
theorem j_sheet {σ τ : zMem} {z f n : Int} {r r2 : Int} (J : zJn σ τ) (hz : -2147483648 ≤ z ∧ z < 2147483648) (hf : -2147483648 ≤ f ∧ f < 2147483648) (hn : -2147483648 ≤ n ∧ n < 2147483648) {σ' τ' : zMem} (hX : ((¬ ((0 ≤ z ∧ z < 4) ∧ (0 ≤ f ∧ f < 3) ∧ n ≤ 240) ∧ r = -2 ∧ σ' = σ) ∨ (((0 ≤ z ∧ z < 4) ∧ (0 ≤ f ∧ f < 3) ∧ n ≤ 240) ∧ ((n < 0 ∧ r = -15 ∧ σ' = zS σ 19 (zC 5)) ∨ (0 ≤ n ∧ r = n ∧ σ' = zS (zS (zS (zS σ 16 (zU (σ 16) z 1)) 17 (zU (σ 17) z f)) 40 (zU (σ 40) z n)) 20 (fun i => if 240 * z ≤ i ∧ i < 240 * z + 240 then 0 else σ 20 i)))))) (hM : ((¬ ((0 ≤ z ∧ z < 4) ∧ (0 ≤ f ∧ f < 3) ∧ n ≤ 240) ∧ r2 = -2 ∧ τ' = τ) ∨ (((0 ≤ z ∧ z < 4) ∧ (0 ≤ f ∧ f < 3) ∧ n ≤ 240) ∧ ((n < 0 ∧ r2 = -15 ∧ τ' = zS τ 19 (zC 5)) ∨ (0 ≤ n ∧ r2 = n ∧ τ' = zS (zS (zS (zS τ 16 (zU (τ 16) z 1)) 17 (zU (τ 17) z f)) 18 (zU (τ 18) z n)) 20 (fun i => if 240 * z ≤ i ∧ i < 240 * z + 240 then 0 else τ 20 i)))))) : r = r2 ∧ zK σ' τ' := by
  obtain ⟨ok, har, hE, h9, h60⟩ := id J
  obtain ⟨⟨hw, hs, ht, h4, h5, h6, hwc, hlc⟩, ⟨h7, hdd⟩, hmp, oS1, oW1, oA1, oT1, oB1⟩ := id ok
  have hN := zHw_N hw
  try simp only [cN hE, cIsA hE, cRp hE, cIp hE, cSn hE, cSv hE, cWt hE, cOf hE, cLy hE, cEy hE, cYf hE, cYw hE, cYt hE, cLm hE, cCt hE, cNi hE, cNs hE, cWs hE, cGv hE, cRt hE, cBl hE, e_0 hE, e_1 hE, e_2 hE, e_3 hE, e_4 hE, e_5 hE, e_6 hE, e_7 hE, e_8 hE, e_10 hE, e_11 hE, e_12 hE, e_13 hE, e_14 hE, e_15 hE, e_16 hE, e_17 hE, e_18 hE, e_19 hE, e_20 hE] at hM
  rcases hX with ⟨n1, rfl, rfl⟩ | ⟨p1, hX⟩ <;> rcases hM with ⟨n2, rfl, rfl⟩ | ⟨p2, hM⟩
  · exact ⟨rfl, J.k⟩
  · exact absurd p2 n1
  · exact absurd p1 n2
  · rcases hX with ⟨q1, er, rfl⟩ | ⟨q1, er, rfl⟩ <;> rcases hM with ⟨q2, er2, rfl⟩ | ⟨q2, er2, rfl⟩
    · exact ⟨er.trans er2.symm, (jn_19 J _).k⟩
    · omega
    · omega
    · refine ⟨er.trans er2.symm, zS (zS (zS (zS (zS σ 16 (zU (σ 16) z 1)) 17 (zU (σ 17) z f)) 40 (zU (σ 40) z n)) 20 (fun i => if 240 * z ≤ i ∧ i < 240 * z + 240 then 0 else σ 20 i)) 18 (zU (σ 18) z n), _, fun _ _ => rfl, fun _ _ => rfl, ?_⟩
      generalize hμ : zS (zS (zS (zS (zS σ 16 (zU (σ 16) z 1)) 17 (zU (σ 17) z f)) 40 (zU (σ 40) z n)) 20 (fun i => if 240 * z ≤ i ∧ i < 240 * z + 240 then 0 else σ 20 i)) 18 (zU (σ 18) z n) = μ
      have E1 : zE μ σ [16, 17, 18, 20, 40] := by rw [← hμ]; exact zE_set (zE_set (zE_set (zE_set (zE_set zE_rf (by decide)) (by decide)) (by decide)) (by decide)) (by decide)
      have m16 : μ 16 = zU (σ 16) z 1 := by rw [← hμ]; rfl
      have m17 : μ 17 = zU (σ 17) z f := by rw [← hμ]; rfl
      have m18 : μ 18 = zU (σ 18) z n := by rw [← hμ]; rfl
      have m20 : μ 20 = fun i => if 240 * z ≤ i ∧ i < 240 * z + 240 then 0 else σ 20 i := by rw [← hμ]; rfl
      have m40 : μ 40 = zU (σ 40) z n := by rw [← hμ]; rfl
      obtain ⟨o16, o17, o18, o20, o40⟩ := oB1
      refine jn_mk J E1 (l2 := [16, 17, 18, 20]) (zE_set (zE_set (zE_set (zE_set zE_rf (by decide)) (by decide)) (by decide)) (by decide)) (fun j hk hn => ?_) ⟨oH_E E1 (by decide) ⟨hw, hs, ht, h4, h5, h6, hwc, hlc⟩, oD_E E1 (by decide) ⟨h7, hdd⟩, zMp_E E1 (by decide) hmp, oS_E E1 (by decide) oS1, oW_E E1 (by decide) oW1, oA_E E1 (by decide) oA1, oT_E E1 (by decide) oT1, ?_, ?_, ?_, ?_, ?_⟩ (fun i => by rw [E1 51 (by decide), E1 49 (by decide)]; exact har i) (fun c h0 h1 => by rw [E1 9 (by decide)]; exact h9 c h0 (by rw [← zN_E E1 (by decide) (by decide) (by decide)]; exact h1)) (by rw [zN_E E1 (by decide) (by decide) (by decide)]; exact h60)
      · simp only [List.mem_cons, List.not_mem_nil, or_false] at hk
        rcases hk with (rfl | rfl | rfl | rfl | rfl) | (rfl | rfl | rfl | rfl)
        · rw [m16]; rfl
        · rw [m17]; rfl
        · rw [m18]; rfl
        · rw [m20]; rfl
        · exact absurd (by decide) hn
        · rw [m16]; rfl
        · rw [m17]; rfl
        · rw [m18]; rfl
        · rw [m20]; rfl
      · unfold zBo
        rw [m16]
        exact zBo_u o16 (Or.inr rfl)
      · intro i
        rw [m17]
        unfold zU
        split
        · omega
        · exact o17 i
      · intro i
        rw [m18]
        unfold zU
        split
        · omega
        · exact o18 i
      · intro i
        rw [m20]
        show -2147483648 ≤ (if 240 * z ≤ i ∧ i < 240 * z + 240 then 0 else σ 20 i) ∧ (if 240 * z ≤ i ∧ i < 240 * z + 240 then 0 else σ 20 i) < 2147483648
        split
        · decide
        · exact o20 i
      · intro i
        rw [m40, m16, m18]
        unfold zU
        by_cases g : i = z
        · rw [if_pos g, if_pos g, if_pos g, if_pos rfl]
        · rw [if_neg g, if_neg g, if_neg g]
          exact o40 i
set_option maxRecDepth 20000 in
set_option maxHeartbeats 2000000 in
theorem j_lose {σ τ : zMem} {z : Int} {r r2 : Int} (J : zJn σ τ) (hz : -2147483648 ≤ z ∧ z < 2147483648) {σ' τ' : zMem} (hX : ((¬ (0 ≤ z ∧ z < 4) ∧ r = -2 ∧ σ' = σ) ∨ ((0 ≤ z ∧ z < 4) ∧ ((σ 16 z = 0 ∧ r = -11 ∧ σ' = zS σ 19 (zC 1)) ∨ (σ 16 z = 1 ∧ r = σ 18 z ∧ σ' = zS (zS σ 16 (zU (σ 16) z 0)) 40 (zU (σ 40) z 0)))))) (hM : ((¬ (0 ≤ z ∧ z < 4) ∧ r2 = -2 ∧ τ' = τ) ∨ ((0 ≤ z ∧ z < 4) ∧ ((τ 16 z = 0 ∧ r2 = -11 ∧ τ' = zS τ 19 (zC 1)) ∨ (τ 16 z = 1 ∧ r2 = τ 18 z ∧ τ' = zS τ 16 (zU (τ 16) z 0)))))) : r = r2 ∧ zK σ' τ' := by
  obtain ⟨ok, har, hE, h9, h60⟩ := id J
  obtain ⟨⟨hw, hs, ht, h4, h5, h6, hwc, hlc⟩, ⟨h7, hdd⟩, hmp, oS1, oW1, oA1, oT1, oB1⟩ := id ok
  have hN := zHw_N hw
  try simp only [cN hE, cIsA hE, cRp hE, cIp hE, cSn hE, cSv hE, cWt hE, cOf hE, cLy hE, cEy hE, cYf hE, cYw hE, cYt hE, cLm hE, cCt hE, cNi hE, cNs hE, cWs hE, cGv hE, cRt hE, cBl hE, e_0 hE, e_1 hE, e_2 hE, e_3 hE, e_4 hE, e_5 hE, e_6 hE, e_7 hE, e_8 hE, e_10 hE, e_11 hE, e_12 hE, e_13 hE, e_14 hE, e_15 hE, e_16 hE, e_17 hE, e_18 hE, e_19 hE, e_20 hE] at hM
  rcases hX with ⟨n1, rfl, rfl⟩ | ⟨p1, hX⟩ <;> rcases hM with ⟨n2, rfl, rfl⟩ | ⟨p2, hM⟩
  · exact ⟨rfl, J.k⟩
  · exact absurd p2 n1
  · exact absurd p1 n2
  · rcases hX with ⟨q1, rfl, rfl⟩ | ⟨q1, rfl, rfl⟩ <;> rcases hM with ⟨q2, rfl, rfl⟩ | ⟨q2, rfl, rfl⟩
    · exact ⟨rfl, (jn_19 J _).k⟩
    · omega
    · omega
    · have E1 : zE (zS (zS σ 16 (zU (σ 16) z 0)) 40 (zU (σ 40) z 0)) σ [16, 40] := zE_set (zE_set zE_rf (by decide)) (by decide)
      obtain ⟨o16, o17, o18, o20, o40⟩ := oB1
      refine ⟨rfl, zJn.k (jn_mk J E1 (l2 := [16]) (zE_set zE_rf (by decide)) (fun j hk hn => ?_) ⟨oH_E E1 (by decide) ⟨hw, hs, ht, h4, h5, h6, hwc, hlc⟩, oD_E E1 (by decide) ⟨h7, hdd⟩, zMp_E E1 (by decide) hmp, oS_E E1 (by decide) oS1, oW_E E1 (by decide) oW1, oA_E E1 (by decide) oA1, oT_E E1 (by decide) oT1, ?_, o17, o18, o20, ?_⟩ har h9 h60)⟩
      · simp only [List.mem_cons, List.not_mem_nil, or_false] at hk
        rcases hk with (rfl | rfl) | rfl
        · rfl
        · exact absurd (by decide) hn
        · rfl
      · exact zBo_u o16 (Or.inl rfl)
      · intro i
        show zU (σ 40) z 0 i = if zU (σ 16) z 0 i = 1 then σ 18 i else 0
        unfold zU
        by_cases g : i = z
        · rw [if_pos g, if_pos g, if_neg (by decide)]
        · rw [if_neg g, if_neg g]
          exact o40 i
set_option maxRecDepth 20000 in
set_option maxHeartbeats 2000000 in
theorem j_lay {σ τ : zMem} {z f i v : Int} {r r2 : Int} (J : zJn σ τ) (hz : -2147483648 ≤ z ∧ z < 2147483648) (hf : -2147483648 ≤ f ∧ f < 2147483648) (hi : -2147483648 ≤ i ∧ i < 2147483648) (hv : -2147483648 ≤ v ∧ v < 2147483648) {σ' τ' : zMem} (hX : ((¬ ((0 ≤ z ∧ z < 4) ∧ (0 ≤ f ∧ f < 3)) ∧ r = -2 ∧ σ' = σ) ∨ (((0 ≤ z ∧ z < 4) ∧ (0 ≤ f ∧ f < 3)) ∧ ((¬ zIp σ z f i = 0 ∧ r = -10 - zIp σ z f i ∧ σ' = zS σ 19 (zC (zIp σ z f i))) ∨ (zIp σ z f i = 0 ∧ r = 1 ∧ σ' = zS σ 20 (zU (σ 20) (240 * z + i) (zNr f v))))))) (hM : ((¬ ((0 ≤ z ∧ z < 4) ∧ (0 ≤ f ∧ f < 3)) ∧ r2 = -2 ∧ τ' = τ) ∨ (((0 ≤ z ∧ z < 4) ∧ (0 ≤ f ∧ f < 3)) ∧ ((¬ zIp τ z f i = 0 ∧ r2 = -10 - zIp τ z f i ∧ τ' = zS τ 19 (zC (zIp τ z f i))) ∨ (zIp τ z f i = 0 ∧ r2 = 1 ∧ τ' = zS τ 20 (zU (τ 20) (240 * z + i) (zNr f v))))))) : r = r2 ∧ zK σ' τ' := by
  obtain ⟨ok, har, hE, h9, h60⟩ := id J
  obtain ⟨⟨hw, hs, ht, h4, h5, h6, hwc, hlc⟩, ⟨h7, hdd⟩, hmp, oS1, oW1, oA1, oT1, oB1⟩ := id ok
  have hN := zHw_N hw
  try simp only [cN hE, cIsA hE, cRp hE, cIp hE, cSn hE, cSv hE, cWt hE, cOf hE, cLy hE, cEy hE, cYf hE, cYw hE, cYt hE, cLm hE, cCt hE, cNi hE, cNs hE, cWs hE, cGv hE, cRt hE, cBl hE, e_0 hE, e_1 hE, e_2 hE, e_3 hE, e_4 hE, e_5 hE, e_6 hE, e_7 hE, e_8 hE, e_10 hE, e_11 hE, e_12 hE, e_13 hE, e_14 hE, e_15 hE, e_16 hE, e_17 hE, e_18 hE, e_19 hE, e_20 hE] at hM
  rcases hX with ⟨n1, rfl, rfl⟩ | ⟨p1, hX⟩ <;> rcases hM with ⟨n2, rfl, rfl⟩ | ⟨p2, hM⟩
  · exact ⟨rfl, J.k⟩
  · exact absurd p2 n1
  · exact absurd p1 n2
  · rcases hX with ⟨q1, rfl, rfl⟩ | ⟨q1, hX⟩ <;> rcases hM with ⟨q2, rfl, rfl⟩ | ⟨q2, hM⟩
    · exact ⟨rfl, (jn_19 J _).k⟩
    · exact absurd q2 q1
    · exact absurd q1 q2
    · obtain ⟨rfl, rfl⟩ := hX
      obtain ⟨rfl, rfl⟩ := hM
      refine ⟨rfl, (jn_u J 20 _ (by decide) (okX_20 ok (fun i => ?_))).k⟩
      unfold zU
      split
      · exact zNr_b f hv
      · exact oB1.2.2.2.1 i
set_option maxRecDepth 20000 in
set_option maxHeartbeats 2000000 in
theorem j_get {σ τ : zMem} {z f i : Int} {r r2 : Int} (J : zJn σ τ) (hz : -2147483648 ≤ z ∧ z < 2147483648) (hf : -2147483648 ≤ f ∧ f < 2147483648) (hi : -2147483648 ≤ i ∧ i < 2147483648) {σ' τ' : zMem} (hX : ((¬ ((0 ≤ z ∧ z < 4) ∧ (0 ≤ f ∧ f < 3)) ∧ r = -2147483648 ∧ σ' = σ) ∨ (((0 ≤ z ∧ z < 4) ∧ (0 ≤ f ∧ f < 3)) ∧ ((¬ zIp σ z f i = 0 ∧ r = -2147483648 ∧ σ' = zS σ 19 (zC (zIp σ z f i))) ∨ (zIp σ z f i = 0 ∧ r = σ 20 (240 * z + i) ∧ σ' = σ))))) (hM : ((¬ ((0 ≤ z ∧ z < 4) ∧ (0 ≤ f ∧ f < 3)) ∧ r2 = -2147483648 ∧ τ' = τ) ∨ (((0 ≤ z ∧ z < 4) ∧ (0 ≤ f ∧ f < 3)) ∧ ((¬ zIp τ z f i = 0 ∧ r2 = -2147483648 ∧ τ' = zS τ 19 (zC (zIp τ z f i))) ∨ (zIp τ z f i = 0 ∧ r2 = τ 20 (240 * z + i) ∧ τ' = τ))))) : r = r2 ∧ zK σ' τ' := by
  obtain ⟨ok, har, hE, h9, h60⟩ := id J
  obtain ⟨⟨hw, hs, ht, h4, h5, h6, hwc, hlc⟩, ⟨h7, hdd⟩, hmp, oS1, oW1, oA1, oT1, oB1⟩ := id ok
  have hN := zHw_N hw
  try simp only [cN hE, cIsA hE, cRp hE, cIp hE, cSn hE, cSv hE, cWt hE, cOf hE, cLy hE, cEy hE, cYf hE, cYw hE, cYt hE, cLm hE, cCt hE, cNi hE, cNs hE, cWs hE, cGv hE, cRt hE, cBl hE, e_0 hE, e_1 hE, e_2 hE, e_3 hE, e_4 hE, e_5 hE, e_6 hE, e_7 hE, e_8 hE, e_10 hE, e_11 hE, e_12 hE, e_13 hE, e_14 hE, e_15 hE, e_16 hE, e_17 hE, e_18 hE, e_19 hE, e_20 hE] at hM
  rcases hX with ⟨n1, rfl, rfl⟩ | ⟨p1, hX⟩ <;> rcases hM with ⟨n2, rfl, rfl⟩ | ⟨p2, hM⟩
  · exact ⟨rfl, J.k⟩
  · exact absurd p2 n1
  · exact absurd p1 n2
  · rcases hX with ⟨q1, rfl, rfl⟩ | ⟨q1, hX⟩ <;> rcases hM with ⟨q2, rfl, rfl⟩ | ⟨q2, hM⟩
    · exact ⟨rfl, (jn_19 J _).k⟩
    · exact absurd q2 q1
    · exact absurd q1 q2
    · obtain ⟨rfl, rfl⟩ := hX
      obtain ⟨rfl, rfl⟩ := hM
      exact ⟨rfl, J.k⟩
set_option maxRecDepth 20000 in
set_option maxHeartbeats 2000000 in
theorem j_copy {σ τ : zMem} {z i y j n : Int} {r r2 : Int} (J : zJn σ τ) (hz : -2147483648 ≤ z ∧ z < 2147483648) (hi : -2147483648 ≤ i ∧ i < 2147483648) (hy : -2147483648 ≤ y ∧ y < 2147483648) (hj : -2147483648 ≤ j ∧ j < 2147483648) (hn : -2147483648 ≤ n ∧ n < 2147483648) {σ' τ' : zMem} (hX : ((¬ ((0 ≤ z ∧ z < 4) ∧ (0 ≤ y ∧ y < 4)) ∧ r = -2 ∧ σ' = σ) ∨ (((0 ≤ z ∧ z < 4) ∧ (0 ≤ y ∧ y < 4)) ∧ (((σ 16 z = 0 ∨ σ 16 y = 0) ∧ r = -11 ∧ σ' = zS σ 19 (zC 1)) ∨ ((σ 16 z = 1 ∧ σ 16 y = 1) ∧ ((¬ σ 17 z = σ 17 y ∧ r = -14 ∧ σ' = zS σ 19 (zC 4)) ∨ (σ 17 z = σ 17 y ∧ ((¬ ((0 ≤ i ∧ 0 ≤ n ∧ i ≤ σ 18 z ∧ n ≤ σ 18 z - i) ∧ (0 ≤ j ∧ 0 ≤ n ∧ j ≤ σ 18 y ∧ n ≤ σ 18 y - j)) ∧ r = -12 ∧ σ' = zS σ 19 (zC 2)) ∨ (((0 ≤ i ∧ 0 ≤ n ∧ i ≤ σ 18 z ∧ n ≤ σ 18 z - i) ∧ (0 ≤ j ∧ 0 ≤ n ∧ j ≤ σ 18 y ∧ n ≤ σ 18 y - j)) ∧ r = 1 ∧ σ' = zS σ 20 (fun q => if 240 * y + j ≤ q ∧ q < 240 * y + j + n then σ 20 (240 * z + i + (q - (240 * y + j))) else σ 20 q)))))))))) (hM : ((¬ ((0 ≤ z ∧ z < 4) ∧ (0 ≤ y ∧ y < 4)) ∧ r2 = -2 ∧ τ' = τ) ∨ (((0 ≤ z ∧ z < 4) ∧ (0 ≤ y ∧ y < 4)) ∧ (((τ 16 z = 0 ∨ τ 16 y = 0) ∧ r2 = -11 ∧ τ' = zS τ 19 (zC 1)) ∨ ((τ 16 z = 1 ∧ τ 16 y = 1) ∧ ((¬ τ 17 z = τ 17 y ∧ r2 = -14 ∧ τ' = zS τ 19 (zC 4)) ∨ (τ 17 z = τ 17 y ∧ ((¬ ((0 ≤ i ∧ 0 ≤ n ∧ i ≤ τ 18 z ∧ n ≤ τ 18 z - i) ∧ (0 ≤ j ∧ 0 ≤ n ∧ j ≤ τ 18 y ∧ n ≤ τ 18 y - j)) ∧ r2 = -12 ∧ τ' = zS τ 19 (zC 2)) ∨ (((0 ≤ i ∧ 0 ≤ n ∧ i ≤ τ 18 z ∧ n ≤ τ 18 z - i) ∧ (0 ≤ j ∧ 0 ≤ n ∧ j ≤ τ 18 y ∧ n ≤ τ 18 y - j)) ∧ r2 = 1 ∧ ∃ F, τ' = zS (zS τ 67 F) 20 (fun q => if 240 * y + j ≤ q ∧ q < 240 * y + j + n then τ 20 (240 * z + i + (q - (240 * y + j))) else τ 20 q)))))))))) : r = r2 ∧ zK σ' τ' := by
  obtain ⟨ok, har, hE, h9, h60⟩ := id J
  obtain ⟨⟨hw, hs, ht, h4, h5, h6, hwc, hlc⟩, ⟨h7, hdd⟩, hmp, oS1, oW1, oA1, oT1, oB1⟩ := id ok
  have hN := zHw_N hw
  try simp only [cN hE, cIsA hE, cRp hE, cIp hE, cSn hE, cSv hE, cWt hE, cOf hE, cLy hE, cEy hE, cYf hE, cYw hE, cYt hE, cLm hE, cCt hE, cNi hE, cNs hE, cWs hE, cGv hE, cRt hE, cBl hE, e_0 hE, e_1 hE, e_2 hE, e_3 hE, e_4 hE, e_5 hE, e_6 hE, e_7 hE, e_8 hE, e_10 hE, e_11 hE, e_12 hE, e_13 hE, e_14 hE, e_15 hE, e_16 hE, e_17 hE, e_18 hE, e_19 hE, e_20 hE] at hM
  rcases hX with ⟨n1, rfl, rfl⟩ | ⟨p1, hX⟩ <;> rcases hM with ⟨n2, rfl, rfl⟩ | ⟨p2, hM⟩
  · exact ⟨rfl, J.k⟩
  · exact absurd p2 n1
  · exact absurd p1 n2
  · have t16 := oB1.1
    rcases hX with ⟨q1, rfl, rfl⟩ | ⟨q1, hX⟩ <;> rcases hM with ⟨q2, rfl, rfl⟩ | ⟨q2, hM⟩
    · exact ⟨rfl, (jn_19 J _).k⟩
    · omega
    · omega
    · rcases hX with ⟨u1, rfl, rfl⟩ | ⟨u1, hX⟩ <;> rcases hM with ⟨u2, rfl, rfl⟩ | ⟨u2, hM⟩
      · exact ⟨rfl, (jn_19 J _).k⟩
      · exact absurd u2 u1
      · exact absurd u1 u2
      · rcases hX with ⟨v1, rfl, rfl⟩ | ⟨v1, rfl, rfl⟩ <;> rcases hM with ⟨v2, rfl, rfl⟩ | ⟨v2, rfl, F, rfl⟩
        · exact ⟨rfl, (jn_19 J _).k⟩
        · exact absurd v2 v1
        · exact absurd v1 v2
        · have J2 : zJn σ (zS τ 67 F) := jn_f J (l1 := []) (l2 := [67]) zE_rf (zE_set zE_rf (by decide))
          refine ⟨rfl, (jn_u J2 20 _ (by decide) (okX_20 ok (fun i => ?_))).k⟩
          split
          · exact oB1.2.2.2.1 _
          · exact oB1.2.2.2.1 i
set_option maxRecDepth 20000 in
set_option maxHeartbeats 2000000 in
theorem j_count {σ τ : zMem} {k : Int} {r r2 : Int} (J : zJn σ τ) (hk : -2147483648 ≤ k ∧ k < 2147483648) (hX : r = zCt σ k) (hM : r2 = zCt τ k) : r = r2 := by
  obtain ⟨ok, har, hE, h9, h60⟩ := id J
  obtain ⟨⟨hw, hs, ht, h4, h5, h6, hwc, hlc⟩, ⟨h7, hdd⟩, hmp, oS1, oW1, oA1, oT1, oB1⟩ := id ok
  have hN := zHw_N hw
  try simp only [cN hE, cIsA hE, cRp hE, cIp hE, cSn hE, cSv hE, cWt hE, cOf hE, cLy hE, cEy hE, cYf hE, cYw hE, cYt hE, cLm hE, cCt hE, cNi hE, cNs hE, cWs hE, cGv hE, cRt hE, cBl hE, e_0 hE, e_1 hE, e_2 hE, e_3 hE, e_4 hE, e_5 hE, e_6 hE, e_7 hE, e_8 hE, e_10 hE, e_11 hE, e_12 hE, e_13 hE, e_14 hE, e_15 hE, e_16 hE, e_17 hE, e_18 hE, e_19 hE, e_20 hE] at hM
  rw [hX, hM]
set_option maxRecDepth 20000 in
set_option maxHeartbeats 2000000 in
theorem j_digest {σ τ : zMem}  {r r2 : Int} (J : zJn σ τ)  (hX : r = zD3 σ 8) (hM : r2 = zD3 τ 8) : r = r2 := by
  obtain ⟨ok, har, hE, h9, h60⟩ := id J
  obtain ⟨⟨hw, hs, ht, h4, h5, h6, hwc, hlc⟩, ⟨h7, hdd⟩, hmp, oS1, oW1, oA1, oT1, oB1⟩ := id ok
  have hN := zHw_N hw
  rw [hX, hM, cD3 hE h9 hN 8]
set_option maxRecDepth 20000 in
set_option maxHeartbeats 2000000 in
theorem j_give {σ τ : zMem} {f x0 x1 y0 y1 : Int} {r r2 : Int} (J : zJn σ τ) (hf : -2147483648 ≤ f ∧ f < 2147483648) (hx0 : -2147483648 ≤ x0 ∧ x0 < 2147483648) (hx1 : -2147483648 ≤ x1 ∧ x1 < 2147483648) (hy0 : -2147483648 ≤ y0 ∧ y0 < 2147483648) (hy1 : -2147483648 ≤ y1 ∧ y1 < 2147483648) {σ' τ' : zMem} (hX : ((¬ zIsA σ f x0 x1 y0 y1 ∧ r = -2 ∧ σ' = σ) ∨ (zIsA σ f x0 x1 y0 y1 ∧ ∃ ν : zMem, zE ν σ [48, 49, 50] ∧ ν 49 0 = σ 49 0 + 1 ∧ (∀ j : Int, j < σ 49 0 → ∀ k : Int, 0 ≤ k → k < 5 → ν 50 (5 * j + k) = σ 50 (5 * j + k)) ∧ (ν 50 (5 * σ 49 0) = f ∧ ν 50 (5 * σ 49 0 + 1) = x0 ∧ ν 50 (5 * σ 49 0 + 2) = x1 ∧ ν 50 (5 * σ 49 0 + 3) = y0 ∧ ν 50 (5 * σ 49 0 + 4) = y1) ∧ (((zNi ν (ν 50 (5 * σ 49 0)) (ν 50 (5 * σ 49 0 + 1)) (ν 50 (5 * σ 49 0 + 2)) (ν 50 (5 * σ 49 0 + 3)) (ν 50 (5 * σ 49 0 + 4)) 20 < ν 11 0 ∨ (∃ i, 0 ≤ i ∧ i < ν 12 0 ∧ 0 < zAp ν (σ 49 0) (ν 51 i) ∧ zAp ν (σ 49 0) (ν 51 i) < ν 11 0)) ∧ r = -3 ∧ σ' = ν) ∨ (¬ (zNi ν (ν 50 (5 * σ 49 0)) (ν 50 (5 * σ 49 0 + 1)) (ν 50 (5 * σ 49 0 + 2)) (ν 50 (5 * σ 49 0 + 3)) (ν 50 (5 * σ 49 0 + 4)) 20 < ν 11 0 ∨ (∃ i, 0 ≤ i ∧ i < ν 12 0 ∧ 0 < zAp ν (σ 49 0) (ν 51 i) ∧ zAp ν (σ 49 0) (ν 51 i) < ν 11 0)) ∧ ((¬ (∃ i, 0 ≤ i ∧ i < ν 12 0 ∧ zAp ν (σ 49 0) (ν 51 i) = 0) ∧ 30 ≤ ν 12 0 ∧ r = -4 ∧ σ' = ν) ∨ ((∃ i, 0 ≤ i ∧ i < ν 12 0 ∧ zAp ν (σ 49 0) (ν 51 i) = 0) ∧ r = zNi ν (ν 50 (5 * σ 49 0)) (ν 50 (5 * σ 49 0 + 1)) (ν 50 (5 * σ 49 0 + 2)) (ν 50 (5 * σ 49 0 + 3)) (ν 50 (5 * σ 49 0 + 4)) 20 - zNi ν (ν 50 (5 * σ 49 0)) (ν 50 (5 * σ 49 0 + 1)) (ν 50 (5 * σ 49 0 + 2)) (ν 50 (5 * σ 49 0 + 3)) (ν 50 (5 * σ 49 0 + 4)) 20 % ν 11 0 ∧ σ' = ν) ∨ (¬ (∃ i, 0 ≤ i ∧ i < ν 12 0 ∧ zAp ν (σ 49 0) (ν 51 i) = 0) ∧ ν 12 0 < 30 ∧ r = zNi ν (ν 50 (5 * σ 49 0)) (ν 50 (5 * σ 49 0 + 1)) (ν 50 (5 * σ 49 0 + 2)) (ν 50 (5 * σ 49 0 + 3)) (ν 50 (5 * σ 49 0 + 4)) 20 - zNi ν (ν 50 (5 * σ 49 0)) (ν 50 (5 * σ 49 0 + 1)) (ν 50 (5 * σ 49 0 + 2)) (ν 50 (5 * σ 49 0 + 3)) (ν 50 (5 * σ 49 0 + 4)) 20 % ν 11 0 ∧ σ' = zS (zS ν 51 (zU (ν 51) (ν 12 0) (σ 49 0))) 12 (zC (ν 12 0 + 1))))))))) (hM : ((¬ zIsA τ f x0 x1 y0 y1 ∧ r2 = -2 ∧ τ' = τ) ∨ (zIsA τ f x0 x1 y0 y1 ∧ (((zNi τ f x0 x1 y0 y1 20 < τ 11 0 ∨ zNs τ f x0 x1 y0 y1 (τ 12 0)) ∧ r2 = -3 ∧ τ' = τ) ∨ (¬ (zNi τ f x0 x1 y0 y1 20 < τ 11 0 ∨ zNs τ f x0 x1 y0 y1 (τ 12 0)) ∧ ((¬ zWs τ f x0 x1 y0 y1 (τ 12 0) ∧ 30 ≤ τ 12 0 ∧ r2 = -4 ∧ τ' = τ) ∨ (zWs τ f x0 x1 y0 y1 (τ 12 0) ∧ r2 = zNi τ f x0 x1 y0 y1 20 - zNi τ f x0 x1 y0 y1 20 % τ 11 0 ∧ τ' = τ) ∨ (¬ zWs τ f x0 x1 y0 y1 (τ 12 0) ∧ τ 12 0 < 30 ∧ r2 = zNi τ f x0 x1 y0 y1 20 - zNi τ f x0 x1 y0 y1 20 % τ 11 0 ∧ τ' = zS (zS τ 13 (zGv τ f x0 x1 y0 y1)) 12 (zC (τ 12 0 + 1))))))))) : r = r2 ∧ zK σ' τ' := by
  obtain ⟨ok, har, hE, h9, h60⟩ := id J
  obtain ⟨⟨hw, hs, ht, h4, h5, h6, hwc, hlc⟩, ⟨h7, hdd⟩, hmp, oS1, oW1, oA1, oT1, oB1⟩ := id ok
  have hN := zHw_N hw
  try simp only [cN hE, cIsA hE, cRp hE, cIp hE, cSn hE, cSv hE, cWt hE, cOf hE, cLy hE, cEy hE, cYf hE, cYw hE, cYt hE, cLm hE, cCt hE, cNi hE, cNs hE, cWs hE, cGv hE, cRt hE, cBl hE, e_0 hE, e_1 hE, e_2 hE, e_3 hE, e_4 hE, e_5 hE, e_6 hE, e_7 hE, e_8 hE, e_10 hE, e_11 hE, e_12 hE, e_13 hE, e_14 hE, e_15 hE, e_16 hE, e_17 hE, e_18 hE, e_19 hE, e_20 hE] at hM
  rcases hX with ⟨n1, rfl, rfl⟩ | ⟨p1, ν, hEn, n49, nj, ⟨v0, v1, v2, v3, v4⟩, hX⟩ <;> rcases hM with ⟨n2, rfl, rfl⟩ | ⟨p2, hM⟩
  · exact ⟨rfl, J.k⟩
  · exact absurd p2 n1
  · exact absurd p1 n2
  · have hnum : zNi ν (ν 50 (5 * σ 49 0)) (ν 50 (5 * σ 49 0 + 1)) (ν 50 (5 * σ 49 0 + 2)) (ν 50 (5 * σ 49 0 + 3)) (ν 50 (5 * σ 49 0 + 4)) 20 = zNi σ f x0 x1 y0 y1 20 := by
      rw [v0, v1, v2, v3, v4]
      exact zNi_E hEn (by decide) f x0 x1 y0 y1 20
    have e12 : ν 12 0 = σ 12 0 := congrFun (hEn 12 (by decide)) 0
    have e11 : ν 11 0 = σ 11 0 := congrFun (hEn 11 (by decide)) 0
    have e51 : ν 51 = σ 51 := hEn 51 (by decide)
    have hap : ∀ i, 0 ≤ i → i < σ 12 0 → zAp ν (σ 49 0) (σ 51 i) = zPr σ i f x0 x1 y0 y1 (zN σ).toNat := by
      intro i h0 h1
      obtain ⟨b0, b1, c0, c1, c2, c3, c4⟩ := oA1.2.2.2 i h0 h1
      have m0 := nj (σ 51 i) b0.2 0 (by omega) (by omega)
      rw [Int.add_zero] at m0
      have m1 := nj (σ 51 i) b0.2 1 (by omega) (by omega)
      have m2 := nj (σ 51 i) b0.2 2 (by omega) (by omega)
      have m3 := nj (σ 51 i) b0.2 3 (by omega) (by omega)
      have m4 := nj (σ 51 i) b0.2 4 (by omega) (by omega)
      rw [zPr_e hw rfl rfl rfl rfl rfl p1 b1]
      unfold zAp
      rw [v0, v1, v2, v3, v4, m0, m1, m2, m3, m4, c0, c1, c2, c3, c4]
    have hnear : (∃ i, 0 ≤ i ∧ i < ν 12 0 ∧ 0 < zAp ν (σ 49 0) (ν 51 i) ∧ zAp ν (σ 49 0) (ν 51 i) < ν 11 0) ↔ zNs σ f x0 x1 y0 y1 (σ 12 0) := by
      rw [e12, e11, e51]
      constructor
      · rintro ⟨i, h0, h1, h2, h3⟩
        rw [hap i h0 h1] at h2 h3
        exact ⟨i, ⟨h0, h1⟩, h2, h3⟩
      · rintro ⟨i, ⟨h0, h1⟩, h2, h3⟩
        rw [← hap i h0 h1] at h2 h3
        exact ⟨i, h0, h1, h2, h3⟩
    have hwas : (∃ i, 0 ≤ i ∧ i < ν 12 0 ∧ zAp ν (σ 49 0) (ν 51 i) = 0) ↔ zWs σ f x0 x1 y0 y1 (σ 12 0) := by
      rw [e12, e51]
      constructor
      · rintro ⟨i, h0, h1, h2⟩
        rw [hap i h0 h1] at h2
        exact ⟨i, ⟨h0, h1⟩, h2⟩
      · rintro ⟨i, ⟨h0, h1⟩, h2⟩
        rw [← hap i h0 h1] at h2
        exact ⟨i, h0, h1, h2⟩
    rw [hnum, hnear, hwas, e12, e11] at hX
    have Jν : zJn ν τ := by
      refine jn_mk J hEn (l2 := []) zE_rf (fun k hk hn => ?_) ⟨oH_E hEn (by decide) ⟨hw, hs, ht, h4, h5, h6, hwc, hlc⟩, oD_E hEn (by decide) ⟨h7, hdd⟩, zMp_E hEn (by decide) hmp, oS_E hEn (by decide) oS1, oW_E hEn (by decide) oW1, ?_, oT_E hEn (by decide) oT1, oB_E hEn (by decide) oB1⟩ (fun i => by rw [e51, n49]; have := har i; omega) (fun c h0 h1 => by rw [hEn 9 (by decide)]; exact h9 c h0 (by rw [← zN_E hEn (by decide) (by decide) (by decide)]; exact h1)) (by rw [zN_E hEn (by decide) (by decide) (by decide)]; exact h60)
      · unfold zLL at hn
        simp only [List.mem_cons, List.not_mem_nil, or_false] at hk hn
        omega
      · refine ⟨by rw [e11]; exact oA1.1, by rw [e12]; exact oA1.2.1, by rw [n49]; have := oA1.2.2.1; omega, fun i h0 h1 => ?_⟩
        rw [e12] at h1
        obtain ⟨b0, b1, c0, c1, c2, c3, c4⟩ := oA1.2.2.2 i h0 h1
        have m0 := nj (σ 51 i) b0.2 0 (by omega) (by omega)
        rw [Int.add_zero] at m0
        have m1 := nj (σ 51 i) b0.2 1 (by omega) (by omega)
        have m2 := nj (σ 51 i) b0.2 2 (by omega) (by omega)
        have m3 := nj (σ 51 i) b0.2 3 (by omega) (by omega)
        have m4 := nj (σ 51 i) b0.2 4 (by omega) (by omega)
        rw [e51, n49, hEn 13 (by decide), m0, m1, m2, m3, m4]
        refine ⟨by omega, ?_, c0, c1, c2, c3, c4⟩
        unfold zIsA at b1 ⊢
        rw [hEn 0 (by decide), hEn 1 (by decide), hEn 2 (by decide)]
        exact b1
    rcases hX with ⟨q1, rfl, rfl⟩ | ⟨q1, hX⟩ <;> rcases hM with ⟨q2, rfl, rfl⟩ | ⟨q2, hM⟩
    · exact ⟨rfl, Jν.k⟩
    · exact absurd q1 q2
    · exact absurd q2 q1
    · rcases hX with ⟨u1, u2, rfl, rfl⟩ | ⟨u1, er, rfl⟩ | ⟨u1, u2, er, rfl⟩ <;> rcases hM with ⟨w1, w2, rfl, rfl⟩ | ⟨w1, er2, rfl⟩ | ⟨w1, w2, er2, rfl⟩
      · exact ⟨rfl, Jν.k⟩
      · exact absurd w1 u1
      · omega
      · exact absurd u1 w1
      · exact ⟨er.trans er2.symm, Jν.k⟩
      · exact absurd u1 w1
      · omega
      · exact absurd w1 u1
      · refine ⟨er.trans er2.symm, zS (zS (zS ν 51 (zU (ν 51) (σ 12 0) (σ 49 0))) 12 (zC (σ 12 0 + 1))) 13 (zGv σ f x0 x1 y0 y1), _, fun _ _ => rfl, fun _ _ => rfl, ?_⟩
        obtain ⟨g0, g1, g2, g3, g4, g5⟩ := zA5_v (σ 13) (σ 12 0) f x0 x1 y0 y1
        have hg : zGv σ f x0 x1 y0 y1 = zA5 (σ 13) (σ 12 0) f x0 x1 y0 y1 := rfl
        rw [hg]
        generalize zA5 (σ 13) (σ 12 0) f x0 x1 y0 y1 = G at g0 g1 g2 g3 g4 g5
        generalize hμ : zS (zS (zS ν 51 (zU (ν 51) (σ 12 0) (σ 49 0))) 12 (zC (σ 12 0 + 1))) 13 G = μ
        have E2 : zE μ ν [12, 13, 51] := by rw [← hμ]; exact zE_set (zE_set (zE_set zE_rf (by decide)) (by decide)) (by decide)
        have m12 : μ 12 = zC (σ 12 0 + 1) := by rw [← hμ]; rfl
        have m13 : μ 13 = G := by rw [← hμ]; rfl
        have m51 : μ 51 = zU (σ 51) (σ 12 0) (σ 49 0) := by rw [← hμ, ← e51]; rfl
        obtain ⟨okν, harν, hEν, h9ν, h60ν⟩ := id Jν
        obtain ⟨o1, o2, o3, o4, o5, o6, o7, o8⟩ := id okν
        have p1ν : zIsA ν f x0 x1 y0 y1 := by
          unfold zIsA at p1 ⊢
          rw [hEn 0 (by decide), hEn 1 (by decide), hEn 2 (by decide)]
          exact p1
        refine jn_mk Jν E2 (l2 := [12, 13]) (zE_set (zE_set zE_rf (by decide)) (by decide)) (fun k hk hn => ?_) ⟨oH_E E2 (by decide) o1, oD_E E2 (by decide) o2, zMp_E E2 (by decide) o3, oS_E E2 (by decide) o4, oW_E E2 (by decide) o5, ?_, oT_E E2 (by decide) o7, oB_E E2 (by decide) o8⟩ (fun i => ?_) (fun c h0 h1 => by rw [E2 9 (by decide)]; exact h9ν c h0 (by rw [← zN_E E2 (by decide) (by decide) (by decide)]; exact h1)) (by rw [zN_E E2 (by decide) (by decide) (by decide)]; exact h60ν)
        · simp only [List.mem_cons, List.not_mem_nil, or_false] at hk
          rcases hk with (rfl | rfl | rfl) | (rfl | rfl)
          · rw [m12]; rfl
          · rw [m13]; rfl
          · exact absurd (by decide) hn
          · rw [m12]; rfl
          · rw [m13]; rfl
        · have m12' : μ 12 0 = σ 12 0 + 1 := by rw [m12]; rfl
          have h120 := oA1.2.1
          have h490 := oA1.2.2.1
          refine ⟨by rw [E2 11 (by decide), e11]; exact oA1.1, by omega, by rw [E2 49 (by decide), n49]; omega, fun i h0 h1 => ?_⟩
          rw [m12'] at h1
          have isa : ∀ {a b c d e : Int}, zIsA ν a b c d e → zIsA μ a b c d e := fun {a b c d e} q => by
            unfold zIsA at q ⊢
            rw [E2 0 (by decide), E2 1 (by decide), E2 2 (by decide)]
            exact q
          rw [m51, m13, E2 49 (by decide), E2 50 (by decide), n49]
          by_cases g : i = σ 12 0
          · rw [g, zU_s, g0, g1, g2, g3, g4]
            exact ⟨by omega, isa p1ν, v0, v1, v2, v3, v4⟩
          · rw [zU_n g, g5 _ (by omega), g5 _ (by omega), g5 _ (by omega), g5 _ (by omega), g5 _ (by omega)]
            have k := o6.2.2.2 i h0 (by omega)
            rw [e51, hEn 13 (by decide), n49] at k
            exact ⟨k.1, isa k.2.1, k.2.2⟩
        · rw [m51, E2 49 (by decide), n49]
          have := har i
          unfold zU
          split <;> omega
