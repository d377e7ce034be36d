/-! WHAT HOLDS AT ALL TIMES, of both memories; what keeps it -/
theorem oH_mk {μ σ : zMem} {l : List Nat} (h : zE μ σ l) (hl : ∀ k ∈ [0, 1, 2, 4, 5, 6, 31, 32], k ∉ l := by decide) (o : oH σ) (hs : 0 ≤ μ 3 0 ∧ μ 3 0 ≤ 9) (ht : zTb μ) : oH μ := by
  obtain ⟨hw, _, _, h4, h5, h6, hwc, hlc⟩ := o
  refine ⟨zHw_E h (hl 0 (by decide)) (hl 1 (by decide)) (hl 2 (by decide)) hw, hs, ht, zBo_E h (hl 4 (by decide)) h4, zBo_E h (hl 5 (by decide)) h5, zBo_E h (hl 6 (by decide)) h6, ?_, ?_⟩
  · unfold zWc at hwc ⊢
    rw [h 31 (hl 31 (by decide)), h 4 (hl 4 (by decide)), h 5 (hl 5 (by decide)), zN_E h (hl 0 (by decide)) (hl 1 (by decide)) (hl 2 (by decide))]
    exact hwc
  · unfold zLc at hlc ⊢
    rw [h 32 (hl 32 (by decide)), h 6 (hl 6 (by decide))]
    exact hlc
theorem oH_E {μ σ : zMem} {l : List Nat} (h : zE μ σ l) (hl : ∀ k ∈ [0, 1, 2, 3, 4, 5, 6, 31, 32, 33], k ∉ l := by decide) (o : oH σ) : oH μ := by
  refine oH_mk h (fun k hk => hl k ?_) o (by rw [h 3 (hl 3 (by decide))]; exact o.2.1) (zTb_E h (hl 0 (by decide)) (hl 1 (by decide)) (hl 2 (by decide)) (hl 3 (by decide)) (hl 4 (by decide)) (hl 5 (by decide)) (hl 6 (by decide)) (hl 33 (by decide)) o.2.2.1)
  simp only [List.mem_cons, List.not_mem_nil, or_false] at hk ⊢
  omega
theorem oD_E {μ σ : zMem} {l : List Nat} (h : zE μ σ l) (hl : ∀ k ∈ [7, 30], k ∉ l := by decide) (o : oD σ) : oD μ := by
  unfold oD at o ⊢
  exact ⟨zBo_E h (hl 7 (by decide)) o.1, by rw [h 7 (hl 7 (by decide)), h 30 (hl 30 (by decide))]; exact o.2⟩
theorem zMp_E {μ σ : zMem} {l : List Nat} (h : zE μ σ l) (hl : ∀ k ∈ [8], k ∉ l := by decide) (o : zMp σ) : zMp μ := by
  unfold zMp at o ⊢
  rw [h 8 (hl 8 (by decide))]
  exact o
theorem oS_E {μ σ : zMem} {l : List Nat} (h : zE μ σ l) (hl : ∀ k ∈ [0, 1, 2, 9, 36], k ∉ l := by decide) (o : oS σ) : oS μ := by
  unfold oS at o ⊢
  rw [h 36 (hl 36 (by decide)), h 9 (hl 9 (by decide)), zN_E h (hl 0 (by decide)) (hl 1 (by decide)) (hl 2 (by decide))]
  exact o
/-- new shares -/
theorem oS_9m {μ σ : zMem} {l : List Nat} (h : zE μ σ l) (hl : ∀ k ∈ [0, 1, 2], k ∉ l := by decide) (h36 : μ 36 0 = zN σ) {F : Int → Int} (e : ∀ c, 0 ≤ c → c < zN σ → μ 9 c = F c) (hw : zHw σ) (hF : (∀ c : Int, 0 ≤ c → c < (zN σ).toNat → 0 ≤ F c ∧ F c ≤ 1000000) ∧ zSum F (zN σ).toNat = 1000000) : oS μ := by
  have hN := zHw_N hw
  unfold oS
  rw [zN_E h (hl 0 (by decide)) (hl 1 (by decide)) (hl 2 (by decide))]
  refine ⟨h36, fun c h0 h1 => by rw [e c h0 h1]; exact hF.1 c h0 (by omega), ?_⟩
  rw [zSum_cg _ (fun c h0 h1 => e c h0 (by omega))]
  exact hF.2
theorem oW_E {μ σ : zMem} {l : List Nat} (h : zE μ σ l) (hl : ∀ k ∈ [0, 1, 2, 10], k ∉ l := by decide) (o : oW σ) : oW μ := by
  unfold oW at o ⊢
  rw [h 10 (hl 10 (by decide)), zN_E h (hl 0 (by decide)) (hl 1 (by decide)) (hl 2 (by decide))]
  exact o
theorem oA_E {μ σ : zMem} {l : List Nat} (h : zE μ σ l) (hl : ∀ k ∈ [0, 1, 2, 11, 12, 13, 49, 50, 51], k ∉ l := by decide) (o : oA σ) : oA μ := by
  unfold oA zIsA at o ⊢
  rw [h 11 (hl 11 (by decide)), h 12 (hl 12 (by decide)), h 13 (hl 13 (by decide)), h 49 (hl 49 (by decide)), h 50 (hl 50 (by decide)), h 51 (hl 51 (by decide)), h 0 (hl 0 (by decide)), h 1 (hl 1 (by decide)), h 2 (hl 2 (by decide))]
  exact o
/-- no area is given any more -/
theorem oA_0 {μ σ : zMem} {l : List Nat} (h : zE μ σ l) (hl : ∀ k ∈ [49], k ∉ l := by decide) (h11 : 1 ≤ μ 11 0 ∧ μ 11 0 ≤ 20) (h12 : μ 12 0 = 0) (o : oA σ) : oA μ := by
  unfold oA at o ⊢
  rw [h 49 (hl 49 (by decide)), h12]
  exact ⟨h11, by omega, o.2.2.1, fun i h0 h1 => by omega⟩
theorem oT_E {μ σ : zMem} {l : List Nat} (h : zE μ σ l) (hl : ∀ k ∈ [14], k ∉ l := by decide) (o : oT σ) : oT μ := by
  unfold oT at o ⊢
  rw [h 14 (hl 14 (by decide))]
  exact o
theorem oB_E {μ σ : zMem} {l : List Nat} (h : zE μ σ l) (hl : ∀ k ∈ [16, 17, 18, 20, 40], k ∉ l := by decide) (o : oB σ) : oB μ := by
  unfold oB zBo zIt at o ⊢
  rw [h 16 (hl 16 (by decide)), h 17 (hl 17 (by decide)), h 18 (hl 18 (by decide)), h 20 (hl 20 (by decide)), h 40 (hl 40 (by decide))]
  exact o
def zOK : List Nat := [0, 1, 2, 3, 4, 5, 6, 7, 8, 9, 10, 11, 12, 13, 14, 16, 17, 18, 20, 30, 31, 32, 33, 36, 40, 49, 50, 51]
theorem okX_E {μ σ : zMem} {l : List Nat} (h : zE μ σ l) (hl : ∀ k ∈ zOK, k ∉ l := by decide) (ok : okX σ) : okX μ := by
  obtain ⟨o1, o2, o3, o4, o5, o6, o7, o8⟩ := ok
  refine ⟨oH_E h (fun k hk => hl k ?_) o1, oD_E h (fun k hk => hl k ?_) o2, zMp_E h (fun k hk => hl k ?_) o3, oS_E h (fun k hk => hl k ?_) o4, oW_E h (fun k hk => hl k ?_) o5, oA_E h (fun k hk => hl k ?_) o6, oT_E h (fun k hk => hl k ?_) o7, oB_E h (fun k hk => hl k ?_) o8⟩ <;>
    (unfold zOK; simp only [List.mem_cons, List.not_mem_nil, or_false] at hk ⊢; omega)
def zJn (σ τ : zMem) : Prop := okX σ ∧ (∀ i, σ 51 i < σ 49 0) ∧ zE τ σ zLL ∧ (∀ c, 0 ≤ c → c < zN σ → τ 9 c = σ 9 c) ∧ τ 60 0 = zN σ
theorem zJn.om {σ τ : zMem} (J : zJn σ τ) : okM τ := by
  obtain ⟨ok, har, hE, h9, h60⟩ := J
  obtain ⟨⟨hw, hs, ht, h4, h5, h6, hwc, hlc⟩, ⟨h7, hdd⟩, hmp, oS1, oW1, oA1, oT1, oB1⟩ := ok
  have hN := zHw_N hw
  unfold okM zMp zBo oW oT zIt
  rw [cN hE, cIsA hE, e_3 hE, e_4 hE, e_5 hE, e_6 hE, e_7 hE, e_8 hE, e_10 hE, e_11 hE, e_12 hE, e_13 hE, e_14 hE, e_16 hE, e_17 hE, e_18 hE, e_20 hE]
  refine ⟨⟨zHw_E hE (by decide) (by decide) (by decide) hw, h60, hs, h4, h5, h6, h7⟩, hmp, ⟨fun c h0 h1 => by rw [h9 c h0 h1]; exact oS1.2.1 c h0 h1, ?_⟩, oW1, ⟨oA1.1, oA1.2.1, fun i h0 h1 => (oA1.2.2.2 i h0 h1).2.1⟩, oT1, ⟨oB1.1, oB1.2.1, oB1.2.2.1, oB1.2.2.2.1⟩⟩
  rw [zSum_cg _ (fun c h0 h1 => h9 c h0 (by omega))]
  exact oS1.2.2
/-- an end: the same worlds, by memories that go together -/
def zK (σ τ : zMem) : Prop := ∃ μ ν : zMem, (∀ ad t, wX ad t μ = wX ad t σ) ∧ (∀ ad t, wM ad t ν = wM ad t τ) ∧ zJn μ ν
theorem zJn.k {σ τ : zMem} (J : zJn σ τ) : zK σ τ := ⟨σ, τ, fun _ _ => rfl, fun _ _ => rfl, J⟩
theorem jn_mk {σ τ σ' τ' : zMem} {l1 l2 : List Nat} (J : zJn σ τ) (h1 : zE σ' σ l1) (h2 : zE τ' τ l2) (hc : ∀ k, k ∈ l1 ∨ k ∈ l2 → k ∉ zLL → τ' k = σ' k) (ok : okX σ') (har : ∀ i, σ' 51 i < σ' 49 0) (h9 : ∀ c, 0 ≤ c → c < zN σ' → τ' 9 c = σ' 9 c) (h60 : τ' 60 0 = zN σ') : zJn σ' τ' := by
  refine ⟨ok, har, fun k hk => ?_, h9, h60⟩
  by_cases g : k ∈ l1 ∨ k ∈ l2
  · exact hc k g hk
  · rw [h2 k (fun q => g (Or.inr q)), J.2.2.1 k hk, h1 k (fun q => g (Or.inl q))]
/-- nothing that is held in common has changed, nor what keeps -/
theorem jn_f {σ τ σ' τ' : zMem} {l1 l2 : List Nat} (J : zJn σ τ) (h1 : zE σ' σ l1) (h2 : zE τ' τ l2) (hl : (∀ k ∈ l1, k ∈ [34, 35, 37, 38, 39, 41]) ∧ ∀ k ∈ l2, k ∈ [61, 62, 63, 64, 65, 66, 67] := by decide) : zJn σ' τ' := by
  have hs1 : ∀ k, k ∉ ([34, 35, 37, 38, 39, 41] : List Nat) → k ∉ l1 := fun k q p => q (hl.1 k p)
  have hs2 : ∀ k, k ∉ ([61, 62, 63, 64, 65, 66, 67] : List Nat) → k ∉ l2 := fun k q p => q (hl.2 k p)
  have E1 : zE σ' σ [34, 35, 37, 38, 39, 41] := zE_mo h1 hl.1
  have E2 : zE τ' τ [61, 62, 63, 64, 65, 66, 67] := zE_mo h2 hl.2
  obtain ⟨ok, har, hE, h9, h60⟩ := id J
  have eN : zN σ' = zN σ := zN_E E1 (by decide) (by decide) (by decide)
  refine jn_mk J E1 E2 (fun k hk hn => ?_) (okX_E E1 (by decide) ok) (fun i => by rw [E1 51 (by decide), E1 49 (by decide)]; exact har i) (fun c h0 h1 => ?_) ?_
  · refine absurd ?_ hn
    unfold zLL
    simp only [List.mem_cons, List.not_mem_nil, or_false] at hk ⊢
    omega
  · rw [E1 9 (by decide), E2 9 (by decide)]
    exact h9 c h0 (by rw [← eN]; exact h1)
  · rw [E2 60 (by decide), eN]
    exact h60
/-- the finding -/
theorem jn_19 {σ τ : zMem} (J : zJn σ τ) (F : Int → Int) : zJn (zS σ 19 F) (zS τ 19 F) := by
  obtain ⟨ok, har, hE, h9, h60⟩ := id J
  have E1 : zE (zS σ 19 F) σ [19] := zE_set zE_rf (by decide)
  have E2 : zE (zS τ 19 F) τ [19] := zE_set zE_rf (by decide)
  refine jn_mk J E1 E2 (fun k hk hn => ?_) (okX_E E1 (by decide) ok) har h9 h60
  simp only [List.mem_cons, List.not_mem_nil, or_false] at hk
  rw [show k = 19 by omega]
  rfl
/-- new shares on both sides -/
theorem jn_9 {σ τ σ' τ' : zMem} {l2 : List Nat} (J : zJn σ τ) (h1 : zE σ' σ [9, 36, 37, 38]) (h36 : σ' 36 0 = zN σ) (h2 : zE τ' τ l2) (hl : ∀ k ∈ l2, k ∈ [9, 61, 62, 63] := by decide) {F : Int → Int} (e1 : ∀ c, 0 ≤ c → c < zN σ → σ' 9 c = F c) (e2 : ∀ c, 0 ≤ c → c < zN σ → τ' 9 c = F c) (hF : (∀ c : Int, 0 ≤ c → c < (zN σ).toNat → 0 ≤ F c ∧ F c ≤ 1000000) ∧ zSum F (zN σ).toNat = 1000000) : zJn σ' τ' := by
  obtain ⟨ok, har, hE, h9, h60⟩ := id J
  obtain ⟨o1, o2, o3, o4, o5, o6, o7, o8⟩ := id ok
  have E2 : zE τ' τ [9, 61, 62, 63] := zE_mo h2 hl
  have eN : zN σ' = zN σ := zN_E h1 (by decide) (by decide) (by decide)
  refine jn_mk J h1 E2 (fun k hk hn => ?_) ⟨oH_E h1 (by decide) o1, oD_E h1 (by decide) o2, zMp_E h1 (by decide) o3, oS_9m h1 (by decide) h36 e1 o1.1 hF, oW_E h1 (by decide) o5, oA_E h1 (by decide) o6, oT_E h1 (by decide) o7, oB_E h1 (by decide) o8⟩ (fun i => by rw [h1 51 (by decide), h1 49 (by decide)]; exact har i) (fun c h0 h1 => ?_) ?_
  · refine absurd ?_ hn
    unfold zLL
    simp only [List.mem_cons, List.not_mem_nil, or_false] at hk ⊢
    omega
  · rw [eN] at h1
    rw [e1 c h0 h1, e2 c h0 h1]
  · rw [E2 60 (by decide), eN]
    exact h60
/-- one array that both hold, changed alike -/
theorem jn_u {σ τ : zMem} (J : zJn σ τ) (k : Nat) (F : Int → Int) (hk : k ∉ [0, 1, 2, 9, 49, 51, 60] := by decide) (ok : okX (zS σ k F)) : zJn (zS σ k F) (zS τ k F) := by
  obtain ⟨_, har, hE, h9, h60⟩ := id J
  have E1 : zE (zS σ k F) σ [k] := zE_set zE_rf (List.mem_singleton.mpr rfl)
  have E2 : zE (zS τ k F) τ [k] := zE_set zE_rf (List.mem_singleton.mpr rfl)
  have nk : ∀ j, j ∈ [0, 1, 2, 9, 49, 51, 60] → j ∉ [k] := fun j hj q => hk (by rw [List.mem_singleton] at q; rw [← q]; exact hj)
  have eN : zN (zS σ k F) = zN σ := zN_E E1 (nk 0 (by decide)) (nk 1 (by decide)) (nk 2 (by decide))
  refine jn_mk J E1 E2 (fun j hj hn => ?_) ok (fun i => by rw [E1 51 (nk 51 (by decide)), E1 49 (nk 49 (by decide))]; exact har i) (fun c h0 h1 => ?_) ?_
  · simp only [List.mem_singleton, or_self] at hj
    subst hj
    rw [zS_s, zS_s]
  · rw [E1 9 (nk 9 (by decide)), E2 9 (nk 9 (by decide))]
    exact h9 c h0 (by rw [← eN]; exact h1)
  · rw [E2 60 (nk 60 (by decide)), eN]
    exact h60
