/-! THE LAW'S LOOP -/
set_option maxRecDepth 100000 in
set_option maxHeartbeats 4000000 in
theorem lw_loop {K : z_KT} {b L : Nat} {xs : Nat → Int} {ad ae : Nat → Nat} (C : Fc K cL_law RL 4) (hR : z_Rm K = z_rm 10 402 600000 7302250) (S : z_Sc K b L xs) (hL : L ≤ 3072) (fin : ∀ (c s : Nat) (i : Int) (w : va_W), c ≤ 600000 → s ≤ 7302250 → Gd K c s 1307 [some (.ref b), some (.ref (ad 0)), some (.ref (ae 0)), some (.int (zI i))] [] w) : ∀ (N : Nat) (i : Int) (σ τ : zMem) (cells slots : Nat), (0 ≤ i ∧ i ≤ L) → ((L : Int) - i).toNat < N → (cells : Int) + (L - i) ≤ 600000 → (slots : Int) + 5 * (L - i) ≤ 7302250 → zJn σ τ → Gd K cells slots 18 [some (.ref b), some (.ref (ad 0)), some (.ref (ae 0)), some (.int (zI i))] [] (wM ae (z_t K) τ ++ wX ad (z_t K) σ) := by
  intro N
  induction N with
  | zero => intro i σ τ cells slots hi hm; exact absurd hm (Nat.not_lt_zero _)
  | succ N ih =>
    intro i σ τ cells slots hi hm hc hs J
    refine z_iload_n C (z_d dtL_law_0 10 rfl) rfl ?_
    refine z_aload_n C (z_d dtL_law_0 11 rfl) rfl ?_
    refine z_slen C S (z_d dtL_law_0 12 rfl) ?_
    refine z_bipush C (z_d dtL_law_0 13 rfl) zb_6 ?_
    refine z_isub C (z_d dtL_law_0 14 rfl) ?_
    refine z_icmp_gt (tgt := 1307) C (z_d dtL_law_0 15 rfl) (by decide) (by omega) (fun h => ?_) (fun h => ?_)
    · exact fin _ _ _ _ (by omega) (by omega)
    · refine z_aload_n C (z_d dtL_law_0 16 rfl) rfl ?_
      refine z_iload_n C (z_d dtL_law_0 17 rfl) rfl ?_
      refine z_sld C S rfl (by omega) (by omega) (z_d dtL_law_0 18 rfl) ?_
      refine z_bipush C (z_d dtL_law_0 19 rfl) zb_31 ?_
      obtain ⟨z, hz, ez⟩ := z_and31 (xs i.toNat)
      refine z_iand C (z_d dtL_law_0 20 rfl) ez ?_
      have next : ∀ (σ' τ' : zMem) (c s : Nat), c ≤ cells + 1 → s ≤ slots + 5 → zJn σ' τ' → Gd K c s 1301 [some (.ref b), some (.ref (ad 0)), some (.ref (ae 0)), some (.int (zI i))] [] (wM ae (z_t K) τ' ++ wX ad (z_t K) σ') := by
        intro σ' τ' c s h1 h2 J'
        refine z_iinc3 C (z_d dtL_law_23 11 rfl) rfl ?_
        refine z_goto (tgt := 18) C (z_d dtL_law_23 12 rfl) (by decide) ?_
        exact ih (i + 6) σ' τ' c s (by omega) (by omega) (by omega) (by omega) J'
      rcases (show z = 0 ∨ z = 1 ∨ z = 2 ∨ z = 3 ∨ z = 4 ∨ z = 5 ∨ z = 6 ∨ z = 7 ∨ z = 8 ∨ z = 9 ∨ z = 10 ∨ z = 11 ∨ z = 12 ∨ z = 13 ∨ z = 14 ∨ z = 15 ∨ z = 16 ∨ z = 17 ∨ z = 18 ∨ z = 19 ∨ z = 20 ∨ z = 21 ∨ z = 22 ∨ z = 23 ∨ z = 24 ∨ z = 25 ∨ z = 26 ∨ z = 27 ∨ z = 28 ∨ z = 29 ∨ z = 30 ∨ z = 31 by omega) with rfl | rfl | rfl | rfl | rfl | rfl | rfl | rfl | rfl | rfl | rfl | rfl | rfl | rfl | rfl | rfl | rfl | rfl | rfl | rfl | rfl | rfl | rfl | rfl | rfl | rfl | rfl | rfl | rfl | rfl | rfl | rfl
      · exact z_tableIn (tgt := 176) C (z_d dtL_law_0 21 rfl) (by omega) (by omega) (by omega) rfl (by decide) (lw_building C hR S hL (by omega) J (by omega) next)
      · exact z_tableIn (tgt := 219) C (z_d dtL_law_0 21 rfl) (by omega) (by omega) (by omega) rfl (by decide) (lw_wall C hR S hL (by omega) J (by omega) next)
      · exact z_tableIn (tgt := 278) C (z_d dtL_law_0 21 rfl) (by omega) (by omega) (by omega) rfl (by decide) (lw_lift C hR S hL (by omega) J (by omega) next)
      · exact z_tableIn (tgt := 337) C (z_d dtL_law_0 21 rfl) (by omega) (by omega) (by omega) rfl (by decide) (lw_stay C hR S hL (by omega) J (by omega) next)
      · exact z_tableIn (tgt := 360) C (z_d dtL_law_0 21 rfl) (by omega) (by omega) (by omega) rfl (by decide) (lw_step C hR S hL (by omega) J (by omega) next)
      · exact z_tableIn (tgt := 393) C (z_d dtL_law_0 21 rfl) (by omega) (by omega) (by omega) rfl (by decide) (lw_far C hR S hL (by omega) J (by omega) next)
      · exact z_tableIn (tgt := 426) C (z_d dtL_law_0 21 rfl) (by omega) (by omega) (by omega) rfl (by decide) (lw_dead C hR S hL (by omega) J (by omega) next)
      · exact z_tableIn (tgt := 475) C (z_d dtL_law_0 21 rfl) (by omega) (by omega) (by omega) rfl (by decide) (lw_survey C hR S hL (by omega) J (by omega) next)
      · exact z_tableIn (tgt := 518) C (z_d dtL_law_0 21 rfl) (by omega) (by omega) (by omega) rfl (by decide) (lw_weight C hR S hL (by omega) J (by omega) next)
      · exact z_tableIn (tgt := 561) C (z_d dtL_law_0 21 rfl) (by omega) (by omega) (by omega) rfl (by decide) (lw_offset C hR S hL (by omega) J (by omega) next)
      · exact z_tableIn (tgt := 604) C (z_d dtL_law_0 21 rfl) (by omega) (by omega) (by omega) rfl (by decide) (lw_alike C hR S hL (by omega) J (by omega) next)
      · exact z_tableIn (tgt := 617) C (z_d dtL_law_0 21 rfl) (by omega) (by omega) (by omega) rfl (by decide) (lw_known C hR S hL (by omega) J (by omega) next)
      · exact z_tableIn (tgt := 640) C (z_d dtL_law_0 21 rfl) (by omega) (by omega) (by omega) rfl (by decide) (lw_lead C hR S hL (by omega) J (by omega) next)
      · exact z_tableIn (tgt := 663) C (z_d dtL_law_0 21 rfl) (by omega) (by omega) (by omega) rfl (by decide) (lw_hear C hR S hL (by omega) J (by omega) next)
      · exact z_tableIn (tgt := 706) C (z_d dtL_law_0 21 rfl) (by omega) (by omega) (by omega) rfl (by decide) (lw_share C hR S hL (by omega) J (by omega) next)
      · exact z_tableIn (tgt := 729) C (z_d dtL_law_0 21 rfl) (by omega) (by omega) (by omega) rfl (by decide) (lw_likeliest C hR S hL (by omega) J (by omega) next)
      · exact z_tableIn (tgt := 742) C (z_d dtL_law_0 21 rfl) (by omega) (by omega) (by omega) rfl (by decide) (lw_within C hR S hL (by omega) J (by omega) next)
      · exact z_tableIn (tgt := 805) C (z_d dtL_law_0 21 rfl) (by omega) (by omega) (by omega) rfl (by decide) (lw_sure C hR S hL (by omega) J (by omega) next)
      · exact z_tableIn (tgt := 828) C (z_d dtL_law_0 21 rfl) (by omega) (by omega) (by omega) rfl (by decide) (lw_best C hR S hL (by omega) J (by omega) next)
      · exact z_tableIn (tgt := 851) C (z_d dtL_law_0 21 rfl) (by omega) (by omega) (by omega) rfl (by decide) (lw_way C hR S hL (by omega) J (by omega) next)
      · exact z_tableIn (tgt := 874) C (z_d dtL_law_0 21 rfl) (by omega) (by omega) (by omega) rfl (by decide) (lw_learn C hR S hL (by omega) J (by omega) next)
      · exact z_tableIn (tgt := 897) C (z_d dtL_law_0 21 rfl) (by omega) (by omega) (by omega) rfl (by decide) (lw_moved C hR S hL (by omega) J (by omega) next)
      · exact z_tableIn (tgt := 920) C (z_d dtL_law_0 21 rfl) (by omega) (by omega) (by omega) rfl (by decide) (lw_put C hR S hL (by omega) J (by omega) next)
      · exact z_tableIn (tgt := 953) C (z_d dtL_law_0 21 rfl) (by omega) (by omega) (by omega) rfl (by decide) (lw_least C hR S hL (by omega) J (by omega) next)
      · exact z_tableIn (tgt := 976) C (z_d dtL_law_0 21 rfl) (by omega) (by omega) (by omega) rfl (by decide) (lw_give C hR S hL (by omega) J (by omega) next)
      · exact z_tableIn (tgt := 1039) C (z_d dtL_law_0 21 rfl) (by omega) (by omega) (by omega) rfl (by decide) (lw_sheet C hR S hL (by omega) J (by omega) next)
      · exact z_tableIn (tgt := 1082) C (z_d dtL_law_0 21 rfl) (by omega) (by omega) (by omega) rfl (by decide) (lw_lose C hR S hL (by omega) J (by omega) next)
      · exact z_tableIn (tgt := 1105) C (z_d dtL_law_0 21 rfl) (by omega) (by omega) (by omega) rfl (by decide) (lw_lay C hR S hL (by omega) J (by omega) next)
      · exact z_tableIn (tgt := 1158) C (z_d dtL_law_0 21 rfl) (by omega) (by omega) (by omega) rfl (by decide) (lw_get C hR S hL (by omega) J (by omega) next)
      · exact z_tableIn (tgt := 1201) C (z_d dtL_law_0 21 rfl) (by omega) (by omega) (by omega) rfl (by decide) (lw_copy C hR S hL (by omega) J (by omega) next)
      · exact z_tableIn (tgt := 1264) C (z_d dtL_law_0 21 rfl) (by omega) (by omega) (by omega) rfl (by decide) (lw_count C hR S hL (by omega) J (by omega) next)
      · exact z_tableIn (tgt := 1287) C (z_d dtL_law_0 21 rfl) (by omega) (by omega) (by omega) rfl (by decide) (lw_digest C hR S hL (by omega) J (by omega) next)
