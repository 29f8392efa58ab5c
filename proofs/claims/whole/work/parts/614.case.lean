set_option maxHeartbeats 4000000 in
theorem case_14 {L j : Nat} {xs : Nat → Int32} {T_signs : Nat → Int32} {T_lengths : Nat → Int32} {S_kinds : Nat → Int32} {S_days : Nat → Int32} {S_withdrawals : Nat → Int32} {S_made : Int32} {C_sourceSets : Nat → Int32} {C_otherSets : Nat → Int32} {C_rules : Nat → Int32} {C_ringClaims : Nat → Int32} {C_steps : Nat → Int32} {C_made : Int32} {C_ringLength : Int32} {O_persons : Nat → Int32} {O_claimNumbers : Nat → Int32} {O_days : Nat → Int32} {O_values : Nat → Int32} {O_ranks : Nat → Int32} {O_known : Nat → Int32} {O_tally : Nat → Int32} {O_made : Int32} {M_thrown : Int32} {M_padded : Int32} {M_pad : Nat → Int32} {M_sources : Int32} {M_kinds : Nat → Int32} {M_days : Nat → Int32} {M_withdrawn : Nat → Int32} {M_lengths : Nat → Int32} {M_texts : Nat → Int32} {M_formLengths : Nat → Int32} {M_forms : Nat → Int32} {M_claims : Int32} {M_onSource : Nat → Int32} {M_onClaim : Nat → Int32} {M_rules : Nat → Int32} {M_rings : Int32} {M_ring : Nat → Int32} {M_far : Nat → Int32} {M_held : Nat → Int32} {M_heldBefore : Nat → Int32} {M_opinions : Int32} {M_persons : Nat → Int32} {M_ofClaims : Nat → Int32} {M_values : Nat → Int32} {M_when : Nat → Int32} {M_ranks : Nat → Int32} {M_known : Nat → Int32} {M_counts : Nat → Int32} {U_out : Nat → Int64} {K : (Nat → Int32) → (Nat → Int32) → (Nat → Int32) → (Nat → Int32) → (Nat → Int32) → Int32 → (Nat → Int32) → (Nat → Int32) → (Nat → Int32) → (Nat → Int32) → (Nat → Int32) → Int32 → Int32 → (Nat → Int32) → (Nat → Int32) → (Nat → Int32) → (Nat → Int32) → (Nat → Int32) → (Nat → Int32) → (Nat → Int32) → Int32 → Int32 → Int32 → (Nat → Int32) → Int32 → (Nat → Int32) → (Nat → Int32) → (Nat → Int32) → (Nat → Int32) → (Nat → Int32) → (Nat → Int32) → (Nat → Int32) → Int32 → (Nat → Int32) → (Nat → Int32) → (Nat → Int32) → Int32 → (Nat → Int32) → (Nat → Int32) → (Nat → Int32) → (Nat → Int32) → Int32 → (Nat → Int32) → (Nat → Int32) → (Nat → Int32) → (Nat → Int32) → (Nat → Int32) → (Nat → Int32) → (Nat → Int32) → (Nat → Int64) → Prop} (hL : L ≤ 3072) (hj : 6 * j + 6 ≤ L) (hR : RR T_signs T_lengths S_kinds S_days S_withdrawals S_made C_sourceSets C_otherSets C_rules C_ringClaims C_steps C_made C_ringLength O_persons O_claimNumbers O_days O_values O_ranks O_known O_tally O_made M_thrown M_padded M_pad M_sources M_kinds M_days M_withdrawn M_lengths M_texts M_formLengths M_forms M_claims M_onSource M_onClaim M_rules M_rings M_ring M_far M_held M_heldBefore M_opinions M_persons M_ofClaims M_values M_when M_ranks M_known M_counts U_out) (hK : ∀ (T_signs : Nat → Int32) (T_lengths : Nat → Int32) (S_kinds : Nat → Int32) (S_days : Nat → Int32) (S_withdrawals : Nat → Int32) (S_made : Int32) (C_sourceSets : Nat → Int32) (C_otherSets : Nat → Int32) (C_rules : Nat → Int32) (C_ringClaims : Nat → Int32) (C_steps : Nat → Int32) (C_made : Int32) (C_ringLength : Int32) (O_persons : Nat → Int32) (O_claimNumbers : Nat → Int32) (O_days : Nat → Int32) (O_values : Nat → Int32) (O_ranks : Nat → Int32) (O_known : Nat → Int32) (O_tally : Nat → Int32) (O_made : Int32) (M_thrown : Int32) (M_padded : Int32) (M_pad : Nat → Int32) (M_sources : Int32) (M_kinds : Nat → Int32) (M_days : Nat → Int32) (M_withdrawn : Nat → Int32) (M_lengths : Nat → Int32) (M_texts : Nat → Int32) (M_formLengths : Nat → Int32) (M_forms : Nat → Int32) (M_claims : Int32) (M_onSource : Nat → Int32) (M_onClaim : Nat → Int32) (M_rules : Nat → Int32) (M_rings : Int32) (M_ring : Nat → Int32) (M_far : Nat → Int32) (M_held : Nat → Int32) (M_heldBefore : Nat → Int32) (M_opinions : Int32) (M_persons : Nat → Int32) (M_ofClaims : Nat → Int32) (M_values : Nat → Int32) (M_when : Nat → Int32) (M_ranks : Nat → Int32) (M_known : Nat → Int32) (M_counts : Nat → Int32) (U_out : Nat → Int64), RR T_signs T_lengths S_kinds S_days S_withdrawals S_made C_sourceSets C_otherSets C_rules C_ringClaims C_steps C_made C_ringLength O_persons O_claimNumbers O_days O_values O_ranks O_known O_tally O_made M_thrown M_padded M_pad M_sources M_kinds M_days M_withdrawn M_lengths M_texts M_formLengths M_forms M_claims M_onSource M_onClaim M_rules M_rings M_ring M_far M_held M_heldBefore M_opinions M_persons M_ofClaims M_values M_when M_ranks M_known M_counts U_out → K T_signs T_lengths S_kinds S_days S_withdrawals S_made C_sourceSets C_otherSets C_rules C_ringClaims C_steps C_made C_ringLength O_persons O_claimNumbers O_days O_values O_ranks O_known O_tally O_made M_thrown M_padded M_pad M_sources M_kinds M_days M_withdrawn M_lengths M_texts M_formLengths M_forms M_claims M_onSource M_onClaim M_rules M_rings M_ring M_far M_held M_heldBefore M_opinions M_persons M_ofClaims M_values M_when M_ranks M_known M_counts U_out) : wc_14 L xs (nI (6 * j)) T_signs T_lengths S_kinds S_days S_withdrawals S_made C_sourceSets C_otherSets C_rules C_ringClaims C_steps C_made C_ringLength O_persons O_claimNumbers O_days O_values O_ranks O_known O_tally O_made M_thrown M_padded M_pad M_sources M_kinds M_days M_withdrawn M_lengths M_texts M_formLengths M_forms M_claims M_onSource M_onClaim M_rules M_rings M_ring M_far M_held M_heldBefore M_opinions M_persons M_ofClaims M_values M_when M_ranks M_known M_counts U_out K := by
  unfold wc_14
  rw [nI_1, nI_2, nI_3]
  have i1 : vp_in (nI (6 * j + 1)) L := vp_in_nI (by omega) (by omega)
  have i2 : vp_in (nI (6 * j + 2)) L := vp_in_nI (by omega) (by omega)
  have i3 : vp_in (nI (6 * j + 3)) L := vp_in_nI (by omega) (by omega)
  refine ⟨i1, i2, i3, ?_⟩
  generalize xs (nI (6 * j + 1)).toNatClampNeg = p
  generalize xs (nI (6 * j + 2)).toNatClampNeg = v
  generalize xs (nI (6 * j + 3)).toNatClampNeg = w
  obtain ⟨ns, nc, no, hT, hS, hC, hO⟩ := id hR
  obtain ⟨s1, s2, s3, s4⟩ := id hS
  obtain ⟨c1, c2, c3, d1, d2, d3, d4, d5, d6, d7⟩ := id hC
  have d1' : tab C_sourceSets M_onSource := d1
  have d2' : rg C_sourceSets nc ns := d2
  have d3' : tab C_otherSets M_onClaim := d3
  have d4' : rg C_otherSets nc nc := d4
  unfold wp_H_opened wp_X_opened wp_M_opened wp_M_thrown
  refine rq_source s2 s1 (fun h => rq_place (fun hw => rq_day (fun hd => ?_) (fun hd => Or.inl ⟨rfl, i1, i2, i3, ?_⟩)) (fun hw => Or.inr ⟨rfl, i1, i2, i3, ?_⟩)) (fun h => Or.inr ⟨rfl, i1, i2, i3, ?_⟩)
  · obtain ⟨k, hk, rfl⟩ := id h
    obtain ⟨q, hq, rfl⟩ := nI_of (x := w) (pu_nlt.mpr hw)
    refine cl_stand s2 s1 (fun r hr => cl_held c2 c1 d2' d4' (fun x hx => ?_))
    unfold wp_X_without
    refine cl_held c2 c1 d2' d4' (fun y hy => ?_)
    refine cl_member hq ⟨pu_in01, i1, i2, i3, ?_⟩
    have kx : ∀ c, bt x c = true ↔ hldP (on_C C_otherSets) (srcM C_sourceSets M_days M_withdrawn v (-1) ns) c := fun c => by
      rw [hx c, hldP_congr (src_eq (src_m1 s1 hr) (fun i hi => ⟨(s4 i hi).2.1, (s4 i hi).2.2.1⟩))]
    have ky : ∀ c, bt y c = true ↔ hldP (on_C C_otherSets) (srcM C_sourceSets M_days M_withdrawn v (nI k) ns) c := fun c => by
      rw [hy c, hldP_congr (src_eq (src_wo s1 hk hr) (fun i hi => ⟨(s4 i hi).2.1, (s4 i hi).2.2.1⟩))]
    refine sm_isSource s3 s1 (fun _ => ⟨fun z => absurd z (by decide), fun _ => ⟨fun z => absurd hw (pu_nle.mpr z), fun _ => sm_isDay (fun _ => sm_go0 ⟨fun z => absurd z (by decide), fun _ => md_hold s3 s1 c3 c1 d1' d2' d3' d4' (fun H hH => md_op40 (fun c hc => isB_01 (hH c hc)) (fun B hB => md_hold s3 s1 c3 c1 d1' d2' d3' d4' (fun G hG => md_op79 c3 c1 hq ?_)))⟩) (fun z => absurd hd z)⟩⟩) (fun z => absurd h z)
    refine tl_i rfl (fun _ => ?_) (fun _ => hK _ _ _ _ _ _ _ _ _ _ _ _ _ _ _ _ _ _ _ _ _ _ _ _ _ _ _ _ _ _ _ _ _ _ _ _ _ _ _ _ _ _ _ _ _ _ _ _ _ _ ⟨ns, nc, no, hT, hS, hC, hO⟩) (fun z => absurd rfl z)
    rw [pu_0, pu_updL_same]
    have e9 : kth (bt (x &&& (y ^^^ (-1 : Int32)))) 24 0 q = kth (fun i => decide (¬ B i = 0) && decide (G i = 0)) nc 0 q := by
      have e8 : 24 = nc + (24 - nc) := by omega
      rw [e8]
      refine kth_ext (fun c _ hc => ?_) (fun c hc1 hc2 => ?_)
      · have e7 := hH c (by omega)
        have e6 := hG c (by omega)
        rw [b_and, b_xor, b_m1 c (by omega), hB c (by omega)]
        have e5 : bt x c = decide (¬ H c = 0) := by
          rcases e7 with ⟨a, b⟩ | ⟨a, b⟩
          · rw [a, (kx c).mpr b]; rfl
          · rw [a]
            cases z : bt x c
            · rfl
            · exact absurd ((kx c).mp z) b
        have e4 : bt y c = decide (¬ G c = 0) := by
          rcases e6 with ⟨a, b⟩ | ⟨a, b⟩
          · rw [a, (ky c).mpr b]; rfl
          · rw [a]
            cases z : bt y c
            · rfl
            · exact absurd ((ky c).mp z) b
        rw [e5, e4]
        by_cases z : G c = 0
        · rw [decide_eq_true z, show decide (¬ G c = 0) = false from decide_eq_false (fun y => y z)]; rfl
        · rw [decide_eq_false z, show decide (¬ G c = 0) = true from decide_eq_true z]; rfl
      · rw [b_and]
        cases z : bt x c
        · rfl
        · exfalso
          have := hld_lt d2' d4' ((hx c).mp z)
          omega
    rw [e9]
  · exact sm_isSource s3 s1 (fun _ => ⟨fun z => absurd z (by decide), fun _ => ⟨fun z => absurd hw (pu_nle.mpr z), fun _ => sm_isDay (fun z => absurd z hd) (fun _ => sm_go2 ⟨fun _ => tl_n (by decide) (hK _ _ _ _ _ _ _ _ _ _ _ _ _ _ _ _ _ _ _ _ _ _ _ _ _ _ _ _ _ _ _ _ _ _ _ _ _ _ _ _ _ _ _ _ _ _ _ _ _ _ hR), fun z => absurd rfl z⟩)⟩⟩) (fun z => absurd h z)
  · exact sm_isSource s3 s1 (fun _ => ⟨fun z => absurd z (by decide), fun _ => ⟨fun _ => sm_isDay (fun _ => sm_go1 ⟨fun _ => tl_n (by decide) (hK _ _ _ _ _ _ _ _ _ _ _ _ _ _ _ _ _ _ _ _ _ _ _ _ _ _ _ _ _ _ _ _ _ _ _ _ _ _ _ _ _ _ _ _ _ _ _ _ _ _ hR), fun z => absurd rfl z⟩) (fun _ => sm_go1 ⟨fun _ => tl_n (by decide) (hK _ _ _ _ _ _ _ _ _ _ _ _ _ _ _ _ _ _ _ _ _ _ _ _ _ _ _ _ _ _ _ _ _ _ _ _ _ _ _ _ _ _ _ _ _ _ _ _ _ _ hR), fun z => absurd rfl z⟩), fun z => absurd hw z⟩⟩) (fun z => absurd h z)
  · exact sm_isSource s3 s1 (fun z => absurd z h) (fun _ => ⟨fun _ => sm_isDay (fun _ => sm_go1 ⟨fun _ => tl_n (by decide) (hK _ _ _ _ _ _ _ _ _ _ _ _ _ _ _ _ _ _ _ _ _ _ _ _ _ _ _ _ _ _ _ _ _ _ _ _ _ _ _ _ _ _ _ _ _ _ _ _ _ _ hR), fun z => absurd rfl z⟩) (fun _ => sm_go1 ⟨fun _ => tl_n (by decide) (hK _ _ _ _ _ _ _ _ _ _ _ _ _ _ _ _ _ _ _ _ _ _ _ _ _ _ _ _ _ _ _ _ _ _ _ _ _ _ _ _ _ _ _ _ _ _ _ _ _ _ hR), fun z => absurd rfl z⟩), fun z => absurd rfl z⟩)
