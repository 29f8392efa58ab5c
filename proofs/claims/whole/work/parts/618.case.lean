set_option maxHeartbeats 4000000 in
theorem case_18 {L j : Nat} {xs : Nat → Int32} {T_signs : Nat → Int32} {T_lengths : Nat → Int32} {S_kinds : Nat → Int32} {S_days : Nat → Int32} {S_withdrawals : Nat → Int32} {S_made : Int32} {C_sourceSets : Nat → Int32} {C_otherSets : Nat → Int32} {C_rules : Nat → Int32} {C_ringClaims : Nat → Int32} {C_steps : Nat → Int32} {C_made : Int32} {C_ringLength : Int32} {O_persons : Nat → Int32} {O_claimNumbers : Nat → Int32} {O_days : Nat → Int32} {O_values : Nat → Int32} {O_ranks : Nat → Int32} {O_known : Nat → Int32} {O_tally : Nat → Int32} {O_made : Int32} {M_thrown : Int32} {M_padded : Int32} {M_pad : Nat → Int32} {M_sources : Int32} {M_kinds : Nat → Int32} {M_days : Nat → Int32} {M_withdrawn : Nat → Int32} {M_lengths : Nat → Int32} {M_texts : Nat → Int32} {M_formLengths : Nat → Int32} {M_forms : Nat → Int32} {M_claims : Int32} {M_onSource : Nat → Int32} {M_onClaim : Nat → Int32} {M_rules : Nat → Int32} {M_rings : Int32} {M_ring : Nat → Int32} {M_far : Nat → Int32} {M_held : Nat → Int32} {M_heldBefore : Nat → Int32} {M_opinions : Int32} {M_persons : Nat → Int32} {M_ofClaims : Nat → Int32} {M_values : Nat → Int32} {M_when : Nat → Int32} {M_ranks : Nat → Int32} {M_known : Nat → Int32} {M_counts : Nat → Int32} {U_out : Nat → Int64} {K : (Nat → Int32) → (Nat → Int32) → (Nat → Int32) → (Nat → Int32) → (Nat → Int32) → Int32 → (Nat → Int32) → (Nat → Int32) → (Nat → Int32) → (Nat → Int32) → (Nat → Int32) → Int32 → Int32 → (Nat → Int32) → (Nat → Int32) → (Nat → Int32) → (Nat → Int32) → (Nat → Int32) → (Nat → Int32) → (Nat → Int32) → Int32 → Int32 → Int32 → (Nat → Int32) → Int32 → (Nat → Int32) → (Nat → Int32) → (Nat → Int32) → (Nat → Int32) → (Nat → Int32) → (Nat → Int32) → (Nat → Int32) → Int32 → (Nat → Int32) → (Nat → Int32) → (Nat → Int32) → Int32 → (Nat → Int32) → (Nat → Int32) → (Nat → Int32) → (Nat → Int32) → Int32 → (Nat → Int32) → (Nat → Int32) → (Nat → Int32) → (Nat → Int32) → (Nat → Int32) → (Nat → Int32) → (Nat → Int32) → (Nat → Int64) → Prop} (hL : L ≤ 3072) (hj : 6 * j + 6 ≤ L) (hR : RR T_signs T_lengths S_kinds S_days S_withdrawals S_made C_sourceSets C_otherSets C_rules C_ringClaims C_steps C_made C_ringLength O_persons O_claimNumbers O_days O_values O_ranks O_known O_tally O_made M_thrown M_padded M_pad M_sources M_kinds M_days M_withdrawn M_lengths M_texts M_formLengths M_forms M_claims M_onSource M_onClaim M_rules M_rings M_ring M_far M_held M_heldBefore M_opinions M_persons M_ofClaims M_values M_when M_ranks M_known M_counts U_out) (hK : ∀ (T_signs : Nat → Int32) (T_lengths : Nat → Int32) (S_kinds : Nat → Int32) (S_days : Nat → Int32) (S_withdrawals : Nat → Int32) (S_made : Int32) (C_sourceSets : Nat → Int32) (C_otherSets : Nat → Int32) (C_rules : Nat → Int32) (C_ringClaims : Nat → Int32) (C_steps : Nat → Int32) (C_made : Int32) (C_ringLength : Int32) (O_persons : Nat → Int32) (O_claimNumbers : Nat → Int32) (O_days : Nat → Int32) (O_values : Nat → Int32) (O_ranks : Nat → Int32) (O_known : Nat → Int32) (O_tally : Nat → Int32) (O_made : Int32) (M_thrown : Int32) (M_padded : Int32) (M_pad : Nat → Int32) (M_sources : Int32) (M_kinds : Nat → Int32) (M_days : Nat → Int32) (M_withdrawn : Nat → Int32) (M_lengths : Nat → Int32) (M_texts : Nat → Int32) (M_formLengths : Nat → Int32) (M_forms : Nat → Int32) (M_claims : Int32) (M_onSource : Nat → Int32) (M_onClaim : Nat → Int32) (M_rules : Nat → Int32) (M_rings : Int32) (M_ring : Nat → Int32) (M_far : Nat → Int32) (M_held : Nat → Int32) (M_heldBefore : Nat → Int32) (M_opinions : Int32) (M_persons : Nat → Int32) (M_ofClaims : Nat → Int32) (M_values : Nat → Int32) (M_when : Nat → Int32) (M_ranks : Nat → Int32) (M_known : Nat → Int32) (M_counts : Nat → Int32) (U_out : Nat → Int64), RR T_signs T_lengths S_kinds S_days S_withdrawals S_made C_sourceSets C_otherSets C_rules C_ringClaims C_steps C_made C_ringLength O_persons O_claimNumbers O_days O_values O_ranks O_known O_tally O_made M_thrown M_padded M_pad M_sources M_kinds M_days M_withdrawn M_lengths M_texts M_formLengths M_forms M_claims M_onSource M_onClaim M_rules M_rings M_ring M_far M_held M_heldBefore M_opinions M_persons M_ofClaims M_values M_when M_ranks M_known M_counts U_out → K T_signs T_lengths S_kinds S_days S_withdrawals S_made C_sourceSets C_otherSets C_rules C_ringClaims C_steps C_made C_ringLength O_persons O_claimNumbers O_days O_values O_ranks O_known O_tally O_made M_thrown M_padded M_pad M_sources M_kinds M_days M_withdrawn M_lengths M_texts M_formLengths M_forms M_claims M_onSource M_onClaim M_rules M_rings M_ring M_far M_held M_heldBefore M_opinions M_persons M_ofClaims M_values M_when M_ranks M_known M_counts U_out) : wc_18 L xs (nI (6 * j)) T_signs T_lengths S_kinds S_days S_withdrawals S_made C_sourceSets C_otherSets C_rules C_ringClaims C_steps C_made C_ringLength O_persons O_claimNumbers O_days O_values O_ranks O_known O_tally O_made M_thrown M_padded M_pad M_sources M_kinds M_days M_withdrawn M_lengths M_texts M_formLengths M_forms M_claims M_onSource M_onClaim M_rules M_rings M_ring M_far M_held M_heldBefore M_opinions M_persons M_ofClaims M_values M_when M_ranks M_known M_counts U_out K := by
  unfold wc_18
  rw [nI_1]
  have i1 : vp_in (nI (6 * j + 1)) L := vp_in_nI (by omega) (by omega)
  refine ⟨i1, ?_⟩
  generalize xs (nI (6 * j + 1)).toNatClampNeg = p
  obtain ⟨ns, nc, no, hT, hS, hC, hO⟩ := id hR
  obtain ⟨⟨np, hn, hpd, hl, hp⟩, hs, hf⟩ := id hT
  obtain ⟨s1, s2, s3, s4⟩ := id hS
  obtain ⟨o1, o2, o3, o4⟩ := id hO
  obtain ⟨c1, c2, c3, d1, d2, d3, d4, d5, d6, d7⟩ := id hC
  have d3' : tab C_otherSets M_onClaim := d3
  have d4' : rg C_otherSets nc nc := d4
  unfold wp_H_count wp_X_count wp_M_count wp_M_thrown wp_T_lengthOf wp_S_made wp_C_made wp_O_made
  have e28 : (28 : Int32).toNatClampNeg = 28 := by decide
  have i28 : vp_in (28 : Int32) 29 := vp_in_nI (n := 28) (by omega) (by omega)
  rw [e28]
  have w0 : ∀ k, k ≤ 4 → (0 : Int32) ≤ nI k ∧ nI k ≤ (4 : Int32) := fun k hk => ⟨nI_pos' (by omega), (nI_leI (b := 4) (by omega) (by omega)).mpr hk⟩
  refine ⟨fun e => ?_, fun n0 => ⟨fun e => ?_, fun n1 => ⟨fun e => ?_, fun n2 => ⟨fun e => ?_, fun n3 => ⟨fun e => ?_, fun n4 => ⟨rfl, i1, ?_⟩⟩⟩⟩⟩⟩
  · subst e
    refine ⟨i28, pu_in01, i1, sm_within (fun _ _ => sm_go0 ⟨fun z => absurd z (by decide), fun _ => md_cnt ⟨fun _ => ?_, fun z => absurd rfl z⟩⟩) (fun g => absurd (w0 0 (by omega)) g)⟩
    exact tl_i rfl (fun _ => by rw [pu_0, pu_updL_same, hl, hpd]) (fun _ => hK _ _ _ _ _ _ _ _ _ _ _ _ _ _ _ _ _ _ _ _ _ _ _ _ _ _ _ _ _ _ _ _ _ _ _ _ _ _ _ _ _ _ _ _ _ _ _ _ _ _ hR) (fun z => absurd rfl z)
  · subst e
    refine ⟨pu_in01, i1, sm_within (fun _ _ => sm_go0 ⟨fun z => absurd z (by decide), fun _ => md_cnt ⟨fun z => absurd z n0, fun _ => ⟨fun _ => ?_, fun z => absurd rfl z⟩⟩⟩) (fun g => absurd (w0 1 (by omega)) g)⟩
    exact tl_i rfl (fun _ => by rw [pu_0, pu_updL_same, s2, s3]) (fun _ => hK _ _ _ _ _ _ _ _ _ _ _ _ _ _ _ _ _ _ _ _ _ _ _ _ _ _ _ _ _ _ _ _ _ _ _ _ _ _ _ _ _ _ _ _ _ _ _ _ _ _ hR) (fun z => absurd rfl z)
  · subst e
    refine ⟨pu_in01, i1, sm_within (fun _ _ => sm_go0 ⟨fun z => absurd z (by decide), fun _ => md_cnt ⟨fun z => absurd z n0, fun _ => ⟨fun z => absurd z n1, fun _ => ⟨fun _ => ?_, fun z => absurd rfl z⟩⟩⟩⟩) (fun g => absurd (w0 2 (by omega)) g)⟩
    exact tl_i rfl (fun _ => by rw [pu_0, pu_updL_same, c2, c3]) (fun _ => hK _ _ _ _ _ _ _ _ _ _ _ _ _ _ _ _ _ _ _ _ _ _ _ _ _ _ _ _ _ _ _ _ _ _ _ _ _ _ _ _ _ _ _ _ _ _ _ _ _ _ hR) (fun z => absurd rfl z)
  · subst e
    refine ⟨pu_in01, i1, sm_within (fun _ _ => sm_go0 ⟨fun z => absurd z (by decide), fun _ => md_cnt ⟨fun z => absurd z n0, fun _ => ⟨fun z => absurd z n1, fun _ => ⟨fun z => absurd z n2, fun _ => ⟨fun _ => ?_, fun z => absurd rfl z⟩⟩⟩⟩⟩) (fun g => absurd (w0 3 (by omega)) g)⟩
    exact tl_i rfl (fun _ => by rw [pu_0, pu_updL_same, o2, o3]) (fun _ => hK _ _ _ _ _ _ _ _ _ _ _ _ _ _ _ _ _ _ _ _ _ _ _ _ _ _ _ _ _ _ _ _ _ _ _ _ _ _ _ _ _ _ _ _ _ _ _ _ _ _ hR) (fun z => absurd rfl z)
  · subst e
    refine cl_pairs c2 c1 d4' ⟨pu_in01, i1, sm_within (fun _ _ => sm_go0 ⟨fun z => absurd z (by decide), fun _ => md_cnt ⟨fun z => absurd z n0, fun _ => ⟨fun z => absurd z n1, fun _ => ⟨fun z => absurd z n2, fun _ => ⟨fun z => absurd z n3, fun _ => ?_⟩⟩⟩⟩⟩) (fun g => absurd (w0 4 (by omega)) g)⟩
    have e9 : cnt (fun k => decide (¬ M_onClaim k = 0)) 576 = smf (fun c => cnt (bt (C_otherSets c)) 24) nc := by
      have e8 := md_pairs d3' 24 (by omega)
      have e7 : smf (fun c => cnt (bt (C_otherSets c)) 24) (nc + (24 - nc)) = smf (fun c => cnt (bt (C_otherSets c)) 24) nc := smf_ext (fun c h1 h2 => cnt_none (fun i hi => by
        cases z : bt (C_otherSets c) i
        · rfl
        · have := (d4' c i (by omega) z).1
          omega))
      rw [show nc + (24 - nc) = 24 by omega] at e7
      rw [← e7, ← e8]
    rw [e9]
    exact tl_i rfl (fun _ => by rw [pu_0, pu_updL_same]) (fun _ => hK _ _ _ _ _ _ _ _ _ _ _ _ _ _ _ _ _ _ _ _ _ _ _ _ _ _ _ _ _ _ _ _ _ _ _ _ _ _ _ _ _ _ _ _ _ _ _ _ _ _ hR) (fun z => absurd rfl z)
  · refine sm_within (fun a b => ?_) (fun _ => sm_go1 ⟨fun _ => tl_n (by decide) (hK _ _ _ _ _ _ _ _ _ _ _ _ _ _ _ _ _ _ _ _ _ _ _ _ _ _ _ _ _ _ _ _ _ _ _ _ _ _ _ _ _ _ _ _ _ _ _ _ _ _ hR), fun z => absurd rfl z⟩)
    exfalso
    obtain ⟨k, hk, rfl⟩ := pu_in' (n := 4) a b (by omega)
    have : k = 0 ∨ k = 1 ∨ k = 2 ∨ k = 3 ∨ k = 4 := by omega
    rcases this with rfl | rfl | rfl | rfl | rfl
    · exact n0 rfl
    · exact n1 rfl
    · exact n2 rfl
    · exact n3 rfl
    · exact n4 rfl
