set_option maxHeartbeats 4000000 in
theorem law_ok {L : Nat} {xs : Nat → Int32} (hL : L ≤ 3072) : ∀ (n j : Nat) (T_signs : Nat → Int32) (T_lengths : Nat → Int32) (S_kinds : Nat → Int32) (S_days : Nat → Int32) (S_withdrawals : Nat → Int32) (S_made : Int32) (C_sourceSets : Nat → Int32) (C_otherSets : Nat → Int32) (C_rules : Nat → Int32) (C_ringClaims : Nat → Int32) (C_steps : Nat → Int32) (C_made : Int32) (C_ringLength : Int32) (O_persons : Nat → Int32) (O_claimNumbers : Nat → Int32) (O_days : Nat → Int32) (O_values : Nat → Int32) (O_ranks : Nat → Int32) (O_known : Nat → Int32) (O_tally : Nat → Int32) (O_made : Int32) (M_thrown : Int32) (M_padded : Int32) (M_pad : Nat → Int32) (M_sources : Int32) (M_kinds : Nat → Int32) (M_days : Nat → Int32) (M_withdrawn : Nat → Int32) (M_lengths : Nat → Int32) (M_texts : Nat → Int32) (M_formLengths : Nat → Int32) (M_forms : Nat → Int32) (M_claims : Int32) (M_onSource : Nat → Int32) (M_onClaim : Nat → Int32) (M_rules : Nat → Int32) (M_rings : Int32) (M_ring : Nat → Int32) (M_far : Nat → Int32) (M_held : Nat → Int32) (M_heldBefore : Nat → Int32) (M_opinions : Int32) (M_persons : Nat → Int32) (M_ofClaims : Nat → Int32) (M_values : Nat → Int32) (M_when : Nat → Int32) (M_ranks : Nat → Int32) (M_known : Nat → Int32) (M_counts : Nat → Int32) (U_out : Nat → Int64), RR T_signs T_lengths S_kinds S_days S_withdrawals S_made C_sourceSets C_otherSets C_rules C_ringClaims C_steps C_made C_ringLength O_persons O_claimNumbers O_days O_values O_ranks O_known O_tally O_made M_thrown M_padded M_pad M_sources M_kinds M_days M_withdrawn M_lengths M_texts M_formLengths M_forms M_claims M_onSource M_onClaim M_rules M_rings M_ring M_far M_held M_heldBefore M_opinions M_persons M_ofClaims M_values M_when M_ranks M_known M_counts U_out → 6 * j ≤ L → L < 6 * (j + n) → wl_law L xs n (nI (6 * j)) T_signs T_lengths S_kinds S_days S_withdrawals S_made C_sourceSets C_otherSets C_rules C_ringClaims C_steps C_made C_ringLength O_persons O_claimNumbers O_days O_values O_ranks O_known O_tally O_made M_thrown M_padded M_pad M_sources M_kinds M_days M_withdrawn M_lengths M_texts M_formLengths M_forms M_claims M_onSource M_onClaim M_rules M_rings M_ring M_far M_held M_heldBefore M_opinions M_persons M_ofClaims M_values M_when M_ranks M_known M_counts U_out := by
  intro n
  induction n with
  | zero => intro j T_signs T_lengths S_kinds S_days S_withdrawals S_made C_sourceSets C_otherSets C_rules C_ringClaims C_steps C_made C_ringLength O_persons O_claimNumbers O_days O_values O_ranks O_known O_tally O_made M_thrown M_padded M_pad M_sources M_kinds M_days M_withdrawn M_lengths M_texts M_formLengths M_forms M_claims M_onSource M_onClaim M_rules M_rings M_ring M_far M_held M_heldBefore M_opinions M_persons M_ofClaims M_values M_when M_ranks M_known M_counts U_out _ h1 h2; omega
  | succ n ih =>
    intro j T_signs T_lengths S_kinds S_days S_withdrawals S_made C_sourceSets C_otherSets C_rules C_ringClaims C_steps C_made C_ringLength O_persons O_claimNumbers O_days O_values O_ranks O_known O_tally O_made M_thrown M_padded M_pad M_sources M_kinds M_days M_withdrawn M_lengths M_texts M_formLengths M_forms M_claims M_onSource M_onClaim M_rules M_rings M_ring M_far M_held M_heldBefore M_opinions M_persons M_ofClaims M_values M_when M_ranks M_known M_counts U_out hR h1 h2
    unfold wl_law
    refine ⟨fun _ => trivial, fun h => ?_⟩
    have hj : 6 * j + 6 ≤ L := pu_loop hL h1 h
    have hk : ∀ (T_signs : Nat → Int32) (T_lengths : Nat → Int32) (S_kinds : Nat → Int32) (S_days : Nat → Int32) (S_withdrawals : Nat → Int32) (S_made : Int32) (C_sourceSets : Nat → Int32) (C_otherSets : Nat → Int32) (C_rules : Nat → Int32) (C_ringClaims : Nat → Int32) (C_steps : Nat → Int32) (C_made : Int32) (C_ringLength : Int32) (O_persons : Nat → Int32) (O_claimNumbers : Nat → Int32) (O_days : Nat → Int32) (O_values : Nat → Int32) (O_ranks : Nat → Int32) (O_known : Nat → Int32) (O_tally : Nat → Int32) (O_made : Int32) (M_thrown : Int32) (M_padded : Int32) (M_pad : Nat → Int32) (M_sources : Int32) (M_kinds : Nat → Int32) (M_days : Nat → Int32) (M_withdrawn : Nat → Int32) (M_lengths : Nat → Int32) (M_texts : Nat → Int32) (M_formLengths : Nat → Int32) (M_forms : Nat → Int32) (M_claims : Int32) (M_onSource : Nat → Int32) (M_onClaim : Nat → Int32) (M_rules : Nat → Int32) (M_rings : Int32) (M_ring : Nat → Int32) (M_far : Nat → Int32) (M_held : Nat → Int32) (M_heldBefore : Nat → Int32) (M_opinions : Int32) (M_persons : Nat → Int32) (M_ofClaims : Nat → Int32) (M_values : Nat → Int32) (M_when : Nat → Int32) (M_ranks : Nat → Int32) (M_known : Nat → Int32) (M_counts : Nat → Int32) (U_out : Nat → Int64), RR T_signs T_lengths S_kinds S_days S_withdrawals S_made C_sourceSets C_otherSets C_rules C_ringClaims C_steps C_made C_ringLength O_persons O_claimNumbers O_days O_values O_ranks O_known O_tally O_made M_thrown M_padded M_pad M_sources M_kinds M_days M_withdrawn M_lengths M_texts M_formLengths M_forms M_claims M_onSource M_onClaim M_rules M_rings M_ring M_far M_held M_heldBefore M_opinions M_persons M_ofClaims M_values M_when M_ranks M_known M_counts U_out → wl_law L xs n (nI (6 * j) + 6) T_signs T_lengths S_kinds S_days S_withdrawals S_made C_sourceSets C_otherSets C_rules C_ringClaims C_steps C_made C_ringLength O_persons O_claimNumbers O_days O_values O_ranks O_known O_tally O_made M_thrown M_padded M_pad M_sources M_kinds M_days M_withdrawn M_lengths M_texts M_formLengths M_forms M_claims M_onSource M_onClaim M_rules M_rings M_ring M_far M_held M_heldBefore M_opinions M_persons M_ofClaims M_values M_when M_ranks M_known M_counts U_out := fun T_signs T_lengths S_kinds S_days S_withdrawals S_made C_sourceSets C_otherSets C_rules C_ringClaims C_steps C_made C_ringLength O_persons O_claimNumbers O_days O_values O_ranks O_known O_tally O_made M_thrown M_padded M_pad M_sources M_kinds M_days M_withdrawn M_lengths M_texts M_formLengths M_forms M_claims M_onSource M_onClaim M_rules M_rings M_ring M_far M_held M_heldBefore M_opinions M_persons M_ofClaims M_values M_when M_ranks M_known M_counts U_out hr => by
      rw [nI_6, show 6 * j + 6 = 6 * (j + 1) by omega]
      exact ih (j + 1) T_signs T_lengths S_kinds S_days S_withdrawals S_made C_sourceSets C_otherSets C_rules C_ringClaims C_steps C_made C_ringLength O_persons O_claimNumbers O_days O_values O_ranks O_known O_tally O_made M_thrown M_padded M_pad M_sources M_kinds M_days M_withdrawn M_lengths M_texts M_formLengths M_forms M_claims M_onSource M_onClaim M_rules M_rings M_ring M_far M_held M_heldBefore M_opinions M_persons M_ofClaims M_values M_when M_ranks M_known M_counts U_out hr (by omega) (by omega)
    refine ⟨vp_in_nI (by omega) (by omega), ?_⟩
    refine ⟨fun _ => case_0 hL hj hR hk, fun _ => ?_⟩
    refine ⟨fun _ => case_1 hL hj hR hk, fun _ => ?_⟩
    refine ⟨fun _ => case_2 hL hj hR hk, fun _ => ?_⟩
    refine ⟨fun _ => case_3 hL hj hR hk, fun _ => ?_⟩
    refine ⟨fun _ => case_4 hL hj hR hk, fun _ => ?_⟩
    refine ⟨fun _ => case_5 hL hj hR hk, fun _ => ?_⟩
    refine ⟨fun _ => case_6 hL hj hR hk, fun _ => ?_⟩
    refine ⟨fun _ => case_7 hL hj hR hk, fun _ => ?_⟩
    refine ⟨fun _ => case_8 hL hj hR hk, fun _ => ?_⟩
    refine ⟨fun _ => case_9 hL hj hR hk, fun _ => ?_⟩
    refine ⟨fun _ => case_10 hL hj hR hk, fun _ => ?_⟩
    refine ⟨fun _ => case_11 hL hj hR hk, fun _ => ?_⟩
    refine ⟨fun _ => case_12 hL hj hR hk, fun _ => ?_⟩
    refine ⟨fun _ => case_13 hL hj hR hk, fun _ => ?_⟩
    refine ⟨fun _ => case_14 hL hj hR hk, fun _ => ?_⟩
    refine ⟨fun _ => case_15 hL hj hR hk, fun _ => ?_⟩
    refine ⟨fun _ => case_16 hL hj hR hk, fun _ => ?_⟩
    refine ⟨fun _ => case_17 hL hj hR hk, fun _ => ?_⟩
    refine ⟨fun _ => case_18 hL hj hR hk, fun _ => ?_⟩
    exact hk T_signs T_lengths S_kinds S_days S_withdrawals S_made C_sourceSets C_otherSets C_rules C_ringClaims C_steps C_made C_ringLength O_persons O_claimNumbers O_days O_values O_ranks O_known O_tally O_made M_thrown M_padded M_pad M_sources M_kinds M_days M_withdrawn M_lengths M_texts M_formLengths M_forms M_claims M_onSource M_onClaim M_rules M_rings M_ring M_far M_held M_heldBefore M_opinions M_persons M_ofClaims M_values M_when M_ranks M_known M_counts U_out hR
theorem rr_start : RR (fun _ => 0) (fun _ => 0) (fun _ => 0) (fun _ => 0) (fun _ => 0) 0 (fun _ => 0) (fun _ => 0) (fun _ => 0) (fun _ => 0) (fun _ => 0) 0 0 (fun _ => 0) (fun _ => 0) (fun _ => 0) (fun _ => 0) (fun _ => 0) (fun _ => 0) (fun _ => 0) 0 0 0 (fun _ => 0) 0 (fun _ => 0) (fun _ => 0) (fun _ => 0) (fun _ => 0) (fun _ => 0) (fun _ => 0) (fun _ => 0) 0 (fun _ => 0) (fun _ => 0) (fun _ => 0) 0 (fun _ => 0) (fun _ => 0) (fun _ => 0) (fun _ => 0) 0 (fun _ => 0) (fun _ => 0) (fun _ => 0) (fun _ => 0) (fun _ => 0) (fun _ => 0) (fun _ => 0) (fun _ => 0) := by
  refine ⟨0, 0, 0, ⟨⟨0, by omega, rfl, rfl, fun j hj => absurd hj (by omega)⟩, fun i hi => absurd hi (by omega), fun f hf => ⟨0, by omega, rfl, rfl, fun j hj => absurd hj (by omega)⟩⟩, ⟨by omega, rfl, rfl, fun i hi => absurd hi (by omega)⟩, ⟨by omega, rfl, rfl, fun c s _ _ => ?_, fun c s _ h => ?_, fun c s _ _ => ?_, fun c s _ h => ?_, fun c _ => ⟨rfl, 0, by omega, rfl⟩, ⟨0, by omega, rfl, rfl, fun j hj => absurd hj (by omega)⟩, fun n a q => ?_⟩, ⟨by omega, rfl, rfl, fun k hk => absurd hk (by omega), fun k q hk => absurd hk (by omega)⟩⟩
  · show (0 : Int32) = if bt 0 s then 1 else 0
    rw [b_0]
    rfl
  · have h' : bt 0 s = true := h
    rw [b_0] at h'
    exact absurd h' (by decide)
  · show (0 : Int32) = if bt 0 s then 1 else 0
    rw [b_0]
    rfl
  · have h' : bt 0 s = true := h
    rw [b_0] at h'
    exact absurd h' (by decide)
  · obtain ⟨c, q1, _⟩ := q
    unfold on_C at q1
    rw [b_0, Bool.and_false] at q1
    exact absurd q1 (by decide)
theorem law_true (L : Nat) (xs : Nat → Int32) (hL : L ≤ 3072) : wl_law L xs 513 0 (fun _ => 0) (fun _ => 0) (fun _ => 0) (fun _ => 0) (fun _ => 0) 0 (fun _ => 0) (fun _ => 0) (fun _ => 0) (fun _ => 0) (fun _ => 0) 0 0 (fun _ => 0) (fun _ => 0) (fun _ => 0) (fun _ => 0) (fun _ => 0) (fun _ => 0) (fun _ => 0) 0 0 0 (fun _ => 0) 0 (fun _ => 0) (fun _ => 0) (fun _ => 0) (fun _ => 0) (fun _ => 0) (fun _ => 0) (fun _ => 0) 0 (fun _ => 0) (fun _ => 0) (fun _ => 0) 0 (fun _ => 0) (fun _ => 0) (fun _ => 0) (fun _ => 0) 0 (fun _ => 0) (fun _ => 0) (fun _ => 0) (fun _ => 0) (fun _ => 0) (fun _ => 0) (fun _ => 0) (fun _ => 0) := law_ok hL 513 0 _ _ _ _ _ _ _ _ _ _ _ _ _ _ _ _ _ _ _ _ _ _ _ _ _ _ _ _ _ _ _ _ _ _ _ _ _ _ _ _ _ _ _ _ _ _ _ _ _ _ rr_start (by omega) (by omega)
