set_option maxHeartbeats 4000000 in
theorem case_2 {L j : Nat} {xs : Nat → Int32} {T_signs : Nat → Int32} {T_lengths : Nat → Int32} {S_kinds : Nat → Int32} {S_days : Nat → Int32} {S_withdrawals : Nat → Int32} {S_made : Int32} {C_sourceSets : Nat → Int32} {C_otherSets : Nat → Int32} {C_rules : Nat → Int32} {C_ringClaims : Nat → Int32} {C_steps : Nat → Int32} {C_made : Int32} {C_ringLength : Int32} {O_persons : Nat → Int32} {O_claimNumbers : Nat → Int32} {O_days : Nat → Int32} {O_values : Nat → Int32} {O_ranks : Nat → Int32} {O_known : Nat → Int32} {O_tally : Nat → Int32} {O_made : Int32} {M_thrown : Int32} {M_padded : Int32} {M_pad : Nat → Int32} {M_sources : Int32} {M_kinds : Nat → Int32} {M_days : Nat → Int32} {M_withdrawn : Nat → Int32} {M_lengths : Nat → Int32} {M_texts : Nat → Int32} {M_formLengths : Nat → Int32} {M_forms : Nat → Int32} {M_claims : Int32} {M_onSource : Nat → Int32} {M_onClaim : Nat → Int32} {M_rules : Nat → Int32} {M_rings : Int32} {M_ring : Nat → Int32} {M_far : Nat → Int32} {M_held : Nat → Int32} {M_heldBefore : Nat → Int32} {M_opinions : Int32} {M_persons : Nat → Int32} {M_ofClaims : Nat → Int32} {M_values : Nat → Int32} {M_when : Nat → Int32} {M_ranks : Nat → Int32} {M_known : Nat → Int32} {M_counts : Nat → Int32} {U_out : Nat → Int64} {K : (Nat → Int32) → (Nat → Int32) → (Nat → Int32) → (Nat → Int32) → (Nat → Int32) → Int32 → (Nat → Int32) → (Nat → Int32) → (Nat → Int32) → (Nat → Int32) → (Nat → Int32) → Int32 → Int32 → (Nat → Int32) → (Nat → Int32) → (Nat → Int32) → (Nat → Int32) → (Nat → Int32) → (Nat → Int32) → (Nat → Int32) → Int32 → Int32 → Int32 → (Nat → Int32) → Int32 → (Nat → Int32) → (Nat → Int32) → (Nat → Int32) → (Nat → Int32) → (Nat → Int32) → (Nat → Int32) → (Nat → Int32) → Int32 → (Nat → Int32) → (Nat → Int32) → (Nat → Int32) → Int32 → (Nat → Int32) → (Nat → Int32) → (Nat → Int32) → (Nat → Int32) → Int32 → (Nat → Int32) → (Nat → Int32) → (Nat → Int32) → (Nat → Int32) → (Nat → Int32) → (Nat → Int32) → (Nat → Int32) → (Nat → Int64) → Prop} (hL : L ≤ 3072) (hj : 6 * j + 6 ≤ L) (hR : RR T_signs T_lengths S_kinds S_days S_withdrawals S_made C_sourceSets C_otherSets C_rules C_ringClaims C_steps C_made C_ringLength O_persons O_claimNumbers O_days O_values O_ranks O_known O_tally O_made M_thrown M_padded M_pad M_sources M_kinds M_days M_withdrawn M_lengths M_texts M_formLengths M_forms M_claims M_onSource M_onClaim M_rules M_rings M_ring M_far M_held M_heldBefore M_opinions M_persons M_ofClaims M_values M_when M_ranks M_known M_counts U_out) (hK : ∀ (T_signs : Nat → Int32) (T_lengths : Nat → Int32) (S_kinds : Nat → Int32) (S_days : Nat → Int32) (S_withdrawals : Nat → Int32) (S_made : Int32) (C_sourceSets : Nat → Int32) (C_otherSets : Nat → Int32) (C_rules : Nat → Int32) (C_ringClaims : Nat → Int32) (C_steps : Nat → Int32) (C_made : Int32) (C_ringLength : Int32) (O_persons : Nat → Int32) (O_claimNumbers : Nat → Int32) (O_days : Nat → Int32) (O_values : Nat → Int32) (O_ranks : Nat → Int32) (O_known : Nat → Int32) (O_tally : Nat → Int32) (O_made : Int32) (M_thrown : Int32) (M_padded : Int32) (M_pad : Nat → Int32) (M_sources : Int32) (M_kinds : Nat → Int32) (M_days : Nat → Int32) (M_withdrawn : Nat → Int32) (M_lengths : Nat → Int32) (M_texts : Nat → Int32) (M_formLengths : Nat → Int32) (M_forms : Nat → Int32) (M_claims : Int32) (M_onSource : Nat → Int32) (M_onClaim : Nat → Int32) (M_rules : Nat → Int32) (M_rings : Int32) (M_ring : Nat → Int32) (M_far : Nat → Int32) (M_held : Nat → Int32) (M_heldBefore : Nat → Int32) (M_opinions : Int32) (M_persons : Nat → Int32) (M_ofClaims : Nat → Int32) (M_values : Nat → Int32) (M_when : Nat → Int32) (M_ranks : Nat → Int32) (M_known : Nat → Int32) (M_counts : Nat → Int32) (U_out : Nat → Int64), RR T_signs T_lengths S_kinds S_days S_withdrawals S_made C_sourceSets C_otherSets C_rules C_ringClaims C_steps C_made C_ringLength O_persons O_claimNumbers O_days O_values O_ranks O_known O_tally O_made M_thrown M_padded M_pad M_sources M_kinds M_days M_withdrawn M_lengths M_texts M_formLengths M_forms M_claims M_onSource M_onClaim M_rules M_rings M_ring M_far M_held M_heldBefore M_opinions M_persons M_ofClaims M_values M_when M_ranks M_known M_counts U_out → K T_signs T_lengths S_kinds S_days S_withdrawals S_made C_sourceSets C_otherSets C_rules C_ringClaims C_steps C_made C_ringLength O_persons O_claimNumbers O_days O_values O_ranks O_known O_tally O_made M_thrown M_padded M_pad M_sources M_kinds M_days M_withdrawn M_lengths M_texts M_formLengths M_forms M_claims M_onSource M_onClaim M_rules M_rings M_ring M_far M_held M_heldBefore M_opinions M_persons M_ofClaims M_values M_when M_ranks M_known M_counts U_out) : wc_2 L xs (nI (6 * j)) T_signs T_lengths S_kinds S_days S_withdrawals S_made C_sourceSets C_otherSets C_rules C_ringClaims C_steps C_made C_ringLength O_persons O_claimNumbers O_days O_values O_ranks O_known O_tally O_made M_thrown M_padded M_pad M_sources M_kinds M_days M_withdrawn M_lengths M_texts M_formLengths M_forms M_claims M_onSource M_onClaim M_rules M_rings M_ring M_far M_held M_heldBefore M_opinions M_persons M_ofClaims M_values M_when M_ranks M_known M_counts U_out K := by
  unfold wc_2
  rw [nI_1, nI_2]
  have i1 : vp_in (nI (6 * j + 1)) L := vp_in_nI (by omega) (by omega)
  have i2 : vp_in (nI (6 * j + 2)) L := vp_in_nI (by omega) (by omega)
  refine ⟨i1, i2, ?_⟩
  generalize xs (nI (6 * j + 1)).toNatClampNeg = p
  generalize xs (nI (6 * j + 2)).toNatClampNeg = v
  obtain ⟨ns, nc, no, ⟨⟨np, hn, hpd, hl, hp⟩, hs, hf⟩, hS, hC, hO⟩ := id hR
  obtain ⟨s1, s2, s3, s4⟩ := id hS
  unfold wp_H_source wp_X_source wp_M_source wp_M_thrown
  refine sp_within (fun a b => ⟨fun q => absurd q (by decide), fun _ => ?_⟩) (fun g => ⟨fun _ => Or.inl ⟨rfl, i1, i2, ?_⟩, fun z => absurd rfl z⟩)
  · refine rq_day (fun hd => ?_) (fun hd => Or.inl ⟨rfl, i1, i2, ?_⟩)
    · unfold wp_S_made
      refine ⟨fun q => ?_, fun q => Or.inr ⟨rfl, i1, i2, ?_⟩⟩
      · rw [s2] at q
        have hq : ns < 24 := (nI_ltI (by omega) (by omega)).mp q
        have ik : vp_in (nI ns) 24 := vp_in_nI hq (by omega)
        unfold wp_S_add
        rw [s2]
        refine ⟨ik, ik, ik, ?_⟩
        refine cl_move hl hn (by omega) ⟨pu_in01, i1, i2, sm_within (fun _ _ => ⟨fun z => absurd z (by decide), fun _ => sm_isDay (fun _ => ⟨fun z => absurd z (by decide), fun _ => ⟨fun z => absurd ((nI_leI (a := 24) (b := ns) (by omega) (by omega)).mp (by rw [s3] at z; exact z)) (by omega), fun _ => sm_go0 ⟨fun z => absurd z (by decide), fun _ => ?_⟩⟩⟩) (fun z => absurd hd z)⟩) (fun z => absurd ⟨a, b⟩ z)⟩
        rw [s3, hpd]
        refine ⟨ik, ik, ik, ik, np + 1, ?_⟩
        rw [nI_clamp (by omega)]
        refine lp_src hn hq (fun T t1 t2 => ?_) np 0 _ (by omega) (fun k hk => absurd hk (by omega)) (fun k _ => rfl)
        rw [nI_1, pu_0]
        refine tl_i rfl (fun _ => pu_updL_same) (fun _ => hK _ _ _ _ _ _ _ _ _ _ _ _ _ _ _ _ _ _ _ _ _ _ _ _ _ _ _ _ _ _ _ _ _ _ _ _ _ _ _ _ _ _ _ _ _ _ _ _ _ _ ⟨ns + 1, nc, no, ⟨⟨0, by omega, rfl, pu_upd_same, fun i hi => absurd hi (by omega)⟩, fun i hi => ?_, fun g hg => ?_⟩, ⟨by omega, rfl, rfl, fun i hi => ?_⟩, ?_, hO⟩) (fun z => absurd rfl z)
        · rcases Nat.lt_or_ge i ns with e | e
          · obtain ⟨n, a1, a2, a3, a4⟩ := hs i e
            refine ⟨n, a1, by rw [pu_upd_ne (by omega), pu_upd_ne (by omega)]; exact a2, by rw [pu_upd_ne (by omega)]; exact a3, fun k hk => ?_⟩
            rw [pk_cpy_out (by omega), t2 _ (by omega)]
            exact a4 k hk
          · have e2 : i = ns := by omega
            subst e2
            refine ⟨np, hn, by rw [pu_upd_ne (by omega), pu_upd_same], pu_upd_same, fun k hk => ?_⟩
            rw [show 60 * i + k = i * 60 + k by omega, cp_in hk, (hp k hk).1, show i * 60 + k = 60 * i + k by omega, t1 k hk]
        · obtain ⟨n, a1, a2, a3, a4⟩ := hf g hg
          refine ⟨n, a1, by rw [pu_upd_ne (by omega), pu_upd_ne (by omega)]; exact a2, a3, fun k hk => ?_⟩
          rw [pk_cpy_out (by omega)]
          exact a4 k hk
        · by_cases e : i = ns
          · subst e
            rw [pu_upd_same, pu_upd_same, pu_upd_same, pu_upd_same, pu_upd_same, pu_upd_same]
            exact ⟨rfl, rfl, rfl, pu_in' (n := 25) a b (by omega), isD_of hd⟩
          · rw [pu_upd_ne e, pu_upd_ne e, pu_upd_ne e, pu_upd_ne e, pu_upd_ne e, pu_upd_ne e]
            exact s4 i (by omega)
        · obtain ⟨c1, c2, c3, d1, d2, d3, d4, d5, d6, d7⟩ := hC
          exact ⟨c1, c2, c3, d1, fun c s hc h => ⟨(d2 c s hc h).1, Nat.lt_succ_of_lt (d2 c s hc h).2⟩, d3, d4, d5, d6, d7⟩
      · rw [s2] at q
        have hq : ¬ ns < 24 := fun z => q ((nI_ltI (b := 24) (by omega) (by omega)).mpr z)
        exact sm_within (fun _ _ => ⟨fun z => absurd z (by decide), fun _ => sm_isDay (fun _ => ⟨fun z => absurd z (by decide), fun _ => ⟨fun _ => sm_go2 ⟨fun _ => tl_n (by decide) (hK _ _ _ _ _ _ _ _ _ _ _ _ _ _ _ _ _ _ _ _ _ _ _ _ _ _ _ _ _ _ _ _ _ _ _ _ _ _ _ _ _ _ _ _ _ _ _ _ _ _ hR), fun z => absurd rfl z⟩, fun z => (z (by rw [s3]; exact (nI_leI (a := 24) (b := ns) (by omega) (by omega)).mpr (by omega))).elim⟩⟩) (fun z => absurd hd z)⟩) (fun z => absurd ⟨a, b⟩ z)
    · exact sm_within (fun _ _ => ⟨fun z => absurd z (by decide), fun _ => sm_isDay (fun z => absurd z hd) (fun _ => ⟨fun _ => ⟨fun _ => sm_go1 ⟨fun _ => tl_n (by decide) (hK _ _ _ _ _ _ _ _ _ _ _ _ _ _ _ _ _ _ _ _ _ _ _ _ _ _ _ _ _ _ _ _ _ _ _ _ _ _ _ _ _ _ _ _ _ _ _ _ _ _ hR), fun z => absurd rfl z⟩, fun _ => sm_go1 ⟨fun _ => tl_n (by decide) (hK _ _ _ _ _ _ _ _ _ _ _ _ _ _ _ _ _ _ _ _ _ _ _ _ _ _ _ _ _ _ _ _ _ _ _ _ _ _ _ _ _ _ _ _ _ _ _ _ _ _ hR), fun z => absurd rfl z⟩⟩, fun z => absurd rfl z⟩)⟩) (fun z => absurd ⟨a, b⟩ z)
  · exact sm_within (fun a b => absurd ⟨a, b⟩ g) (fun _ => ⟨fun _ => ⟨fun _ => sm_go1 ⟨fun _ => tl_n (by decide) (hK _ _ _ _ _ _ _ _ _ _ _ _ _ _ _ _ _ _ _ _ _ _ _ _ _ _ _ _ _ _ _ _ _ _ _ _ _ _ _ _ _ _ _ _ _ _ _ _ _ _ hR), fun z => absurd rfl z⟩, fun _ => sm_go1 ⟨fun _ => tl_n (by decide) (hK _ _ _ _ _ _ _ _ _ _ _ _ _ _ _ _ _ _ _ _ _ _ _ _ _ _ _ _ _ _ _ _ _ _ _ _ _ _ _ _ _ _ _ _ _ _ _ _ _ _ hR), fun z => absurd rfl z⟩⟩, fun z => absurd rfl z⟩)
