set_option maxHeartbeats 4000000 in
theorem case_17 {L j : Nat} {xs : Nat → Int32} {T_signs : Nat → Int32} {T_lengths : Nat → Int32} {S_kinds : Nat → Int32} {S_days : Nat → Int32} {S_withdrawals : Nat → Int32} {S_made : Int32} {C_sourceSets : Nat → Int32} {C_otherSets : Nat → Int32} {C_rules : Nat → Int32} {C_ringClaims : Nat → Int32} {C_steps : Nat → Int32} {C_made : Int32} {C_ringLength : Int32} {O_persons : Nat → Int32} {O_claimNumbers : Nat → Int32} {O_days : Nat → Int32} {O_values : Nat → Int32} {O_ranks : Nat → Int32} {O_known : Nat → Int32} {O_tally : Nat → Int32} {O_made : Int32} {M_thrown : Int32} {M_padded : Int32} {M_pad : Nat → Int32} {M_sources : Int32} {M_kinds : Nat → Int32} {M_days : Nat → Int32} {M_withdrawn : Nat → Int32} {M_lengths : Nat → Int32} {M_texts : Nat → Int32} {M_formLengths : Nat → Int32} {M_forms : Nat → Int32} {M_claims : Int32} {M_onSource : Nat → Int32} {M_onClaim : Nat → Int32} {M_rules : Nat → Int32} {M_rings : Int32} {M_ring : Nat → Int32} {M_far : Nat → Int32} {M_held : Nat → Int32} {M_heldBefore : Nat → Int32} {M_opinions : Int32} {M_persons : Nat → Int32} {M_ofClaims : Nat → Int32} {M_values : Nat → Int32} {M_when : Nat → Int32} {M_ranks : Nat → Int32} {M_known : Nat → Int32} {M_counts : Nat → Int32} {U_out : Nat → Int64} {K : (Nat → Int32) → (Nat → Int32) → (Nat → Int32) → (Nat → Int32) → (Nat → Int32) → Int32 → (Nat → Int32) → (Nat → Int32) → (Nat → Int32) → (Nat → Int32) → (Nat → Int32) → Int32 → Int32 → (Nat → Int32) → (Nat → Int32) → (Nat → Int32) → (Nat → Int32) → (Nat → Int32) → (Nat → Int32) → (Nat → Int32) → Int32 → Int32 → Int32 → (Nat → Int32) → Int32 → (Nat → Int32) → (Nat → Int32) → (Nat → Int32) → (Nat → Int32) → (Nat → Int32) → (Nat → Int32) → (Nat → Int32) → Int32 → (Nat → Int32) → (Nat → Int32) → (Nat → Int32) → Int32 → (Nat → Int32) → (Nat → Int32) → (Nat → Int32) → (Nat → Int32) → Int32 → (Nat → Int32) → (Nat → Int32) → (Nat → Int32) → (Nat → Int32) → (Nat → Int32) → (Nat → Int32) → (Nat → Int32) → (Nat → Int64) → Prop} (hL : L ≤ 3072) (hj : 6 * j + 6 ≤ L) (hR : RR T_signs T_lengths S_kinds S_days S_withdrawals S_made C_sourceSets C_otherSets C_rules C_ringClaims C_steps C_made C_ringLength O_persons O_claimNumbers O_days O_values O_ranks O_known O_tally O_made M_thrown M_padded M_pad M_sources M_kinds M_days M_withdrawn M_lengths M_texts M_formLengths M_forms M_claims M_onSource M_onClaim M_rules M_rings M_ring M_far M_held M_heldBefore M_opinions M_persons M_ofClaims M_values M_when M_ranks M_known M_counts U_out) (hK : ∀ (T_signs : Nat → Int32) (T_lengths : Nat → Int32) (S_kinds : Nat → Int32) (S_days : Nat → Int32) (S_withdrawals : Nat → Int32) (S_made : Int32) (C_sourceSets : Nat → Int32) (C_otherSets : Nat → Int32) (C_rules : Nat → Int32) (C_ringClaims : Nat → Int32) (C_steps : Nat → Int32) (C_made : Int32) (C_ringLength : Int32) (O_persons : Nat → Int32) (O_claimNumbers : Nat → Int32) (O_days : Nat → Int32) (O_values : Nat → Int32) (O_ranks : Nat → Int32) (O_known : Nat → Int32) (O_tally : Nat → Int32) (O_made : Int32) (M_thrown : Int32) (M_padded : Int32) (M_pad : Nat → Int32) (M_sources : Int32) (M_kinds : Nat → Int32) (M_days : Nat → Int32) (M_withdrawn : Nat → Int32) (M_lengths : Nat → Int32) (M_texts : Nat → Int32) (M_formLengths : Nat → Int32) (M_forms : Nat → Int32) (M_claims : Int32) (M_onSource : Nat → Int32) (M_onClaim : Nat → Int32) (M_rules : Nat → Int32) (M_rings : Int32) (M_ring : Nat → Int32) (M_far : Nat → Int32) (M_held : Nat → Int32) (M_heldBefore : Nat → Int32) (M_opinions : Int32) (M_persons : Nat → Int32) (M_ofClaims : Nat → Int32) (M_values : Nat → Int32) (M_when : Nat → Int32) (M_ranks : Nat → Int32) (M_known : Nat → Int32) (M_counts : Nat → Int32) (U_out : Nat → Int64), RR T_signs T_lengths S_kinds S_days S_withdrawals S_made C_sourceSets C_otherSets C_rules C_ringClaims C_steps C_made C_ringLength O_persons O_claimNumbers O_days O_values O_ranks O_known O_tally O_made M_thrown M_padded M_pad M_sources M_kinds M_days M_withdrawn M_lengths M_texts M_formLengths M_forms M_claims M_onSource M_onClaim M_rules M_rings M_ring M_far M_held M_heldBefore M_opinions M_persons M_ofClaims M_values M_when M_ranks M_known M_counts U_out → K T_signs T_lengths S_kinds S_days S_withdrawals S_made C_sourceSets C_otherSets C_rules C_ringClaims C_steps C_made C_ringLength O_persons O_claimNumbers O_days O_values O_ranks O_known O_tally O_made M_thrown M_padded M_pad M_sources M_kinds M_days M_withdrawn M_lengths M_texts M_formLengths M_forms M_claims M_onSource M_onClaim M_rules M_rings M_ring M_far M_held M_heldBefore M_opinions M_persons M_ofClaims M_values M_when M_ranks M_known M_counts U_out) : wc_17 L xs (nI (6 * j)) T_signs T_lengths S_kinds S_days S_withdrawals S_made C_sourceSets C_otherSets C_rules C_ringClaims C_steps C_made C_ringLength O_persons O_claimNumbers O_days O_values O_ranks O_known O_tally O_made M_thrown M_padded M_pad M_sources M_kinds M_days M_withdrawn M_lengths M_texts M_formLengths M_forms M_claims M_onSource M_onClaim M_rules M_rings M_ring M_far M_held M_heldBefore M_opinions M_persons M_ofClaims M_values M_when M_ranks M_known M_counts U_out K := by
  unfold wc_17
  rw [nI_1, nI_2, nI_3]
  have i1 : vp_in (nI (6 * j + 1)) L := vp_in_nI (by omega) (by omega)
  have i2 : vp_in (nI (6 * j + 2)) L := vp_in_nI (by omega) (by omega)
  have i3 : vp_in (nI (6 * j + 3)) L := vp_in_nI (by omega) (by omega)
  refine ⟨i1, i2, i3, ?_⟩
  generalize xs (nI (6 * j + 1)).toNatClampNeg = p
  generalize xs (nI (6 * j + 2)).toNatClampNeg = v
  generalize xs (nI (6 * j + 3)).toNatClampNeg = w
  obtain ⟨ns, nc, no, ⟨⟨np, hn, hpd, hl, hp⟩, hs, hf⟩, hS, hC, hO⟩ := id hR
  obtain ⟨s1, s2, s3, s4⟩ := id hS
  unfold wp_H_cite wp_X_cite wp_M_thrown
  have bad : ∀ post : Int32 → Int32 → Prop, post 0 1 → ∃ n9, wl_M_cite_38 M_thrown M_padded M_sources M_kinds M_days M_formLengths M_forms M_claims M_rings M_opinions p v w (0 : Int32) post n9 (0 : Int32) (0 : Int32) (0 : Int32) := fun post hp0 => ⟨1, by
    unfold wl_M_cite_38
    exact ⟨fun _ => sm_go1 ⟨fun _ => hp0, fun z => absurd rfl z⟩, fun z => absurd rfl z⟩⟩
  refine rq_source s2 s1 (fun h => rq_form (fun h2 => ⟨fun hw => ?_, fun hw => rq_place (fun h3 => ?_) (fun h3 => ⟨rfl, i1, i2, i3, ?_⟩)⟩) (fun h2 => ⟨rfl, i1, i2, i3, ?_⟩)) (fun h => ⟨rfl, i1, i2, i3, ?_⟩)
  · obtain ⟨s, hs9, rfl⟩ := id h
    obtain ⟨f, hf9, rfl⟩ := id h2
    obtain ⟨t1, t2, t3, t4, ⟨dy, hdy, t5⟩⟩ := s4 s hs9
    obtain ⟨n, a1, a2, a3, a4⟩ := hf f hf9
    subst hw
    have fin : ∀ post : Int32 → Int32 → Prop, post (nI (tot s dy (fun k => M_forms (60 * f + k)) n)) 0 → wp_M_cite M_thrown M_padded M_sources M_kinds M_days M_formLengths M_forms M_claims M_rings M_opinions (nI s) (nI f) (-1) post := fun post hpo => by
      unfold wp_M_cite
      exact sm_isSource s3 s1 (fun _ => ⟨fun z => absurd z (by decide), fun _ => sm_within (fun _ _ => ⟨fun z => absurd z (by decide), fun _ => ⟨fun z => absurd z (by decide), fun _ => md_cite (g := fun k => M_forms (60 * f + k)) (by omega) t5 hdy t4 hf9 a3 a1 (fun k hk => ⟨rfl, (a4 k hk).2⟩) (fun _ => hpo) (fun q hq e => absurd e.symm (nI_nem1 hq)) (Or.inl rfl)⟩⟩) (fun g => absurd ((isA_pred (n := 4) (by omega)).mpr h2) g)⟩) (fun z => absurd h z)
    refine cl_clen (g := fun k => M_forms (60 * f + k)) (by omega) (t2.trans t5) hdy hf9 a2 a1 (fun k hk => (a4 k hk).1) ⟨pu_in01, i1, i2, i3, fin _ ?_⟩
    exact tl_i rfl (fun _ => pu_updL_same) (fun _ => hK _ _ _ _ _ _ _ _ _ _ _ _ _ _ _ _ _ _ _ _ _ _ _ _ _ _ _ _ _ _ _ _ _ _ _ _ _ _ _ _ _ _ _ _ _ _ _ _ _ _ hR) (fun z => absurd rfl z)
  · obtain ⟨s, hs9, rfl⟩ := id h
    obtain ⟨f, hf9, rfl⟩ := id h2
    obtain ⟨t1, t2, t3, t4, ⟨dy, hdy, t5⟩⟩ := s4 s hs9
    obtain ⟨n, a1, a2, a3, a4⟩ := hf f hf9
    obtain ⟨q, hq, rfl⟩ := nI_of (x := w) (pu_nlt.mpr h3)
    refine cl_csgn (g := fun k => M_forms (60 * f + k)) (by omega) (t2.trans t5) hdy hf9 a2 a1 (fun k hk => (a4 k hk).1) hq ?_
    rw [t1]
    have fin : ∀ post : Int32 → Int32 → Prop, (∀ q', q' < 2 ^ 31 → nI q = nI q' → (q' < tot s dy (fun k => M_forms (60 * f + k)) n → csg s dy (M_kinds s) (fun k => M_forms (60 * f + k)) n 0 q' ≠ -1 → post (csg s dy (M_kinds s) (fun k => M_forms (60 * f + k)) n 0 q') 0) ∧ (tot s dy (fun k => M_forms (60 * f + k)) n ≤ q' → csg s dy (M_kinds s) (fun k => M_forms (60 * f + k)) n 0 q' = -1 → post 0 1)) → wp_M_cite M_thrown M_padded M_sources M_kinds M_days M_formLengths M_forms M_claims M_rings M_opinions (nI s) (nI f) (nI q) post := fun post hpo => by
      unfold wp_M_cite
      refine sm_isSource s3 s1 (fun _ => ⟨fun z => absurd z (by decide), fun _ => sm_within (fun _ _ => ⟨fun z => absurd z (by decide), fun _ => ⟨fun z => ?_, fun _ => md_cite (g := fun k => M_forms (60 * f + k)) (by omega) t5 hdy t4 hf9 a3 a1 (fun k hk => ⟨rfl, (a4 k hk).2⟩) (fun e => absurd e (nI_nem1 hq)) hpo (Or.inr ⟨q, hq, rfl⟩)⟩⟩) (fun g => absurd ((isA_pred (n := 4) (by omega)).mpr h2) g)⟩) (fun z => absurd h z)
      exfalso
      rw [pu_lt, nI_toInt hq] at z
      have e1 : (-1 : Int32).toInt = -1 := by decide
      omega
    refine ⟨fun e => ⟨rfl, i1, i2, i3, fin _ (fun q' hq' e' => ?_)⟩, fun e => ⟨pu_in01, i1, i2, i3, fin _ (fun q' hq' e' => ?_)⟩⟩
    · have eq : q = q' := (nI_eq hq hq').mp e'
      subst eq
      exact ⟨fun _ z => absurd e z, fun _ _ => tl_n (by decide) (hK _ _ _ _ _ _ _ _ _ _ _ _ _ _ _ _ _ _ _ _ _ _ _ _ _ _ _ _ _ _ _ _ _ _ _ _ _ _ _ _ _ _ _ _ _ _ _ _ _ _ hR)⟩
    · have eq : q = q' := (nI_eq hq hq').mp e'
      subst eq
      exact ⟨fun _ _ => tl_i rfl (fun _ => pu_updL_same) (fun _ => hK _ _ _ _ _ _ _ _ _ _ _ _ _ _ _ _ _ _ _ _ _ _ _ _ _ _ _ _ _ _ _ _ _ _ _ _ _ _ _ _ _ _ _ _ _ _ _ _ _ _ hR) (fun z => absurd rfl z), fun _ z => absurd z e⟩
  · unfold wp_M_cite
    refine sm_isSource s3 s1 (fun _ => ⟨fun z => absurd z (by decide), fun _ => sm_within (fun _ _ => ⟨fun z => absurd z (by decide), fun _ => ⟨fun _ => bad _ (tl_n (by decide) (hK _ _ _ _ _ _ _ _ _ _ _ _ _ _ _ _ _ _ _ _ _ _ _ _ _ _ _ _ _ _ _ _ _ _ _ _ _ _ _ _ _ _ _ _ _ _ _ _ _ _ hR)), fun z => ?_⟩⟩) (fun _ => ⟨fun _ => bad _ (tl_n (by decide) (hK _ _ _ _ _ _ _ _ _ _ _ _ _ _ _ _ _ _ _ _ _ _ _ _ _ _ _ _ _ _ _ _ _ _ _ _ _ _ _ _ _ _ _ _ _ _ _ _ _ _ hR)), fun z => absurd rfl z⟩)⟩) (fun z => absurd h z)
    exfalso
    rw [pu_nlt, pu_le] at z
    rw [pu_lt] at h3
    have e1 : (-1 : Int32).toInt = -1 := by decide
    have e0 : (0 : Int32).toInt = 0 := by decide
    refine hw (pu_eq.mpr ?_)
    omega
  · unfold wp_M_cite
    exact sm_isSource s3 s1 (fun _ => ⟨fun z => absurd z (by decide), fun _ => sm_within (fun a b => absurd ((isA_pred (n := 4) (by omega)).mp ⟨a, b⟩) h2) (fun _ => ⟨fun _ => bad _ (tl_n (by decide) (hK _ _ _ _ _ _ _ _ _ _ _ _ _ _ _ _ _ _ _ _ _ _ _ _ _ _ _ _ _ _ _ _ _ _ _ _ _ _ _ _ _ _ _ _ _ _ _ _ _ _ hR)), fun z => absurd rfl z⟩)⟩) (fun z => absurd h z)
  · unfold wp_M_cite
    exact sm_isSource s3 s1 (fun z => absurd z h) (fun _ => ⟨fun _ => bad _ (tl_n (by decide) (hK _ _ _ _ _ _ _ _ _ _ _ _ _ _ _ _ _ _ _ _ _ _ _ _ _ _ _ _ _ _ _ _ _ _ _ _ _ _ _ _ _ _ _ _ _ _ _ _ _ _ hR)), fun z => absurd rfl z⟩)
