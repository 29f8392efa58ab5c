set_option maxHeartbeats 4000000 in
theorem case_5 {L j : Nat} {xs : Nat → Int32} {T_signs : Nat → Int32} {T_lengths : Nat → Int32} {S_kinds : Nat → Int32} {S_days : Nat → Int32} {S_withdrawals : Nat → Int32} {S_made : Int32} {C_sourceSets : Nat → Int32} {C_otherSets : Nat → Int32} {C_rules : Nat → Int32} {C_ringClaims : Nat → Int32} {C_steps : Nat → Int32} {C_made : Int32} {C_ringLength : Int32} {O_persons : Nat → Int32} {O_claimNumbers : Nat → Int32} {O_days : Nat → Int32} {O_values : Nat → Int32} {O_ranks : Nat → Int32} {O_known : Nat → Int32} {O_tally : Nat → Int32} {O_made : Int32} {M_thrown : Int32} {M_padded : Int32} {M_pad : Nat → Int32} {M_sources : Int32} {M_kinds : Nat → Int32} {M_days : Nat → Int32} {M_withdrawn : Nat → Int32} {M_lengths : Nat → Int32} {M_texts : Nat → Int32} {M_formLengths : Nat → Int32} {M_forms : Nat → Int32} {M_claims : Int32} {M_onSource : Nat → Int32} {M_onClaim : Nat → Int32} {M_rules : Nat → Int32} {M_rings : Int32} {M_ring : Nat → Int32} {M_far : Nat → Int32} {M_held : Nat → Int32} {M_heldBefore : Nat → Int32} {M_opinions : Int32} {M_persons : Nat → Int32} {M_ofClaims : Nat → Int32} {M_values : Nat → Int32} {M_when : Nat → Int32} {M_ranks : Nat → Int32} {M_known : Nat → Int32} {M_counts : Nat → Int32} {U_out : Nat → Int64} {K : (Nat → Int32) → (Nat → Int32) → (Nat → Int32) → (Nat → Int32) → (Nat → Int32) → Int32 → (Nat → Int32) → (Nat → Int32) → (Nat → Int32) → (Nat → Int32) → (Nat → Int32) → Int32 → Int32 → (Nat → Int32) → (Nat → Int32) → (Nat → Int32) → (Nat → Int32) → (Nat → Int32) → (Nat → Int32) → (Nat → Int32) → Int32 → Int32 → Int32 → (Nat → Int32) → Int32 → (Nat → Int32) → (Nat → Int32) → (Nat → Int32) → (Nat → Int32) → (Nat → Int32) → (Nat → Int32) → (Nat → Int32) → Int32 → (Nat → Int32) → (Nat → Int32) → (Nat → Int32) → Int32 → (Nat → Int32) → (Nat → Int32) → (Nat → Int32) → (Nat → Int32) → Int32 → (Nat → Int32) → (Nat → Int32) → (Nat → Int32) → (Nat → Int32) → (Nat → Int32) → (Nat → Int32) → (Nat → Int32) → (Nat → Int64) → Prop} (hL : L ≤ 3072) (hj : 6 * j + 6 ≤ L) (hR : RR T_signs T_lengths S_kinds S_days S_withdrawals S_made C_sourceSets C_otherSets C_rules C_ringClaims C_steps C_made C_ringLength O_persons O_claimNumbers O_days O_values O_ranks O_known O_tally O_made M_thrown M_padded M_pad M_sources M_kinds M_days M_withdrawn M_lengths M_texts M_formLengths M_forms M_claims M_onSource M_onClaim M_rules M_rings M_ring M_far M_held M_heldBefore M_opinions M_persons M_ofClaims M_values M_when M_ranks M_known M_counts U_out) (hK : ∀ (T_signs : Nat → Int32) (T_lengths : Nat → Int32) (S_kinds : Nat → Int32) (S_days : Nat → Int32) (S_withdrawals : Nat → Int32) (S_made : Int32) (C_sourceSets : Nat → Int32) (C_otherSets : Nat → Int32) (C_rules : Nat → Int32) (C_ringClaims : Nat → Int32) (C_steps : Nat → Int32) (C_made : Int32) (C_ringLength : Int32) (O_persons : Nat → Int32) (O_claimNumbers : Nat → Int32) (O_days : Nat → Int32) (O_values : Nat → Int32) (O_ranks : Nat → Int32) (O_known : Nat → Int32) (O_tally : Nat → Int32) (O_made : Int32) (M_thrown : Int32) (M_padded : Int32) (M_pad : Nat → Int32) (M_sources : Int32) (M_kinds : Nat → Int32) (M_days : Nat → Int32) (M_withdrawn : Nat → Int32) (M_lengths : Nat → Int32) (M_texts : Nat → Int32) (M_formLengths : Nat → Int32) (M_forms : Nat → Int32) (M_claims : Int32) (M_onSource : Nat → Int32) (M_onClaim : Nat → Int32) (M_rules : Nat → Int32) (M_rings : Int32) (M_ring : Nat → Int32) (M_far : Nat → Int32) (M_held : Nat → Int32) (M_heldBefore : Nat → Int32) (M_opinions : Int32) (M_persons : Nat → Int32) (M_ofClaims : Nat → Int32) (M_values : Nat → Int32) (M_when : Nat → Int32) (M_ranks : Nat → Int32) (M_known : Nat → Int32) (M_counts : Nat → Int32) (U_out : Nat → Int64), RR T_signs T_lengths S_kinds S_days S_withdrawals S_made C_sourceSets C_otherSets C_rules C_ringClaims C_steps C_made C_ringLength O_persons O_claimNumbers O_days O_values O_ranks O_known O_tally O_made M_thrown M_padded M_pad M_sources M_kinds M_days M_withdrawn M_lengths M_texts M_formLengths M_forms M_claims M_onSource M_onClaim M_rules M_rings M_ring M_far M_held M_heldBefore M_opinions M_persons M_ofClaims M_values M_when M_ranks M_known M_counts U_out → K T_signs T_lengths S_kinds S_days S_withdrawals S_made C_sourceSets C_otherSets C_rules C_ringClaims C_steps C_made C_ringLength O_persons O_claimNumbers O_days O_values O_ranks O_known O_tally O_made M_thrown M_padded M_pad M_sources M_kinds M_days M_withdrawn M_lengths M_texts M_formLengths M_forms M_claims M_onSource M_onClaim M_rules M_rings M_ring M_far M_held M_heldBefore M_opinions M_persons M_ofClaims M_values M_when M_ranks M_known M_counts U_out) : wc_5 L xs (nI (6 * j)) T_signs T_lengths S_kinds S_days S_withdrawals S_made C_sourceSets C_otherSets C_rules C_ringClaims C_steps C_made C_ringLength O_persons O_claimNumbers O_days O_values O_ranks O_known O_tally O_made M_thrown M_padded M_pad M_sources M_kinds M_days M_withdrawn M_lengths M_texts M_formLengths M_forms M_claims M_onSource M_onClaim M_rules M_rings M_ring M_far M_held M_heldBefore M_opinions M_persons M_ofClaims M_values M_when M_ranks M_known M_counts U_out K := by
  unfold wc_5
  rw [nI_1, nI_2]
  have i1 : vp_in (nI (6 * j + 1)) L := vp_in_nI (by omega) (by omega)
  have i2 : vp_in (nI (6 * j + 2)) L := vp_in_nI (by omega) (by omega)
  refine ⟨i1, i2, ?_⟩
  generalize xs (nI (6 * j + 1)).toNatClampNeg = p
  generalize xs (nI (6 * j + 2)).toNatClampNeg = v
  obtain ⟨ns, nc, no, hT, hS, hC, hO⟩ := id hR
  obtain ⟨c1, c2, c3, d1, d2, d3, d4, d5, d6, d7⟩ := id hC
  have d3' : tab C_otherSets M_onClaim := d3
  have d4' : rg C_otherSets nc nc := d4
  unfold wp_H_restsOn wp_X_restsOn wp_M_restsOn wp_M_thrown
  have b11 : (1 : Int32) = 0 ∨ (1 : Int32) = 1 := Or.inr rfl
  refine rq_claim c2 c1 (fun h => rq_claim c2 c1 (fun h2 => ?_) (fun h2 => ⟨rfl, i1, i2, ?_⟩)) (fun h => ⟨rfl, i1, i2, ?_⟩)
  · obtain ⟨c, hc, rfl⟩ := id h
    obtain ⟨o, ho, rfl⟩ := id h2
    have ic : vp_in (nI c) 24 := vp_in_nI (by omega) (by omega)
    have io : vp_in (nI o) 24 := vp_in_nI (by omega) (by omega)
    have ix : vp_in (nI (24 * c + o)) 576 := vp_in_nI (by omega) (by omega)
    have in0 : vp_in (0 : Int32) 24 := vp_in_nI (n := 0) (by omega) (by omega)
    have hR9 := tab_isB d3' (c := c) (s := o) (by omega) (by omega)
    unfold wp_C_isOn wp_C_tellRing
    rw [nI_clamp (show c < 2 ^ 31 by omega)]
    refine ⟨ic, sp_has (by omega) (fun e => ⟨pu_nb1, fun z => absurd z (by decide), fun _ => ⟨pu_in01, i1, i2, sm_isClaim c3 c1 (fun _ => ⟨fun z => absurd z (by decide), fun _ => sm_isClaim c3 c1 (fun _ => ⟨fun z => absurd z (by decide), fun _ => sm_go0 ⟨fun z => absurd z (by decide), fun _ => md_measure c3 c1 d3' d4' hc (fun F hF => ?_)⟩⟩) (fun z => absurd h2 z)⟩) (fun z => absurd h z)⟩⟩) (fun e => ⟨pu_nb0, fun _ => cl_measure c2 c1 d4' hc (fun S' hS' => ?_), fun z => absurd rfl z⟩)⟩
    · have e1 : F o = 99 := by
        rcases hF o (by omega) with ⟨m, _, q, _⟩ | q
        · exact absurd ⟨o, on_mk (by omega) e, q.1⟩ (d7 m c)
        · exact q.2
      have e2 : M_onClaim (24 * c + o) = 1 := by
        rcases hR9 with q | q
        · exact q.1
        · exact absurd e q.2
      rw [pu_24, nI_clamp (show o < 2 ^ 31 by omega), nI_clamp (show 24 * c + o < 2 ^ 31 by omega), e1, e2, pu_vb1, upd_self e2]
      refine ⟨io, fun _ => ⟨ix, ix, fun z => absurd z (by decide), fun _ => tl_i rfl (fun _ => pu_updL_same) (fun _ => hK _ _ _ _ _ _ _ _ _ _ _ _ _ _ _ _ _ _ _ _ _ _ _ _ _ _ _ _ _ _ _ _ _ _ _ _ _ _ _ _ _ _ _ _ _ _ _ _ _ _ ⟨ns, nc, no, hT, hS, hC, hO⟩) (fun z => absurd rfl z)⟩, fun z => absurd (by decide) z⟩
    · rw [nI_clamp (show o < 2 ^ 31 by omega)]
      refine ⟨io, fun q => ?_, fun q => ⟨in0, io, ?_⟩⟩
      · have np : ∀ m, ¬ stp (on_C C_otherSets) m o c := by
          rcases hS' o (by omega) with ⟨m, hm, _, z⟩ | z
          · rw [q] at z; exact absurd z.symm (nI_nem1 (by omega))
          · exact z.1
        refine ⟨fun _ => cl_setO (by omega) (by omega) (fun e2 => ?_) (fun _ => ⟨pu_in01, i1, i2, sm_isClaim c3 c1 (fun _ => ⟨fun z => absurd z (by decide), fun _ => sm_isClaim c3 c1 (fun _ => ⟨fun z => absurd z (by decide), fun _ => sm_go0 ⟨fun z => absurd z (by decide), fun _ => md_measure c3 c1 d3' d4' hc (fun F hF => ?_)⟩⟩) (fun z => absurd h2 z)⟩) (fun z => absurd h z)⟩), fun z => absurd rfl z⟩
        · rw [e] at e2; exact absurd e2 (by decide)
        · have e1 : F o = 99 := by
            rcases hF o (by omega) with ⟨m, _, z, _⟩ | z
            · exact absurd z.1 (np m)
            · exact z.2
          have e2 : M_onClaim (24 * c + o) = 0 := by
            rcases hR9 with z | z
            · rw [z.2] at e; exact absurd e (by decide)
            · exact z.1
          rw [pu_24, nI_clamp (show 24 * c + o < 2 ^ 31 by omega), e1, e2, pu_vb1]
          refine ⟨io, fun _ => ⟨ix, ix, fun _ => tl_i rfl (fun _ => pu_updL_same) (fun _ => hK _ _ _ _ _ _ _ _ _ _ _ _ _ _ _ _ _ _ _ _ _ _ _ _ _ _ _ _ _ _ _ _ _ _ _ _ _ _ _ _ _ _ _ _ _ _ _ _ _ _ ⟨ns, nc, no, hT, hS, ⟨c1, c2, c3, d1, d2, tab_set d3' (by omega) (by omega) b11, rg_set d4' hc ho (by omega), d5, d6, fun n a z => acy_add (fun x y z => on_add (by omega) z) d7 np n a z⟩, hO⟩) (fun z => absurd rfl z), fun z => absurd rfl z⟩, fun z => absurd (by decide) z⟩
      · obtain ⟨m0, hm0, hd0, hs0⟩ : ∃ m, m < 24 ∧ isd (on_C C_otherSets) o c m ∧ S' o = nI m := by
          rcases hS' o (by omega) with z | z
          · exact z
          · exact absurd z.2 q
        obtain ⟨t, rfl, ht⟩ := exq hd0
        rw [hs0, pu_0]
        refine cl_ring c2 c1 d4' hc hS' hd0 ht (fun R1 r1 r2 => ⟨fun z => absurd z (by decide), fun _ => ⟨pu_in01, i1, i2, sm_isClaim c3 c1 (fun _ => ⟨fun z => absurd z (by decide), fun _ => sm_isClaim c3 c1 (fun _ => ⟨fun z => absurd z (by decide), fun _ => sm_go0 ⟨fun z => absurd z (by decide), fun _ => md_measure c3 c1 d3' d4' hc (fun F hF => ?_)⟩⟩) (fun z => absurd h2 z)⟩) (fun z => absurd h z)⟩⟩)
        have e1 : F (t 0) = nI m0 := by
          rcases hF (t 0) (by omega) with ⟨m, _, z1, z2⟩ | z
          · rw [z2, isd_eq z1 hd0]
          · exact absurd hd0.1 (z.1 m0)
        rw [e1]
        refine ⟨io, fun z => ?_, fun _ => ⟨in0, md_ring c1 d3' d4' hc hF hd0 ht (fun R2 u1 u2 => ?_)⟩⟩
        · exfalso
          have z2 : nI 99 ≤ nI m0 := z
          rw [nI_leI (by omega) (by omega)] at z2
          omega
        · refine tl_i rfl (fun _ => pu_updL_same) (fun _ => hK _ _ _ _ _ _ _ _ _ _ _ _ _ _ _ _ _ _ _ _ _ _ _ _ _ _ _ _ _ _ _ _ _ _ _ _ _ _ _ _ _ _ _ _ _ _ _ _ _ _ ⟨ns, nc, no, hT, hS, ⟨c1, c2, c3, d1, d2, d3, d4, d5, ⟨m0 + 1, by omega, rfl, rfl, fun i hi => ?_⟩, d7⟩, hO⟩) (fun z => absurd rfl z)
          cases i with
          | zero => rw [r1, u1, pk_us, pk_us]
          | succ i => rw [Nat.add_comm i 1, r2 i (by omega), u2 i (by omega)]
  · exact sm_isClaim c3 c1 (fun _ => ⟨fun z => absurd z (by decide), fun _ => sm_isClaim c3 c1 (fun z => absurd z h2) (fun _ => ⟨fun _ => sm_go1 ⟨fun _ => tl_n (by decide) (hK _ _ _ _ _ _ _ _ _ _ _ _ _ _ _ _ _ _ _ _ _ _ _ _ _ _ _ _ _ _ _ _ _ _ _ _ _ _ _ _ _ _ _ _ _ _ _ _ _ _ hR), fun z => absurd rfl z⟩, fun z => absurd rfl z⟩)⟩) (fun z => absurd h z)
  · exact sm_isClaim c3 c1 (fun z => absurd z h) (fun _ => ⟨fun _ => sm_go1 ⟨fun _ => tl_n (by decide) (hK _ _ _ _ _ _ _ _ _ _ _ _ _ _ _ _ _ _ _ _ _ _ _ _ _ _ _ _ _ _ _ _ _ _ _ _ _ _ _ _ _ _ _ _ _ _ _ _ _ _ hR), fun z => absurd rfl z⟩, fun z => absurd rfl z⟩)
