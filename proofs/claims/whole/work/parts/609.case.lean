set_option maxHeartbeats 4000000 in
theorem case_9 {L j : Nat} {xs : Nat → Int32} {T_signs : Nat → Int32} {T_lengths : Nat → Int32} {S_kinds : Nat → Int32} {S_days : Nat → Int32} {S_withdrawals : Nat → Int32} {S_made : Int32} {C_sourceSets : Nat → Int32} {C_otherSets : Nat → Int32} {C_rules : Nat → Int32} {C_ringClaims : Nat → Int32} {C_steps : Nat → Int32} {C_made : Int32} {C_ringLength : Int32} {O_persons : Nat → Int32} {O_claimNumbers : Nat → Int32} {O_days : Nat → Int32} {O_values : Nat → Int32} {O_ranks : Nat → Int32} {O_known : Nat → Int32} {O_tally : Nat → Int32} {O_made : Int32} {M_thrown : Int32} {M_padded : Int32} {M_pad : Nat → Int32} {M_sources : Int32} {M_kinds : Nat → Int32} {M_days : Nat → Int32} {M_withdrawn : Nat → Int32} {M_lengths : Nat → Int32} {M_texts : Nat → Int32} {M_formLengths : Nat → Int32} {M_forms : Nat → Int32} {M_claims : Int32} {M_onSource : Nat → Int32} {M_onClaim : Nat → Int32} {M_rules : Nat → Int32} {M_rings : Int32} {M_ring : Nat → Int32} {M_far : Nat → Int32} {M_held : Nat → Int32} {M_heldBefore : Nat → Int32} {M_opinions : Int32} {M_persons : Nat → Int32} {M_ofClaims : Nat → Int32} {M_values : Nat → Int32} {M_when : Nat → Int32} {M_ranks : Nat → Int32} {M_known : Nat → Int32} {M_counts : Nat → Int32} {U_out : Nat → Int64} {K : (Nat → Int32) → (Nat → Int32) → (Nat → Int32) → (Nat → Int32) → (Nat → Int32) → Int32 → (Nat → Int32) → (Nat → Int32) → (Nat → Int32) → (Nat → Int32) → (Nat → Int32) → Int32 → Int32 → (Nat → Int32) → (Nat → Int32) → (Nat → Int32) → (Nat → Int32) → (Nat → Int32) → (Nat → Int32) → (Nat → Int32) → Int32 → Int32 → Int32 → (Nat → Int32) → Int32 → (Nat → Int32) → (Nat → Int32) → (Nat → Int32) → (Nat → Int32) → (Nat → Int32) → (Nat → Int32) → (Nat → Int32) → Int32 → (Nat → Int32) → (Nat → Int32) → (Nat → Int32) → Int32 → (Nat → Int32) → (Nat → Int32) → (Nat → Int32) → (Nat → Int32) → Int32 → (Nat → Int32) → (Nat → Int32) → (Nat → Int32) → (Nat → Int32) → (Nat → Int32) → (Nat → Int32) → (Nat → Int32) → (Nat → Int64) → Prop} (hL : L ≤ 3072) (hj : 6 * j + 6 ≤ L) (hR : RR T_signs T_lengths S_kinds S_days S_withdrawals S_made C_sourceSets C_otherSets C_rules C_ringClaims C_steps C_made C_ringLength O_persons O_claimNumbers O_days O_values O_ranks O_known O_tally O_made M_thrown M_padded M_pad M_sources M_kinds M_days M_withdrawn M_lengths M_texts M_formLengths M_forms M_claims M_onSource M_onClaim M_rules M_rings M_ring M_far M_held M_heldBefore M_opinions M_persons M_ofClaims M_values M_when M_ranks M_known M_counts U_out) (hK : ∀ (T_signs : Nat → Int32) (T_lengths : Nat → Int32) (S_kinds : Nat → Int32) (S_days : Nat → Int32) (S_withdrawals : Nat → Int32) (S_made : Int32) (C_sourceSets : Nat → Int32) (C_otherSets : Nat → Int32) (C_rules : Nat → Int32) (C_ringClaims : Nat → Int32) (C_steps : Nat → Int32) (C_made : Int32) (C_ringLength : Int32) (O_persons : Nat → Int32) (O_claimNumbers : Nat → Int32) (O_days : Nat → Int32) (O_values : Nat → Int32) (O_ranks : Nat → Int32) (O_known : Nat → Int32) (O_tally : Nat → Int32) (O_made : Int32) (M_thrown : Int32) (M_padded : Int32) (M_pad : Nat → Int32) (M_sources : Int32) (M_kinds : Nat → Int32) (M_days : Nat → Int32) (M_withdrawn : Nat → Int32) (M_lengths : Nat → Int32) (M_texts : Nat → Int32) (M_formLengths : Nat → Int32) (M_forms : Nat → Int32) (M_claims : Int32) (M_onSource : Nat → Int32) (M_onClaim : Nat → Int32) (M_rules : Nat → Int32) (M_rings : Int32) (M_ring : Nat → Int32) (M_far : Nat → Int32) (M_held : Nat → Int32) (M_heldBefore : Nat → Int32) (M_opinions : Int32) (M_persons : Nat → Int32) (M_ofClaims : Nat → Int32) (M_values : Nat → Int32) (M_when : Nat → Int32) (M_ranks : Nat → Int32) (M_known : Nat → Int32) (M_counts : Nat → Int32) (U_out : Nat → Int64), RR T_signs T_lengths S_kinds S_days S_withdrawals S_made C_sourceSets C_otherSets C_rules C_ringClaims C_steps C_made C_ringLength O_persons O_claimNumbers O_days O_values O_ranks O_known O_tally O_made M_thrown M_padded M_pad M_sources M_kinds M_days M_withdrawn M_lengths M_texts M_formLengths M_forms M_claims M_onSource M_onClaim M_rules M_rings M_ring M_far M_held M_heldBefore M_opinions M_persons M_ofClaims M_values M_when M_ranks M_known M_counts U_out → K T_signs T_lengths S_kinds S_days S_withdrawals S_made C_sourceSets C_otherSets C_rules C_ringClaims C_steps C_made C_ringLength O_persons O_claimNumbers O_days O_values O_ranks O_known O_tally O_made M_thrown M_padded M_pad M_sources M_kinds M_days M_withdrawn M_lengths M_texts M_formLengths M_forms M_claims M_onSource M_onClaim M_rules M_rings M_ring M_far M_held M_heldBefore M_opinions M_persons M_ofClaims M_values M_when M_ranks M_known M_counts U_out) : wc_9 L xs (nI (6 * j)) T_signs T_lengths S_kinds S_days S_withdrawals S_made C_sourceSets C_otherSets C_rules C_ringClaims C_steps C_made C_ringLength O_persons O_claimNumbers O_days O_values O_ranks O_known O_tally O_made M_thrown M_padded M_pad M_sources M_kinds M_days M_withdrawn M_lengths M_texts M_formLengths M_forms M_claims M_onSource M_onClaim M_rules M_rings M_ring M_far M_held M_heldBefore M_opinions M_persons M_ofClaims M_values M_when M_ranks M_known M_counts U_out K := by
  unfold wc_9
  rw [nI_1, nI_2, nI_3, nI_4, nI_5]
  have i1 : vp_in (nI (6 * j + 1)) L := vp_in_nI (by omega) (by omega)
  have i2 : vp_in (nI (6 * j + 2)) L := vp_in_nI (by omega) (by omega)
  have i3 : vp_in (nI (6 * j + 3)) L := vp_in_nI (by omega) (by omega)
  have i4 : vp_in (nI (6 * j + 4)) L := vp_in_nI (by omega) (by omega)
  have i5 : vp_in (nI (6 * j + 5)) L := vp_in_nI (by omega) (by omega)
  refine ⟨i1, i2, i3, i4, i5, ?_⟩
  generalize xs (nI (6 * j + 1)).toNatClampNeg = p
  generalize xs (nI (6 * j + 2)).toNatClampNeg = c
  generalize xs (nI (6 * j + 3)).toNatClampNeg = v
  generalize xs (nI (6 * j + 4)).toNatClampNeg = d
  generalize xs (nI (6 * j + 5)).toNatClampNeg = r
  obtain ⟨ns, nc, no, hT, hS, hC, hO⟩ := id hR
  obtain ⟨c1, c2, c3, c4⟩ := id hC
  obtain ⟨o1, o2, o3, o4, o5⟩ := id hO
  have mteq : ∀ k, k < no → (mt1 O_persons O_claimNumbers O_days p c d k ↔ mt1 M_persons M_ofClaims M_when p c d k) := fun k hk => by
    obtain ⟨a1, a2, a3, _⟩ := o4 k hk
    unfold mt1
    rw [a1, a2, a3]
  have cneq : cnt (fun k => decide (O_claimNumbers k = c)) no = cnt (fun k => decide (M_ofClaims k = c)) no := cnt_congr (fun k hk => by
    obtain ⟨a1, a2, _⟩ := o4 k hk
    show decide (O_claimNumbers k = c) = decide (M_ofClaims k = c)
    rw [a2])
  unfold wp_H_opinion wp_X_opinion wp_O_made wp_M_thrown
  refine rq_person (fun h => rq_claim c2 c1 (fun h2 => sp_within (fun v1 v2 => ⟨fun z => absurd z (by decide), fun _ => rq_day (fun hd => sp_within (fun r1 r2 => ⟨fun z => absurd z (by decide), fun _ => ?_⟩) (fun g => ⟨fun _ => Or.inl ⟨rfl, i1, i2, i3, i4, i5, ?_⟩, fun z => absurd rfl z⟩)) (fun hd => Or.inl ⟨rfl, i1, i2, i3, i4, i5, ?_⟩)⟩) (fun g => ⟨fun _ => Or.inl ⟨rfl, i1, i2, i3, i4, i5, ?_⟩, fun z => absurd rfl z⟩)) (fun h2 => Or.inr (Or.inr ⟨rfl, i1, i2, i3, i4, i5, ?_⟩))) (fun h => Or.inr (Or.inr ⟨rfl, i1, i2, i3, i4, i5, ?_⟩))
  · have hv : vdr v d r := ⟨⟨v1, v2⟩, hd, ⟨r1, r2⟩⟩
    obtain ⟨v9, hv9, ev⟩ := pu_in' (n := 99) v1 v2 (by omega)
    obtain ⟨r9, hr9, er⟩ := pu_in' (n := 9) r1 r2 (by omega)
    obtain ⟨d9, hd9, ed⟩ := isD_of hd
    obtain ⟨p9, hp9, ep⟩ := id h
    refine cl_find o2 o1 (fun k hk hm => ⟨fun z => absurd z (nI_nem1 (by omega)), fun _ => ?_⟩) (fun hno => ⟨fun _ => ?_, fun z => absurd rfl z⟩)
    · have ik : vp_in (nI k) 300 := vp_in_nI (by omega) (by omega)
      unfold wp_O_say
      rw [nI_clamp (show k < 2 ^ 31 by omega)]
      refine ⟨ik, ik, cl_number o2 o1 ⟨pu_in01, i1, i2, i3, i4, i5, md_opinion c3 c1 o3 o1 o5 (fun z => absurd ⟨h, h2⟩ z) (fun _ _ z => absurd hv z) (fun _ _ _ z _ => absurd ((mteq k hk).mp hm) (z k hk)) (fun _ _ _ q hq hq2 => ?_) (fun _ _ _ z _ => absurd ((mteq k hk).mp hm) (z k hk))⟩⟩
      have hm' := (mteq k hk).mp hm
      have e : q = k := o5 q k hq hk (hq2.1.trans hm'.1.symm) (hq2.2.1.trans hm'.2.1.symm) (hq2.2.2.trans hm'.2.2.symm)
      subst e
      rw [cneq]
      refine tl_i rfl (fun _ => by rw [pu_0, pu_updL_same]) (fun _ => hK _ _ _ _ _ _ _ _ _ _ _ _ _ _ _ _ _ _ _ _ _ _ _ _ _ _ _ _ _ _ _ _ _ _ _ _ _ _ _ _ _ _ _ _ _ _ _ _ _ _ ⟨ns, nc, no, hT, hS, hC, ⟨o1, o2, rfl, fun i hi => ?_, o5⟩⟩) (fun z => absurd rfl z)
      obtain ⟨a1, a2, a3, a4, a5, a6, a7, a8, a9⟩ := o4 i hi
      by_cases e : i = q
      · subst e
        rw [pk_us, pk_us, pk_us, pk_us]
        exact ⟨a1, a2, a3, rfl, rfl, a6, ⟨v9, by omega, ev⟩, ⟨r9, hr9, er⟩, a9⟩
      · rw [pk_un e, pk_un e, pk_un e, pk_un e]
        exact ⟨a1, a2, a3, a4, a5, a6, a7, a8, a9⟩
    · have hno' : ∀ k, k < no → ¬ mt1 M_persons M_ofClaims M_when p c d k := fun k hk z => hno k hk ((mteq k hk).mpr z)
      rw [o2]
      refine pk_lt no 300 (fun hlt => ?_) (fun hge => Or.inr (Or.inl ⟨rfl, i1, i2, i3, i4, i5, md_opinion c3 c1 o3 o1 o5 (fun z => absurd ⟨h, h2⟩ z) (fun _ _ z => absurd hv z) (fun _ _ _ _ _ => ?_) (fun _ _ _ q hq hq2 => absurd hq2 (hno' q hq)) (fun _ _ _ _ z => absurd z (by omega))⟩))
      · have ik : vp_in (nI no) 300 := vp_in_nI hlt (by omega)
        unfold wp_O_add wp_O_say
        rw [nI_clamp (show no < 2 ^ 31 by omega), nI_1]
        refine ⟨ik, ik, ik, ik, ik, cl_number rfl (by omega) ⟨pu_in01, i1, i2, i3, i4, i5, md_opinion c3 c1 o3 o1 o5 (fun z => absurd ⟨h, h2⟩ z) (fun _ _ z => absurd hv z) (fun _ _ _ _ z => absurd z (by omega)) (fun _ _ _ q hq hq2 => absurd hq2 (hno' q hq)) (fun _ _ _ _ _ => ?_)⟩⟩
        have e9 : cnt (fun k => decide (upd O_claimNumbers no c k = c)) (no + 1) = cnt (fun k => decide (upd M_ofClaims no c k = c)) (no + 1) := cnt_congr (fun k hk => by
          show decide (upd O_claimNumbers no c k = c) = decide (upd M_ofClaims no c k = c)
          by_cases e : k = no
          · subst e; rw [pk_us, pk_us]
          · rw [pk_un e, pk_un e, (o4 k (by omega)).2.1])
        rw [e9, nI_clamp (show no < 2 ^ 31 by omega)]
        refine tl_i rfl (fun _ => by rw [pu_0, pu_updL_same]) (fun _ => hK _ _ _ _ _ _ _ _ _ _ _ _ _ _ _ _ _ _ _ _ _ _ _ _ _ _ _ _ _ _ _ _ _ _ _ _ _ _ _ _ _ _ _ _ _ _ _ _ _ _ ⟨ns, nc, no + 1, hT, hS, hC, ⟨by omega, rfl, rfl, fun i hi => ?_, fun i q hi hq e1 e2 e3 => ?_⟩⟩) (fun z => absurd rfl z)
        · by_cases e : i = no
          · subst e
            rw [pk_us, pk_us, pk_us, pk_us, pk_us, pk_us, pk_us, pk_us, pk_us, pk_us]
            exact ⟨rfl, rfl, rfl, rfl, rfl, ⟨p9, hp9, ep⟩, ⟨v9, by omega, ev⟩, ⟨r9, hr9, er⟩, ⟨d9, hd9, ed⟩⟩
          · rw [pk_un e, pk_un e, pk_un e, pk_un e, pk_un e, pk_un e, pk_un e, pk_un e, pk_un e, pk_un e]
            exact o4 i (by omega)
        · by_cases f1 : i = no
          · by_cases f2 : q = no
            · omega
            · subst f1
              rw [pk_us, pk_un f2] at e1 e2 e3
              exact absurd ⟨e1.symm, e2.symm, e3.symm⟩ (hno' q (by omega))
          · by_cases f2 : q = no
            · subst f2
              rw [pk_us, pk_un f1] at e1 e2 e3
              exact absurd ⟨e1, e2, e3⟩ (hno' i (by omega))
            · rw [pk_un f1, pk_un f2] at e1 e2 e3
              exact o5 i q (by omega) (by omega) e1 e2 e3
      · exact tl_i rfl (fun z => absurd z (by decide)) (fun z => absurd z (by decide)) (fun _ => hK _ _ _ _ _ _ _ _ _ _ _ _ _ _ _ _ _ _ _ _ _ _ _ _ _ _ _ _ _ _ _ _ _ _ _ _ _ _ _ _ _ _ _ _ _ _ _ _ _ _ ⟨ns, nc, no, hT, hS, hC, ⟨o1, rfl, rfl, o4, o5⟩⟩)
  · refine md_opinion c3 c1 o3 o1 o5 (fun z => absurd ⟨h, h2⟩ z) (fun _ _ _ => ?_) (fun _ _ z => absurd z.2.2 g) (fun _ _ z => absurd z.2.2 g) (fun _ _ z => absurd z.2.2 g)
    exact tl_i rfl (fun z => absurd z (by decide)) (fun z => absurd z (by decide)) (fun _ => hK _ _ _ _ _ _ _ _ _ _ _ _ _ _ _ _ _ _ _ _ _ _ _ _ _ _ _ _ _ _ _ _ _ _ _ _ _ _ _ _ _ _ _ _ _ _ _ _ _ _ ⟨ns, nc, no, hT, hS, hC, ⟨o1, o2, rfl, o4, o5⟩⟩)
  · refine md_opinion c3 c1 o3 o1 o5 (fun z => absurd ⟨h, h2⟩ z) (fun _ _ _ => ?_) (fun _ _ z => absurd z.2.1 hd) (fun _ _ z => absurd z.2.1 hd) (fun _ _ z => absurd z.2.1 hd)
    exact tl_i rfl (fun z => absurd z (by decide)) (fun z => absurd z (by decide)) (fun _ => hK _ _ _ _ _ _ _ _ _ _ _ _ _ _ _ _ _ _ _ _ _ _ _ _ _ _ _ _ _ _ _ _ _ _ _ _ _ _ _ _ _ _ _ _ _ _ _ _ _ _ ⟨ns, nc, no, hT, hS, hC, ⟨o1, o2, rfl, o4, o5⟩⟩)
  · refine md_opinion c3 c1 o3 o1 o5 (fun z => absurd ⟨h, h2⟩ z) (fun _ _ _ => ?_) (fun _ _ z => absurd z.1 g) (fun _ _ z => absurd z.1 g) (fun _ _ z => absurd z.1 g)
    exact tl_i rfl (fun z => absurd z (by decide)) (fun z => absurd z (by decide)) (fun _ => hK _ _ _ _ _ _ _ _ _ _ _ _ _ _ _ _ _ _ _ _ _ _ _ _ _ _ _ _ _ _ _ _ _ _ _ _ _ _ _ _ _ _ _ _ _ _ _ _ _ _ ⟨ns, nc, no, hT, hS, hC, ⟨o1, o2, rfl, o4, o5⟩⟩)
  · refine md_opinion c3 c1 o3 o1 o5 (fun _ => ?_) (fun _ z => absurd z h2) (fun _ z => absurd z h2) (fun _ z => absurd z h2) (fun _ z => absurd z h2)
    exact tl_i rfl (fun z => absurd z (by decide)) (fun z => absurd z (by decide)) (fun _ => hK _ _ _ _ _ _ _ _ _ _ _ _ _ _ _ _ _ _ _ _ _ _ _ _ _ _ _ _ _ _ _ _ _ _ _ _ _ _ _ _ _ _ _ _ _ _ _ _ _ _ ⟨ns, nc, no, hT, hS, hC, ⟨o1, o2, rfl, o4, o5⟩⟩)
  · refine md_opinion c3 c1 o3 o1 o5 (fun _ => ?_) (fun z => absurd z h) (fun z => absurd z h) (fun z => absurd z h) (fun z => absurd z h)
    exact tl_i rfl (fun z => absurd z (by decide)) (fun z => absurd z (by decide)) (fun _ => hK _ _ _ _ _ _ _ _ _ _ _ _ _ _ _ _ _ _ _ _ _ _ _ _ _ _ _ _ _ _ _ _ _ _ _ _ _ _ _ _ _ _ _ _ _ _ _ _ _ _ ⟨ns, nc, no, hT, hS, hC, ⟨o1, o2, rfl, o4, o5⟩⟩)
