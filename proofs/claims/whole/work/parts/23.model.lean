def wp_M_rule (M_thrown : Int32) (M_padded : Int32) (M_sources : Int32) (M_claims : Int32) (M_rules : Nat → Int32) (M_rings : Int32) (M_opinions : Int32) (x1 : Int32) (x2 : Int32) (post : Int32 → Int32 → (Nat → Int32) → Prop) : Prop := (wp_M_isClaim M_thrown M_padded M_sources M_claims M_rings M_opinions x1 (fun r_1 => (wp_M_within x2 (0 : Int32) (2 : Int32) (fun r_2 => (wp_M_goes M_thrown M_padded M_sources M_claims M_rings M_opinions r_1 r_2 (1 : Int32) (fun r_3 u_4 => ((r_3 = 0 → (post (0 : Int32) u_4 M_rules)) ∧ (¬ (r_3 = 0) → (vp_in x1 24 ∧ (vp_in x1 24 ∧ (post (M_rules x1.toNatClampNeg) u_4 (upd M_rules x1.toNatClampNeg x2))))))))))))
set_option maxHeartbeats 4000000 in
set_option maxRecDepth 100000 in
theorem mt_M_rule (l : Launch) (dC : Nat → ClassId) (dI : Nat → Nat → Nat) (cI cZ : ClassId) (aM : Nat) (aM_rules : Nat) (aM_pad : Nat) (aM_kinds : Nat) (aM_days : Nat) (aM_withdrawn : Nat) (aM_lengths : Nat) (aM_texts : Nat) (aM_formLengths : Nat) (aM_forms : Nat) (aM_onSource : Nat) (aM_onClaim : Nat) (aM_ring : Nat) (aM_far : Nat) (aM_held : Nat) (aM_heldBefore : Nat) (aM_persons : Nat) (aM_ofClaims : Nat) (aM_values : Nat) (aM_when : Nat) (aM_ranks : Nat) (aM_known : Nat) (aM_counts : Nat) (sz : Nat) (post : Int32 → Int32 → (Nat → Int32) → Prop) (M_thrown : Int32) (M_padded : Int32) (M_sources : Int32) (M_claims : Int32) (M_rules : Nat → Int32) (M_rings : Int32) (M_opinions : Int32) (x1 : Int32) (x2 : Int32) (hw : wp_M_rule M_thrown M_padded M_sources M_claims M_rules M_rings M_opinions x1 x2 post) : Met l y_M_rule w_M_rule ({ frames := 1, cells := 0, slots := 0, locals := 23 }) (va_Pc [.ref aM, .int x1, .int x2] (fun U => U.heap.size = sz ∧ va_P (dC, dI) vwCl [(aM, .inr (5, [.int M_thrown, .int M_padded, .ref aM_pad, .int M_sources, .ref aM_kinds, .ref aM_days, .ref aM_withdrawn, .ref aM_lengths, .ref aM_texts, .ref aM_formLengths, .ref aM_forms, .int M_claims, .ref aM_onSource, .ref aM_onClaim, .ref aM_rules, .int M_rings, .ref aM_ring, .ref aM_far, .ref aM_held, .ref aM_heldBefore, .int M_opinions, .ref aM_persons, .ref aM_ofClaims, .ref aM_values, .ref aM_when, .ref aM_ranks, .ref aM_known, .ref aM_counts])), (aM_rules, .inl (cI, 24, .inl M_rules))] U.heap ∧ va_K (dC, dI) vwCl [(cI, .int), (cZ, .boolean)] U ∧ va_D (fun _ => True) [(aM, .inr (5, [.int M_thrown, .int M_padded, .ref aM_pad, .int M_sources, .ref aM_kinds, .ref aM_days, .ref aM_withdrawn, .ref aM_lengths, .ref aM_texts, .ref aM_formLengths, .ref aM_forms, .int M_claims, .ref aM_onSource, .ref aM_onClaim, .ref aM_rules, .int M_rings, .ref aM_ring, .ref aM_far, .ref aM_held, .ref aM_heldBefore, .int M_opinions, .ref aM_persons, .ref aM_ofClaims, .ref aM_values, .ref aM_when, .ref aM_ranks, .ref aM_known, .ref aM_counts])), (aM_rules, .inl (cI, 24, .inl M_rules))] ∧ en_ok U)) (va_Qi (fun r (u : (Int32) × (Nat → Int32)) => post r u.1 u.2) (fun (u : (Int32) × (Nat → Int32)) t => va_P (dC, dI) vwCl [(aM, .inr (5, [.int u.1, .int M_padded, .ref aM_pad, .int M_sources, .ref aM_kinds, .ref aM_days, .ref aM_withdrawn, .ref aM_lengths, .ref aM_texts, .ref aM_formLengths, .ref aM_forms, .int M_claims, .ref aM_onSource, .ref aM_onClaim, .ref aM_rules, .int M_rings, .ref aM_ring, .ref aM_far, .ref aM_held, .ref aM_heldBefore, .int M_opinions, .ref aM_persons, .ref aM_ofClaims, .ref aM_values, .ref aM_when, .ref aM_ranks, .ref aM_known, .ref aM_counts])), (aM_rules, .inl (cI, 24, .inl u.2))] t.heap ∧ va_D (va_A [(aM, .inr (5, [.int M_thrown, .int M_padded, .ref aM_pad, .int M_sources, .ref aM_kinds, .ref aM_days, .ref aM_withdrawn, .ref aM_lengths, .ref aM_texts, .ref aM_formLengths, .ref aM_forms, .int M_claims, .ref aM_onSource, .ref aM_onClaim, .ref aM_rules, .int M_rings, .ref aM_ring, .ref aM_far, .ref aM_held, .ref aM_heldBefore, .int M_opinions, .ref aM_persons, .ref aM_ofClaims, .ref aM_values, .ref aM_when, .ref aM_ranks, .ref aM_known, .ref aM_counts])), (aM_rules, .inl (cI, 24, .inl M_rules))] sz) [(aM, .inr (5, [.int u.1, .int M_padded, .ref aM_pad, .int M_sources, .ref aM_kinds, .ref aM_days, .ref aM_withdrawn, .ref aM_lengths, .ref aM_texts, .ref aM_formLengths, .ref aM_forms, .int M_claims, .ref aM_onSource, .ref aM_onClaim, .ref aM_rules, .int M_rings, .ref aM_ring, .ref aM_far, .ref aM_held, .ref aM_heldBefore, .int M_opinions, .ref aM_persons, .ref aM_ofClaims, .ref aM_values, .ref aM_when, .ref aM_ranks, .ref aM_known, .ref aM_counts])), (aM_rules, .inl (cI, 24, .inl u.2))]) (va_A [(aM, .inr (5, [.int M_thrown, .int M_padded, .ref aM_pad, .int M_sources, .ref aM_kinds, .ref aM_days, .ref aM_withdrawn, .ref aM_lengths, .ref aM_texts, .ref aM_formLengths, .ref aM_forms, .int M_claims, .ref aM_onSource, .ref aM_onClaim, .ref aM_rules, .int M_rings, .ref aM_ring, .ref aM_far, .ref aM_held, .ref aM_heldBefore, .int M_opinions, .ref aM_persons, .ref aM_ofClaims, .ref aM_values, .ref aM_when, .ref aM_ranks, .ref aM_known, .ref aM_counts])), (aM_rules, .inl (cI, 24, .inl M_rules))] sz)) 0 0 (va_A [(aM, .inr (5, [.int M_thrown, .int M_padded, .ref aM_pad, .int M_sources, .ref aM_kinds, .ref aM_days, .ref aM_withdrawn, .ref aM_lengths, .ref aM_texts, .ref aM_formLengths, .ref aM_forms, .int M_claims, .ref aM_onSource, .ref aM_onClaim, .ref aM_rules, .int M_rings, .ref aM_ring, .ref aM_far, .ref aM_held, .ref aM_heldBefore, .int M_opinions, .ref aM_persons, .ref aM_ofClaims, .ref aM_values, .ref aM_when, .ref aM_ranks, .ref aM_known, .ref aM_counts])), (aM_rules, .inl (cI, 24, .inl M_rules))] sz) := by
  refine Met.ofW (cc := prog_7_method_20_code) (maxL := 4) (ret := (some .int)) (by decide) rfl ?_
  intro p e s m args below meth c s₁ B hml hv
  obtain ⟨rfl, hsz, hP, hK, hD0, hE⟩ := hv
  have hx := B.exec
  have hb := B.bytes
  have hr := B.returns
  have hts := atoms_spec (ws := w_M_rule) B.pre
  have hown : s.vm.findClass "ClaimSourcesModel" = some m.cls := findClass_of_methodNamed B.named
  have hlocks := B.notSynchronized
  subst hsz
  have hD := hD0.self (sz := s.heap.size)
  generalize hAe : va_A [(aM, .inr (5, [.int M_thrown, .int M_padded, .ref aM_pad, .int M_sources, .ref aM_kinds, .ref aM_days, .ref aM_withdrawn, .ref aM_lengths, .ref aM_texts, .ref aM_formLengths, .ref aM_forms, .int M_claims, .ref aM_onSource, .ref aM_onClaim, .ref aM_rules, .int M_rings, .ref aM_ring, .ref aM_far, .ref aM_held, .ref aM_heldBefore, .int M_opinions, .ref aM_persons, .ref aM_ofClaims, .ref aM_values, .ref aM_when, .ref aM_ranks, .ref aM_known, .ref aM_counts])), (aM_rules, .inl (cI, 24, .inl M_rules))] s.heap.size = A at hD ⊢
  have hA : ∀ q : Nat, s.heap.size ≤ q → A q := fun q h => by rw [← hAe]; exact Or.inr h
  have hS : va_S A s.heap s.heap [] := va_S.rf
  have hl := lv_entry ([.ref aM, .int x1, .int x2]) (n := 4) (Nat.le_of_ble_eq_true rfl)
  rw [lg_entry_eq]
  generalize (lg_sl ([.ref aM, .int x1, .int x2]) ++ List.replicate (4 - (lg_sl ([.ref aM, .int x1, .int x2])).length) Slot.unset).toArray = ls at hl ⊢
  have hl : lv_has ls 4 [(0, .ref aM), (1, .int x1), (2, .int x2)] := hl
  obtain ⟨Q0, hQ0⟩ : ∃ Q0, Q0 = MQ below (va_Qi (fun r (u : (Int32) × (Nat → Int32)) => post r u.1 u.2) (fun (u : (Int32) × (Nat → Int32)) t => va_P (dC, dI) vwCl [(aM, .inr (5, [.int u.1, .int M_padded, .ref aM_pad, .int M_sources, .ref aM_kinds, .ref aM_days, .ref aM_withdrawn, .ref aM_lengths, .ref aM_texts, .ref aM_formLengths, .ref aM_forms, .int M_claims, .ref aM_onSource, .ref aM_onClaim, .ref aM_rules, .int M_rings, .ref aM_ring, .ref aM_far, .ref aM_held, .ref aM_heldBefore, .int M_opinions, .ref aM_persons, .ref aM_ofClaims, .ref aM_values, .ref aM_when, .ref aM_ranks, .ref aM_known, .ref aM_counts])), (aM_rules, .inl (cI, 24, .inl u.2))] t.heap ∧ va_D A [(aM, .inr (5, [.int u.1, .int M_padded, .ref aM_pad, .int M_sources, .ref aM_kinds, .ref aM_days, .ref aM_withdrawn, .ref aM_lengths, .ref aM_texts, .ref aM_formLengths, .ref aM_forms, .int M_claims, .ref aM_onSource, .ref aM_onClaim, .ref aM_rules, .int M_rings, .ref aM_ring, .ref aM_far, .ref aM_held, .ref aM_heldBefore, .int M_opinions, .ref aM_persons, .ref aM_ofClaims, .ref aM_values, .ref aM_when, .ref aM_ranks, .ref aM_known, .ref aM_counts])), (aM_rules, .inl (cI, 24, .inl u.2))]) A) ([.ref aM, .int x1, .int x2]).toArray s 0 0 A := ⟨_, rfl⟩
  rw [← hQ0]
  clear B
  generalize hag : ([.ref aM, .int x1, .int x2] : List Value).toArray = args at hts hQ0 ⊢
  have hi_5 : ∀ w ∈ u_ws "ClaimSourcesModel" TT_5 28, w ∈ w_M_rule := fun w h => List.mem_cons_of_mem _ (ia_5 w h)
  have hf_41 := hts _ (List.mem_cons_of_mem _ m_645)
  unfold wp_M_rule at hw
  refine lv_aload_n hx hb d_M_rule_0 rfl (lv_at hl 0 rfl) ?_
  refine lv_aload_n hx hb d_M_rule_1 rfl (lv_at hl 0 rfl) ?_
  refine lv_iload_n hx hb d_M_rule_2 rfl (lv_at hl 1 rfl) ?_
  have hPc := hP.sub (ws' := [(aM, .inr (5, [.int M_thrown, .int M_padded, .ref aM_pad, .int M_sources, .ref aM_kinds, .ref aM_days, .ref aM_withdrawn, .ref aM_lengths, .ref aM_texts, .ref aM_formLengths, .ref aM_forms, .int M_claims, .ref aM_onSource, .ref aM_onClaim, .ref aM_rules, .int M_rings, .ref aM_ring, .ref aM_far, .ref aM_held, .ref aM_heldBefore, .int M_opinions, .ref aM_persons, .ref aM_ofClaims, .ref aM_values, .ref aM_when, .ref aM_ranks, .ref aM_known, .ref aM_counts]))]) [0] rfl
  refine vp_callSi (W.runV (As := [.int x1]) (rest := [.ref aM]) ⟨hx, hb, hml, hown, hts⟩ (mt_M_isClaim l dC dI cI cZ aM aM_pad aM_kinds aM_days aM_withdrawn aM_lengths aM_texts aM_formLengths aM_forms aM_onSource aM_onClaim aM_rules aM_ring aM_far aM_held aM_heldBefore aM_persons aM_ofClaims aM_values aM_when aM_ranks aM_known aM_counts _ M_thrown M_padded M_sources M_claims M_rings M_opinions x1 hw) (cwV 1 hts (gdV m_752 m_754 ms_19 m_6 m_755) rfl rfl rfl (by decide +kernel) ⟨Nat.le_of_ble_eq_true rfl, Nat.le_of_ble_eq_true rfl⟩) ⟨fb_r, va_recv hK hPc (ci := 5) (q0 := 0) rfl rfl, fun U hU hW => ⟨rfl, by rw [hU]; exact hPc, va_K.moved hW.alike hK, hE.warm hW⟩⟩ rfl rfl hl.1 rfl (lv_room (Nat.le_of_ble_eq_true rfl)) d_M_rule_3 ⟨Nat.le_of_ble_eq_true rfl, Nat.le_of_ble_eq_true rfl⟩) (fun r_1 hw => ?_)
  refine lv_iload_n hx hb d_M_rule_6 rfl (lv_at hl 2 rfl) ?_
  refine lv_iconst (v := 0) hx hb d_M_rule_7 (by decide) ?_
  refine lv_iconst (v := 2) hx hb d_M_rule_8 (by decide) ?_
  have hPc := hP.sub (ws' := []) [] rfl
  refine vp_callSi (W.runS (As := [.int x2, .int (0 : Int32), .int (2 : Int32)]) (rest := [.int r_1, .ref aM]) ⟨hx, hb, hml, hown, hts⟩ (mt_M_within l dC dI cI _ x2 (0 : Int32) (2 : Int32) hw) (va_cwS 3 hts (gdS m_725 m_726 m_6 m_727) rfl rfl rfl (by decide +kernel) ⟨Nat.le_of_ble_eq_true rfl, Nat.le_of_ble_eq_true rfl⟩) ⟨fb_r, fun U hU hW => ⟨rfl, by rw [hU]; exact hPc, va_K.moved hW.alike (hK.sub (tys' := [(cI, .int)]) [0] rfl), hE.warm hW⟩⟩ rfl rfl hl.1 rfl (lv_room (Nat.le_of_ble_eq_true rfl)) d_M_rule_9 ⟨Nat.le_of_ble_eq_true rfl, Nat.le_of_ble_eq_true rfl⟩) (fun r_2 hw => ?_)
  refine lv_iconst (v := 1) hx hb d_M_rule_12 (by decide) ?_
  have hPc := hP.sub (ws' := [(aM, .inr (5, [.int M_thrown, .int M_padded, .ref aM_pad, .int M_sources, .ref aM_kinds, .ref aM_days, .ref aM_withdrawn, .ref aM_lengths, .ref aM_texts, .ref aM_formLengths, .ref aM_forms, .int M_claims, .ref aM_onSource, .ref aM_onClaim, .ref aM_rules, .int M_rings, .ref aM_ring, .ref aM_far, .ref aM_held, .ref aM_heldBefore, .int M_opinions, .ref aM_persons, .ref aM_ofClaims, .ref aM_values, .ref aM_when, .ref aM_ranks, .ref aM_known, .ref aM_counts]))]) [0] rfl
  have hDc := hD.sub (ws' := [(aM, .inr (5, [.int M_thrown, .int M_padded, .ref aM_pad, .int M_sources, .ref aM_kinds, .ref aM_days, .ref aM_withdrawn, .ref aM_lengths, .ref aM_texts, .ref aM_formLengths, .ref aM_forms, .int M_claims, .ref aM_onSource, .ref aM_onClaim, .ref aM_rules, .int M_rings, .ref aM_ring, .ref aM_far, .ref aM_held, .ref aM_heldBefore, .int M_opinions, .ref aM_persons, .ref aM_ofClaims, .ref aM_values, .ref aM_when, .ref aM_ranks, .ref aM_known, .ref aM_counts]))]) [0] (by decide) rfl
  have hFc := va_free (wc := [(aM, .inr (5, [.int M_thrown, .int M_padded, .ref aM_pad, .int M_sources, .ref aM_kinds, .ref aM_days, .ref aM_withdrawn, .ref aM_lengths, .ref aM_texts, .ref aM_formLengths, .ref aM_forms, .int M_claims, .ref aM_onSource, .ref aM_onClaim, .ref aM_rules, .int M_rings, .ref aM_ring, .ref aM_far, .ref aM_held, .ref aM_heldBefore, .int M_opinions, .ref aM_persons, .ref aM_ofClaims, .ref aM_values, .ref aM_when, .ref aM_ranks, .ref aM_known, .ref aM_counts]))]) hD hS hA [0] rfl
  refine va_calli (va_runV (As := [.int r_1, .int r_2, .int (1 : Int32)]) (rest := []) ⟨hx, hb, hml, hown, hts⟩ (mt_M_goes l dC dI cI cZ aM aM_pad aM_kinds aM_days aM_withdrawn aM_lengths aM_texts aM_formLengths aM_forms aM_onSource aM_onClaim aM_rules aM_ring aM_far aM_held aM_heldBefore aM_persons aM_ofClaims aM_values aM_when aM_ranks aM_known aM_counts s.heap.size _ M_thrown M_padded M_sources M_claims M_rings M_opinions r_1 r_2 (1 : Int32) hw) (cwV 3 hts (gdV m_728 m_730 ms_18 m_6 m_731) rfl rfl rfl (by decide +kernel) ⟨Nat.le_of_ble_eq_true rfl, Nat.le_of_ble_eq_true rfl⟩) ⟨fb_w, va_recv hK hPc (ci := 5) (q0 := 0) rfl rfl, fun U hU hW => ⟨rfl, by rw [hU], by rw [hU]; exact hPc, va_K.moved hW.alike hK, hDc.weaken (fun _ _ _ _ => trivial), hE.warm hW⟩⟩ rfl rfl hl.1 rfl (lv_room (Nat.le_of_ble_eq_true rfl)) d_M_rule_13 ⟨Nat.le_of_ble_eq_true rfl, Nat.le_of_ble_eq_true rfl⟩) hS (fun q _ h => hFc q h) hFc (fun r_3 u t H1 locs ht hvm hw hB hz1 hk1 hS => ?_)
  obtain ⟨u_4, rfl⟩ : ∃ z, z = u := ⟨_, rfl⟩
  obtain ⟨hP1, hD1⟩ := hB
  rw [ht] at hP1
  try dsimp only at hw hP1 hD1
  obtain ⟨hP, hD⟩ := va_join (wr := [(aM_rules, .inl (cI, 24, .inl M_rules))]) (w1 := [(aM, .inr (5, [.int u_4, .int M_padded, .ref aM_pad, .int M_sources, .ref aM_kinds, .ref aM_days, .ref aM_withdrawn, .ref aM_lengths, .ref aM_texts, .ref aM_formLengths, .ref aM_forms, .int M_claims, .ref aM_onSource, .ref aM_onClaim, .ref aM_rules, .int M_rings, .ref aM_ring, .ref aM_far, .ref aM_held, .ref aM_heldBefore, .int M_opinions, .ref aM_persons, .ref aM_ofClaims, .ref aM_values, .ref aM_when, .ref aM_ranks, .ref aM_known, .ref aM_counts]))]) hP hD [0] [1] rfl rfl (by decide) (by decide) hk1 hFc hP1 hD1
  generalize H1 = H at hP hS ⊢
  have hP : va_P (dC, dI) vwCl [(aM_rules, .inl (cI, 24, .inl M_rules)), (aM, .inr (5, [.int u_4, .int M_padded, .ref aM_pad, .int M_sources, .ref aM_kinds, .ref aM_days, .ref aM_withdrawn, .ref aM_lengths, .ref aM_texts, .ref aM_formLengths, .ref aM_forms, .int M_claims, .ref aM_onSource, .ref aM_onClaim, .ref aM_rules, .int M_rings, .ref aM_ring, .ref aM_far, .ref aM_held, .ref aM_heldBefore, .int M_opinions, .ref aM_persons, .ref aM_ofClaims, .ref aM_values, .ref aM_when, .ref aM_ranks, .ref aM_known, .ref aM_counts]))] H := hP
  have hD : va_D A [(aM_rules, .inl (cI, 24, .inl M_rules)), (aM, .inr (5, [.int u_4, .int M_padded, .ref aM_pad, .int M_sources, .ref aM_kinds, .ref aM_days, .ref aM_withdrawn, .ref aM_lengths, .ref aM_texts, .ref aM_formLengths, .ref aM_forms, .int M_claims, .ref aM_onSource, .ref aM_onClaim, .ref aM_rules, .int M_rings, .ref aM_ring, .ref aM_far, .ref aM_held, .ref aM_heldBefore, .int M_opinions, .ref aM_persons, .ref aM_ofClaims, .ref aM_values, .ref aM_when, .ref aM_ranks, .ref aM_known, .ref aM_counts]))] := hD
  refine lv_if_ne (tgt := 21) hx hb d_M_rule_16 (by decide) (fun c_5 => ?_) (fun c_5 => ?_)
  · have hw := hw.2 c_5
    refine lv_aload_n hx hb d_M_rule_21 rfl (lv_at hl 0 rfl) ?_
    refine va_get (D := (dC, dI)) (ci := 5) (v := .ref aM_rules) (C := "ClaimSourcesModel") (T := TT_5) (N := 28) hx hb hts hi_5 hown hK hP 1 rfl rfl 14 (by decide) hf_41 (fun _ h9 => h9) rfl d_M_rule_22 ?_
    refine lv_iload_n hx hb d_M_rule_25 rfl (lv_at hl 1 rfl) ?_
    obtain ⟨h_6, hw⟩ := hw
    refine va_iald hx hb hK hP 0 0 rfl rfl h_6 d_M_rule_26 ?_
    refine lv_istore_n (lv' := [(3, .int (M_rules x1.toNatClampNeg)), (0, .ref aM), (1, .int x1), (2, .int x2)]) hx hb d_M_rule_27 rfl hl (by decide) rfl (fun ls hl => ?_)
    refine lv_aload_n hx hb d_M_rule_28 rfl (lv_at hl 1 rfl) ?_
    refine va_get (D := (dC, dI)) (ci := 5) (v := .ref aM_rules) (C := "ClaimSourcesModel") (T := TT_5) (N := 28) hx hb hts hi_5 hown hK hP 1 rfl rfl 14 (by decide) hf_41 (fun _ h9 => h9) rfl d_M_rule_29 ?_
    refine lv_iload_n hx hb d_M_rule_32 rfl (lv_at hl 2 rfl) ?_
    refine lv_iload_n hx hb d_M_rule_33 rfl (lv_at hl 3 rfl) ?_
    obtain ⟨h_7, hw⟩ := hw
    refine va_iast hx hb hK hP hD hS 0 0 rfl rfl h_7 d_M_rule_34 (fun H locs hP hD hS => ?_)
    have hP : va_P (dC, dI) vwCl [(aM_rules, .inl (cI, 24, .inl (upd M_rules x1.toNatClampNeg x2))), (aM, .inr (5, [.int u_4, .int M_padded, .ref aM_pad, .int M_sources, .ref aM_kinds, .ref aM_days, .ref aM_withdrawn, .ref aM_lengths, .ref aM_texts, .ref aM_formLengths, .ref aM_forms, .int M_claims, .ref aM_onSource, .ref aM_onClaim, .ref aM_rules, .int M_rings, .ref aM_ring, .ref aM_far, .ref aM_held, .ref aM_heldBefore, .int M_opinions, .ref aM_persons, .ref aM_ofClaims, .ref aM_values, .ref aM_when, .ref aM_ranks, .ref aM_known, .ref aM_counts]))] H := hP
    have hD : va_D A [(aM_rules, .inl (cI, 24, .inl (upd M_rules x1.toNatClampNeg x2))), (aM, .inr (5, [.int u_4, .int M_padded, .ref aM_pad, .int M_sources, .ref aM_kinds, .ref aM_days, .ref aM_withdrawn, .ref aM_lengths, .ref aM_texts, .ref aM_formLengths, .ref aM_forms, .int M_claims, .ref aM_onSource, .ref aM_onClaim, .ref aM_rules, .int M_rings, .ref aM_ring, .ref aM_far, .ref aM_held, .ref aM_heldBefore, .int M_opinions, .ref aM_persons, .ref aM_ofClaims, .ref aM_values, .ref aM_when, .ref aM_ranks, .ref aM_known, .ref aM_counts]))] := hD
    refine lv_iload_n hx hb d_M_rule_35 rfl (lv_at hl 0 rfl) ?_
    subst hQ0
    have hP9 := hP.sub (ws' := [(aM, .inr (5, [.int u_4, .int M_padded, .ref aM_pad, .int M_sources, .ref aM_kinds, .ref aM_days, .ref aM_withdrawn, .ref aM_lengths, .ref aM_texts, .ref aM_formLengths, .ref aM_forms, .int M_claims, .ref aM_onSource, .ref aM_onClaim, .ref aM_rules, .int M_rings, .ref aM_ring, .ref aM_far, .ref aM_held, .ref aM_heldBefore, .int M_opinions, .ref aM_persons, .ref aM_ofClaims, .ref aM_values, .ref aM_when, .ref aM_ranks, .ref aM_known, .ref aM_counts])), (aM_rules, .inl (cI, 24, .inl (upd M_rules x1.toNatClampNeg x2)))]) [1, 0] rfl
    have hD9 := hD.sub (ws' := [(aM, .inr (5, [.int u_4, .int M_padded, .ref aM_pad, .int M_sources, .ref aM_kinds, .ref aM_days, .ref aM_withdrawn, .ref aM_lengths, .ref aM_texts, .ref aM_formLengths, .ref aM_forms, .int M_claims, .ref aM_onSource, .ref aM_onClaim, .ref aM_rules, .int M_rings, .ref aM_ring, .ref aM_far, .ref aM_held, .ref aM_heldBefore, .int M_opinions, .ref aM_persons, .ref aM_ofClaims, .ref aM_values, .ref aM_when, .ref aM_ranks, .ref aM_known, .ref aM_counts])), (aM_rules, .inl (cI, 24, .inl (upd M_rules x1.toNatClampNeg x2)))]) [1, 0] (by decide) rfl
    exact W.iret (v := M_rules x1.toNatClampNeg) hx hb hr (fun t ht hW => ⟨⟨_, (u_4, upd M_rules x1.toNatClampNeg x2), rfl, hw, by rw [ht]; exact hP9, hD9⟩, hS.F ht⟩) hS.2.2 d_M_rule_36
  · have hw := hw.1 c_5
    refine lv_iconst (v := 0) hx hb d_M_rule_19 (by decide) ?_
    subst hQ0
    have hP9 := hP.sub (ws' := [(aM, .inr (5, [.int u_4, .int M_padded, .ref aM_pad, .int M_sources, .ref aM_kinds, .ref aM_days, .ref aM_withdrawn, .ref aM_lengths, .ref aM_texts, .ref aM_formLengths, .ref aM_forms, .int M_claims, .ref aM_onSource, .ref aM_onClaim, .ref aM_rules, .int M_rings, .ref aM_ring, .ref aM_far, .ref aM_held, .ref aM_heldBefore, .int M_opinions, .ref aM_persons, .ref aM_ofClaims, .ref aM_values, .ref aM_when, .ref aM_ranks, .ref aM_known, .ref aM_counts])), (aM_rules, .inl (cI, 24, .inl M_rules))]) [1, 0] rfl
    have hD9 := hD.sub (ws' := [(aM, .inr (5, [.int u_4, .int M_padded, .ref aM_pad, .int M_sources, .ref aM_kinds, .ref aM_days, .ref aM_withdrawn, .ref aM_lengths, .ref aM_texts, .ref aM_formLengths, .ref aM_forms, .int M_claims, .ref aM_onSource, .ref aM_onClaim, .ref aM_rules, .int M_rings, .ref aM_ring, .ref aM_far, .ref aM_held, .ref aM_heldBefore, .int M_opinions, .ref aM_persons, .ref aM_ofClaims, .ref aM_values, .ref aM_when, .ref aM_ranks, .ref aM_known, .ref aM_counts])), (aM_rules, .inl (cI, 24, .inl M_rules))]) [1, 0] (by decide) rfl
    exact W.iret (v := (0 : Int32)) hx hb hr (fun t ht hW => ⟨⟨_, (u_4, M_rules), rfl, hw, by rw [ht]; exact hP9, hD9⟩, hS.F ht⟩) hS.2.2 d_M_rule_20
def wl_M_hold_138 (M_onClaim : Nat → Int32) (x3 : Int32) (k127 : Int32 → (Nat → Int32) → Prop) : Nat → Int32 → (Nat → Int32) → Prop
  | 0, _, _ => False
  | n + 1, x4, M_held => (((576 : Int32) ≤ x4 → (k127 (x3 + 1) M_held)) ∧ (¬ ((576 : Int32) ≤ x4) → (vp_in (x4 / (24 : Int32)) 24 ∧ (((M_held (x4 / (24 : Int32)).toNatClampNeg) = 0 → (vp_in x4 576 ∧ (((M_onClaim x4.toNatClampNeg) = 0 → (vp_in (x4 / (24 : Int32)) 24 ∧ wl_M_hold_138 M_onClaim x3 k127 n (x4 + 1) (upd M_held (x4 / (24 : Int32)).toNatClampNeg (vp_nar .boolean (0 : Int32))))) ∧ (¬ ((M_onClaim x4.toNatClampNeg) = 0) → (vp_in (x4 - x4 / (24 : Int32) * (24 : Int32)) 24 ∧ (((M_held (x4 - x4 / (24 : Int32) * (24 : Int32)).toNatClampNeg) = 0 → (vp_in (x4 / (24 : Int32)) 24 ∧ wl_M_hold_138 M_onClaim x3 k127 n (x4 + 1) (upd M_held (x4 / (24 : Int32)).toNatClampNeg (vp_nar .boolean (0 : Int32))))) ∧ (¬ ((M_held (x4 - x4 / (24 : Int32) * (24 : Int32)).toNatClampNeg) = 0) → (vp_in (x4 / (24 : Int32)) 24 ∧ wl_M_hold_138 M_onClaim x3 k127 n (x4 + 1) (upd M_held (x4 / (24 : Int32)).toNatClampNeg (vp_nar .boolean (1 : Int32))))))))))) ∧ (¬ ((M_held (x4 / (24 : Int32)).toNatClampNeg) = 0) → (vp_in (x4 / (24 : Int32)) 24 ∧ wl_M_hold_138 M_onClaim x3 k127 n (x4 + 1) (upd M_held (x4 / (24 : Int32)).toNatClampNeg (vp_nar .boolean (1 : Int32)))))))))
def wl_M_hold_127 (M_claims : Int32) (M_onClaim : Nat → Int32) (post : (Nat → Int32) → Prop) : Nat → Int32 → (Nat → Int32) → Prop
  | 0, _, _ => False
  | n + 1, x3, M_held => ((M_claims ≤ x3 → (post M_held)) ∧ (¬ (M_claims ≤ x3) → (∃ n9, wl_M_hold_138 M_onClaim x3 (fun y0 y1 => wl_M_hold_127 M_claims M_onClaim post n y0 y1) n9 (0 : Int32) M_held)))
def wl_M_hold_18 (M_sources : Int32) (M_days : Nat → Int32) (M_withdrawn : Nat → Int32) (M_onSource : Nat → Int32) (x1 : Int32) (x2 : Int32) (x3 : Int32) (k2 : Int32 → (Nat → Int32) → Prop) : Nat → Int32 → (Nat → Int32) → Prop
  | 0, _, _ => False
  | n + 1, x4, M_held => ((M_sources ≤ x4 → (k2 (x3 + 1) M_held)) ∧ (¬ (M_sources ≤ x4) → ((x4 = x2 → (vp_in x3 24 ∧ (((M_held x3.toNatClampNeg) = 0 → (vp_in (((24 : Int32) * x3) + x4) 576 ∧ (((M_onSource (((24 : Int32) * x3) + x4).toNatClampNeg) = 0 → (vp_in x3 24 ∧ wl_M_hold_18 M_sources M_days M_withdrawn M_onSource x1 x2 x3 k2 n (x4 + 1) (upd M_held x3.toNatClampNeg (vp_nar .boolean (0 : Int32))))) ∧ (¬ ((M_onSource (((24 : Int32) * x3) + x4).toNatClampNeg) = 0) → (vp_in x3 24 ∧ wl_M_hold_18 M_sources M_days M_withdrawn M_onSource x1 x2 x3 k2 n (x4 + 1) (upd M_held x3.toNatClampNeg (vp_nar .boolean (0 : Int32)))))))) ∧ (¬ ((M_held x3.toNatClampNeg) = 0) → (vp_in x3 24 ∧ wl_M_hold_18 M_sources M_days M_withdrawn M_onSource x1 x2 x3 k2 n (x4 + 1) (upd M_held x3.toNatClampNeg (vp_nar .boolean (1 : Int32)))))))) ∧ (¬ (x4 = x2) → (vp_in x4 24 ∧ ((x1 < (M_days x4.toNatClampNeg) → (vp_in x3 24 ∧ (((M_held x3.toNatClampNeg) = 0 → (vp_in (((24 : Int32) * x3) + x4) 576 ∧ (((M_onSource (((24 : Int32) * x3) + x4).toNatClampNeg) = 0 → (vp_in x3 24 ∧ wl_M_hold_18 M_sources M_days M_withdrawn M_onSource x1 x2 x3 k2 n (x4 + 1) (upd M_held x3.toNatClampNeg (vp_nar .boolean (0 : Int32))))) ∧ (¬ ((M_onSource (((24 : Int32) * x3) + x4).toNatClampNeg) = 0) → (vp_in x3 24 ∧ wl_M_hold_18 M_sources M_days M_withdrawn M_onSource x1 x2 x3 k2 n (x4 + 1) (upd M_held x3.toNatClampNeg (vp_nar .boolean (0 : Int32)))))))) ∧ (¬ ((M_held x3.toNatClampNeg) = 0) → (vp_in x3 24 ∧ wl_M_hold_18 M_sources M_days M_withdrawn M_onSource x1 x2 x3 k2 n (x4 + 1) (upd M_held x3.toNatClampNeg (vp_nar .boolean (1 : Int32)))))))) ∧ (¬ (x1 < (M_days x4.toNatClampNeg)) → (vp_in x4 24 ∧ (((M_withdrawn x4.toNatClampNeg) = (-1 : Int32) → (vp_in x3 24 ∧ (((M_held x3.toNatClampNeg) = 0 → (vp_in (((24 : Int32) * x3) + x4) 576 ∧ (((M_onSource (((24 : Int32) * x3) + x4).toNatClampNeg) = 0 → (vp_in x3 24 ∧ wl_M_hold_18 M_sources M_days M_withdrawn M_onSource x1 x2 x3 k2 n (x4 + 1) (upd M_held x3.toNatClampNeg (vp_nar .boolean (0 : Int32))))) ∧ (¬ ((M_onSource (((24 : Int32) * x3) + x4).toNatClampNeg) = 0) → (vp_in x3 24 ∧ wl_M_hold_18 M_sources M_days M_withdrawn M_onSource x1 x2 x3 k2 n (x4 + 1) (upd M_held x3.toNatClampNeg (vp_nar .boolean (1 : Int32)))))))) ∧ (¬ ((M_held x3.toNatClampNeg) = 0) → (vp_in x3 24 ∧ wl_M_hold_18 M_sources M_days M_withdrawn M_onSource x1 x2 x3 k2 n (x4 + 1) (upd M_held x3.toNatClampNeg (vp_nar .boolean (1 : Int32)))))))) ∧ (¬ ((M_withdrawn x4.toNatClampNeg) = (-1 : Int32)) → (vp_in x4 24 ∧ (((M_withdrawn x4.toNatClampNeg) ≤ x1 → (vp_in x3 24 ∧ (((M_held x3.toNatClampNeg) = 0 → (vp_in (((24 : Int32) * x3) + x4) 576 ∧ (((M_onSource (((24 : Int32) * x3) + x4).toNatClampNeg) = 0 → (vp_in x3 24 ∧ wl_M_hold_18 M_sources M_days M_withdrawn M_onSource x1 x2 x3 k2 n (x4 + 1) (upd M_held x3.toNatClampNeg (vp_nar .boolean (0 : Int32))))) ∧ (¬ ((M_onSource (((24 : Int32) * x3) + x4).toNatClampNeg) = 0) → (vp_in x3 24 ∧ wl_M_hold_18 M_sources M_days M_withdrawn M_onSource x1 x2 x3 k2 n (x4 + 1) (upd M_held x3.toNatClampNeg (vp_nar .boolean (0 : Int32)))))))) ∧ (¬ ((M_held x3.toNatClampNeg) = 0) → (vp_in x3 24 ∧ wl_M_hold_18 M_sources M_days M_withdrawn M_onSource x1 x2 x3 k2 n (x4 + 1) (upd M_held x3.toNatClampNeg (vp_nar .boolean (1 : Int32)))))))) ∧ (¬ ((M_withdrawn x4.toNatClampNeg) ≤ x1) → (vp_in x3 24 ∧ (((M_held x3.toNatClampNeg) = 0 → (vp_in (((24 : Int32) * x3) + x4) 576 ∧ (((M_onSource (((24 : Int32) * x3) + x4).toNatClampNeg) = 0 → (vp_in x3 24 ∧ wl_M_hold_18 M_sources M_days M_withdrawn M_onSource x1 x2 x3 k2 n (x4 + 1) (upd M_held x3.toNatClampNeg (vp_nar .boolean (0 : Int32))))) ∧ (¬ ((M_onSource (((24 : Int32) * x3) + x4).toNatClampNeg) = 0) → (vp_in x3 24 ∧ wl_M_hold_18 M_sources M_days M_withdrawn M_onSource x1 x2 x3 k2 n (x4 + 1) (upd M_held x3.toNatClampNeg (vp_nar .boolean (1 : Int32)))))))) ∧ (¬ ((M_held x3.toNatClampNeg) = 0) → (vp_in x3 24 ∧ wl_M_hold_18 M_sources M_days M_withdrawn M_onSource x1 x2 x3 k2 n (x4 + 1) (upd M_held x3.toNatClampNeg (vp_nar .boolean (1 : Int32))))))))))))))))))))
def wl_M_hold_2 (M_sources : Int32) (M_days : Nat → Int32) (M_withdrawn : Nat → Int32) (M_claims : Int32) (M_onSource : Nat → Int32) (M_onClaim : Nat → Int32) (x1 : Int32) (x2 : Int32) (post : (Nat → Int32) → Prop) : Nat → Int32 → (Nat → Int32) → Prop
  | 0, _, _ => False
  | n + 1, x3, M_held => (((24 : Int32) ≤ x3 → (∃ n9, wl_M_hold_127 M_claims M_onClaim post n9 (0 : Int32) M_held)) ∧ (¬ ((24 : Int32) ≤ x3) → (vp_in x3 24 ∧ (∃ n9, wl_M_hold_18 M_sources M_days M_withdrawn M_onSource x1 x2 x3 (fun y0 y1 => wl_M_hold_2 M_sources M_days M_withdrawn M_claims M_onSource M_onClaim x1 x2 post n y0 y1) n9 (0 : Int32) (upd M_held x3.toNatClampNeg (vp_nar .boolean (0 : Int32)))))))
def wp_M_hold (M_thrown : Int32) (M_padded : Int32) (M_sources : Int32) (M_days : Nat → Int32) (M_withdrawn : Nat → Int32) (M_claims : Int32) (M_onSource : Nat → Int32) (M_onClaim : Nat → Int32) (M_rings : Int32) (M_held : Nat → Int32) (M_opinions : Int32) (x1 : Int32) (x2 : Int32) (post : (Nat → Int32) → Prop) : Prop := (∃ n9, wl_M_hold_2 M_sources M_days M_withdrawn M_claims M_onSource M_onClaim x1 x2 post n9 (0 : Int32) M_held)
set_option maxHeartbeats 4000000 in
set_option maxRecDepth 100000 in
theorem mt_M_hold (l : Launch) (dC : Nat → ClassId) (dI : Nat → Nat → Nat) (cI cZ : ClassId) (aM : Nat) (aM_days : Nat) (aM_withdrawn : Nat) (aM_onSource : Nat) (aM_onClaim : Nat) (aM_held : Nat) (aM_pad : Nat) (aM_kinds : Nat) (aM_lengths : Nat) (aM_texts : Nat) (aM_formLengths : Nat) (aM_forms : Nat) (aM_rules : Nat) (aM_ring : Nat) (aM_far : Nat) (aM_heldBefore : Nat) (aM_persons : Nat) (aM_ofClaims : Nat) (aM_values : Nat) (aM_when : Nat) (aM_ranks : Nat) (aM_known : Nat) (aM_counts : Nat) (sz : Nat) (post : (Nat → Int32) → Prop) (M_thrown : Int32) (M_padded : Int32) (M_sources : Int32) (M_days : Nat → Int32) (M_withdrawn : Nat → Int32) (M_claims : Int32) (M_onSource : Nat → Int32) (M_onClaim : Nat → Int32) (M_rings : Int32) (M_held : Nat → Int32) (M_opinions : Int32) (x1 : Int32) (x2 : Int32) (hw : wp_M_hold M_thrown M_padded M_sources M_days M_withdrawn M_claims M_onSource M_onClaim M_rings M_held M_opinions x1 x2 post) : Met l y_M_hold w_M_hold ({ frames := 0, cells := 0, slots := 0, locals := 0 }) (va_Pc [.ref aM, .int x1, .int x2] (fun U => U.heap.size = sz ∧ va_P (dC, dI) vwCl [(aM, .inr (5, [.int M_thrown, .int M_padded, .ref aM_pad, .int M_sources, .ref aM_kinds, .ref aM_days, .ref aM_withdrawn, .ref aM_lengths, .ref aM_texts, .ref aM_formLengths, .ref aM_forms, .int M_claims, .ref aM_onSource, .ref aM_onClaim, .ref aM_rules, .int M_rings, .ref aM_ring, .ref aM_far, .ref aM_held, .ref aM_heldBefore, .int M_opinions, .ref aM_persons, .ref aM_ofClaims, .ref aM_values, .ref aM_when, .ref aM_ranks, .ref aM_known, .ref aM_counts])), (aM_days, .inl (cI, 24, .inl M_days)), (aM_withdrawn, .inl (cI, 24, .inl M_withdrawn)), (aM_onSource, .inl (cZ, 576, .inl M_onSource)), (aM_onClaim, .inl (cZ, 576, .inl M_onClaim)), (aM_held, .inl (cZ, 24, .inl M_held))] U.heap ∧ va_K (dC, dI) vwCl [(cI, .int), (cZ, .boolean)] U ∧ va_D (fun _ => True) [(aM, .inr (5, [.int M_thrown, .int M_padded, .ref aM_pad, .int M_sources, .ref aM_kinds, .ref aM_days, .ref aM_withdrawn, .ref aM_lengths, .ref aM_texts, .ref aM_formLengths, .ref aM_forms, .int M_claims, .ref aM_onSource, .ref aM_onClaim, .ref aM_rules, .int M_rings, .ref aM_ring, .ref aM_far, .ref aM_held, .ref aM_heldBefore, .int M_opinions, .ref aM_persons, .ref aM_ofClaims, .ref aM_values, .ref aM_when, .ref aM_ranks, .ref aM_known, .ref aM_counts])), (aM_days, .inl (cI, 24, .inl M_days)), (aM_withdrawn, .inl (cI, 24, .inl M_withdrawn)), (aM_onSource, .inl (cZ, 576, .inl M_onSource)), (aM_onClaim, .inl (cZ, 576, .inl M_onClaim)), (aM_held, .inl (cZ, 24, .inl M_held))] ∧ en_ok U)) (va_Qv (fun (u : (Nat → Int32)) => post u) (fun (u : (Nat → Int32)) t => va_P (dC, dI) vwCl [(aM, .inr (5, [.int M_thrown, .int M_padded, .ref aM_pad, .int M_sources, .ref aM_kinds, .ref aM_days, .ref aM_withdrawn, .ref aM_lengths, .ref aM_texts, .ref aM_formLengths, .ref aM_forms, .int M_claims, .ref aM_onSource, .ref aM_onClaim, .ref aM_rules, .int M_rings, .ref aM_ring, .ref aM_far, .ref aM_held, .ref aM_heldBefore, .int M_opinions, .ref aM_persons, .ref aM_ofClaims, .ref aM_values, .ref aM_when, .ref aM_ranks, .ref aM_known, .ref aM_counts])), (aM_days, .inl (cI, 24, .inl M_days)), (aM_withdrawn, .inl (cI, 24, .inl M_withdrawn)), (aM_onSource, .inl (cZ, 576, .inl M_onSource)), (aM_onClaim, .inl (cZ, 576, .inl M_onClaim)), (aM_held, .inl (cZ, 24, .inl u))] t.heap ∧ va_D (va_A [(aM, .inr (5, [.int M_thrown, .int M_padded, .ref aM_pad, .int M_sources, .ref aM_kinds, .ref aM_days, .ref aM_withdrawn, .ref aM_lengths, .ref aM_texts, .ref aM_formLengths, .ref aM_forms, .int M_claims, .ref aM_onSource, .ref aM_onClaim, .ref aM_rules, .int M_rings, .ref aM_ring, .ref aM_far, .ref aM_held, .ref aM_heldBefore, .int M_opinions, .ref aM_persons, .ref aM_ofClaims, .ref aM_values, .ref aM_when, .ref aM_ranks, .ref aM_known, .ref aM_counts])), (aM_days, .inl (cI, 24, .inl M_days)), (aM_withdrawn, .inl (cI, 24, .inl M_withdrawn)), (aM_onSource, .inl (cZ, 576, .inl M_onSource)), (aM_onClaim, .inl (cZ, 576, .inl M_onClaim)), (aM_held, .inl (cZ, 24, .inl M_held))] sz) [(aM, .inr (5, [.int M_thrown, .int M_padded, .ref aM_pad, .int M_sources, .ref aM_kinds, .ref aM_days, .ref aM_withdrawn, .ref aM_lengths, .ref aM_texts, .ref aM_formLengths, .ref aM_forms, .int M_claims, .ref aM_onSource, .ref aM_onClaim, .ref aM_rules, .int M_rings, .ref aM_ring, .ref aM_far, .ref aM_held, .ref aM_heldBefore, .int M_opinions, .ref aM_persons, .ref aM_ofClaims, .ref aM_values, .ref aM_when, .ref aM_ranks, .ref aM_known, .ref aM_counts])), (aM_days, .inl (cI, 24, .inl M_days)), (aM_withdrawn, .inl (cI, 24, .inl M_withdrawn)), (aM_onSource, .inl (cZ, 576, .inl M_onSource)), (aM_onClaim, .inl (cZ, 576, .inl M_onClaim)), (aM_held, .inl (cZ, 24, .inl u))]) (va_A [(aM, .inr (5, [.int M_thrown, .int M_padded, .ref aM_pad, .int M_sources, .ref aM_kinds, .ref aM_days, .ref aM_withdrawn, .ref aM_lengths, .ref aM_texts, .ref aM_formLengths, .ref aM_forms, .int M_claims, .ref aM_onSource, .ref aM_onClaim, .ref aM_rules, .int M_rings, .ref aM_ring, .ref aM_far, .ref aM_held, .ref aM_heldBefore, .int M_opinions, .ref aM_persons, .ref aM_ofClaims, .ref aM_values, .ref aM_when, .ref aM_ranks, .ref aM_known, .ref aM_counts])), (aM_days, .inl (cI, 24, .inl M_days)), (aM_withdrawn, .inl (cI, 24, .inl M_withdrawn)), (aM_onSource, .inl (cZ, 576, .inl M_onSource)), (aM_onClaim, .inl (cZ, 576, .inl M_onClaim)), (aM_held, .inl (cZ, 24, .inl M_held))] sz)) 0 0 (va_A [(aM, .inr (5, [.int M_thrown, .int M_padded, .ref aM_pad, .int M_sources, .ref aM_kinds, .ref aM_days, .ref aM_withdrawn, .ref aM_lengths, .ref aM_texts, .ref aM_formLengths, .ref aM_forms, .int M_claims, .ref aM_onSource, .ref aM_onClaim, .ref aM_rules, .int M_rings, .ref aM_ring, .ref aM_far, .ref aM_held, .ref aM_heldBefore, .int M_opinions, .ref aM_persons, .ref aM_ofClaims, .ref aM_values, .ref aM_when, .ref aM_ranks, .ref aM_known, .ref aM_counts])), (aM_days, .inl (cI, 24, .inl M_days)), (aM_withdrawn, .inl (cI, 24, .inl M_withdrawn)), (aM_onSource, .inl (cZ, 576, .inl M_onSource)), (aM_onClaim, .inl (cZ, 576, .inl M_onClaim)), (aM_held, .inl (cZ, 24, .inl M_held))] sz) := by
  refine Met.ofW (cc := prog_7_method_21_code) (maxL := 6) (ret := none) (by decide) rfl ?_
  intro p e s m args below meth c s₁ B hml hv
  obtain ⟨rfl, hsz, hP, hK, hD0, hE⟩ := hv
  have hx := B.exec
  have hb := B.bytes
  have hr := B.returns
  have hts := atoms_spec (ws := w_M_hold) B.pre
  have hown : s.vm.findClass "ClaimSourcesModel" = some m.cls := findClass_of_methodNamed B.named
  have hlocks := B.notSynchronized
  subst hsz
  have hD := hD0.self (sz := s.heap.size)
  generalize hAe : va_A [(aM, .inr (5, [.int M_thrown, .int M_padded, .ref aM_pad, .int M_sources, .ref aM_kinds, .ref aM_days, .ref aM_withdrawn, .ref aM_lengths, .ref aM_texts, .ref aM_formLengths, .ref aM_forms, .int M_claims, .ref aM_onSource, .ref aM_onClaim, .ref aM_rules, .int M_rings, .ref aM_ring, .ref aM_far, .ref aM_held, .ref aM_heldBefore, .int M_opinions, .ref aM_persons, .ref aM_ofClaims, .ref aM_values, .ref aM_when, .ref aM_ranks, .ref aM_known, .ref aM_counts])), (aM_days, .inl (cI, 24, .inl M_days)), (aM_withdrawn, .inl (cI, 24, .inl M_withdrawn)), (aM_onSource, .inl (cZ, 576, .inl M_onSource)), (aM_onClaim, .inl (cZ, 576, .inl M_onClaim)), (aM_held, .inl (cZ, 24, .inl M_held))] s.heap.size = A at hD ⊢
  have hA : ∀ q : Nat, s.heap.size ≤ q → A q := fun q h => by rw [← hAe]; exact Or.inr h
  have hS : va_S A s.heap s.heap [] := va_S.rf
  have hl := lv_entry ([.ref aM, .int x1, .int x2]) (n := 6) (Nat.le_of_ble_eq_true rfl)
  rw [lg_entry_eq]
  generalize (lg_sl ([.ref aM, .int x1, .int x2]) ++ List.replicate (6 - (lg_sl ([.ref aM, .int x1, .int x2])).length) Slot.unset).toArray = ls at hl ⊢
  have hl : lv_has ls 6 [(0, .ref aM), (1, .int x1), (2, .int x2)] := hl
  obtain ⟨Q0, hQ0⟩ : ∃ Q0, Q0 = MQ below (va_Qv (fun (u : (Nat → Int32)) => post u) (fun (u : (Nat → Int32)) t => va_P (dC, dI) vwCl [(aM, .inr (5, [.int M_thrown, .int M_padded, .ref aM_pad, .int M_sources, .ref aM_kinds, .ref aM_days, .ref aM_withdrawn, .ref aM_lengths, .ref aM_texts, .ref aM_formLengths, .ref aM_forms, .int M_claims, .ref aM_onSource, .ref aM_onClaim, .ref aM_rules, .int M_rings, .ref aM_ring, .ref aM_far, .ref aM_held, .ref aM_heldBefore, .int M_opinions, .ref aM_persons, .ref aM_ofClaims, .ref aM_values, .ref aM_when, .ref aM_ranks, .ref aM_known, .ref aM_counts])), (aM_days, .inl (cI, 24, .inl M_days)), (aM_withdrawn, .inl (cI, 24, .inl M_withdrawn)), (aM_onSource, .inl (cZ, 576, .inl M_onSource)), (aM_onClaim, .inl (cZ, 576, .inl M_onClaim)), (aM_held, .inl (cZ, 24, .inl u))] t.heap ∧ va_D A [(aM, .inr (5, [.int M_thrown, .int M_padded, .ref aM_pad, .int M_sources, .ref aM_kinds, .ref aM_days, .ref aM_withdrawn, .ref aM_lengths, .ref aM_texts, .ref aM_formLengths, .ref aM_forms, .int M_claims, .ref aM_onSource, .ref aM_onClaim, .ref aM_rules, .int M_rings, .ref aM_ring, .ref aM_far, .ref aM_held, .ref aM_heldBefore, .int M_opinions, .ref aM_persons, .ref aM_ofClaims, .ref aM_values, .ref aM_when, .ref aM_ranks, .ref aM_known, .ref aM_counts])), (aM_days, .inl (cI, 24, .inl M_days)), (aM_withdrawn, .inl (cI, 24, .inl M_withdrawn)), (aM_onSource, .inl (cZ, 576, .inl M_onSource)), (aM_onClaim, .inl (cZ, 576, .inl M_onClaim)), (aM_held, .inl (cZ, 24, .inl u))]) A) ([.ref aM, .int x1, .int x2]).toArray s 0 0 A := ⟨_, rfl⟩
  rw [← hQ0]
  clear B
  generalize hag : ([.ref aM, .int x1, .int x2] : List Value).toArray = args at hts hQ0 ⊢
  have hi_5 : ∀ w ∈ u_ws "ClaimSourcesModel" TT_5 28, w ∈ w_M_hold := fun w h => List.mem_cons_of_mem _ (ia_5 w h)
  have hf_50 := hts _ (List.mem_cons_of_mem _ m_649)
  have hf_38 := hts _ (List.mem_cons_of_mem _ m_644)
  have hf_85 := hts _ (List.mem_cons_of_mem _ m_642)
  have hf_82 := hts _ (List.mem_cons_of_mem _ m_634)
  have hf_34 := hts _ (List.mem_cons_of_mem _ m_643)
  have hf_16 := hts _ (List.mem_cons_of_mem _ m_636)
  have hf_19 := hts _ (List.mem_cons_of_mem _ m_637)
  have L138 : ∀ (x3 : Int32) (k127 : Int32 → (Nat → Int32) → Prop) (hk127 : ∀ (x3 : Int32) (M_held : Nat → Int32), k127 x3 M_held → ∀ (H : Heap) (locs : List Loc), va_P (dC, dI) vwCl [(aM, .inr (5, [.int M_thrown, .int M_padded, .ref aM_pad, .int M_sources, .ref aM_kinds, .ref aM_days, .ref aM_withdrawn, .ref aM_lengths, .ref aM_texts, .ref aM_formLengths, .ref aM_forms, .int M_claims, .ref aM_onSource, .ref aM_onClaim, .ref aM_rules, .int M_rings, .ref aM_ring, .ref aM_far, .ref aM_held, .ref aM_heldBefore, .int M_opinions, .ref aM_persons, .ref aM_ofClaims, .ref aM_values, .ref aM_when, .ref aM_ranks, .ref aM_known, .ref aM_counts])), (aM_days, .inl (cI, 24, .inl M_days)), (aM_withdrawn, .inl (cI, 24, .inl M_withdrawn)), (aM_onSource, .inl (cZ, 576, .inl M_onSource)), (aM_onClaim, .inl (cZ, 576, .inl M_onClaim)), (aM_held, .inl (cZ, 24, .inl M_held))] H → va_D A [(aM, .inr (5, [.int M_thrown, .int M_padded, .ref aM_pad, .int M_sources, .ref aM_kinds, .ref aM_days, .ref aM_withdrawn, .ref aM_lengths, .ref aM_texts, .ref aM_formLengths, .ref aM_forms, .int M_claims, .ref aM_onSource, .ref aM_onClaim, .ref aM_rules, .int M_rings, .ref aM_ring, .ref aM_far, .ref aM_held, .ref aM_heldBefore, .int M_opinions, .ref aM_persons, .ref aM_ofClaims, .ref aM_values, .ref aM_when, .ref aM_ranks, .ref aM_known, .ref aM_counts])), (aM_days, .inl (cI, 24, .inl M_days)), (aM_withdrawn, .inl (cI, 24, .inl M_withdrawn)), (aM_onSource, .inl (cZ, 576, .inl M_onSource)), (aM_onClaim, .inl (cZ, 576, .inl M_onClaim)), (aM_held, .inl (cZ, 24, .inl M_held))] → va_S A s.heap H locs → ∀ (ls : Array Slot), lv_has ls 6 [(0, .ref aM), (3, .int x3)] → W p l e (headSpec w_M_hold ({ frames := 0, cells := 0, slots := 0, locals := 0 })).room s m args below meth c H locs 0 0 Q0 (F0 m 127 ls [])) (n : Nat) (x4 : Int32) (M_held : Nat → Int32), wl_M_hold_138 M_onClaim x3 k127 n x4 M_held → ∀ (H : Heap) (locs : List Loc), va_P (dC, dI) vwCl [(aM, .inr (5, [.int M_thrown, .int M_padded, .ref aM_pad, .int M_sources, .ref aM_kinds, .ref aM_days, .ref aM_withdrawn, .ref aM_lengths, .ref aM_texts, .ref aM_formLengths, .ref aM_forms, .int M_claims, .ref aM_onSource, .ref aM_onClaim, .ref aM_rules, .int M_rings, .ref aM_ring, .ref aM_far, .ref aM_held, .ref aM_heldBefore, .int M_opinions, .ref aM_persons, .ref aM_ofClaims, .ref aM_values, .ref aM_when, .ref aM_ranks, .ref aM_known, .ref aM_counts])), (aM_days, .inl (cI, 24, .inl M_days)), (aM_withdrawn, .inl (cI, 24, .inl M_withdrawn)), (aM_onSource, .inl (cZ, 576, .inl M_onSource)), (aM_onClaim, .inl (cZ, 576, .inl M_onClaim)), (aM_held, .inl (cZ, 24, .inl M_held))] H → va_D A [(aM, .inr (5, [.int M_thrown, .int M_padded, .ref aM_pad, .int M_sources, .ref aM_kinds, .ref aM_days, .ref aM_withdrawn, .ref aM_lengths, .ref aM_texts, .ref aM_formLengths, .ref aM_forms, .int M_claims, .ref aM_onSource, .ref aM_onClaim, .ref aM_rules, .int M_rings, .ref aM_ring, .ref aM_far, .ref aM_held, .ref aM_heldBefore, .int M_opinions, .ref aM_persons, .ref aM_ofClaims, .ref aM_values, .ref aM_when, .ref aM_ranks, .ref aM_known, .ref aM_counts])), (aM_days, .inl (cI, 24, .inl M_days)), (aM_withdrawn, .inl (cI, 24, .inl M_withdrawn)), (aM_onSource, .inl (cZ, 576, .inl M_onSource)), (aM_onClaim, .inl (cZ, 576, .inl M_onClaim)), (aM_held, .inl (cZ, 24, .inl M_held))] → va_S A s.heap H locs → ∀ (ls : Array Slot), lv_has ls 6 [(0, .ref aM), (3, .int x3), (4, .int x4)] → W p l e (headSpec w_M_hold ({ frames := 0, cells := 0, slots := 0, locals := 0 })).room s m args below meth c H locs 0 0 Q0 (F0 m 138 ls []) := by
    intro x3 k127 hk127
    intro n
    induction n with
    | zero =>
      intro x4 M_held hw
      exact False.elim hw
    | succ n ih =>
      intro x4 M_held hw H locs hP hD hS ls hl
      unfold wl_M_hold_138 at hw
      refine lv_iload hx hb d_M_hold_138 (lv_at hl 2 rfl) ?_
      refine lv_sipush (v := 576) hx hb d_M_hold_140 (by decide) ?_
      refine lv_icmp_ge (tgt := 203) hx hb d_M_hold_143 (by decide) (fun c_1 => ?_) (fun c_1 => ?_)
      · have hw := hw.1 c_1
        refine lv_iinc (v := x3 + 1) (lv' := [(3, .int (x3 + 1)), (0, .ref aM), (4, .int x4)]) hx hb d_M_hold_203 hl (k := 1) rfl rfl (by decide) rfl (fun ls hl => ?_)
        refine lv_goto (tgt := 127) hx hb d_M_hold_206 (by decide) ?_
        exact hk127 (x3 + 1) M_held hw _ _ (hP.sub [0, 1, 2, 3, 4, 5] rfl) (hD.sub [0, 1, 2, 3, 4, 5] (by decide) rfl) hS ls (lv_sub hl [1, 0] rfl)
      · have hw := hw.2 c_1
        refine lv_aload_n hx hb d_M_hold_146 rfl (lv_at hl 0 rfl) ?_
        refine va_get (D := (dC, dI)) (ci := 5) (v := .ref aM_held) (C := "ClaimSourcesModel") (T := TT_5) (N := 28) hx hb hts hi_5 hown hK hP 0 rfl rfl 18 (by decide) hf_50 (fun _ h9 => h9) rfl d_M_hold_147 ?_
        refine lv_iload hx hb d_M_hold_150 (lv_at hl 2 rfl) ?_
        refine lv_bipush (v := 24) hx hb d_M_hold_152 (by decide) ?_
        refine lv_idiv hx hb d_M_hold_154 (by decide) ?_
        refine lv_aload_n hx hb d_M_hold_155 rfl (lv_at hl 0 rfl) ?_
        refine va_get (D := (dC, dI)) (ci := 5) (v := .ref aM_held) (C := "ClaimSourcesModel") (T := TT_5) (N := 28) hx hb hts hi_5 hown hK hP 0 rfl rfl 18 (by decide) hf_50 (fun _ h9 => h9) rfl d_M_hold_156 ?_
        refine lv_iload hx hb d_M_hold_159 (lv_at hl 2 rfl) ?_
        refine lv_bipush (v := 24) hx hb d_M_hold_161 (by decide) ?_
        refine lv_idiv hx hb d_M_hold_163 (by decide) ?_
        obtain ⟨h_2, hw⟩ := hw
        refine va_zald hx hb hK hP 5 1 rfl rfl h_2 d_M_hold_164 ?_
        refine lv_if_ne (tgt := 191) hx hb d_M_hold_165 (by decide) (fun c_3 => ?_) (fun c_3 => ?_)
        · have hw := hw.2 c_3
          refine lv_iconst (v := 1) hx hb d_M_hold_191 (by decide) ?_
          refine lv_goto (tgt := 196) hx hb d_M_hold_192 (by decide) ?_
          obtain ⟨h_4, hw⟩ := hw
          refine va_zast hx hb hK hP hD hS 5 1 rfl rfl h_4 d_M_hold_196 (fun H locs hP hD hS => ?_)
          have hP : va_P (dC, dI) vwCl [(aM, .inr (5, [.int M_thrown, .int M_padded, .ref aM_pad, .int M_sources, .ref aM_kinds, .ref aM_days, .ref aM_withdrawn, .ref aM_lengths, .ref aM_texts, .ref aM_formLengths, .ref aM_forms, .int M_claims, .ref aM_onSource, .ref aM_onClaim, .ref aM_rules, .int M_rings, .ref aM_ring, .ref aM_far, .ref aM_held, .ref aM_heldBefore, .int M_opinions, .ref aM_persons, .ref aM_ofClaims, .ref aM_values, .ref aM_when, .ref aM_ranks, .ref aM_known, .ref aM_counts])), (aM_days, .inl (cI, 24, .inl M_days)), (aM_withdrawn, .inl (cI, 24, .inl M_withdrawn)), (aM_onSource, .inl (cZ, 576, .inl M_onSource)), (aM_onClaim, .inl (cZ, 576, .inl M_onClaim)), (aM_held, .inl (cZ, 24, .inl (upd M_held (x4 / (24 : Int32)).toNatClampNeg (vp_nar .boolean (1 : Int32)))))] H := hP
          have hD : va_D A [(aM, .inr (5, [.int M_thrown, .int M_padded, .ref aM_pad, .int M_sources, .ref aM_kinds, .ref aM_days, .ref aM_withdrawn, .ref aM_lengths, .ref aM_texts, .ref aM_formLengths, .ref aM_forms, .int M_claims, .ref aM_onSource, .ref aM_onClaim, .ref aM_rules, .int M_rings, .ref aM_ring, .ref aM_far, .ref aM_held, .ref aM_heldBefore, .int M_opinions, .ref aM_persons, .ref aM_ofClaims, .ref aM_values, .ref aM_when, .ref aM_ranks, .ref aM_known, .ref aM_counts])), (aM_days, .inl (cI, 24, .inl M_days)), (aM_withdrawn, .inl (cI, 24, .inl M_withdrawn)), (aM_onSource, .inl (cZ, 576, .inl M_onSource)), (aM_onClaim, .inl (cZ, 576, .inl M_onClaim)), (aM_held, .inl (cZ, 24, .inl (upd M_held (x4 / (24 : Int32)).toNatClampNeg (vp_nar .boolean (1 : Int32)))))] := hD
          refine lv_iinc (v := x4 + 1) (lv' := [(4, .int (x4 + 1)), (0, .ref aM), (3, .int x3)]) hx hb d_M_hold_197 hl (k := 2) rfl rfl (by decide) rfl (fun ls hl => ?_)
          refine lv_goto (tgt := 138) hx hb d_M_hold_200 (by decide) ?_
          exact ih (x4 + 1) (upd M_held (x4 / (24 : Int32)).toNatClampNeg (vp_nar .boolean (1 : Int32))) hw _ _ (hP.sub [0, 1, 2, 3, 4, 5] rfl) (hD.sub [0, 1, 2, 3, 4, 5] (by decide) rfl) hS ls (lv_sub hl [1, 2, 0] rfl)
        · have hw := hw.1 c_3
          refine lv_aload_n hx hb d_M_hold_168 rfl (lv_at hl 0 rfl) ?_
          refine va_get (D := (dC, dI)) (ci := 5) (v := .ref aM_onClaim) (C := "ClaimSourcesModel") (T := TT_5) (N := 28) hx hb hts hi_5 hown hK hP 0 rfl rfl 13 (by decide) hf_38 (fun _ h9 => h9) rfl d_M_hold_169 ?_
          refine lv_iload hx hb d_M_hold_172 (lv_at hl 2 rfl) ?_
          obtain ⟨h_5, hw⟩ := hw
          refine va_zald hx hb hK hP 4 1 rfl rfl h_5 d_M_hold_174 ?_
          refine lv_if_eq (tgt := 195) hx hb d_M_hold_175 (by decide) (fun c_6 => ?_) (fun c_6 => ?_)
          · have hw := hw.1 c_6
            refine lv_iconst (v := 0) hx hb d_M_hold_195 (by decide) ?_
            obtain ⟨h_7, hw⟩ := hw
            refine va_zast hx hb hK hP hD hS 5 1 rfl rfl h_7 d_M_hold_196 (fun H locs hP hD hS => ?_)
            have hP : va_P (dC, dI) vwCl [(aM, .inr (5, [.int M_thrown, .int M_padded, .ref aM_pad, .int M_sources, .ref aM_kinds, .ref aM_days, .ref aM_withdrawn, .ref aM_lengths, .ref aM_texts, .ref aM_formLengths, .ref aM_forms, .int M_claims, .ref aM_onSource, .ref aM_onClaim, .ref aM_rules, .int M_rings, .ref aM_ring, .ref aM_far, .ref aM_held, .ref aM_heldBefore, .int M_opinions, .ref aM_persons, .ref aM_ofClaims, .ref aM_values, .ref aM_when, .ref aM_ranks, .ref aM_known, .ref aM_counts])), (aM_days, .inl (cI, 24, .inl M_days)), (aM_withdrawn, .inl (cI, 24, .inl M_withdrawn)), (aM_onSource, .inl (cZ, 576, .inl M_onSource)), (aM_onClaim, .inl (cZ, 576, .inl M_onClaim)), (aM_held, .inl (cZ, 24, .inl (upd M_held (x4 / (24 : Int32)).toNatClampNeg (vp_nar .boolean (0 : Int32)))))] H := hP
            have hD : va_D A [(aM, .inr (5, [.int M_thrown, .int M_padded, .ref aM_pad, .int M_sources, .ref aM_kinds, .ref aM_days, .ref aM_withdrawn, .ref aM_lengths, .ref aM_texts, .ref aM_formLengths, .ref aM_forms, .int M_claims, .ref aM_onSource, .ref aM_onClaim, .ref aM_rules, .int M_rings, .ref aM_ring, .ref aM_far, .ref aM_held, .ref aM_heldBefore, .int M_opinions, .ref aM_persons, .ref aM_ofClaims, .ref aM_values, .ref aM_when, .ref aM_ranks, .ref aM_known, .ref aM_counts])), (aM_days, .inl (cI, 24, .inl M_days)), (aM_withdrawn, .inl (cI, 24, .inl M_withdrawn)), (aM_onSource, .inl (cZ, 576, .inl M_onSource)), (aM_onClaim, .inl (cZ, 576, .inl M_onClaim)), (aM_held, .inl (cZ, 24, .inl (upd M_held (x4 / (24 : Int32)).toNatClampNeg (vp_nar .boolean (0 : Int32)))))] := hD
            refine lv_iinc (v := x4 + 1) (lv' := [(4, .int (x4 + 1)), (0, .ref aM), (3, .int x3)]) hx hb d_M_hold_197 hl (k := 2) rfl rfl (by decide) rfl (fun ls hl => ?_)
            refine lv_goto (tgt := 138) hx hb d_M_hold_200 (by decide) ?_
            exact ih (x4 + 1) (upd M_held (x4 / (24 : Int32)).toNatClampNeg (vp_nar .boolean (0 : Int32))) hw _ _ (hP.sub [0, 1, 2, 3, 4, 5] rfl) (hD.sub [0, 1, 2, 3, 4, 5] (by decide) rfl) hS ls (lv_sub hl [1, 2, 0] rfl)
          · have hw := hw.2 c_6
            refine lv_aload_n hx hb d_M_hold_178 rfl (lv_at hl 0 rfl) ?_
            refine va_get (D := (dC, dI)) (ci := 5) (v := .ref aM_held) (C := "ClaimSourcesModel") (T := TT_5) (N := 28) hx hb hts hi_5 hown hK hP 0 rfl rfl 18 (by decide) hf_50 (fun _ h9 => h9) rfl d_M_hold_179 ?_
            refine lv_iload hx hb d_M_hold_182 (lv_at hl 2 rfl) ?_
            refine lv_bipush (v := 24) hx hb d_M_hold_184 (by decide) ?_
            refine lv_irem hx hb d_M_hold_186 (by decide) ?_
            obtain ⟨h_8, hw⟩ := hw
            refine va_zald hx hb hK hP 5 1 rfl rfl h_8 d_M_hold_187 ?_
            refine lv_if_eq (tgt := 195) hx hb d_M_hold_188 (by decide) (fun c_9 => ?_) (fun c_9 => ?_)
            · have hw := hw.1 c_9
              refine lv_iconst (v := 0) hx hb d_M_hold_195 (by decide) ?_
              obtain ⟨h_10, hw⟩ := hw
              refine va_zast hx hb hK hP hD hS 5 1 rfl rfl h_10 d_M_hold_196 (fun H locs hP hD hS => ?_)
              have hP : va_P (dC, dI) vwCl [(aM, .inr (5, [.int M_thrown, .int M_padded, .ref aM_pad, .int M_sources, .ref aM_kinds, .ref aM_days, .ref aM_withdrawn, .ref aM_lengths, .ref aM_texts, .ref aM_formLengths, .ref aM_forms, .int M_claims, .ref aM_onSource, .ref aM_onClaim, .ref aM_rules, .int M_rings, .ref aM_ring, .ref aM_far, .ref aM_held, .ref aM_heldBefore, .int M_opinions, .ref aM_persons, .ref aM_ofClaims, .ref aM_values, .ref aM_when, .ref aM_ranks, .ref aM_known, .ref aM_counts])), (aM_days, .inl (cI, 24, .inl M_days)), (aM_withdrawn, .inl (cI, 24, .inl M_withdrawn)), (aM_onSource, .inl (cZ, 576, .inl M_onSource)), (aM_onClaim, .inl (cZ, 576, .inl M_onClaim)), (aM_held, .inl (cZ, 24, .inl (upd M_held (x4 / (24 : Int32)).toNatClampNeg (vp_nar .boolean (0 : Int32)))))] H := hP
              have hD : va_D A [(aM, .inr (5, [.int M_thrown, .int M_padded, .ref aM_pad, .int M_sources, .ref aM_kinds, .ref aM_days, .ref aM_withdrawn, .ref aM_lengths, .ref aM_texts, .ref aM_formLengths, .ref aM_forms, .int M_claims, .ref aM_onSource, .ref aM_onClaim, .ref aM_rules, .int M_rings, .ref aM_ring, .ref aM_far, .ref aM_held, .ref aM_heldBefore, .int M_opinions, .ref aM_persons, .ref aM_ofClaims, .ref aM_values, .ref aM_when, .ref aM_ranks, .ref aM_known, .ref aM_counts])), (aM_days, .inl (cI, 24, .inl M_days)), (aM_withdrawn, .inl (cI, 24, .inl M_withdrawn)), (aM_onSource, .inl (cZ, 576, .inl M_onSource)), (aM_onClaim, .inl (cZ, 576, .inl M_onClaim)), (aM_held, .inl (cZ, 24, .inl (upd M_held (x4 / (24 : Int32)).toNatClampNeg (vp_nar .boolean (0 : Int32)))))] := hD
              refine lv_iinc (v := x4 + 1) (lv' := [(4, .int (x4 + 1)), (0, .ref aM), (3, .int x3)]) hx hb d_M_hold_197 hl (k := 2) rfl rfl (by decide) rfl (fun ls hl => ?_)
              refine lv_goto (tgt := 138) hx hb d_M_hold_200 (by decide) ?_
              exact ih (x4 + 1) (upd M_held (x4 / (24 : Int32)).toNatClampNeg (vp_nar .boolean (0 : Int32))) hw _ _ (hP.sub [0, 1, 2, 3, 4, 5] rfl) (hD.sub [0, 1, 2, 3, 4, 5] (by decide) rfl) hS ls (lv_sub hl [1, 2, 0] rfl)
            · have hw := hw.2 c_9
              refine lv_iconst (v := 1) hx hb d_M_hold_191 (by decide) ?_
              refine lv_goto (tgt := 196) hx hb d_M_hold_192 (by decide) ?_
              obtain ⟨h_11, hw⟩ := hw
              refine va_zast hx hb hK hP hD hS 5 1 rfl rfl h_11 d_M_hold_196 (fun H locs hP hD hS => ?_)
              have hP : va_P (dC, dI) vwCl [(aM, .inr (5, [.int M_thrown, .int M_padded, .ref aM_pad, .int M_sources, .ref aM_kinds, .ref aM_days, .ref aM_withdrawn, .ref aM_lengths, .ref aM_texts, .ref aM_formLengths, .ref aM_forms, .int M_claims, .ref aM_onSource, .ref aM_onClaim, .ref aM_rules, .int M_rings, .ref aM_ring, .ref aM_far, .ref aM_held, .ref aM_heldBefore, .int M_opinions, .ref aM_persons, .ref aM_ofClaims, .ref aM_values, .ref aM_when, .ref aM_ranks, .ref aM_known, .ref aM_counts])), (aM_days, .inl (cI, 24, .inl M_days)), (aM_withdrawn, .inl (cI, 24, .inl M_withdrawn)), (aM_onSource, .inl (cZ, 576, .inl M_onSource)), (aM_onClaim, .inl (cZ, 576, .inl M_onClaim)), (aM_held, .inl (cZ, 24, .inl (upd M_held (x4 / (24 : Int32)).toNatClampNeg (vp_nar .boolean (1 : Int32)))))] H := hP
              have hD : va_D A [(aM, .inr (5, [.int M_thrown, .int M_padded, .ref aM_pad, .int M_sources, .ref aM_kinds, .ref aM_days, .ref aM_withdrawn, .ref aM_lengths, .ref aM_texts, .ref aM_formLengths, .ref aM_forms, .int M_claims, .ref aM_onSource, .ref aM_onClaim, .ref aM_rules, .int M_rings, .ref aM_ring, .ref aM_far, .ref aM_held, .ref aM_heldBefore, .int M_opinions, .ref aM_persons, .ref aM_ofClaims, .ref aM_values, .ref aM_when, .ref aM_ranks, .ref aM_known, .ref aM_counts])), (aM_days, .inl (cI, 24, .inl M_days)), (aM_withdrawn, .inl (cI, 24, .inl M_withdrawn)), (aM_onSource, .inl (cZ, 576, .inl M_onSource)), (aM_onClaim, .inl (cZ, 576, .inl M_onClaim)), (aM_held, .inl (cZ, 24, .inl (upd M_held (x4 / (24 : Int32)).toNatClampNeg (vp_nar .boolean (1 : Int32)))))] := hD
              refine lv_iinc (v := x4 + 1) (lv' := [(4, .int (x4 + 1)), (0, .ref aM), (3, .int x3)]) hx hb d_M_hold_197 hl (k := 2) rfl rfl (by decide) rfl (fun ls hl => ?_)
              refine lv_goto (tgt := 138) hx hb d_M_hold_200 (by decide) ?_
              exact ih (x4 + 1) (upd M_held (x4 / (24 : Int32)).toNatClampNeg (vp_nar .boolean (1 : Int32))) hw _ _ (hP.sub [0, 1, 2, 3, 4, 5] rfl) (hD.sub [0, 1, 2, 3, 4, 5] (by decide) rfl) hS ls (lv_sub hl [1, 2, 0] rfl)
  have L127 : ∀ (n : Nat) (x3 : Int32) (M_held : Nat → Int32), wl_M_hold_127 M_claims M_onClaim post n x3 M_held → ∀ (H : Heap) (locs : List Loc), va_P (dC, dI) vwCl [(aM, .inr (5, [.int M_thrown, .int M_padded, .ref aM_pad, .int M_sources, .ref aM_kinds, .ref aM_days, .ref aM_withdrawn, .ref aM_lengths, .ref aM_texts, .ref aM_formLengths, .ref aM_forms, .int M_claims, .ref aM_onSource, .ref aM_onClaim, .ref aM_rules, .int M_rings, .ref aM_ring, .ref aM_far, .ref aM_held, .ref aM_heldBefore, .int M_opinions, .ref aM_persons, .ref aM_ofClaims, .ref aM_values, .ref aM_when, .ref aM_ranks, .ref aM_known, .ref aM_counts])), (aM_days, .inl (cI, 24, .inl M_days)), (aM_withdrawn, .inl (cI, 24, .inl M_withdrawn)), (aM_onSource, .inl (cZ, 576, .inl M_onSource)), (aM_onClaim, .inl (cZ, 576, .inl M_onClaim)), (aM_held, .inl (cZ, 24, .inl M_held))] H → va_D A [(aM, .inr (5, [.int M_thrown, .int M_padded, .ref aM_pad, .int M_sources, .ref aM_kinds, .ref aM_days, .ref aM_withdrawn, .ref aM_lengths, .ref aM_texts, .ref aM_formLengths, .ref aM_forms, .int M_claims, .ref aM_onSource, .ref aM_onClaim, .ref aM_rules, .int M_rings, .ref aM_ring, .ref aM_far, .ref aM_held, .ref aM_heldBefore, .int M_opinions, .ref aM_persons, .ref aM_ofClaims, .ref aM_values, .ref aM_when, .ref aM_ranks, .ref aM_known, .ref aM_counts])), (aM_days, .inl (cI, 24, .inl M_days)), (aM_withdrawn, .inl (cI, 24, .inl M_withdrawn)), (aM_onSource, .inl (cZ, 576, .inl M_onSource)), (aM_onClaim, .inl (cZ, 576, .inl M_onClaim)), (aM_held, .inl (cZ, 24, .inl M_held))] → va_S A s.heap H locs → ∀ (ls : Array Slot), lv_has ls 6 [(0, .ref aM), (3, .int x3)] → W p l e (headSpec w_M_hold ({ frames := 0, cells := 0, slots := 0, locals := 0 })).room s m args below meth c H locs 0 0 Q0 (F0 m 127 ls []) := by
    intro n
    induction n with
    | zero =>
      intro x3 M_held hw
      exact False.elim hw
    | succ n ih =>
      intro x3 M_held hw H locs hP hD hS ls hl
      unfold wl_M_hold_127 at hw
      refine lv_iload_n hx hb d_M_hold_127 rfl (lv_at hl 1 rfl) ?_
      refine lv_aload_n hx hb d_M_hold_128 rfl (lv_at hl 0 rfl) ?_
      refine va_get (D := (dC, dI)) (ci := 5) (v := .int M_claims) (C := "ClaimSourcesModel") (T := TT_5) (N := 28) hx hb hts hi_5 hown hK hP 0 rfl rfl 11 (by decide) hf_85 (fun _ h9 => h9) rfl d_M_hold_129 ?_
      refine lv_icmp_ge (tgt := 209) hx hb d_M_hold_132 (by decide) (fun c_12 => ?_) (fun c_12 => ?_)
      · have hw := hw.1 c_12
        subst hQ0
        have hP9 := hP.sub (ws' := [(aM, .inr (5, [.int M_thrown, .int M_padded, .ref aM_pad, .int M_sources, .ref aM_kinds, .ref aM_days, .ref aM_withdrawn, .ref aM_lengths, .ref aM_texts, .ref aM_formLengths, .ref aM_forms, .int M_claims, .ref aM_onSource, .ref aM_onClaim, .ref aM_rules, .int M_rings, .ref aM_ring, .ref aM_far, .ref aM_held, .ref aM_heldBefore, .int M_opinions, .ref aM_persons, .ref aM_ofClaims, .ref aM_values, .ref aM_when, .ref aM_ranks, .ref aM_known, .ref aM_counts])), (aM_days, .inl (cI, 24, .inl M_days)), (aM_withdrawn, .inl (cI, 24, .inl M_withdrawn)), (aM_onSource, .inl (cZ, 576, .inl M_onSource)), (aM_onClaim, .inl (cZ, 576, .inl M_onClaim)), (aM_held, .inl (cZ, 24, .inl M_held))]) [0, 1, 2, 3, 4, 5] rfl
        have hD9 := hD.sub (ws' := [(aM, .inr (5, [.int M_thrown, .int M_padded, .ref aM_pad, .int M_sources, .ref aM_kinds, .ref aM_days, .ref aM_withdrawn, .ref aM_lengths, .ref aM_texts, .ref aM_formLengths, .ref aM_forms, .int M_claims, .ref aM_onSource, .ref aM_onClaim, .ref aM_rules, .int M_rings, .ref aM_ring, .ref aM_far, .ref aM_held, .ref aM_heldBefore, .int M_opinions, .ref aM_persons, .ref aM_ofClaims, .ref aM_values, .ref aM_when, .ref aM_ranks, .ref aM_known, .ref aM_counts])), (aM_days, .inl (cI, 24, .inl M_days)), (aM_withdrawn, .inl (cI, 24, .inl M_withdrawn)), (aM_onSource, .inl (cZ, 576, .inl M_onSource)), (aM_onClaim, .inl (cZ, 576, .inl M_onClaim)), (aM_held, .inl (cZ, 24, .inl M_held))]) [0, 1, 2, 3, 4, 5] (by decide) rfl
        exact W.vret hx hb hr (fun t ht hW => ⟨⟨(M_held), rfl, hw, by rw [ht]; exact hP9, hD9⟩, hS.F ht⟩) hS.2.2 d_M_hold_209
      · have hw := hw.2 c_12
        refine lv_iconst (v := 0) hx hb d_M_hold_135 (by decide) ?_
        refine lv_istore (lv' := [(4, .int (0 : Int32)), (0, .ref aM), (3, .int x3)]) hx hb d_M_hold_136 hl (by decide) rfl (fun ls hl => ?_)
        obtain ⟨n_13, hw⟩ := hw
        exact L138 x3 _ ih n_13 (0 : Int32) M_held hw _ _ (hP.sub [0, 1, 2, 3, 4, 5] rfl) (hD.sub [0, 1, 2, 3, 4, 5] (by decide) rfl) hS ls (lv_sub hl [1, 2, 0] rfl)
  have L18 : ∀ (x1 : Int32) (x2 : Int32) (x3 : Int32) (k2 : Int32 → (Nat → Int32) → Prop) (hk2 : ∀ (x3 : Int32) (M_held : Nat → Int32), k2 x3 M_held → ∀ (H : Heap) (locs : List Loc), va_P (dC, dI) vwCl [(aM, .inr (5, [.int M_thrown, .int M_padded, .ref aM_pad, .int M_sources, .ref aM_kinds, .ref aM_days, .ref aM_withdrawn, .ref aM_lengths, .ref aM_texts, .ref aM_formLengths, .ref aM_forms, .int M_claims, .ref aM_onSource, .ref aM_onClaim, .ref aM_rules, .int M_rings, .ref aM_ring, .ref aM_far, .ref aM_held, .ref aM_heldBefore, .int M_opinions, .ref aM_persons, .ref aM_ofClaims, .ref aM_values, .ref aM_when, .ref aM_ranks, .ref aM_known, .ref aM_counts])), (aM_days, .inl (cI, 24, .inl M_days)), (aM_withdrawn, .inl (cI, 24, .inl M_withdrawn)), (aM_onSource, .inl (cZ, 576, .inl M_onSource)), (aM_onClaim, .inl (cZ, 576, .inl M_onClaim)), (aM_held, .inl (cZ, 24, .inl M_held))] H → va_D A [(aM, .inr (5, [.int M_thrown, .int M_padded, .ref aM_pad, .int M_sources, .ref aM_kinds, .ref aM_days, .ref aM_withdrawn, .ref aM_lengths, .ref aM_texts, .ref aM_formLengths, .ref aM_forms, .int M_claims, .ref aM_onSource, .ref aM_onClaim, .ref aM_rules, .int M_rings, .ref aM_ring, .ref aM_far, .ref aM_held, .ref aM_heldBefore, .int M_opinions, .ref aM_persons, .ref aM_ofClaims, .ref aM_values, .ref aM_when, .ref aM_ranks, .ref aM_known, .ref aM_counts])), (aM_days, .inl (cI, 24, .inl M_days)), (aM_withdrawn, .inl (cI, 24, .inl M_withdrawn)), (aM_onSource, .inl (cZ, 576, .inl M_onSource)), (aM_onClaim, .inl (cZ, 576, .inl M_onClaim)), (aM_held, .inl (cZ, 24, .inl M_held))] → va_S A s.heap H locs → ∀ (ls : Array Slot), lv_has ls 6 [(0, .ref aM), (1, .int x1), (2, .int x2), (3, .int x3)] → W p l e (headSpec w_M_hold ({ frames := 0, cells := 0, slots := 0, locals := 0 })).room s m args below meth c H locs 0 0 Q0 (F0 m 2 ls [])) (n : Nat) (x4 : Int32) (M_held : Nat → Int32), wl_M_hold_18 M_sources M_days M_withdrawn M_onSource x1 x2 x3 k2 n x4 M_held → ∀ (H : Heap) (locs : List Loc), va_P (dC, dI) vwCl [(aM, .inr (5, [.int M_thrown, .int M_padded, .ref aM_pad, .int M_sources, .ref aM_kinds, .ref aM_days, .ref aM_withdrawn, .ref aM_lengths, .ref aM_texts, .ref aM_formLengths, .ref aM_forms, .int M_claims, .ref aM_onSource, .ref aM_onClaim, .ref aM_rules, .int M_rings, .ref aM_ring, .ref aM_far, .ref aM_held, .ref aM_heldBefore, .int M_opinions, .ref aM_persons, .ref aM_ofClaims, .ref aM_values, .ref aM_when, .ref aM_ranks, .ref aM_known, .ref aM_counts])), (aM_days, .inl (cI, 24, .inl M_days)), (aM_withdrawn, .inl (cI, 24, .inl M_withdrawn)), (aM_onSource, .inl (cZ, 576, .inl M_onSource)), (aM_onClaim, .inl (cZ, 576, .inl M_onClaim)), (aM_held, .inl (cZ, 24, .inl M_held))] H → va_D A [(aM, .inr (5, [.int M_thrown, .int M_padded, .ref aM_pad, .int M_sources, .ref aM_kinds, .ref aM_days, .ref aM_withdrawn, .ref aM_lengths, .ref aM_texts, .ref aM_formLengths, .ref aM_forms, .int M_claims, .ref aM_onSource, .ref aM_onClaim, .ref aM_rules, .int M_rings, .ref aM_ring, .ref aM_far, .ref aM_held, .ref aM_heldBefore, .int M_opinions, .ref aM_persons, .ref aM_ofClaims, .ref aM_values, .ref aM_when, .ref aM_ranks, .ref aM_known, .ref aM_counts])), (aM_days, .inl (cI, 24, .inl M_days)), (aM_withdrawn, .inl (cI, 24, .inl M_withdrawn)), (aM_onSource, .inl (cZ, 576, .inl M_onSource)), (aM_onClaim, .inl (cZ, 576, .inl M_onClaim)), (aM_held, .inl (cZ, 24, .inl M_held))] → va_S A s.heap H locs → ∀ (ls : Array Slot), lv_has ls 6 [(0, .ref aM), (1, .int x1), (2, .int x2), (3, .int x3), (4, .int x4)] → W p l e (headSpec w_M_hold ({ frames := 0, cells := 0, slots := 0, locals := 0 })).room s m args below meth c H locs 0 0 Q0 (F0 m 18 ls []) := by
    intro x1 x2 x3 k2 hk2
    intro n
    induction n with
    | zero =>
      intro x4 M_held hw
      exact False.elim hw
    | succ n ih =>
      intro x4 M_held hw H locs hP hD hS ls hl
      unfold wl_M_hold_18 at hw
      refine lv_iload hx hb d_M_hold_18 (lv_at hl 4 rfl) ?_
      refine lv_aload_n hx hb d_M_hold_20 rfl (lv_at hl 0 rfl) ?_
      refine va_get (D := (dC, dI)) (ci := 5) (v := .int M_sources) (C := "ClaimSourcesModel") (T := TT_5) (N := 28) hx hb hts hi_5 hown hK hP 0 rfl rfl 3 (by decide) hf_82 (fun _ h9 => h9) rfl d_M_hold_21 ?_
      refine lv_icmp_ge (tgt := 119) hx hb d_M_hold_24 (by decide) (fun c_14 => ?_) (fun c_14 => ?_)
      · have hw := hw.1 c_14
        refine lv_iinc (v := x3 + 1) (lv' := [(3, .int (x3 + 1)), (0, .ref aM), (1, .int x1), (2, .int x2), (4, .int x4)]) hx hb d_M_hold_119 hl (k := 3) rfl rfl (by decide) rfl (fun ls hl => ?_)
        refine lv_goto (tgt := 2) hx hb d_M_hold_122 (by decide) ?_
        exact hk2 (x3 + 1) M_held hw _ _ (hP.sub [0, 1, 2, 3, 4, 5] rfl) (hD.sub [0, 1, 2, 3, 4, 5] (by decide) rfl) hS ls (lv_sub hl [1, 2, 3, 0] rfl)
      · have hw := hw.2 c_14
        refine lv_iload hx hb d_M_hold_27 (lv_at hl 4 rfl) ?_
        refine lv_iload_n hx hb d_M_hold_29 rfl (lv_at hl 2 rfl) ?_
        refine lv_icmp_eq (tgt := 70) hx hb d_M_hold_30 (by decide) (fun c_15 => ?_) (fun c_15 => ?_)
        · have hw := hw.1 c_15
          refine lv_iconst (v := 0) hx hb d_M_hold_70 (by decide) ?_
          refine lv_istore (lv' := [(5, .int (0 : Int32)), (0, .ref aM), (1, .int x1), (2, .int x2), (3, .int x3), (4, .int x4)]) hx hb d_M_hold_71 hl (by decide) rfl (fun ls hl => ?_)
          refine lv_aload_n hx hb d_M_hold_73 rfl (lv_at hl 1 rfl) ?_
          refine va_get (D := (dC, dI)) (ci := 5) (v := .ref aM_held) (C := "ClaimSourcesModel") (T := TT_5) (N := 28) hx hb hts hi_5 hown hK hP 0 rfl rfl 18 (by decide) hf_50 (fun _ h9 => h9) rfl d_M_hold_74 ?_
          refine lv_iload_n hx hb d_M_hold_77 rfl (lv_at hl 4 rfl) ?_
          refine lv_aload_n hx hb d_M_hold_78 rfl (lv_at hl 1 rfl) ?_
          refine va_get (D := (dC, dI)) (ci := 5) (v := .ref aM_held) (C := "ClaimSourcesModel") (T := TT_5) (N := 28) hx hb hts hi_5 hown hK hP 0 rfl rfl 18 (by decide) hf_50 (fun _ h9 => h9) rfl d_M_hold_79 ?_
          refine lv_iload_n hx hb d_M_hold_82 rfl (lv_at hl 4 rfl) ?_
          obtain ⟨h_16, hw⟩ := hw
          refine va_zald hx hb hK hP 5 1 rfl rfl h_16 d_M_hold_83 ?_
          refine lv_if_ne (tgt := 107) hx hb d_M_hold_84 (by decide) (fun c_17 => ?_) (fun c_17 => ?_)
          · have hw := hw.2 c_17
            refine lv_iconst (v := 1) hx hb d_M_hold_107 (by decide) ?_
            refine lv_goto (tgt := 112) hx hb d_M_hold_108 (by decide) ?_
            obtain ⟨h_18, hw⟩ := hw
            refine va_zast hx hb hK hP hD hS 5 1 rfl rfl h_18 d_M_hold_112 (fun H locs hP hD hS => ?_)
            have hP : va_P (dC, dI) vwCl [(aM, .inr (5, [.int M_thrown, .int M_padded, .ref aM_pad, .int M_sources, .ref aM_kinds, .ref aM_days, .ref aM_withdrawn, .ref aM_lengths, .ref aM_texts, .ref aM_formLengths, .ref aM_forms, .int M_claims, .ref aM_onSource, .ref aM_onClaim, .ref aM_rules, .int M_rings, .ref aM_ring, .ref aM_far, .ref aM_held, .ref aM_heldBefore, .int M_opinions, .ref aM_persons, .ref aM_ofClaims, .ref aM_values, .ref aM_when, .ref aM_ranks, .ref aM_known, .ref aM_counts])), (aM_days, .inl (cI, 24, .inl M_days)), (aM_withdrawn, .inl (cI, 24, .inl M_withdrawn)), (aM_onSource, .inl (cZ, 576, .inl M_onSource)), (aM_onClaim, .inl (cZ, 576, .inl M_onClaim)), (aM_held, .inl (cZ, 24, .inl (upd M_held x3.toNatClampNeg (vp_nar .boolean (1 : Int32)))))] H := hP
            have hD : va_D A [(aM, .inr (5, [.int M_thrown, .int M_padded, .ref aM_pad, .int M_sources, .ref aM_kinds, .ref aM_days, .ref aM_withdrawn, .ref aM_lengths, .ref aM_texts, .ref aM_formLengths, .ref aM_forms, .int M_claims, .ref aM_onSource, .ref aM_onClaim, .ref aM_rules, .int M_rings, .ref aM_ring, .ref aM_far, .ref aM_held, .ref aM_heldBefore, .int M_opinions, .ref aM_persons, .ref aM_ofClaims, .ref aM_values, .ref aM_when, .ref aM_ranks, .ref aM_known, .ref aM_counts])), (aM_days, .inl (cI, 24, .inl M_days)), (aM_withdrawn, .inl (cI, 24, .inl M_withdrawn)), (aM_onSource, .inl (cZ, 576, .inl M_onSource)), (aM_onClaim, .inl (cZ, 576, .inl M_onClaim)), (aM_held, .inl (cZ, 24, .inl (upd M_held x3.toNatClampNeg (vp_nar .boolean (1 : Int32)))))] := hD
            refine lv_iinc (v := x4 + 1) (lv' := [(4, .int (x4 + 1)), (5, .int (0 : Int32)), (0, .ref aM), (1, .int x1), (2, .int x2), (3, .int x3)]) hx hb d_M_hold_113 hl (k := 5) rfl rfl (by decide) rfl (fun ls hl => ?_)
            refine lv_goto (tgt := 18) hx hb d_M_hold_116 (by decide) ?_
            exact ih (x4 + 1) (upd M_held x3.toNatClampNeg (vp_nar .boolean (1 : Int32))) hw _ _ (hP.sub [0, 1, 2, 3, 4, 5] rfl) (hD.sub [0, 1, 2, 3, 4, 5] (by decide) rfl) hS ls (lv_sub hl [2, 3, 4, 5, 0] rfl)
          · have hw := hw.1 c_17
            refine lv_aload_n hx hb d_M_hold_87 rfl (lv_at hl 1 rfl) ?_
            refine va_get (D := (dC, dI)) (ci := 5) (v := .ref aM_onSource) (C := "ClaimSourcesModel") (T := TT_5) (N := 28) hx hb hts hi_5 hown hK hP 0 rfl rfl 12 (by decide) hf_34 (fun _ h9 => h9) rfl d_M_hold_88 ?_
            refine lv_bipush (v := 24) hx hb d_M_hold_91 (by decide) ?_
            refine lv_iload_n hx hb d_M_hold_93 rfl (lv_at hl 4 rfl) ?_
            refine lv_imul hx hb d_M_hold_94 ?_
            refine lv_iload hx hb d_M_hold_95 (lv_at hl 5 rfl) ?_
            refine lv_iadd hx hb d_M_hold_97 ?_
            obtain ⟨h_19, hw⟩ := hw
            refine va_zald hx hb hK hP 3 1 rfl rfl h_19 d_M_hold_98 ?_
            refine lv_if_eq (tgt := 111) hx hb d_M_hold_99 (by decide) (fun c_20 => ?_) (fun c_20 => ?_)
            · have hw := hw.1 c_20
              refine lv_iconst (v := 0) hx hb d_M_hold_111 (by decide) ?_
              obtain ⟨h_21, hw⟩ := hw
              refine va_zast hx hb hK hP hD hS 5 1 rfl rfl h_21 d_M_hold_112 (fun H locs hP hD hS => ?_)
              have hP : va_P (dC, dI) vwCl [(aM, .inr (5, [.int M_thrown, .int M_padded, .ref aM_pad, .int M_sources, .ref aM_kinds, .ref aM_days, .ref aM_withdrawn, .ref aM_lengths, .ref aM_texts, .ref aM_formLengths, .ref aM_forms, .int M_claims, .ref aM_onSource, .ref aM_onClaim, .ref aM_rules, .int M_rings, .ref aM_ring, .ref aM_far, .ref aM_held, .ref aM_heldBefore, .int M_opinions, .ref aM_persons, .ref aM_ofClaims, .ref aM_values, .ref aM_when, .ref aM_ranks, .ref aM_known, .ref aM_counts])), (aM_days, .inl (cI, 24, .inl M_days)), (aM_withdrawn, .inl (cI, 24, .inl M_withdrawn)), (aM_onSource, .inl (cZ, 576, .inl M_onSource)), (aM_onClaim, .inl (cZ, 576, .inl M_onClaim)), (aM_held, .inl (cZ, 24, .inl (upd M_held x3.toNatClampNeg (vp_nar .boolean (0 : Int32)))))] H := hP
              have hD : va_D A [(aM, .inr (5, [.int M_thrown, .int M_padded, .ref aM_pad, .int M_sources, .ref aM_kinds, .ref aM_days, .ref aM_withdrawn, .ref aM_lengths, .ref aM_texts, .ref aM_formLengths, .ref aM_forms, .int M_claims, .ref aM_onSource, .ref aM_onClaim, .ref aM_rules, .int M_rings, .ref aM_ring, .ref aM_far, .ref aM_held, .ref aM_heldBefore, .int M_opinions, .ref aM_persons, .ref aM_ofClaims, .ref aM_values, .ref aM_when, .ref aM_ranks, .ref aM_known, .ref aM_counts])), (aM_days, .inl (cI, 24, .inl M_days)), (aM_withdrawn, .inl (cI, 24, .inl M_withdrawn)), (aM_onSource, .inl (cZ, 576, .inl M_onSource)), (aM_onClaim, .inl (cZ, 576, .inl M_onClaim)), (aM_held, .inl (cZ, 24, .inl (upd M_held x3.toNatClampNeg (vp_nar .boolean (0 : Int32)))))] := hD
              refine lv_iinc (v := x4 + 1) (lv' := [(4, .int (x4 + 1)), (5, .int (0 : Int32)), (0, .ref aM), (1, .int x1), (2, .int x2), (3, .int x3)]) hx hb d_M_hold_113 hl (k := 5) rfl rfl (by decide) rfl (fun ls hl => ?_)
              refine lv_goto (tgt := 18) hx hb d_M_hold_116 (by decide) ?_
              exact ih (x4 + 1) (upd M_held x3.toNatClampNeg (vp_nar .boolean (0 : Int32))) hw _ _ (hP.sub [0, 1, 2, 3, 4, 5] rfl) (hD.sub [0, 1, 2, 3, 4, 5] (by decide) rfl) hS ls (lv_sub hl [2, 3, 4, 5, 0] rfl)
            · have hw := hw.2 c_20
              refine lv_iload hx hb d_M_hold_102 (lv_at hl 0 rfl) ?_
              refine lv_if_eq (tgt := 111) hx hb d_M_hold_104 (by decide) (fun _ => ?_) (fun h9 => absurd h9 (by decide))
              refine lv_iconst (v := 0) hx hb d_M_hold_111 (by decide) ?_
              obtain ⟨h_23, hw⟩ := hw
              refine va_zast hx hb hK hP hD hS 5 1 rfl rfl h_23 d_M_hold_112 (fun H locs hP hD hS => ?_)
              have hP : va_P (dC, dI) vwCl [(aM, .inr (5, [.int M_thrown, .int M_padded, .ref aM_pad, .int M_sources, .ref aM_kinds, .ref aM_days, .ref aM_withdrawn, .ref aM_lengths, .ref aM_texts, .ref aM_formLengths, .ref aM_forms, .int M_claims, .ref aM_onSource, .ref aM_onClaim, .ref aM_rules, .int M_rings, .ref aM_ring, .ref aM_far, .ref aM_held, .ref aM_heldBefore, .int M_opinions, .ref aM_persons, .ref aM_ofClaims, .ref aM_values, .ref aM_when, .ref aM_ranks, .ref aM_known, .ref aM_counts])), (aM_days, .inl (cI, 24, .inl M_days)), (aM_withdrawn, .inl (cI, 24, .inl M_withdrawn)), (aM_onSource, .inl (cZ, 576, .inl M_onSource)), (aM_onClaim, .inl (cZ, 576, .inl M_onClaim)), (aM_held, .inl (cZ, 24, .inl (upd M_held x3.toNatClampNeg (vp_nar .boolean (0 : Int32)))))] H := hP
              have hD : va_D A [(aM, .inr (5, [.int M_thrown, .int M_padded, .ref aM_pad, .int M_sources, .ref aM_kinds, .ref aM_days, .ref aM_withdrawn, .ref aM_lengths, .ref aM_texts, .ref aM_formLengths, .ref aM_forms, .int M_claims, .ref aM_onSource, .ref aM_onClaim, .ref aM_rules, .int M_rings, .ref aM_ring, .ref aM_far, .ref aM_held, .ref aM_heldBefore, .int M_opinions, .ref aM_persons, .ref aM_ofClaims, .ref aM_values, .ref aM_when, .ref aM_ranks, .ref aM_known, .ref aM_counts])), (aM_days, .inl (cI, 24, .inl M_days)), (aM_withdrawn, .inl (cI, 24, .inl M_withdrawn)), (aM_onSource, .inl (cZ, 576, .inl M_onSource)), (aM_onClaim, .inl (cZ, 576, .inl M_onClaim)), (aM_held, .inl (cZ, 24, .inl (upd M_held x3.toNatClampNeg (vp_nar .boolean (0 : Int32)))))] := hD
              refine lv_iinc (v := x4 + 1) (lv' := [(4, .int (x4 + 1)), (5, .int (0 : Int32)), (0, .ref aM), (1, .int x1), (2, .int x2), (3, .int x3)]) hx hb d_M_hold_113 hl (k := 5) rfl rfl (by decide) rfl (fun ls hl => ?_)
              refine lv_goto (tgt := 18) hx hb d_M_hold_116 (by decide) ?_
              exact ih (x4 + 1) (upd M_held x3.toNatClampNeg (vp_nar .boolean (0 : Int32))) hw _ _ (hP.sub [0, 1, 2, 3, 4, 5] rfl) (hD.sub [0, 1, 2, 3, 4, 5] (by decide) rfl) hS ls (lv_sub hl [2, 3, 4, 5, 0] rfl)
        · have hw := hw.2 c_15
          refine lv_aload_n hx hb d_M_hold_33 rfl (lv_at hl 0 rfl) ?_
          refine va_get (D := (dC, dI)) (ci := 5) (v := .ref aM_days) (C := "ClaimSourcesModel") (T := TT_5) (N := 28) hx hb hts hi_5 hown hK hP 0 rfl rfl 5 (by decide) hf_16 (fun _ h9 => h9) rfl d_M_hold_34 ?_
          refine lv_iload hx hb d_M_hold_37 (lv_at hl 4 rfl) ?_
          obtain ⟨h_24, hw⟩ := hw
          refine va_iald hx hb hK hP 1 0 rfl rfl h_24 d_M_hold_39 ?_
          refine lv_iload_n hx hb d_M_hold_40 rfl (lv_at hl 1 rfl) ?_
          refine lv_icmp_gt (tgt := 70) hx hb d_M_hold_41 (by decide) (fun c_25 => ?_) (fun c_25 => ?_)
          · have hw := hw.1 c_25
            refine lv_iconst (v := 0) hx hb d_M_hold_70 (by decide) ?_
            refine lv_istore (lv' := [(5, .int (0 : Int32)), (0, .ref aM), (1, .int x1), (2, .int x2), (3, .int x3), (4, .int x4)]) hx hb d_M_hold_71 hl (by decide) rfl (fun ls hl => ?_)
            refine lv_aload_n hx hb d_M_hold_73 rfl (lv_at hl 1 rfl) ?_
            refine va_get (D := (dC, dI)) (ci := 5) (v := .ref aM_held) (C := "ClaimSourcesModel") (T := TT_5) (N := 28) hx hb hts hi_5 hown hK hP 0 rfl rfl 18 (by decide) hf_50 (fun _ h9 => h9) rfl d_M_hold_74 ?_
            refine lv_iload_n hx hb d_M_hold_77 rfl (lv_at hl 4 rfl) ?_
            refine lv_aload_n hx hb d_M_hold_78 rfl (lv_at hl 1 rfl) ?_
            refine va_get (D := (dC, dI)) (ci := 5) (v := .ref aM_held) (C := "ClaimSourcesModel") (T := TT_5) (N := 28) hx hb hts hi_5 hown hK hP 0 rfl rfl 18 (by decide) hf_50 (fun _ h9 => h9) rfl d_M_hold_79 ?_
            refine lv_iload_n hx hb d_M_hold_82 rfl (lv_at hl 4 rfl) ?_
            obtain ⟨h_26, hw⟩ := hw
            refine va_zald hx hb hK hP 5 1 rfl rfl h_26 d_M_hold_83 ?_
            refine lv_if_ne (tgt := 107) hx hb d_M_hold_84 (by decide) (fun c_27 => ?_) (fun c_27 => ?_)
            · have hw := hw.2 c_27
              refine lv_iconst (v := 1) hx hb d_M_hold_107 (by decide) ?_
              refine lv_goto (tgt := 112) hx hb d_M_hold_108 (by decide) ?_
              obtain ⟨h_28, hw⟩ := hw
              refine va_zast hx hb hK hP hD hS 5 1 rfl rfl h_28 d_M_hold_112 (fun H locs hP hD hS => ?_)
              have hP : va_P (dC, dI) vwCl [(aM, .inr (5, [.int M_thrown, .int M_padded, .ref aM_pad, .int M_sources, .ref aM_kinds, .ref aM_days, .ref aM_withdrawn, .ref aM_lengths, .ref aM_texts, .ref aM_formLengths, .ref aM_forms, .int M_claims, .ref aM_onSource, .ref aM_onClaim, .ref aM_rules, .int M_rings, .ref aM_ring, .ref aM_far, .ref aM_held, .ref aM_heldBefore, .int M_opinions, .ref aM_persons, .ref aM_ofClaims, .ref aM_values, .ref aM_when, .ref aM_ranks, .ref aM_known, .ref aM_counts])), (aM_days, .inl (cI, 24, .inl M_days)), (aM_withdrawn, .inl (cI, 24, .inl M_withdrawn)), (aM_onSource, .inl (cZ, 576, .inl M_onSource)), (aM_onClaim, .inl (cZ, 576, .inl M_onClaim)), (aM_held, .inl (cZ, 24, .inl (upd M_held x3.toNatClampNeg (vp_nar .boolean (1 : Int32)))))] H := hP
              have hD : va_D A [(aM, .inr (5, [.int M_thrown, .int M_padded, .ref aM_pad, .int M_sources, .ref aM_kinds, .ref aM_days, .ref aM_withdrawn, .ref aM_lengths, .ref aM_texts, .ref aM_formLengths, .ref aM_forms, .int M_claims, .ref aM_onSource, .ref aM_onClaim, .ref aM_rules, .int M_rings, .ref aM_ring, .ref aM_far, .ref aM_held, .ref aM_heldBefore, .int M_opinions, .ref aM_persons, .ref aM_ofClaims, .ref aM_values, .ref aM_when, .ref aM_ranks, .ref aM_known, .ref aM_counts])), (aM_days, .inl (cI, 24, .inl M_days)), (aM_withdrawn, .inl (cI, 24, .inl M_withdrawn)), (aM_onSource, .inl (cZ, 576, .inl M_onSource)), (aM_onClaim, .inl (cZ, 576, .inl M_onClaim)), (aM_held, .inl (cZ, 24, .inl (upd M_held x3.toNatClampNeg (vp_nar .boolean (1 : Int32)))))] := hD
              refine lv_iinc (v := x4 + 1) (lv' := [(4, .int (x4 + 1)), (5, .int (0 : Int32)), (0, .ref aM), (1, .int x1), (2, .int x2), (3, .int x3)]) hx hb d_M_hold_113 hl (k := 5) rfl rfl (by decide) rfl (fun ls hl => ?_)
              refine lv_goto (tgt := 18) hx hb d_M_hold_116 (by decide) ?_
              exact ih (x4 + 1) (upd M_held x3.toNatClampNeg (vp_nar .boolean (1 : Int32))) hw _ _ (hP.sub [0, 1, 2, 3, 4, 5] rfl) (hD.sub [0, 1, 2, 3, 4, 5] (by decide) rfl) hS ls (lv_sub hl [2, 3, 4, 5, 0] rfl)
            · have hw := hw.1 c_27
              refine lv_aload_n hx hb d_M_hold_87 rfl (lv_at hl 1 rfl) ?_
              refine va_get (D := (dC, dI)) (ci := 5) (v := .ref aM_onSource) (C := "ClaimSourcesModel") (T := TT_5) (N := 28) hx hb hts hi_5 hown hK hP 0 rfl rfl 12 (by decide) hf_34 (fun _ h9 => h9) rfl d_M_hold_88 ?_
              refine lv_bipush (v := 24) hx hb d_M_hold_91 (by decide) ?_
              refine lv_iload_n hx hb d_M_hold_93 rfl (lv_at hl 4 rfl) ?_
              refine lv_imul hx hb d_M_hold_94 ?_
              refine lv_iload hx hb d_M_hold_95 (lv_at hl 5 rfl) ?_
              refine lv_iadd hx hb d_M_hold_97 ?_
              obtain ⟨h_29, hw⟩ := hw
              refine va_zald hx hb hK hP 3 1 rfl rfl h_29 d_M_hold_98 ?_
              refine lv_if_eq (tgt := 111) hx hb d_M_hold_99 (by decide) (fun c_30 => ?_) (fun c_30 => ?_)
              · have hw := hw.1 c_30
                refine lv_iconst (v := 0) hx hb d_M_hold_111 (by decide) ?_
                obtain ⟨h_31, hw⟩ := hw
                refine va_zast hx hb hK hP hD hS 5 1 rfl rfl h_31 d_M_hold_112 (fun H locs hP hD hS => ?_)
                have hP : va_P (dC, dI) vwCl [(aM, .inr (5, [.int M_thrown, .int M_padded, .ref aM_pad, .int M_sources, .ref aM_kinds, .ref aM_days, .ref aM_withdrawn, .ref aM_lengths, .ref aM_texts, .ref aM_formLengths, .ref aM_forms, .int M_claims, .ref aM_onSource, .ref aM_onClaim, .ref aM_rules, .int M_rings, .ref aM_ring, .ref aM_far, .ref aM_held, .ref aM_heldBefore, .int M_opinions, .ref aM_persons, .ref aM_ofClaims, .ref aM_values, .ref aM_when, .ref aM_ranks, .ref aM_known, .ref aM_counts])), (aM_days, .inl (cI, 24, .inl M_days)), (aM_withdrawn, .inl (cI, 24, .inl M_withdrawn)), (aM_onSource, .inl (cZ, 576, .inl M_onSource)), (aM_onClaim, .inl (cZ, 576, .inl M_onClaim)), (aM_held, .inl (cZ, 24, .inl (upd M_held x3.toNatClampNeg (vp_nar .boolean (0 : Int32)))))] H := hP
                have hD : va_D A [(aM, .inr (5, [.int M_thrown, .int M_padded, .ref aM_pad, .int M_sources, .ref aM_kinds, .ref aM_days, .ref aM_withdrawn, .ref aM_lengths, .ref aM_texts, .ref aM_formLengths, .ref aM_forms, .int M_claims, .ref aM_onSource, .ref aM_onClaim, .ref aM_rules, .int M_rings, .ref aM_ring, .ref aM_far, .ref aM_held, .ref aM_heldBefore, .int M_opinions, .ref aM_persons, .ref aM_ofClaims, .ref aM_values, .ref aM_when, .ref aM_ranks, .ref aM_known, .ref aM_counts])), (aM_days, .inl (cI, 24, .inl M_days)), (aM_withdrawn, .inl (cI, 24, .inl M_withdrawn)), (aM_onSource, .inl (cZ, 576, .inl M_onSource)), (aM_onClaim, .inl (cZ, 576, .inl M_onClaim)), (aM_held, .inl (cZ, 24, .inl (upd M_held x3.toNatClampNeg (vp_nar .boolean (0 : Int32)))))] := hD
                refine lv_iinc (v := x4 + 1) (lv' := [(4, .int (x4 + 1)), (5, .int (0 : Int32)), (0, .ref aM), (1, .int x1), (2, .int x2), (3, .int x3)]) hx hb d_M_hold_113 hl (k := 5) rfl rfl (by decide) rfl (fun ls hl => ?_)
                refine lv_goto (tgt := 18) hx hb d_M_hold_116 (by decide) ?_
                exact ih (x4 + 1) (upd M_held x3.toNatClampNeg (vp_nar .boolean (0 : Int32))) hw _ _ (hP.sub [0, 1, 2, 3, 4, 5] rfl) (hD.sub [0, 1, 2, 3, 4, 5] (by decide) rfl) hS ls (lv_sub hl [2, 3, 4, 5, 0] rfl)
              · have hw := hw.2 c_30
                refine lv_iload hx hb d_M_hold_102 (lv_at hl 0 rfl) ?_
                refine lv_if_eq (tgt := 111) hx hb d_M_hold_104 (by decide) (fun _ => ?_) (fun h9 => absurd h9 (by decide))
                refine lv_iconst (v := 0) hx hb d_M_hold_111 (by decide) ?_
                obtain ⟨h_33, hw⟩ := hw
                refine va_zast hx hb hK hP hD hS 5 1 rfl rfl h_33 d_M_hold_112 (fun H locs hP hD hS => ?_)
                have hP : va_P (dC, dI) vwCl [(aM, .inr (5, [.int M_thrown, .int M_padded, .ref aM_pad, .int M_sources, .ref aM_kinds, .ref aM_days, .ref aM_withdrawn, .ref aM_lengths, .ref aM_texts, .ref aM_formLengths, .ref aM_forms, .int M_claims, .ref aM_onSource, .ref aM_onClaim, .ref aM_rules, .int M_rings, .ref aM_ring, .ref aM_far, .ref aM_held, .ref aM_heldBefore, .int M_opinions, .ref aM_persons, .ref aM_ofClaims, .ref aM_values, .ref aM_when, .ref aM_ranks, .ref aM_known, .ref aM_counts])), (aM_days, .inl (cI, 24, .inl M_days)), (aM_withdrawn, .inl (cI, 24, .inl M_withdrawn)), (aM_onSource, .inl (cZ, 576, .inl M_onSource)), (aM_onClaim, .inl (cZ, 576, .inl M_onClaim)), (aM_held, .inl (cZ, 24, .inl (upd M_held x3.toNatClampNeg (vp_nar .boolean (0 : Int32)))))] H := hP
                have hD : va_D A [(aM, .inr (5, [.int M_thrown, .int M_padded, .ref aM_pad, .int M_sources, .ref aM_kinds, .ref aM_days, .ref aM_withdrawn, .ref aM_lengths, .ref aM_texts, .ref aM_formLengths, .ref aM_forms, .int M_claims, .ref aM_onSource, .ref aM_onClaim, .ref aM_rules, .int M_rings, .ref aM_ring, .ref aM_far, .ref aM_held, .ref aM_heldBefore, .int M_opinions, .ref aM_persons, .ref aM_ofClaims, .ref aM_values, .ref aM_when, .ref aM_ranks, .ref aM_known, .ref aM_counts])), (aM_days, .inl (cI, 24, .inl M_days)), (aM_withdrawn, .inl (cI, 24, .inl M_withdrawn)), (aM_onSource, .inl (cZ, 576, .inl M_onSource)), (aM_onClaim, .inl (cZ, 576, .inl M_onClaim)), (aM_held, .inl (cZ, 24, .inl (upd M_held x3.toNatClampNeg (vp_nar .boolean (0 : Int32)))))] := hD
                refine lv_iinc (v := x4 + 1) (lv' := [(4, .int (x4 + 1)), (5, .int (0 : Int32)), (0, .ref aM), (1, .int x1), (2, .int x2), (3, .int x3)]) hx hb d_M_hold_113 hl (k := 5) rfl rfl (by decide) rfl (fun ls hl => ?_)
                refine lv_goto (tgt := 18) hx hb d_M_hold_116 (by decide) ?_
                exact ih (x4 + 1) (upd M_held x3.toNatClampNeg (vp_nar .boolean (0 : Int32))) hw _ _ (hP.sub [0, 1, 2, 3, 4, 5] rfl) (hD.sub [0, 1, 2, 3, 4, 5] (by decide) rfl) hS ls (lv_sub hl [2, 3, 4, 5, 0] rfl)
          · have hw := hw.2 c_25
            refine lv_aload_n hx hb d_M_hold_44 rfl (lv_at hl 0 rfl) ?_
            refine va_get (D := (dC, dI)) (ci := 5) (v := .ref aM_withdrawn) (C := "ClaimSourcesModel") (T := TT_5) (N := 28) hx hb hts hi_5 hown hK hP 0 rfl rfl 6 (by decide) hf_19 (fun _ h9 => h9) rfl d_M_hold_45 ?_
            refine lv_iload hx hb d_M_hold_48 (lv_at hl 4 rfl) ?_
            obtain ⟨h_34, hw⟩ := hw
            refine va_iald hx hb hK hP 2 0 rfl rfl h_34 d_M_hold_50 ?_
            refine lv_iconst (v := -1) hx hb d_M_hold_51 (by decide) ?_
            refine lv_icmp_eq (tgt := 66) hx hb d_M_hold_52 (by decide) (fun c_35 => ?_) (fun c_35 => ?_)
            · have hw := hw.1 c_35
              refine lv_iconst (v := 1) hx hb d_M_hold_66 (by decide) ?_
              refine lv_goto (tgt := 71) hx hb d_M_hold_67 (by decide) ?_
              refine lv_istore (lv' := [(5, .int (1 : Int32)), (0, .ref aM), (1, .int x1), (2, .int x2), (3, .int x3), (4, .int x4)]) hx hb d_M_hold_71 hl (by decide) rfl (fun ls hl => ?_)
              refine lv_aload_n hx hb d_M_hold_73 rfl (lv_at hl 1 rfl) ?_
              refine va_get (D := (dC, dI)) (ci := 5) (v := .ref aM_held) (C := "ClaimSourcesModel") (T := TT_5) (N := 28) hx hb hts hi_5 hown hK hP 0 rfl rfl 18 (by decide) hf_50 (fun _ h9 => h9) rfl d_M_hold_74 ?_
              refine lv_iload_n hx hb d_M_hold_77 rfl (lv_at hl 4 rfl) ?_
              refine lv_aload_n hx hb d_M_hold_78 rfl (lv_at hl 1 rfl) ?_
              refine va_get (D := (dC, dI)) (ci := 5) (v := .ref aM_held) (C := "ClaimSourcesModel") (T := TT_5) (N := 28) hx hb hts hi_5 hown hK hP 0 rfl rfl 18 (by decide) hf_50 (fun _ h9 => h9) rfl d_M_hold_79 ?_
              refine lv_iload_n hx hb d_M_hold_82 rfl (lv_at hl 4 rfl) ?_
              obtain ⟨h_36, hw⟩ := hw
              refine va_zald hx hb hK hP 5 1 rfl rfl h_36 d_M_hold_83 ?_
              refine lv_if_ne (tgt := 107) hx hb d_M_hold_84 (by decide) (fun c_37 => ?_) (fun c_37 => ?_)
              · have hw := hw.2 c_37
                refine lv_iconst (v := 1) hx hb d_M_hold_107 (by decide) ?_
                refine lv_goto (tgt := 112) hx hb d_M_hold_108 (by decide) ?_
                obtain ⟨h_38, hw⟩ := hw
                refine va_zast hx hb hK hP hD hS 5 1 rfl rfl h_38 d_M_hold_112 (fun H locs hP hD hS => ?_)
                have hP : va_P (dC, dI) vwCl [(aM, .inr (5, [.int M_thrown, .int M_padded, .ref aM_pad, .int M_sources, .ref aM_kinds, .ref aM_days, .ref aM_withdrawn, .ref aM_lengths, .ref aM_texts, .ref aM_formLengths, .ref aM_forms, .int M_claims, .ref aM_onSource, .ref aM_onClaim, .ref aM_rules, .int M_rings, .ref aM_ring, .ref aM_far, .ref aM_held, .ref aM_heldBefore, .int M_opinions, .ref aM_persons, .ref aM_ofClaims, .ref aM_values, .ref aM_when, .ref aM_ranks, .ref aM_known, .ref aM_counts])), (aM_days, .inl (cI, 24, .inl M_days)), (aM_withdrawn, .inl (cI, 24, .inl M_withdrawn)), (aM_onSource, .inl (cZ, 576, .inl M_onSource)), (aM_onClaim, .inl (cZ, 576, .inl M_onClaim)), (aM_held, .inl (cZ, 24, .inl (upd M_held x3.toNatClampNeg (vp_nar .boolean (1 : Int32)))))] H := hP
                have hD : va_D A [(aM, .inr (5, [.int M_thrown, .int M_padded, .ref aM_pad, .int M_sources, .ref aM_kinds, .ref aM_days, .ref aM_withdrawn, .ref aM_lengths, .ref aM_texts, .ref aM_formLengths, .ref aM_forms, .int M_claims, .ref aM_onSource, .ref aM_onClaim, .ref aM_rules, .int M_rings, .ref aM_ring, .ref aM_far, .ref aM_held, .ref aM_heldBefore, .int M_opinions, .ref aM_persons, .ref aM_ofClaims, .ref aM_values, .ref aM_when, .ref aM_ranks, .ref aM_known, .ref aM_counts])), (aM_days, .inl (cI, 24, .inl M_days)), (aM_withdrawn, .inl (cI, 24, .inl M_withdrawn)), (aM_onSource, .inl (cZ, 576, .inl M_onSource)), (aM_onClaim, .inl (cZ, 576, .inl M_onClaim)), (aM_held, .inl (cZ, 24, .inl (upd M_held x3.toNatClampNeg (vp_nar .boolean (1 : Int32)))))] := hD
                refine lv_iinc (v := x4 + 1) (lv' := [(4, .int (x4 + 1)), (5, .int (1 : Int32)), (0, .ref aM), (1, .int x1), (2, .int x2), (3, .int x3)]) hx hb d_M_hold_113 hl (k := 5) rfl rfl (by decide) rfl (fun ls hl => ?_)
                refine lv_goto (tgt := 18) hx hb d_M_hold_116 (by decide) ?_
                exact ih (x4 + 1) (upd M_held x3.toNatClampNeg (vp_nar .boolean (1 : Int32))) hw _ _ (hP.sub [0, 1, 2, 3, 4, 5] rfl) (hD.sub [0, 1, 2, 3, 4, 5] (by decide) rfl) hS ls (lv_sub hl [2, 3, 4, 5, 0] rfl)
              · have hw := hw.1 c_37
                refine lv_aload_n hx hb d_M_hold_87 rfl (lv_at hl 1 rfl) ?_
                refine va_get (D := (dC, dI)) (ci := 5) (v := .ref aM_onSource) (C := "ClaimSourcesModel") (T := TT_5) (N := 28) hx hb hts hi_5 hown hK hP 0 rfl rfl 12 (by decide) hf_34 (fun _ h9 => h9) rfl d_M_hold_88 ?_
                refine lv_bipush (v := 24) hx hb d_M_hold_91 (by decide) ?_
                refine lv_iload_n hx hb d_M_hold_93 rfl (lv_at hl 4 rfl) ?_
                refine lv_imul hx hb d_M_hold_94 ?_
                refine lv_iload hx hb d_M_hold_95 (lv_at hl 5 rfl) ?_
                refine lv_iadd hx hb d_M_hold_97 ?_
                obtain ⟨h_39, hw⟩ := hw
                refine va_zald hx hb hK hP 3 1 rfl rfl h_39 d_M_hold_98 ?_
                refine lv_if_eq (tgt := 111) hx hb d_M_hold_99 (by decide) (fun c_40 => ?_) (fun c_40 => ?_)
                · have hw := hw.1 c_40
                  refine lv_iconst (v := 0) hx hb d_M_hold_111 (by decide) ?_
                  obtain ⟨h_41, hw⟩ := hw
                  refine va_zast hx hb hK hP hD hS 5 1 rfl rfl h_41 d_M_hold_112 (fun H locs hP hD hS => ?_)
                  have hP : va_P (dC, dI) vwCl [(aM, .inr (5, [.int M_thrown, .int M_padded, .ref aM_pad, .int M_sources, .ref aM_kinds, .ref aM_days, .ref aM_withdrawn, .ref aM_lengths, .ref aM_texts, .ref aM_formLengths, .ref aM_forms, .int M_claims, .ref aM_onSource, .ref aM_onClaim, .ref aM_rules, .int M_rings, .ref aM_ring, .ref aM_far, .ref aM_held, .ref aM_heldBefore, .int M_opinions, .ref aM_persons, .ref aM_ofClaims, .ref aM_values, .ref aM_when, .ref aM_ranks, .ref aM_known, .ref aM_counts])), (aM_days, .inl (cI, 24, .inl M_days)), (aM_withdrawn, .inl (cI, 24, .inl M_withdrawn)), (aM_onSource, .inl (cZ, 576, .inl M_onSource)), (aM_onClaim, .inl (cZ, 576, .inl M_onClaim)), (aM_held, .inl (cZ, 24, .inl (upd M_held x3.toNatClampNeg (vp_nar .boolean (0 : Int32)))))] H := hP
                  have hD : va_D A [(aM, .inr (5, [.int M_thrown, .int M_padded, .ref aM_pad, .int M_sources, .ref aM_kinds, .ref aM_days, .ref aM_withdrawn, .ref aM_lengths, .ref aM_texts, .ref aM_formLengths, .ref aM_forms, .int M_claims, .ref aM_onSource, .ref aM_onClaim, .ref aM_rules, .int M_rings, .ref aM_ring, .ref aM_far, .ref aM_held, .ref aM_heldBefore, .int M_opinions, .ref aM_persons, .ref aM_ofClaims, .ref aM_values, .ref aM_when, .ref aM_ranks, .ref aM_known, .ref aM_counts])), (aM_days, .inl (cI, 24, .inl M_days)), (aM_withdrawn, .inl (cI, 24, .inl M_withdrawn)), (aM_onSource, .inl (cZ, 576, .inl M_onSource)), (aM_onClaim, .inl (cZ, 576, .inl M_onClaim)), (aM_held, .inl (cZ, 24, .inl (upd M_held x3.toNatClampNeg (vp_nar .boolean (0 : Int32)))))] := hD
                  refine lv_iinc (v := x4 + 1) (lv' := [(4, .int (x4 + 1)), (5, .int (1 : Int32)), (0, .ref aM), (1, .int x1), (2, .int x2), (3, .int x3)]) hx hb d_M_hold_113 hl (k := 5) rfl rfl (by decide) rfl (fun ls hl => ?_)
                  refine lv_goto (tgt := 18) hx hb d_M_hold_116 (by decide) ?_
                  exact ih (x4 + 1) (upd M_held x3.toNatClampNeg (vp_nar .boolean (0 : Int32))) hw _ _ (hP.sub [0, 1, 2, 3, 4, 5] rfl) (hD.sub [0, 1, 2, 3, 4, 5] (by decide) rfl) hS ls (lv_sub hl [2, 3, 4, 5, 0] rfl)
                · have hw := hw.2 c_40
                  refine lv_iload hx hb d_M_hold_102 (lv_at hl 0 rfl) ?_
                  refine lv_if_eq (tgt := 111) hx hb d_M_hold_104 (by decide) (fun h9 => absurd h9 (by decide)) (fun _ => ?_)
                  refine lv_iconst (v := 1) hx hb d_M_hold_107 (by decide) ?_
                  refine lv_goto (tgt := 112) hx hb d_M_hold_108 (by decide) ?_
                  obtain ⟨h_43, hw⟩ := hw
                  refine va_zast hx hb hK hP hD hS 5 1 rfl rfl h_43 d_M_hold_112 (fun H locs hP hD hS => ?_)
                  have hP : va_P (dC, dI) vwCl [(aM, .inr (5, [.int M_thrown, .int M_padded, .ref aM_pad, .int M_sources, .ref aM_kinds, .ref aM_days, .ref aM_withdrawn, .ref aM_lengths, .ref aM_texts, .ref aM_formLengths, .ref aM_forms, .int M_claims, .ref aM_onSource, .ref aM_onClaim, .ref aM_rules, .int M_rings, .ref aM_ring, .ref aM_far, .ref aM_held, .ref aM_heldBefore, .int M_opinions, .ref aM_persons, .ref aM_ofClaims, .ref aM_values, .ref aM_when, .ref aM_ranks, .ref aM_known, .ref aM_counts])), (aM_days, .inl (cI, 24, .inl M_days)), (aM_withdrawn, .inl (cI, 24, .inl M_withdrawn)), (aM_onSource, .inl (cZ, 576, .inl M_onSource)), (aM_onClaim, .inl (cZ, 576, .inl M_onClaim)), (aM_held, .inl (cZ, 24, .inl (upd M_held x3.toNatClampNeg (vp_nar .boolean (1 : Int32)))))] H := hP
                  have hD : va_D A [(aM, .inr (5, [.int M_thrown, .int M_padded, .ref aM_pad, .int M_sources, .ref aM_kinds, .ref aM_days, .ref aM_withdrawn, .ref aM_lengths, .ref aM_texts, .ref aM_formLengths, .ref aM_forms, .int M_claims, .ref aM_onSource, .ref aM_onClaim, .ref aM_rules, .int M_rings, .ref aM_ring, .ref aM_far, .ref aM_held, .ref aM_heldBefore, .int M_opinions, .ref aM_persons, .ref aM_ofClaims, .ref aM_values, .ref aM_when, .ref aM_ranks, .ref aM_known, .ref aM_counts])), (aM_days, .inl (cI, 24, .inl M_days)), (aM_withdrawn, .inl (cI, 24, .inl M_withdrawn)), (aM_onSource, .inl (cZ, 576, .inl M_onSource)), (aM_onClaim, .inl (cZ, 576, .inl M_onClaim)), (aM_held, .inl (cZ, 24, .inl (upd M_held x3.toNatClampNeg (vp_nar .boolean (1 : Int32)))))] := hD
                  refine lv_iinc (v := x4 + 1) (lv' := [(4, .int (x4 + 1)), (5, .int (1 : Int32)), (0, .ref aM), (1, .int x1), (2, .int x2), (3, .int x3)]) hx hb d_M_hold_113 hl (k := 5) rfl rfl (by decide) rfl (fun ls hl => ?_)
                  refine lv_goto (tgt := 18) hx hb d_M_hold_116 (by decide) ?_
                  exact ih (x4 + 1) (upd M_held x3.toNatClampNeg (vp_nar .boolean (1 : Int32))) hw _ _ (hP.sub [0, 1, 2, 3, 4, 5] rfl) (hD.sub [0, 1, 2, 3, 4, 5] (by decide) rfl) hS ls (lv_sub hl [2, 3, 4, 5, 0] rfl)
            · have hw := hw.2 c_35
              refine lv_aload_n hx hb d_M_hold_55 rfl (lv_at hl 0 rfl) ?_
              refine va_get (D := (dC, dI)) (ci := 5) (v := .ref aM_withdrawn) (C := "ClaimSourcesModel") (T := TT_5) (N := 28) hx hb hts hi_5 hown hK hP 0 rfl rfl 6 (by decide) hf_19 (fun _ h9 => h9) rfl d_M_hold_56 ?_
              refine lv_iload hx hb d_M_hold_59 (lv_at hl 4 rfl) ?_
              obtain ⟨h_44, hw⟩ := hw
              refine va_iald hx hb hK hP 2 0 rfl rfl h_44 d_M_hold_61 ?_
              refine lv_iload_n hx hb d_M_hold_62 rfl (lv_at hl 1 rfl) ?_
              refine lv_icmp_le (tgt := 70) hx hb d_M_hold_63 (by decide) (fun c_45 => ?_) (fun c_45 => ?_)
              · have hw := hw.1 c_45
                refine lv_iconst (v := 0) hx hb d_M_hold_70 (by decide) ?_
                refine lv_istore (lv' := [(5, .int (0 : Int32)), (0, .ref aM), (1, .int x1), (2, .int x2), (3, .int x3), (4, .int x4)]) hx hb d_M_hold_71 hl (by decide) rfl (fun ls hl => ?_)
                refine lv_aload_n hx hb d_M_hold_73 rfl (lv_at hl 1 rfl) ?_
                refine va_get (D := (dC, dI)) (ci := 5) (v := .ref aM_held) (C := "ClaimSourcesModel") (T := TT_5) (N := 28) hx hb hts hi_5 hown hK hP 0 rfl rfl 18 (by decide) hf_50 (fun _ h9 => h9) rfl d_M_hold_74 ?_
                refine lv_iload_n hx hb d_M_hold_77 rfl (lv_at hl 4 rfl) ?_
                refine lv_aload_n hx hb d_M_hold_78 rfl (lv_at hl 1 rfl) ?_
                refine va_get (D := (dC, dI)) (ci := 5) (v := .ref aM_held) (C := "ClaimSourcesModel") (T := TT_5) (N := 28) hx hb hts hi_5 hown hK hP 0 rfl rfl 18 (by decide) hf_50 (fun _ h9 => h9) rfl d_M_hold_79 ?_
                refine lv_iload_n hx hb d_M_hold_82 rfl (lv_at hl 4 rfl) ?_
                obtain ⟨h_46, hw⟩ := hw
                refine va_zald hx hb hK hP 5 1 rfl rfl h_46 d_M_hold_83 ?_
                refine lv_if_ne (tgt := 107) hx hb d_M_hold_84 (by decide) (fun c_47 => ?_) (fun c_47 => ?_)
                · have hw := hw.2 c_47
                  refine lv_iconst (v := 1) hx hb d_M_hold_107 (by decide) ?_
                  refine lv_goto (tgt := 112) hx hb d_M_hold_108 (by decide) ?_
                  obtain ⟨h_48, hw⟩ := hw
                  refine va_zast hx hb hK hP hD hS 5 1 rfl rfl h_48 d_M_hold_112 (fun H locs hP hD hS => ?_)
                  have hP : va_P (dC, dI) vwCl [(aM, .inr (5, [.int M_thrown, .int M_padded, .ref aM_pad, .int M_sources, .ref aM_kinds, .ref aM_days, .ref aM_withdrawn, .ref aM_lengths, .ref aM_texts, .ref aM_formLengths, .ref aM_forms, .int M_claims, .ref aM_onSource, .ref aM_onClaim, .ref aM_rules, .int M_rings, .ref aM_ring, .ref aM_far, .ref aM_held, .ref aM_heldBefore, .int M_opinions, .ref aM_persons, .ref aM_ofClaims, .ref aM_values, .ref aM_when, .ref aM_ranks, .ref aM_known, .ref aM_counts])), (aM_days, .inl (cI, 24, .inl M_days)), (aM_withdrawn, .inl (cI, 24, .inl M_withdrawn)), (aM_onSource, .inl (cZ, 576, .inl M_onSource)), (aM_onClaim, .inl (cZ, 576, .inl M_onClaim)), (aM_held, .inl (cZ, 24, .inl (upd M_held x3.toNatClampNeg (vp_nar .boolean (1 : Int32)))))] H := hP
                  have hD : va_D A [(aM, .inr (5, [.int M_thrown, .int M_padded, .ref aM_pad, .int M_sources, .ref aM_kinds, .ref aM_days, .ref aM_withdrawn, .ref aM_lengths, .ref aM_texts, .ref aM_formLengths, .ref aM_forms, .int M_claims, .ref aM_onSource, .ref aM_onClaim, .ref aM_rules, .int M_rings, .ref aM_ring, .ref aM_far, .ref aM_held, .ref aM_heldBefore, .int M_opinions, .ref aM_persons, .ref aM_ofClaims, .ref aM_values, .ref aM_when, .ref aM_ranks, .ref aM_known, .ref aM_counts])), (aM_days, .inl (cI, 24, .inl M_days)), (aM_withdrawn, .inl (cI, 24, .inl M_withdrawn)), (aM_onSource, .inl (cZ, 576, .inl M_onSource)), (aM_onClaim, .inl (cZ, 576, .inl M_onClaim)), (aM_held, .inl (cZ, 24, .inl (upd M_held x3.toNatClampNeg (vp_nar .boolean (1 : Int32)))))] := hD
                  refine lv_iinc (v := x4 + 1) (lv' := [(4, .int (x4 + 1)), (5, .int (0 : Int32)), (0, .ref aM), (1, .int x1), (2, .int x2), (3, .int x3)]) hx hb d_M_hold_113 hl (k := 5) rfl rfl (by decide) rfl (fun ls hl => ?_)
                  refine lv_goto (tgt := 18) hx hb d_M_hold_116 (by decide) ?_
                  exact ih (x4 + 1) (upd M_held x3.toNatClampNeg (vp_nar .boolean (1 : Int32))) hw _ _ (hP.sub [0, 1, 2, 3, 4, 5] rfl) (hD.sub [0, 1, 2, 3, 4, 5] (by decide) rfl) hS ls (lv_sub hl [2, 3, 4, 5, 0] rfl)
                · have hw := hw.1 c_47
                  refine lv_aload_n hx hb d_M_hold_87 rfl (lv_at hl 1 rfl) ?_
                  refine va_get (D := (dC, dI)) (ci := 5) (v := .ref aM_onSource) (C := "ClaimSourcesModel") (T := TT_5) (N := 28) hx hb hts hi_5 hown hK hP 0 rfl rfl 12 (by decide) hf_34 (fun _ h9 => h9) rfl d_M_hold_88 ?_
                  refine lv_bipush (v := 24) hx hb d_M_hold_91 (by decide) ?_
                  refine lv_iload_n hx hb d_M_hold_93 rfl (lv_at hl 4 rfl) ?_
                  refine lv_imul hx hb d_M_hold_94 ?_
                  refine lv_iload hx hb d_M_hold_95 (lv_at hl 5 rfl) ?_
                  refine lv_iadd hx hb d_M_hold_97 ?_
                  obtain ⟨h_49, hw⟩ := hw
                  refine va_zald hx hb hK hP 3 1 rfl rfl h_49 d_M_hold_98 ?_
                  refine lv_if_eq (tgt := 111) hx hb d_M_hold_99 (by decide) (fun c_50 => ?_) (fun c_50 => ?_)
                  · have hw := hw.1 c_50
                    refine lv_iconst (v := 0) hx hb d_M_hold_111 (by decide) ?_
                    obtain ⟨h_51, hw⟩ := hw
                    refine va_zast hx hb hK hP hD hS 5 1 rfl rfl h_51 d_M_hold_112 (fun H locs hP hD hS => ?_)
                    have hP : va_P (dC, dI) vwCl [(aM, .inr (5, [.int M_thrown, .int M_padded, .ref aM_pad, .int M_sources, .ref aM_kinds, .ref aM_days, .ref aM_withdrawn, .ref aM_lengths, .ref aM_texts, .ref aM_formLengths, .ref aM_forms, .int M_claims, .ref aM_onSource, .ref aM_onClaim, .ref aM_rules, .int M_rings, .ref aM_ring, .ref aM_far, .ref aM_held, .ref aM_heldBefore, .int M_opinions, .ref aM_persons, .ref aM_ofClaims, .ref aM_values, .ref aM_when, .ref aM_ranks, .ref aM_known, .ref aM_counts])), (aM_days, .inl (cI, 24, .inl M_days)), (aM_withdrawn, .inl (cI, 24, .inl M_withdrawn)), (aM_onSource, .inl (cZ, 576, .inl M_onSource)), (aM_onClaim, .inl (cZ, 576, .inl M_onClaim)), (aM_held, .inl (cZ, 24, .inl (upd M_held x3.toNatClampNeg (vp_nar .boolean (0 : Int32)))))] H := hP
                    have hD : va_D A [(aM, .inr (5, [.int M_thrown, .int M_padded, .ref aM_pad, .int M_sources, .ref aM_kinds, .ref aM_days, .ref aM_withdrawn, .ref aM_lengths, .ref aM_texts, .ref aM_formLengths, .ref aM_forms, .int M_claims, .ref aM_onSource, .ref aM_onClaim, .ref aM_rules, .int M_rings, .ref aM_ring, .ref aM_far, .ref aM_held, .ref aM_heldBefore, .int M_opinions, .ref aM_persons, .ref aM_ofClaims, .ref aM_values, .ref aM_when, .ref aM_ranks, .ref aM_known, .ref aM_counts])), (aM_days, .inl (cI, 24, .inl M_days)), (aM_withdrawn, .inl (cI, 24, .inl M_withdrawn)), (aM_onSource, .inl (cZ, 576, .inl M_onSource)), (aM_onClaim, .inl (cZ, 576, .inl M_onClaim)), (aM_held, .inl (cZ, 24, .inl (upd M_held x3.toNatClampNeg (vp_nar .boolean (0 : Int32)))))] := hD
                    refine lv_iinc (v := x4 + 1) (lv' := [(4, .int (x4 + 1)), (5, .int (0 : Int32)), (0, .ref aM), (1, .int x1), (2, .int x2), (3, .int x3)]) hx hb d_M_hold_113 hl (k := 5) rfl rfl (by decide) rfl (fun ls hl => ?_)
                    refine lv_goto (tgt := 18) hx hb d_M_hold_116 (by decide) ?_
                    exact ih (x4 + 1) (upd M_held x3.toNatClampNeg (vp_nar .boolean (0 : Int32))) hw _ _ (hP.sub [0, 1, 2, 3, 4, 5] rfl) (hD.sub [0, 1, 2, 3, 4, 5] (by decide) rfl) hS ls (lv_sub hl [2, 3, 4, 5, 0] rfl)
                  · have hw := hw.2 c_50
                    refine lv_iload hx hb d_M_hold_102 (lv_at hl 0 rfl) ?_
                    refine lv_if_eq (tgt := 111) hx hb d_M_hold_104 (by decide) (fun _ => ?_) (fun h9 => absurd h9 (by decide))
                    refine lv_iconst (v := 0) hx hb d_M_hold_111 (by decide) ?_
                    obtain ⟨h_53, hw⟩ := hw
                    refine va_zast hx hb hK hP hD hS 5 1 rfl rfl h_53 d_M_hold_112 (fun H locs hP hD hS => ?_)
                    have hP : va_P (dC, dI) vwCl [(aM, .inr (5, [.int M_thrown, .int M_padded, .ref aM_pad, .int M_sources, .ref aM_kinds, .ref aM_days, .ref aM_withdrawn, .ref aM_lengths, .ref aM_texts, .ref aM_formLengths, .ref aM_forms, .int M_claims, .ref aM_onSource, .ref aM_onClaim, .ref aM_rules, .int M_rings, .ref aM_ring, .ref aM_far, .ref aM_held, .ref aM_heldBefore, .int M_opinions, .ref aM_persons, .ref aM_ofClaims, .ref aM_values, .ref aM_when, .ref aM_ranks, .ref aM_known, .ref aM_counts])), (aM_days, .inl (cI, 24, .inl M_days)), (aM_withdrawn, .inl (cI, 24, .inl M_withdrawn)), (aM_onSource, .inl (cZ, 576, .inl M_onSource)), (aM_onClaim, .inl (cZ, 576, .inl M_onClaim)), (aM_held, .inl (cZ, 24, .inl (upd M_held x3.toNatClampNeg (vp_nar .boolean (0 : Int32)))))] H := hP
                    have hD : va_D A [(aM, .inr (5, [.int M_thrown, .int M_padded, .ref aM_pad, .int M_sources, .ref aM_kinds, .ref aM_days, .ref aM_withdrawn, .ref aM_lengths, .ref aM_texts, .ref aM_formLengths, .ref aM_forms, .int M_claims, .ref aM_onSource, .ref aM_onClaim, .ref aM_rules, .int M_rings, .ref aM_ring, .ref aM_far, .ref aM_held, .ref aM_heldBefore, .int M_opinions, .ref aM_persons, .ref aM_ofClaims, .ref aM_values, .ref aM_when, .ref aM_ranks, .ref aM_known, .ref aM_counts])), (aM_days, .inl (cI, 24, .inl M_days)), (aM_withdrawn, .inl (cI, 24, .inl M_withdrawn)), (aM_onSource, .inl (cZ, 576, .inl M_onSource)), (aM_onClaim, .inl (cZ, 576, .inl M_onClaim)), (aM_held, .inl (cZ, 24, .inl (upd M_held x3.toNatClampNeg (vp_nar .boolean (0 : Int32)))))] := hD
                    refine lv_iinc (v := x4 + 1) (lv' := [(4, .int (x4 + 1)), (5, .int (0 : Int32)), (0, .ref aM), (1, .int x1), (2, .int x2), (3, .int x3)]) hx hb d_M_hold_113 hl (k := 5) rfl rfl (by decide) rfl (fun ls hl => ?_)
                    refine lv_goto (tgt := 18) hx hb d_M_hold_116 (by decide) ?_
                    exact ih (x4 + 1) (upd M_held x3.toNatClampNeg (vp_nar .boolean (0 : Int32))) hw _ _ (hP.sub [0, 1, 2, 3, 4, 5] rfl) (hD.sub [0, 1, 2, 3, 4, 5] (by decide) rfl) hS ls (lv_sub hl [2, 3, 4, 5, 0] rfl)
              · have hw := hw.2 c_45
                refine lv_iconst (v := 1) hx hb d_M_hold_66 (by decide) ?_
                refine lv_goto (tgt := 71) hx hb d_M_hold_67 (by decide) ?_
                refine lv_istore (lv' := [(5, .int (1 : Int32)), (0, .ref aM), (1, .int x1), (2, .int x2), (3, .int x3), (4, .int x4)]) hx hb d_M_hold_71 hl (by decide) rfl (fun ls hl => ?_)
                refine lv_aload_n hx hb d_M_hold_73 rfl (lv_at hl 1 rfl) ?_
                refine va_get (D := (dC, dI)) (ci := 5) (v := .ref aM_held) (C := "ClaimSourcesModel") (T := TT_5) (N := 28) hx hb hts hi_5 hown hK hP 0 rfl rfl 18 (by decide) hf_50 (fun _ h9 => h9) rfl d_M_hold_74 ?_
                refine lv_iload_n hx hb d_M_hold_77 rfl (lv_at hl 4 rfl) ?_
                refine lv_aload_n hx hb d_M_hold_78 rfl (lv_at hl 1 rfl) ?_
                refine va_get (D := (dC, dI)) (ci := 5) (v := .ref aM_held) (C := "ClaimSourcesModel") (T := TT_5) (N := 28) hx hb hts hi_5 hown hK hP 0 rfl rfl 18 (by decide) hf_50 (fun _ h9 => h9) rfl d_M_hold_79 ?_
                refine lv_iload_n hx hb d_M_hold_82 rfl (lv_at hl 4 rfl) ?_
                obtain ⟨h_54, hw⟩ := hw
                refine va_zald hx hb hK hP 5 1 rfl rfl h_54 d_M_hold_83 ?_
                refine lv_if_ne (tgt := 107) hx hb d_M_hold_84 (by decide) (fun c_55 => ?_) (fun c_55 => ?_)
                · have hw := hw.2 c_55
                  refine lv_iconst (v := 1) hx hb d_M_hold_107 (by decide) ?_
                  refine lv_goto (tgt := 112) hx hb d_M_hold_108 (by decide) ?_
                  obtain ⟨h_56, hw⟩ := hw
                  refine va_zast hx hb hK hP hD hS 5 1 rfl rfl h_56 d_M_hold_112 (fun H locs hP hD hS => ?_)
                  have hP : va_P (dC, dI) vwCl [(aM, .inr (5, [.int M_thrown, .int M_padded, .ref aM_pad, .int M_sources, .ref aM_kinds, .ref aM_days, .ref aM_withdrawn, .ref aM_lengths, .ref aM_texts, .ref aM_formLengths, .ref aM_forms, .int M_claims, .ref aM_onSource, .ref aM_onClaim, .ref aM_rules, .int M_rings, .ref aM_ring, .ref aM_far, .ref aM_held, .ref aM_heldBefore, .int M_opinions, .ref aM_persons, .ref aM_ofClaims, .ref aM_values, .ref aM_when, .ref aM_ranks, .ref aM_known, .ref aM_counts])), (aM_days, .inl (cI, 24, .inl M_days)), (aM_withdrawn, .inl (cI, 24, .inl M_withdrawn)), (aM_onSource, .inl (cZ, 576, .inl M_onSource)), (aM_onClaim, .inl (cZ, 576, .inl M_onClaim)), (aM_held, .inl (cZ, 24, .inl (upd M_held x3.toNatClampNeg (vp_nar .boolean (1 : Int32)))))] H := hP
                  have hD : va_D A [(aM, .inr (5, [.int M_thrown, .int M_padded, .ref aM_pad, .int M_sources, .ref aM_kinds, .ref aM_days, .ref aM_withdrawn, .ref aM_lengths, .ref aM_texts, .ref aM_formLengths, .ref aM_forms, .int M_claims, .ref aM_onSource, .ref aM_onClaim, .ref aM_rules, .int M_rings, .ref aM_ring, .ref aM_far, .ref aM_held, .ref aM_heldBefore, .int M_opinions, .ref aM_persons, .ref aM_ofClaims, .ref aM_values, .ref aM_when, .ref aM_ranks, .ref aM_known, .ref aM_counts])), (aM_days, .inl (cI, 24, .inl M_days)), (aM_withdrawn, .inl (cI, 24, .inl M_withdrawn)), (aM_onSource, .inl (cZ, 576, .inl M_onSource)), (aM_onClaim, .inl (cZ, 576, .inl M_onClaim)), (aM_held, .inl (cZ, 24, .inl (upd M_held x3.toNatClampNeg (vp_nar .boolean (1 : Int32)))))] := hD
                  refine lv_iinc (v := x4 + 1) (lv' := [(4, .int (x4 + 1)), (5, .int (1 : Int32)), (0, .ref aM), (1, .int x1), (2, .int x2), (3, .int x3)]) hx hb d_M_hold_113 hl (k := 5) rfl rfl (by decide) rfl (fun ls hl => ?_)
                  refine lv_goto (tgt := 18) hx hb d_M_hold_116 (by decide) ?_
                  exact ih (x4 + 1) (upd M_held x3.toNatClampNeg (vp_nar .boolean (1 : Int32))) hw _ _ (hP.sub [0, 1, 2, 3, 4, 5] rfl) (hD.sub [0, 1, 2, 3, 4, 5] (by decide) rfl) hS ls (lv_sub hl [2, 3, 4, 5, 0] rfl)
                · have hw := hw.1 c_55
                  refine lv_aload_n hx hb d_M_hold_87 rfl (lv_at hl 1 rfl) ?_
                  refine va_get (D := (dC, dI)) (ci := 5) (v := .ref aM_onSource) (C := "ClaimSourcesModel") (T := TT_5) (N := 28) hx hb hts hi_5 hown hK hP 0 rfl rfl 12 (by decide) hf_34 (fun _ h9 => h9) rfl d_M_hold_88 ?_
                  refine lv_bipush (v := 24) hx hb d_M_hold_91 (by decide) ?_
                  refine lv_iload_n hx hb d_M_hold_93 rfl (lv_at hl 4 rfl) ?_
                  refine lv_imul hx hb d_M_hold_94 ?_
                  refine lv_iload hx hb d_M_hold_95 (lv_at hl 5 rfl) ?_
                  refine lv_iadd hx hb d_M_hold_97 ?_
                  obtain ⟨h_57, hw⟩ := hw
                  refine va_zald hx hb hK hP 3 1 rfl rfl h_57 d_M_hold_98 ?_
                  refine lv_if_eq (tgt := 111) hx hb d_M_hold_99 (by decide) (fun c_58 => ?_) (fun c_58 => ?_)
                  · have hw := hw.1 c_58
                    refine lv_iconst (v := 0) hx hb d_M_hold_111 (by decide) ?_
                    obtain ⟨h_59, hw⟩ := hw
                    refine va_zast hx hb hK hP hD hS 5 1 rfl rfl h_59 d_M_hold_112 (fun H locs hP hD hS => ?_)
                    have hP : va_P (dC, dI) vwCl [(aM, .inr (5, [.int M_thrown, .int M_padded, .ref aM_pad, .int M_sources, .ref aM_kinds, .ref aM_days, .ref aM_withdrawn, .ref aM_lengths, .ref aM_texts, .ref aM_formLengths, .ref aM_forms, .int M_claims, .ref aM_onSource, .ref aM_onClaim, .ref aM_rules, .int M_rings, .ref aM_ring, .ref aM_far, .ref aM_held, .ref aM_heldBefore, .int M_opinions, .ref aM_persons, .ref aM_ofClaims, .ref aM_values, .ref aM_when, .ref aM_ranks, .ref aM_known, .ref aM_counts])), (aM_days, .inl (cI, 24, .inl M_days)), (aM_withdrawn, .inl (cI, 24, .inl M_withdrawn)), (aM_onSource, .inl (cZ, 576, .inl M_onSource)), (aM_onClaim, .inl (cZ, 576, .inl M_onClaim)), (aM_held, .inl (cZ, 24, .inl (upd M_held x3.toNatClampNeg (vp_nar .boolean (0 : Int32)))))] H := hP
                    have hD : va_D A [(aM, .inr (5, [.int M_thrown, .int M_padded, .ref aM_pad, .int M_sources, .ref aM_kinds, .ref aM_days, .ref aM_withdrawn, .ref aM_lengths, .ref aM_texts, .ref aM_formLengths, .ref aM_forms, .int M_claims, .ref aM_onSource, .ref aM_onClaim, .ref aM_rules, .int M_rings, .ref aM_ring, .ref aM_far, .ref aM_held, .ref aM_heldBefore, .int M_opinions, .ref aM_persons, .ref aM_ofClaims, .ref aM_values, .ref aM_when, .ref aM_ranks, .ref aM_known, .ref aM_counts])), (aM_days, .inl (cI, 24, .inl M_days)), (aM_withdrawn, .inl (cI, 24, .inl M_withdrawn)), (aM_onSource, .inl (cZ, 576, .inl M_onSource)), (aM_onClaim, .inl (cZ, 576, .inl M_onClaim)), (aM_held, .inl (cZ, 24, .inl (upd M_held x3.toNatClampNeg (vp_nar .boolean (0 : Int32)))))] := hD
                    refine lv_iinc (v := x4 + 1) (lv' := [(4, .int (x4 + 1)), (5, .int (1 : Int32)), (0, .ref aM), (1, .int x1), (2, .int x2), (3, .int x3)]) hx hb d_M_hold_113 hl (k := 5) rfl rfl (by decide) rfl (fun ls hl => ?_)
                    refine lv_goto (tgt := 18) hx hb d_M_hold_116 (by decide) ?_
                    exact ih (x4 + 1) (upd M_held x3.toNatClampNeg (vp_nar .boolean (0 : Int32))) hw _ _ (hP.sub [0, 1, 2, 3, 4, 5] rfl) (hD.sub [0, 1, 2, 3, 4, 5] (by decide) rfl) hS ls (lv_sub hl [2, 3, 4, 5, 0] rfl)
                  · have hw := hw.2 c_58
                    refine lv_iload hx hb d_M_hold_102 (lv_at hl 0 rfl) ?_
                    refine lv_if_eq (tgt := 111) hx hb d_M_hold_104 (by decide) (fun h9 => absurd h9 (by decide)) (fun _ => ?_)
                    refine lv_iconst (v := 1) hx hb d_M_hold_107 (by decide) ?_
                    refine lv_goto (tgt := 112) hx hb d_M_hold_108 (by decide) ?_
                    obtain ⟨h_61, hw⟩ := hw
                    refine va_zast hx hb hK hP hD hS 5 1 rfl rfl h_61 d_M_hold_112 (fun H locs hP hD hS => ?_)
                    have hP : va_P (dC, dI) vwCl [(aM, .inr (5, [.int M_thrown, .int M_padded, .ref aM_pad, .int M_sources, .ref aM_kinds, .ref aM_days, .ref aM_withdrawn, .ref aM_lengths, .ref aM_texts, .ref aM_formLengths, .ref aM_forms, .int M_claims, .ref aM_onSource, .ref aM_onClaim, .ref aM_rules, .int M_rings, .ref aM_ring, .ref aM_far, .ref aM_held, .ref aM_heldBefore, .int M_opinions, .ref aM_persons, .ref aM_ofClaims, .ref aM_values, .ref aM_when, .ref aM_ranks, .ref aM_known, .ref aM_counts])), (aM_days, .inl (cI, 24, .inl M_days)), (aM_withdrawn, .inl (cI, 24, .inl M_withdrawn)), (aM_onSource, .inl (cZ, 576, .inl M_onSource)), (aM_onClaim, .inl (cZ, 576, .inl M_onClaim)), (aM_held, .inl (cZ, 24, .inl (upd M_held x3.toNatClampNeg (vp_nar .boolean (1 : Int32)))))] H := hP
                    have hD : va_D A [(aM, .inr (5, [.int M_thrown, .int M_padded, .ref aM_pad, .int M_sources, .ref aM_kinds, .ref aM_days, .ref aM_withdrawn, .ref aM_lengths, .ref aM_texts, .ref aM_formLengths, .ref aM_forms, .int M_claims, .ref aM_onSource, .ref aM_onClaim, .ref aM_rules, .int M_rings, .ref aM_ring, .ref aM_far, .ref aM_held, .ref aM_heldBefore, .int M_opinions, .ref aM_persons, .ref aM_ofClaims, .ref aM_values, .ref aM_when, .ref aM_ranks, .ref aM_known, .ref aM_counts])), (aM_days, .inl (cI, 24, .inl M_days)), (aM_withdrawn, .inl (cI, 24, .inl M_withdrawn)), (aM_onSource, .inl (cZ, 576, .inl M_onSource)), (aM_onClaim, .inl (cZ, 576, .inl M_onClaim)), (aM_held, .inl (cZ, 24, .inl (upd M_held x3.toNatClampNeg (vp_nar .boolean (1 : Int32)))))] := hD
                    refine lv_iinc (v := x4 + 1) (lv' := [(4, .int (x4 + 1)), (5, .int (1 : Int32)), (0, .ref aM), (1, .int x1), (2, .int x2), (3, .int x3)]) hx hb d_M_hold_113 hl (k := 5) rfl rfl (by decide) rfl (fun ls hl => ?_)
                    refine lv_goto (tgt := 18) hx hb d_M_hold_116 (by decide) ?_
                    exact ih (x4 + 1) (upd M_held x3.toNatClampNeg (vp_nar .boolean (1 : Int32))) hw _ _ (hP.sub [0, 1, 2, 3, 4, 5] rfl) (hD.sub [0, 1, 2, 3, 4, 5] (by decide) rfl) hS ls (lv_sub hl [2, 3, 4, 5, 0] rfl)
  have L2 : ∀ (x1 : Int32) (x2 : Int32) (n : Nat) (x3 : Int32) (M_held : Nat → Int32), wl_M_hold_2 M_sources M_days M_withdrawn M_claims M_onSource M_onClaim x1 x2 post n x3 M_held → ∀ (H : Heap) (locs : List Loc), va_P (dC, dI) vwCl [(aM, .inr (5, [.int M_thrown, .int M_padded, .ref aM_pad, .int M_sources, .ref aM_kinds, .ref aM_days, .ref aM_withdrawn, .ref aM_lengths, .ref aM_texts, .ref aM_formLengths, .ref aM_forms, .int M_claims, .ref aM_onSource, .ref aM_onClaim, .ref aM_rules, .int M_rings, .ref aM_ring, .ref aM_far, .ref aM_held, .ref aM_heldBefore, .int M_opinions, .ref aM_persons, .ref aM_ofClaims, .ref aM_values, .ref aM_when, .ref aM_ranks, .ref aM_known, .ref aM_counts])), (aM_days, .inl (cI, 24, .inl M_days)), (aM_withdrawn, .inl (cI, 24, .inl M_withdrawn)), (aM_onSource, .inl (cZ, 576, .inl M_onSource)), (aM_onClaim, .inl (cZ, 576, .inl M_onClaim)), (aM_held, .inl (cZ, 24, .inl M_held))] H → va_D A [(aM, .inr (5, [.int M_thrown, .int M_padded, .ref aM_pad, .int M_sources, .ref aM_kinds, .ref aM_days, .ref aM_withdrawn, .ref aM_lengths, .ref aM_texts, .ref aM_formLengths, .ref aM_forms, .int M_claims, .ref aM_onSource, .ref aM_onClaim, .ref aM_rules, .int M_rings, .ref aM_ring, .ref aM_far, .ref aM_held, .ref aM_heldBefore, .int M_opinions, .ref aM_persons, .ref aM_ofClaims, .ref aM_values, .ref aM_when, .ref aM_ranks, .ref aM_known, .ref aM_counts])), (aM_days, .inl (cI, 24, .inl M_days)), (aM_withdrawn, .inl (cI, 24, .inl M_withdrawn)), (aM_onSource, .inl (cZ, 576, .inl M_onSource)), (aM_onClaim, .inl (cZ, 576, .inl M_onClaim)), (aM_held, .inl (cZ, 24, .inl M_held))] → va_S A s.heap H locs → ∀ (ls : Array Slot), lv_has ls 6 [(0, .ref aM), (1, .int x1), (2, .int x2), (3, .int x3)] → W p l e (headSpec w_M_hold ({ frames := 0, cells := 0, slots := 0, locals := 0 })).room s m args below meth c H locs 0 0 Q0 (F0 m 2 ls []) := by
    intro x1 x2
    intro n
    induction n with
    | zero =>
      intro x3 M_held hw
      exact False.elim hw
    | succ n ih =>
      intro x3 M_held hw H locs hP hD hS ls hl
      unfold wl_M_hold_2 at hw
      refine lv_iload_n hx hb d_M_hold_2 rfl (lv_at hl 3 rfl) ?_
      refine lv_bipush (v := 24) hx hb d_M_hold_3 (by decide) ?_
      refine lv_icmp_ge (tgt := 125) hx hb d_M_hold_5 (by decide) (fun c_62 => ?_) (fun c_62 => ?_)
      · have hw := hw.1 c_62
        refine lv_iconst (v := 0) hx hb d_M_hold_125 (by decide) ?_
        refine lv_istore_n (lv' := [(3, .int (0 : Int32)), (0, .ref aM), (1, .int x1), (2, .int x2)]) hx hb d_M_hold_126 rfl hl (by decide) rfl (fun ls hl => ?_)
        obtain ⟨n_63, hw⟩ := hw
        exact L127 n_63 (0 : Int32) M_held hw _ _ (hP.sub [0, 1, 2, 3, 4, 5] rfl) (hD.sub [0, 1, 2, 3, 4, 5] (by decide) rfl) hS ls (lv_sub hl [1, 0] rfl)
      · have hw := hw.2 c_62
        refine lv_aload_n hx hb d_M_hold_8 rfl (lv_at hl 0 rfl) ?_
        refine va_get (D := (dC, dI)) (ci := 5) (v := .ref aM_held) (C := "ClaimSourcesModel") (T := TT_5) (N := 28) hx hb hts hi_5 hown hK hP 0 rfl rfl 18 (by decide) hf_50 (fun _ h9 => h9) rfl d_M_hold_9 ?_
        refine lv_iload_n hx hb d_M_hold_12 rfl (lv_at hl 3 rfl) ?_
        refine lv_iconst (v := 0) hx hb d_M_hold_13 (by decide) ?_
        obtain ⟨h_64, hw⟩ := hw
        refine va_zast hx hb hK hP hD hS 5 1 rfl rfl h_64 d_M_hold_14 (fun H locs hP hD hS => ?_)
        have hP : va_P (dC, dI) vwCl [(aM, .inr (5, [.int M_thrown, .int M_padded, .ref aM_pad, .int M_sources, .ref aM_kinds, .ref aM_days, .ref aM_withdrawn, .ref aM_lengths, .ref aM_texts, .ref aM_formLengths, .ref aM_forms, .int M_claims, .ref aM_onSource, .ref aM_onClaim, .ref aM_rules, .int M_rings, .ref aM_ring, .ref aM_far, .ref aM_held, .ref aM_heldBefore, .int M_opinions, .ref aM_persons, .ref aM_ofClaims, .ref aM_values, .ref aM_when, .ref aM_ranks, .ref aM_known, .ref aM_counts])), (aM_days, .inl (cI, 24, .inl M_days)), (aM_withdrawn, .inl (cI, 24, .inl M_withdrawn)), (aM_onSource, .inl (cZ, 576, .inl M_onSource)), (aM_onClaim, .inl (cZ, 576, .inl M_onClaim)), (aM_held, .inl (cZ, 24, .inl (upd M_held x3.toNatClampNeg (vp_nar .boolean (0 : Int32)))))] H := hP
        have hD : va_D A [(aM, .inr (5, [.int M_thrown, .int M_padded, .ref aM_pad, .int M_sources, .ref aM_kinds, .ref aM_days, .ref aM_withdrawn, .ref aM_lengths, .ref aM_texts, .ref aM_formLengths, .ref aM_forms, .int M_claims, .ref aM_onSource, .ref aM_onClaim, .ref aM_rules, .int M_rings, .ref aM_ring, .ref aM_far, .ref aM_held, .ref aM_heldBefore, .int M_opinions, .ref aM_persons, .ref aM_ofClaims, .ref aM_values, .ref aM_when, .ref aM_ranks, .ref aM_known, .ref aM_counts])), (aM_days, .inl (cI, 24, .inl M_days)), (aM_withdrawn, .inl (cI, 24, .inl M_withdrawn)), (aM_onSource, .inl (cZ, 576, .inl M_onSource)), (aM_onClaim, .inl (cZ, 576, .inl M_onClaim)), (aM_held, .inl (cZ, 24, .inl (upd M_held x3.toNatClampNeg (vp_nar .boolean (0 : Int32)))))] := hD
        refine lv_iconst (v := 0) hx hb d_M_hold_15 (by decide) ?_
        refine lv_istore (lv' := [(4, .int (0 : Int32)), (0, .ref aM), (1, .int x1), (2, .int x2), (3, .int x3)]) hx hb d_M_hold_16 hl (by decide) rfl (fun ls hl => ?_)
        obtain ⟨n_65, hw⟩ := hw
        exact L18 x1 x2 x3 _ ih n_65 (0 : Int32) (upd M_held x3.toNatClampNeg (vp_nar .boolean (0 : Int32))) hw _ _ (hP.sub [0, 1, 2, 3, 4, 5] rfl) (hD.sub [0, 1, 2, 3, 4, 5] (by decide) rfl) hS ls (lv_sub hl [1, 2, 3, 4, 0] rfl)
  unfold wp_M_hold at hw
  refine lv_iconst (v := 0) hx hb d_M_hold_0 (by decide) ?_
  refine lv_istore_n (lv' := [(3, .int (0 : Int32)), (0, .ref aM), (1, .int x1), (2, .int x2)]) hx hb d_M_hold_1 rfl hl (by decide) rfl (fun ls hl => ?_)
  obtain ⟨n_66, hw⟩ := hw
  exact L2 x1 x2 n_66 (0 : Int32) M_held hw _ _ (hP.sub [0, 1, 2, 3, 4, 5] rfl) (hD.sub [0, 1, 2, 3, 4, 5] (by decide) rfl) hS ls (lv_sub hl [1, 2, 3, 0] rfl)
def wl_M_know_23 (M_opinions : Int32) (M_persons : Nat → Int32) (M_ofClaims : Nat → Int32) (M_when : Nat → Int32) (x1 : Int32) (x2 : Int32) (x3 : Int32) (x4 : Int32) (k5 : Int32 → Int32 → (Nat → Int32) → Prop) : Nat → Int32 → (Nat → Int32) → Prop
  | 0, _, _ => False
  | n + 1, x5, M_known => ((M_opinions ≤ x5 → (vp_in x4 32 ∧ (((M_known x4.toNatClampNeg) = (-1 : Int32) → (k5 x3 (x4 + 1) M_known)) ∧ (¬ ((M_known x4.toNatClampNeg) = (-1 : Int32)) → (k5 (x3 + (1 : Int32)) (x4 + 1) M_known))))) ∧ (¬ (M_opinions ≤ x5) → (vp_in x5 300 ∧ (((M_persons x5.toNatClampNeg) = x4 → (vp_in x5 300 ∧ (((M_ofClaims x5.toNatClampNeg) = x1 → (vp_in x5 300 ∧ ((x2 < (M_when x5.toNatClampNeg) → (vp_in x4 32 ∧ (vp_in x4 32 ∧ wl_M_know_23 M_opinions M_persons M_ofClaims M_when x1 x2 x3 x4 k5 n (x5 + 1) (upd M_known x4.toNatClampNeg (M_known x4.toNatClampNeg))))) ∧ (¬ (x2 < (M_when x5.toNatClampNeg)) → (vp_in x4 32 ∧ (((M_known x4.toNatClampNeg) = (-1 : Int32) → (vp_in x4 32 ∧ wl_M_know_23 M_opinions M_persons M_ofClaims M_when x1 x2 x3 x4 k5 n (x5 + 1) (upd M_known x4.toNatClampNeg x5))) ∧ (¬ ((M_known x4.toNatClampNeg) = (-1 : Int32)) → (vp_in x4 32 ∧ (vp_in (M_known x4.toNatClampNeg) 300 ∧ (vp_in x5 300 ∧ (((M_when x5.toNatClampNeg) ≤ (M_when (M_known x4.toNatClampNeg).toNatClampNeg) → (vp_in x4 32 ∧ (vp_in x4 32 ∧ wl_M_know_23 M_opinions M_persons M_ofClaims M_when x1 x2 x3 x4 k5 n (x5 + 1) (upd M_known x4.toNatClampNeg (M_known x4.toNatClampNeg))))) ∧ (¬ ((M_when x5.toNatClampNeg) ≤ (M_when (M_known x4.toNatClampNeg).toNatClampNeg)) → (vp_in x4 32 ∧ wl_M_know_23 M_opinions M_persons M_ofClaims M_when x1 x2 x3 x4 k5 n (x5 + 1) (upd M_known x4.toNatClampNeg x5)))))))))))))) ∧ (¬ ((M_ofClaims x5.toNatClampNeg) = x1) → (vp_in x4 32 ∧ (vp_in x4 32 ∧ wl_M_know_23 M_opinions M_persons M_ofClaims M_when x1 x2 x3 x4 k5 n (x5 + 1) (upd M_known x4.toNatClampNeg (M_known x4.toNatClampNeg)))))))) ∧ (¬ ((M_persons x5.toNatClampNeg) = x4) → (vp_in x4 32 ∧ (vp_in x4 32 ∧ wl_M_know_23 M_opinions M_persons M_ofClaims M_when x1 x2 x3 x4 k5 n (x5 + 1) (upd M_known x4.toNatClampNeg (M_known x4.toNatClampNeg)))))))))
def wl_M_know_5 (M_opinions : Int32) (M_persons : Nat → Int32) (M_ofClaims : Nat → Int32) (M_when : Nat → Int32) (x1 : Int32) (x2 : Int32) (post : Int32 → (Nat → Int32) → Prop) : Nat → Int32 → Int32 → (Nat → Int32) → Prop
  | 0, _, _, _ => False
  | n + 1, x3, x4, M_known => (((32 : Int32) ≤ x4 → (post x3 M_known)) ∧ (¬ ((32 : Int32) ≤ x4) → (vp_in x4 32 ∧ (∃ n9, wl_M_know_23 M_opinions M_persons M_ofClaims M_when x1 x2 x3 x4 (fun y0 y1 y2 => wl_M_know_5 M_opinions M_persons M_ofClaims M_when x1 x2 post n y0 y1 y2) n9 (0 : Int32) (upd M_known x4.toNatClampNeg (-1 : Int32))))))
def wp_M_know (M_thrown : Int32) (M_padded : Int32) (M_sources : Int32) (M_claims : Int32) (M_rings : Int32) (M_opinions : Int32) (M_persons : Nat → Int32) (M_ofClaims : Nat → Int32) (M_when : Nat → Int32) (M_known : Nat → Int32) (x1 : Int32) (x2 : Int32) (post : Int32 → (Nat → Int32) → Prop) : Prop := (∃ n9, wl_M_know_5 M_opinions M_persons M_ofClaims M_when x1 x2 post n9 (0 : Int32) (0 : Int32) M_known)
set_option maxHeartbeats 4000000 in
set_option maxRecDepth 100000 in
theorem mt_M_know (l : Launch) (dC : Nat → ClassId) (dI : Nat → Nat → Nat) (cI cZ : ClassId) (aM : Nat) (aM_persons : Nat) (aM_ofClaims : Nat) (aM_when : Nat) (aM_known : Nat) (aM_pad : Nat) (aM_kinds : Nat) (aM_days : Nat) (aM_withdrawn : Nat) (aM_lengths : Nat) (aM_texts : Nat) (aM_formLengths : Nat) (aM_forms : Nat) (aM_onSource : Nat) (aM_onClaim : Nat) (aM_rules : Nat) (aM_ring : Nat) (aM_far : Nat) (aM_held : Nat) (aM_heldBefore : Nat) (aM_values : Nat) (aM_ranks : Nat) (aM_counts : Nat) (sz : Nat) (post : Int32 → (Nat → Int32) → Prop) (M_thrown : Int32) (M_padded : Int32) (M_sources : Int32) (M_claims : Int32) (M_rings : Int32) (M_opinions : Int32) (M_persons : Nat → Int32) (M_ofClaims : Nat → Int32) (M_when : Nat → Int32) (M_known : Nat → Int32) (x1 : Int32) (x2 : Int32) (hw : wp_M_know M_thrown M_padded M_sources M_claims M_rings M_opinions M_persons M_ofClaims M_when M_known x1 x2 post) : Met l y_M_know w_M_know ({ frames := 0, cells := 0, slots := 0, locals := 0 }) (va_Pc [.ref aM, .int x1, .int x2] (fun U => U.heap.size = sz ∧ va_P (dC, dI) vwCl [(aM, .inr (5, [.int M_thrown, .int M_padded, .ref aM_pad, .int M_sources, .ref aM_kinds, .ref aM_days, .ref aM_withdrawn, .ref aM_lengths, .ref aM_texts, .ref aM_formLengths, .ref aM_forms, .int M_claims, .ref aM_onSource, .ref aM_onClaim, .ref aM_rules, .int M_rings, .ref aM_ring, .ref aM_far, .ref aM_held, .ref aM_heldBefore, .int M_opinions, .ref aM_persons, .ref aM_ofClaims, .ref aM_values, .ref aM_when, .ref aM_ranks, .ref aM_known, .ref aM_counts])), (aM_persons, .inl (cI, 300, .inl M_persons)), (aM_ofClaims, .inl (cI, 300, .inl M_ofClaims)), (aM_when, .inl (cI, 300, .inl M_when)), (aM_known, .inl (cI, 32, .inl M_known))] U.heap ∧ va_K (dC, dI) vwCl [(cI, .int), (cZ, .boolean)] U ∧ va_D (fun _ => True) [(aM, .inr (5, [.int M_thrown, .int M_padded, .ref aM_pad, .int M_sources, .ref aM_kinds, .ref aM_days, .ref aM_withdrawn, .ref aM_lengths, .ref aM_texts, .ref aM_formLengths, .ref aM_forms, .int M_claims, .ref aM_onSource, .ref aM_onClaim, .ref aM_rules, .int M_rings, .ref aM_ring, .ref aM_far, .ref aM_held, .ref aM_heldBefore, .int M_opinions, .ref aM_persons, .ref aM_ofClaims, .ref aM_values, .ref aM_when, .ref aM_ranks, .ref aM_known, .ref aM_counts])), (aM_persons, .inl (cI, 300, .inl M_persons)), (aM_ofClaims, .inl (cI, 300, .inl M_ofClaims)), (aM_when, .inl (cI, 300, .inl M_when)), (aM_known, .inl (cI, 32, .inl M_known))] ∧ en_ok U)) (va_Qi (fun r (u : (Nat → Int32)) => post r u) (fun (u : (Nat → Int32)) t => va_P (dC, dI) vwCl [(aM, .inr (5, [.int M_thrown, .int M_padded, .ref aM_pad, .int M_sources, .ref aM_kinds, .ref aM_days, .ref aM_withdrawn, .ref aM_lengths, .ref aM_texts, .ref aM_formLengths, .ref aM_forms, .int M_claims, .ref aM_onSource, .ref aM_onClaim, .ref aM_rules, .int M_rings, .ref aM_ring, .ref aM_far, .ref aM_held, .ref aM_heldBefore, .int M_opinions, .ref aM_persons, .ref aM_ofClaims, .ref aM_values, .ref aM_when, .ref aM_ranks, .ref aM_known, .ref aM_counts])), (aM_persons, .inl (cI, 300, .inl M_persons)), (aM_ofClaims, .inl (cI, 300, .inl M_ofClaims)), (aM_when, .inl (cI, 300, .inl M_when)), (aM_known, .inl (cI, 32, .inl u))] t.heap ∧ va_D (va_A [(aM, .inr (5, [.int M_thrown, .int M_padded, .ref aM_pad, .int M_sources, .ref aM_kinds, .ref aM_days, .ref aM_withdrawn, .ref aM_lengths, .ref aM_texts, .ref aM_formLengths, .ref aM_forms, .int M_claims, .ref aM_onSource, .ref aM_onClaim, .ref aM_rules, .int M_rings, .ref aM_ring, .ref aM_far, .ref aM_held, .ref aM_heldBefore, .int M_opinions, .ref aM_persons, .ref aM_ofClaims, .ref aM_values, .ref aM_when, .ref aM_ranks, .ref aM_known, .ref aM_counts])), (aM_persons, .inl (cI, 300, .inl M_persons)), (aM_ofClaims, .inl (cI, 300, .inl M_ofClaims)), (aM_when, .inl (cI, 300, .inl M_when)), (aM_known, .inl (cI, 32, .inl M_known))] sz) [(aM, .inr (5, [.int M_thrown, .int M_padded, .ref aM_pad, .int M_sources, .ref aM_kinds, .ref aM_days, .ref aM_withdrawn, .ref aM_lengths, .ref aM_texts, .ref aM_formLengths, .ref aM_forms, .int M_claims, .ref aM_onSource, .ref aM_onClaim, .ref aM_rules, .int M_rings, .ref aM_ring, .ref aM_far, .ref aM_held, .ref aM_heldBefore, .int M_opinions, .ref aM_persons, .ref aM_ofClaims, .ref aM_values, .ref aM_when, .ref aM_ranks, .ref aM_known, .ref aM_counts])), (aM_persons, .inl (cI, 300, .inl M_persons)), (aM_ofClaims, .inl (cI, 300, .inl M_ofClaims)), (aM_when, .inl (cI, 300, .inl M_when)), (aM_known, .inl (cI, 32, .inl u))]) (va_A [(aM, .inr (5, [.int M_thrown, .int M_padded, .ref aM_pad, .int M_sources, .ref aM_kinds, .ref aM_days, .ref aM_withdrawn, .ref aM_lengths, .ref aM_texts, .ref aM_formLengths, .ref aM_forms, .int M_claims, .ref aM_onSource, .ref aM_onClaim, .ref aM_rules, .int M_rings, .ref aM_ring, .ref aM_far, .ref aM_held, .ref aM_heldBefore, .int M_opinions, .ref aM_persons, .ref aM_ofClaims, .ref aM_values, .ref aM_when, .ref aM_ranks, .ref aM_known, .ref aM_counts])), (aM_persons, .inl (cI, 300, .inl M_persons)), (aM_ofClaims, .inl (cI, 300, .inl M_ofClaims)), (aM_when, .inl (cI, 300, .inl M_when)), (aM_known, .inl (cI, 32, .inl M_known))] sz)) 0 0 (va_A [(aM, .inr (5, [.int M_thrown, .int M_padded, .ref aM_pad, .int M_sources, .ref aM_kinds, .ref aM_days, .ref aM_withdrawn, .ref aM_lengths, .ref aM_texts, .ref aM_formLengths, .ref aM_forms, .int M_claims, .ref aM_onSource, .ref aM_onClaim, .ref aM_rules, .int M_rings, .ref aM_ring, .ref aM_far, .ref aM_held, .ref aM_heldBefore, .int M_opinions, .ref aM_persons, .ref aM_ofClaims, .ref aM_values, .ref aM_when, .ref aM_ranks, .ref aM_known, .ref aM_counts])), (aM_persons, .inl (cI, 300, .inl M_persons)), (aM_ofClaims, .inl (cI, 300, .inl M_ofClaims)), (aM_when, .inl (cI, 300, .inl M_when)), (aM_known, .inl (cI, 32, .inl M_known))] sz) := by
  refine Met.ofW (cc := prog_7_method_22_code) (maxL := 7) (ret := (some .int)) (by decide) rfl ?_
  intro p e s m args below meth c s₁ B hml hv
  obtain ⟨rfl, hsz, hP, hK, hD0, hE⟩ := hv
  have hx := B.exec
  have hb := B.bytes
  have hr := B.returns
  have hts := atoms_spec (ws := w_M_know) B.pre
  have hown : s.vm.findClass "ClaimSourcesModel" = some m.cls := findClass_of_methodNamed B.named
  have hlocks := B.notSynchronized
  subst hsz
  have hD := hD0.self (sz := s.heap.size)
  generalize hAe : va_A [(aM, .inr (5, [.int M_thrown, .int M_padded, .ref aM_pad, .int M_sources, .ref aM_kinds, .ref aM_days, .ref aM_withdrawn, .ref aM_lengths, .ref aM_texts, .ref aM_formLengths, .ref aM_forms, .int M_claims, .ref aM_onSource, .ref aM_onClaim, .ref aM_rules, .int M_rings, .ref aM_ring, .ref aM_far, .ref aM_held, .ref aM_heldBefore, .int M_opinions, .ref aM_persons, .ref aM_ofClaims, .ref aM_values, .ref aM_when, .ref aM_ranks, .ref aM_known, .ref aM_counts])), (aM_persons, .inl (cI, 300, .inl M_persons)), (aM_ofClaims, .inl (cI, 300, .inl M_ofClaims)), (aM_when, .inl (cI, 300, .inl M_when)), (aM_known, .inl (cI, 32, .inl M_known))] s.heap.size = A at hD ⊢
  have hA : ∀ q : Nat, s.heap.size ≤ q → A q := fun q h => by rw [← hAe]; exact Or.inr h
  have hS : va_S A s.heap s.heap [] := va_S.rf
  have hl := lv_entry ([.ref aM, .int x1, .int x2]) (n := 7) (Nat.le_of_ble_eq_true rfl)
  rw [lg_entry_eq]
  generalize (lg_sl ([.ref aM, .int x1, .int x2]) ++ List.replicate (7 - (lg_sl ([.ref aM, .int x1, .int x2])).length) Slot.unset).toArray = ls at hl ⊢
  have hl : lv_has ls 7 [(0, .ref aM), (1, .int x1), (2, .int x2)] := hl
  obtain ⟨Q0, hQ0⟩ : ∃ Q0, Q0 = MQ below (va_Qi (fun r (u : (Nat → Int32)) => post r u) (fun (u : (Nat → Int32)) t => va_P (dC, dI) vwCl [(aM, .inr (5, [.int M_thrown, .int M_padded, .ref aM_pad, .int M_sources, .ref aM_kinds, .ref aM_days, .ref aM_withdrawn, .ref aM_lengths, .ref aM_texts, .ref aM_formLengths, .ref aM_forms, .int M_claims, .ref aM_onSource, .ref aM_onClaim, .ref aM_rules, .int M_rings, .ref aM_ring, .ref aM_far, .ref aM_held, .ref aM_heldBefore, .int M_opinions, .ref aM_persons, .ref aM_ofClaims, .ref aM_values, .ref aM_when, .ref aM_ranks, .ref aM_known, .ref aM_counts])), (aM_persons, .inl (cI, 300, .inl M_persons)), (aM_ofClaims, .inl (cI, 300, .inl M_ofClaims)), (aM_when, .inl (cI, 300, .inl M_when)), (aM_known, .inl (cI, 32, .inl u))] t.heap ∧ va_D A [(aM, .inr (5, [.int M_thrown, .int M_padded, .ref aM_pad, .int M_sources, .ref aM_kinds, .ref aM_days, .ref aM_withdrawn, .ref aM_lengths, .ref aM_texts, .ref aM_formLengths, .ref aM_forms, .int M_claims, .ref aM_onSource, .ref aM_onClaim, .ref aM_rules, .int M_rings, .ref aM_ring, .ref aM_far, .ref aM_held, .ref aM_heldBefore, .int M_opinions, .ref aM_persons, .ref aM_ofClaims, .ref aM_values, .ref aM_when, .ref aM_ranks, .ref aM_known, .ref aM_counts])), (aM_persons, .inl (cI, 300, .inl M_persons)), (aM_ofClaims, .inl (cI, 300, .inl M_ofClaims)), (aM_when, .inl (cI, 300, .inl M_when)), (aM_known, .inl (cI, 32, .inl u))]) A) ([.ref aM, .int x1, .int x2]).toArray s 0 0 A := ⟨_, rfl⟩
  rw [← hQ0]
  clear B
  generalize hag : ([.ref aM, .int x1, .int x2] : List Value).toArray = args at hts hQ0 ⊢
  have hi_5 : ∀ w ∈ u_ws "ClaimSourcesModel" TT_5 28, w ∈ w_M_know := fun w h => List.mem_cons_of_mem _ (ia_5 w h)
  have hf_116 := hts _ (List.mem_cons_of_mem _ m_651)
  have hf_71 := hts _ (List.mem_cons_of_mem _ m_657)
  have hf_56 := hts _ (List.mem_cons_of_mem _ m_652)
  have hf_59 := hts _ (List.mem_cons_of_mem _ m_653)
  have hf_65 := hts _ (List.mem_cons_of_mem _ m_655)
  have L23 : ∀ (x1 : Int32) (x2 : Int32) (x3 : Int32) (x4 : Int32) (k5 : Int32 → Int32 → (Nat → Int32) → Prop) (hk5 : ∀ (x3 : Int32) (x4 : Int32) (M_known : Nat → Int32), k5 x3 x4 M_known → ∀ (H : Heap) (locs : List Loc), va_P (dC, dI) vwCl [(aM, .inr (5, [.int M_thrown, .int M_padded, .ref aM_pad, .int M_sources, .ref aM_kinds, .ref aM_days, .ref aM_withdrawn, .ref aM_lengths, .ref aM_texts, .ref aM_formLengths, .ref aM_forms, .int M_claims, .ref aM_onSource, .ref aM_onClaim, .ref aM_rules, .int M_rings, .ref aM_ring, .ref aM_far, .ref aM_held, .ref aM_heldBefore, .int M_opinions, .ref aM_persons, .ref aM_ofClaims, .ref aM_values, .ref aM_when, .ref aM_ranks, .ref aM_known, .ref aM_counts])), (aM_persons, .inl (cI, 300, .inl M_persons)), (aM_ofClaims, .inl (cI, 300, .inl M_ofClaims)), (aM_when, .inl (cI, 300, .inl M_when)), (aM_known, .inl (cI, 32, .inl M_known))] H → va_D A [(aM, .inr (5, [.int M_thrown, .int M_padded, .ref aM_pad, .int M_sources, .ref aM_kinds, .ref aM_days, .ref aM_withdrawn, .ref aM_lengths, .ref aM_texts, .ref aM_formLengths, .ref aM_forms, .int M_claims, .ref aM_onSource, .ref aM_onClaim, .ref aM_rules, .int M_rings, .ref aM_ring, .ref aM_far, .ref aM_held, .ref aM_heldBefore, .int M_opinions, .ref aM_persons, .ref aM_ofClaims, .ref aM_values, .ref aM_when, .ref aM_ranks, .ref aM_known, .ref aM_counts])), (aM_persons, .inl (cI, 300, .inl M_persons)), (aM_ofClaims, .inl (cI, 300, .inl M_ofClaims)), (aM_when, .inl (cI, 300, .inl M_when)), (aM_known, .inl (cI, 32, .inl M_known))] → va_S A s.heap H locs → ∀ (ls : Array Slot), lv_has ls 7 [(0, .ref aM), (1, .int x1), (2, .int x2), (3, .int x3), (4, .int x4)] → W p l e (headSpec w_M_know ({ frames := 0, cells := 0, slots := 0, locals := 0 })).room s m args below meth c H locs 0 0 Q0 (F0 m 5 ls [])) (n : Nat) (x5 : Int32) (M_known : Nat → Int32), wl_M_know_23 M_opinions M_persons M_ofClaims M_when x1 x2 x3 x4 k5 n x5 M_known → ∀ (H : Heap) (locs : List Loc), va_P (dC, dI) vwCl [(aM, .inr (5, [.int M_thrown, .int M_padded, .ref aM_pad, .int M_sources, .ref aM_kinds, .ref aM_days, .ref aM_withdrawn, .ref aM_lengths, .ref aM_texts, .ref aM_formLengths, .ref aM_forms, .int M_claims, .ref aM_onSource, .ref aM_onClaim, .ref aM_rules, .int M_rings, .ref aM_ring, .ref aM_far, .ref aM_held, .ref aM_heldBefore, .int M_opinions, .ref aM_persons, .ref aM_ofClaims, .ref aM_values, .ref aM_when, .ref aM_ranks, .ref aM_known, .ref aM_counts])), (aM_persons, .inl (cI, 300, .inl M_persons)), (aM_ofClaims, .inl (cI, 300, .inl M_ofClaims)), (aM_when, .inl (cI, 300, .inl M_when)), (aM_known, .inl (cI, 32, .inl M_known))] H → va_D A [(aM, .inr (5, [.int M_thrown, .int M_padded, .ref aM_pad, .int M_sources, .ref aM_kinds, .ref aM_days, .ref aM_withdrawn, .ref aM_lengths, .ref aM_texts, .ref aM_formLengths, .ref aM_forms, .int M_claims, .ref aM_onSource, .ref aM_onClaim, .ref aM_rules, .int M_rings, .ref aM_ring, .ref aM_far, .ref aM_held, .ref aM_heldBefore, .int M_opinions, .ref aM_persons, .ref aM_ofClaims, .ref aM_values, .ref aM_when, .ref aM_ranks, .ref aM_known, .ref aM_counts])), (aM_persons, .inl (cI, 300, .inl M_persons)), (aM_ofClaims, .inl (cI, 300, .inl M_ofClaims)), (aM_when, .inl (cI, 300, .inl M_when)), (aM_known, .inl (cI, 32, .inl M_known))] → va_S A s.heap H locs → ∀ (ls : Array Slot), lv_has ls 7 [(0, .ref aM), (1, .int x1), (2, .int x2), (3, .int x3), (4, .int x4), (5, .int x5)] → W p l e (headSpec w_M_know ({ frames := 0, cells := 0, slots := 0, locals := 0 })).room s m args below meth c H locs 0 0 Q0 (F0 m 23 ls []) := by
    intro x1 x2 x3 x4 k5 hk5
    intro n
    induction n with
    | zero =>
      intro x5 M_known hw
      exact False.elim hw
    | succ n ih =>
      intro x5 M_known hw H locs hP hD hS ls hl
      unfold wl_M_know_23 at hw
      refine lv_iload hx hb d_M_know_23 (lv_at hl 5 rfl) ?_
      refine lv_aload_n hx hb d_M_know_25 rfl (lv_at hl 0 rfl) ?_
      refine va_get (D := (dC, dI)) (ci := 5) (v := .int M_opinions) (C := "ClaimSourcesModel") (T := TT_5) (N := 28) hx hb hts hi_5 hown hK hP 0 rfl rfl 20 (by decide) hf_116 (fun _ h9 => h9) rfl d_M_know_26 ?_
      refine lv_icmp_ge (tgt := 136) hx hb d_M_know_29 (by decide) (fun c_1 => ?_) (fun c_1 => ?_)
      · have hw := hw.1 c_1
        refine lv_aload_n hx hb d_M_know_136 rfl (lv_at hl 0 rfl) ?_
        refine va_get (D := (dC, dI)) (ci := 5) (v := .ref aM_known) (C := "ClaimSourcesModel") (T := TT_5) (N := 28) hx hb hts hi_5 hown hK hP 0 rfl rfl 26 (by decide) hf_71 (fun _ h9 => h9) rfl d_M_know_137 ?_
        refine lv_iload hx hb d_M_know_140 (lv_at hl 4 rfl) ?_
        obtain ⟨h_2, hw⟩ := hw
        refine va_iald hx hb hK hP 4 0 rfl rfl h_2 d_M_know_142 ?_
        refine lv_iconst (v := -1) hx hb d_M_know_143 (by decide) ?_
        refine lv_icmp_ne (tgt := 151) hx hb d_M_know_144 (by decide) (fun c_3 => ?_) (fun c_3 => ?_)
        · have hw := hw.2 c_3
          refine lv_iload_n hx hb d_M_know_151 rfl (lv_at hl 3 rfl) ?_
          refine lv_iconst (v := 1) hx hb d_M_know_152 (by decide) ?_
          refine lv_iadd hx hb d_M_know_153 ?_
          refine lv_istore_n (lv' := [(3, .int (x3 + (1 : Int32))), (0, .ref aM), (1, .int x1), (2, .int x2), (4, .int x4), (5, .int x5)]) hx hb d_M_know_154 rfl hl (by decide) rfl (fun ls hl => ?_)
          refine lv_iinc (v := x4 + 1) (lv' := [(4, .int (x4 + 1)), (3, .int (x3 + (1 : Int32))), (0, .ref aM), (1, .int x1), (2, .int x2), (5, .int x5)]) hx hb d_M_know_155 hl (k := 4) rfl rfl (by decide) rfl (fun ls hl => ?_)
          refine lv_goto (tgt := 5) hx hb d_M_know_158 (by decide) ?_
          exact hk5 (x3 + (1 : Int32)) (x4 + 1) M_known hw _ _ (hP.sub [0, 1, 2, 3, 4] rfl) (hD.sub [0, 1, 2, 3, 4] (by decide) rfl) hS ls (lv_sub hl [2, 3, 4, 1, 0] rfl)
        · have hw := hw.1 c_3
          refine lv_iload_n hx hb d_M_know_147 rfl (lv_at hl 3 rfl) ?_
          refine lv_goto (tgt := 154) hx hb d_M_know_148 (by decide) ?_
          refine lv_istore_n (lv' := [(3, .int x3), (0, .ref aM), (1, .int x1), (2, .int x2), (4, .int x4), (5, .int x5)]) hx hb d_M_know_154 rfl hl (by decide) rfl (fun ls hl => ?_)
          refine lv_iinc (v := x4 + 1) (lv' := [(4, .int (x4 + 1)), (3, .int x3), (0, .ref aM), (1, .int x1), (2, .int x2), (5, .int x5)]) hx hb d_M_know_155 hl (k := 4) rfl rfl (by decide) rfl (fun ls hl => ?_)
          refine lv_goto (tgt := 5) hx hb d_M_know_158 (by decide) ?_
          exact hk5 x3 (x4 + 1) M_known hw _ _ (hP.sub [0, 1, 2, 3, 4] rfl) (hD.sub [0, 1, 2, 3, 4] (by decide) rfl) hS ls (lv_sub hl [2, 3, 4, 1, 0] rfl)
      · have hw := hw.2 c_1
        refine lv_aload_n hx hb d_M_know_32 rfl (lv_at hl 0 rfl) ?_
        refine va_get (D := (dC, dI)) (ci := 5) (v := .ref aM_persons) (C := "ClaimSourcesModel") (T := TT_5) (N := 28) hx hb hts hi_5 hown hK hP 0 rfl rfl 21 (by decide) hf_56 (fun _ h9 => h9) rfl d_M_know_33 ?_
        refine lv_iload hx hb d_M_know_36 (lv_at hl 5 rfl) ?_
        obtain ⟨h_4, hw⟩ := hw
        refine va_iald hx hb hK hP 1 0 rfl rfl h_4 d_M_know_38 ?_
        refine lv_iload hx hb d_M_know_39 (lv_at hl 4 rfl) ?_
        refine lv_icmp_ne (tgt := 70) hx hb d_M_know_41 (by decide) (fun c_5 => ?_) (fun c_5 => ?_)
        · have hw := hw.2 c_5
          refine lv_iconst (v := 0) hx hb d_M_know_70 (by decide) ?_
          refine lv_istore (lv' := [(6, .int (0 : Int32)), (0, .ref aM), (1, .int x1), (2, .int x2), (3, .int x3), (4, .int x4), (5, .int x5)]) hx hb d_M_know_71 hl (by decide) rfl (fun ls hl => ?_)
          refine lv_aload_n hx hb d_M_know_73 rfl (lv_at hl 1 rfl) ?_
          refine va_get (D := (dC, dI)) (ci := 5) (v := .ref aM_known) (C := "ClaimSourcesModel") (T := TT_5) (N := 28) hx hb hts hi_5 hown hK hP 0 rfl rfl 26 (by decide) hf_71 (fun _ h9 => h9) rfl d_M_know_74 ?_
          refine lv_iload hx hb d_M_know_77 (lv_at hl 5 rfl) ?_
          refine lv_iload hx hb d_M_know_79 (lv_at hl 0 rfl) ?_
          refine lv_if_eq (tgt := 122) hx hb d_M_know_81 (by decide) (fun _ => ?_) (fun h9 => absurd h9 (by decide))
          refine lv_aload_n hx hb d_M_know_122 rfl (lv_at hl 1 rfl) ?_
          refine va_get (D := (dC, dI)) (ci := 5) (v := .ref aM_known) (C := "ClaimSourcesModel") (T := TT_5) (N := 28) hx hb hts hi_5 hown hK hP 0 rfl rfl 26 (by decide) hf_71 (fun _ h9 => h9) rfl d_M_know_123 ?_
          refine lv_iload hx hb d_M_know_126 (lv_at hl 5 rfl) ?_
          obtain ⟨h_7, hw⟩ := hw
          refine va_iald hx hb hK hP 4 0 rfl rfl h_7 d_M_know_128 ?_
          obtain ⟨h_8, hw⟩ := hw
          refine va_iast hx hb hK hP hD hS 4 0 rfl rfl h_8 d_M_know_129 (fun H locs hP hD hS => ?_)
          have hP : va_P (dC, dI) vwCl [(aM, .inr (5, [.int M_thrown, .int M_padded, .ref aM_pad, .int M_sources, .ref aM_kinds, .ref aM_days, .ref aM_withdrawn, .ref aM_lengths, .ref aM_texts, .ref aM_formLengths, .ref aM_forms, .int M_claims, .ref aM_onSource, .ref aM_onClaim, .ref aM_rules, .int M_rings, .ref aM_ring, .ref aM_far, .ref aM_held, .ref aM_heldBefore, .int M_opinions, .ref aM_persons, .ref aM_ofClaims, .ref aM_values, .ref aM_when, .ref aM_ranks, .ref aM_known, .ref aM_counts])), (aM_persons, .inl (cI, 300, .inl M_persons)), (aM_ofClaims, .inl (cI, 300, .inl M_ofClaims)), (aM_when, .inl (cI, 300, .inl M_when)), (aM_known, .inl (cI, 32, .inl (upd M_known x4.toNatClampNeg (M_known x4.toNatClampNeg))))] H := hP
          have hD : va_D A [(aM, .inr (5, [.int M_thrown, .int M_padded, .ref aM_pad, .int M_sources, .ref aM_kinds, .ref aM_days, .ref aM_withdrawn, .ref aM_lengths, .ref aM_texts, .ref aM_formLengths, .ref aM_forms, .int M_claims, .ref aM_onSource, .ref aM_onClaim, .ref aM_rules, .int M_rings, .ref aM_ring, .ref aM_far, .ref aM_held, .ref aM_heldBefore, .int M_opinions, .ref aM_persons, .ref aM_ofClaims, .ref aM_values, .ref aM_when, .ref aM_ranks, .ref aM_known, .ref aM_counts])), (aM_persons, .inl (cI, 300, .inl M_persons)), (aM_ofClaims, .inl (cI, 300, .inl M_ofClaims)), (aM_when, .inl (cI, 300, .inl M_when)), (aM_known, .inl (cI, 32, .inl (upd M_known x4.toNatClampNeg (M_known x4.toNatClampNeg))))] := hD
          refine lv_iinc (v := x5 + 1) (lv' := [(5, .int (x5 + 1)), (6, .int (0 : Int32)), (0, .ref aM), (1, .int x1), (2, .int x2), (3, .int x3), (4, .int x4)]) hx hb d_M_know_130 hl (k := 6) rfl rfl (by decide) rfl (fun ls hl => ?_)
          refine lv_goto (tgt := 23) hx hb d_M_know_133 (by decide) ?_
          exact ih (x5 + 1) (upd M_known x4.toNatClampNeg (M_known x4.toNatClampNeg)) hw _ _ (hP.sub [0, 1, 2, 3, 4] rfl) (hD.sub [0, 1, 2, 3, 4] (by decide) rfl) hS ls (lv_sub hl [2, 3, 4, 5, 6, 0] rfl)
        · have hw := hw.1 c_5
          refine lv_aload_n hx hb d_M_know_44 rfl (lv_at hl 0 rfl) ?_
          refine va_get (D := (dC, dI)) (ci := 5) (v := .ref aM_ofClaims) (C := "ClaimSourcesModel") (T := TT_5) (N := 28) hx hb hts hi_5 hown hK hP 0 rfl rfl 22 (by decide) hf_59 (fun _ h9 => h9) rfl d_M_know_45 ?_
          refine lv_iload hx hb d_M_know_48 (lv_at hl 5 rfl) ?_
          obtain ⟨h_9, hw⟩ := hw
          refine va_iald hx hb hK hP 2 0 rfl rfl h_9 d_M_know_50 ?_
          refine lv_iload_n hx hb d_M_know_51 rfl (lv_at hl 1 rfl) ?_
          refine lv_icmp_ne (tgt := 70) hx hb d_M_know_52 (by decide) (fun c_10 => ?_) (fun c_10 => ?_)
          · have hw := hw.2 c_10
            refine lv_iconst (v := 0) hx hb d_M_know_70 (by decide) ?_
            refine lv_istore (lv' := [(6, .int (0 : Int32)), (0, .ref aM), (1, .int x1), (2, .int x2), (3, .int x3), (4, .int x4), (5, .int x5)]) hx hb d_M_know_71 hl (by decide) rfl (fun ls hl => ?_)
            refine lv_aload_n hx hb d_M_know_73 rfl (lv_at hl 1 rfl) ?_
            refine va_get (D := (dC, dI)) (ci := 5) (v := .ref aM_known) (C := "ClaimSourcesModel") (T := TT_5) (N := 28) hx hb hts hi_5 hown hK hP 0 rfl rfl 26 (by decide) hf_71 (fun _ h9 => h9) rfl d_M_know_74 ?_
            refine lv_iload hx hb d_M_know_77 (lv_at hl 5 rfl) ?_
            refine lv_iload hx hb d_M_know_79 (lv_at hl 0 rfl) ?_
            refine lv_if_eq (tgt := 122) hx hb d_M_know_81 (by decide) (fun _ => ?_) (fun h9 => absurd h9 (by decide))
            refine lv_aload_n hx hb d_M_know_122 rfl (lv_at hl 1 rfl) ?_
            refine va_get (D := (dC, dI)) (ci := 5) (v := .ref aM_known) (C := "ClaimSourcesModel") (T := TT_5) (N := 28) hx hb hts hi_5 hown hK hP 0 rfl rfl 26 (by decide) hf_71 (fun _ h9 => h9) rfl d_M_know_123 ?_
            refine lv_iload hx hb d_M_know_126 (lv_at hl 5 rfl) ?_
            obtain ⟨h_12, hw⟩ := hw
            refine va_iald hx hb hK hP 4 0 rfl rfl h_12 d_M_know_128 ?_
            obtain ⟨h_13, hw⟩ := hw
            refine va_iast hx hb hK hP hD hS 4 0 rfl rfl h_13 d_M_know_129 (fun H locs hP hD hS => ?_)
            have hP : va_P (dC, dI) vwCl [(aM, .inr (5, [.int M_thrown, .int M_padded, .ref aM_pad, .int M_sources, .ref aM_kinds, .ref aM_days, .ref aM_withdrawn, .ref aM_lengths, .ref aM_texts, .ref aM_formLengths, .ref aM_forms, .int M_claims, .ref aM_onSource, .ref aM_onClaim, .ref aM_rules, .int M_rings, .ref aM_ring, .ref aM_far, .ref aM_held, .ref aM_heldBefore, .int M_opinions, .ref aM_persons, .ref aM_ofClaims, .ref aM_values, .ref aM_when, .ref aM_ranks, .ref aM_known, .ref aM_counts])), (aM_persons, .inl (cI, 300, .inl M_persons)), (aM_ofClaims, .inl (cI, 300, .inl M_ofClaims)), (aM_when, .inl (cI, 300, .inl M_when)), (aM_known, .inl (cI, 32, .inl (upd M_known x4.toNatClampNeg (M_known x4.toNatClampNeg))))] H := hP
            have hD : va_D A [(aM, .inr (5, [.int M_thrown, .int M_padded, .ref aM_pad, .int M_sources, .ref aM_kinds, .ref aM_days, .ref aM_withdrawn, .ref aM_lengths, .ref aM_texts, .ref aM_formLengths, .ref aM_forms, .int M_claims, .ref aM_onSource, .ref aM_onClaim, .ref aM_rules, .int M_rings, .ref aM_ring, .ref aM_far, .ref aM_held, .ref aM_heldBefore, .int M_opinions, .ref aM_persons, .ref aM_ofClaims, .ref aM_values, .ref aM_when, .ref aM_ranks, .ref aM_known, .ref aM_counts])), (aM_persons, .inl (cI, 300, .inl M_persons)), (aM_ofClaims, .inl (cI, 300, .inl M_ofClaims)), (aM_when, .inl (cI, 300, .inl M_when)), (aM_known, .inl (cI, 32, .inl (upd M_known x4.toNatClampNeg (M_known x4.toNatClampNeg))))] := hD
            refine lv_iinc (v := x5 + 1) (lv' := [(5, .int (x5 + 1)), (6, .int (0 : Int32)), (0, .ref aM), (1, .int x1), (2, .int x2), (3, .int x3), (4, .int x4)]) hx hb d_M_know_130 hl (k := 6) rfl rfl (by decide) rfl (fun ls hl => ?_)
            refine lv_goto (tgt := 23) hx hb d_M_know_133 (by decide) ?_
            exact ih (x5 + 1) (upd M_known x4.toNatClampNeg (M_known x4.toNatClampNeg)) hw _ _ (hP.sub [0, 1, 2, 3, 4] rfl) (hD.sub [0, 1, 2, 3, 4] (by decide) rfl) hS ls (lv_sub hl [2, 3, 4, 5, 6, 0] rfl)
          · have hw := hw.1 c_10
            refine lv_aload_n hx hb d_M_know_55 rfl (lv_at hl 0 rfl) ?_
            refine va_get (D := (dC, dI)) (ci := 5) (v := .ref aM_when) (C := "ClaimSourcesModel") (T := TT_5) (N := 28) hx hb hts hi_5 hown hK hP 0 rfl rfl 24 (by decide) hf_65 (fun _ h9 => h9) rfl d_M_know_56 ?_
            refine lv_iload hx hb d_M_know_59 (lv_at hl 5 rfl) ?_
            obtain ⟨h_14, hw⟩ := hw
            refine va_iald hx hb hK hP 3 0 rfl rfl h_14 d_M_know_61 ?_
            refine lv_iload_n hx hb d_M_know_62 rfl (lv_at hl 2 rfl) ?_
            refine lv_icmp_gt (tgt := 70) hx hb d_M_know_63 (by decide) (fun c_15 => ?_) (fun c_15 => ?_)
            · have hw := hw.1 c_15
              refine lv_iconst (v := 0) hx hb d_M_know_70 (by decide) ?_
              refine lv_istore (lv' := [(6, .int (0 : Int32)), (0, .ref aM), (1, .int x1), (2, .int x2), (3, .int x3), (4, .int x4), (5, .int x5)]) hx hb d_M_know_71 hl (by decide) rfl (fun ls hl => ?_)
              refine lv_aload_n hx hb d_M_know_73 rfl (lv_at hl 1 rfl) ?_
              refine va_get (D := (dC, dI)) (ci := 5) (v := .ref aM_known) (C := "ClaimSourcesModel") (T := TT_5) (N := 28) hx hb hts hi_5 hown hK hP 0 rfl rfl 26 (by decide) hf_71 (fun _ h9 => h9) rfl d_M_know_74 ?_
              refine lv_iload hx hb d_M_know_77 (lv_at hl 5 rfl) ?_
              refine lv_iload hx hb d_M_know_79 (lv_at hl 0 rfl) ?_
              refine lv_if_eq (tgt := 122) hx hb d_M_know_81 (by decide) (fun _ => ?_) (fun h9 => absurd h9 (by decide))
              refine lv_aload_n hx hb d_M_know_122 rfl (lv_at hl 1 rfl) ?_
              refine va_get (D := (dC, dI)) (ci := 5) (v := .ref aM_known) (C := "ClaimSourcesModel") (T := TT_5) (N := 28) hx hb hts hi_5 hown hK hP 0 rfl rfl 26 (by decide) hf_71 (fun _ h9 => h9) rfl d_M_know_123 ?_
              refine lv_iload hx hb d_M_know_126 (lv_at hl 5 rfl) ?_
              obtain ⟨h_17, hw⟩ := hw
              refine va_iald hx hb hK hP 4 0 rfl rfl h_17 d_M_know_128 ?_
              obtain ⟨h_18, hw⟩ := hw
              refine va_iast hx hb hK hP hD hS 4 0 rfl rfl h_18 d_M_know_129 (fun H locs hP hD hS => ?_)
              have hP : va_P (dC, dI) vwCl [(aM, .inr (5, [.int M_thrown, .int M_padded, .ref aM_pad, .int M_sources, .ref aM_kinds, .ref aM_days, .ref aM_withdrawn, .ref aM_lengths, .ref aM_texts, .ref aM_formLengths, .ref aM_forms, .int M_claims, .ref aM_onSource, .ref aM_onClaim, .ref aM_rules, .int M_rings, .ref aM_ring, .ref aM_far, .ref aM_held, .ref aM_heldBefore, .int M_opinions, .ref aM_persons, .ref aM_ofClaims, .ref aM_values, .ref aM_when, .ref aM_ranks, .ref aM_known, .ref aM_counts])), (aM_persons, .inl (cI, 300, .inl M_persons)), (aM_ofClaims, .inl (cI, 300, .inl M_ofClaims)), (aM_when, .inl (cI, 300, .inl M_when)), (aM_known, .inl (cI, 32, .inl (upd M_known x4.toNatClampNeg (M_known x4.toNatClampNeg))))] H := hP
              have hD : va_D A [(aM, .inr (5, [.int M_thrown, .int M_padded, .ref aM_pad, .int M_sources, .ref aM_kinds, .ref aM_days, .ref aM_withdrawn, .ref aM_lengths, .ref aM_texts, .ref aM_formLengths, .ref aM_forms, .int M_claims, .ref aM_onSource, .ref aM_onClaim, .ref aM_rules, .int M_rings, .ref aM_ring, .ref aM_far, .ref aM_held, .ref aM_heldBefore, .int M_opinions, .ref aM_persons, .ref aM_ofClaims, .ref aM_values, .ref aM_when, .ref aM_ranks, .ref aM_known, .ref aM_counts])), (aM_persons, .inl (cI, 300, .inl M_persons)), (aM_ofClaims, .inl (cI, 300, .inl M_ofClaims)), (aM_when, .inl (cI, 300, .inl M_when)), (aM_known, .inl (cI, 32, .inl (upd M_known x4.toNatClampNeg (M_known x4.toNatClampNeg))))] := hD
              refine lv_iinc (v := x5 + 1) (lv' := [(5, .int (x5 + 1)), (6, .int (0 : Int32)), (0, .ref aM), (1, .int x1), (2, .int x2), (3, .int x3), (4, .int x4)]) hx hb d_M_know_130 hl (k := 6) rfl rfl (by decide) rfl (fun ls hl => ?_)
              refine lv_goto (tgt := 23) hx hb d_M_know_133 (by decide) ?_
              exact ih (x5 + 1) (upd M_known x4.toNatClampNeg (M_known x4.toNatClampNeg)) hw _ _ (hP.sub [0, 1, 2, 3, 4] rfl) (hD.sub [0, 1, 2, 3, 4] (by decide) rfl) hS ls (lv_sub hl [2, 3, 4, 5, 6, 0] rfl)
            · have hw := hw.2 c_15
              refine lv_iconst (v := 1) hx hb d_M_know_66 (by decide) ?_
              refine lv_goto (tgt := 71) hx hb d_M_know_67 (by decide) ?_
              refine lv_istore (lv' := [(6, .int (1 : Int32)), (0, .ref aM), (1, .int x1), (2, .int x2), (3, .int x3), (4, .int x4), (5, .int x5)]) hx hb d_M_know_71 hl (by decide) rfl (fun ls hl => ?_)
              refine lv_aload_n hx hb d_M_know_73 rfl (lv_at hl 1 rfl) ?_
              refine va_get (D := (dC, dI)) (ci := 5) (v := .ref aM_known) (C := "ClaimSourcesModel") (T := TT_5) (N := 28) hx hb hts hi_5 hown hK hP 0 rfl rfl 26 (by decide) hf_71 (fun _ h9 => h9) rfl d_M_know_74 ?_
              refine lv_iload hx hb d_M_know_77 (lv_at hl 5 rfl) ?_
              refine lv_iload hx hb d_M_know_79 (lv_at hl 0 rfl) ?_
              refine lv_if_eq (tgt := 122) hx hb d_M_know_81 (by decide) (fun h9 => absurd h9 (by decide)) (fun _ => ?_)
              refine lv_aload_n hx hb d_M_know_84 rfl (lv_at hl 1 rfl) ?_
              refine va_get (D := (dC, dI)) (ci := 5) (v := .ref aM_known) (C := "ClaimSourcesModel") (T := TT_5) (N := 28) hx hb hts hi_5 hown hK hP 0 rfl rfl 26 (by decide) hf_71 (fun _ h9 => h9) rfl d_M_know_85 ?_
              refine lv_iload hx hb d_M_know_88 (lv_at hl 5 rfl) ?_
              obtain ⟨h_20, hw⟩ := hw
              refine va_iald hx hb hK hP 4 0 rfl rfl h_20 d_M_know_90 ?_
              refine lv_iconst (v := -1) hx hb d_M_know_91 (by decide) ?_
              refine lv_icmp_eq (tgt := 117) hx hb d_M_know_92 (by decide) (fun c_21 => ?_) (fun c_21 => ?_)
              · have hw := hw.1 c_21
                refine lv_iload hx hb d_M_know_117 (lv_at hl 6 rfl) ?_
                refine lv_goto (tgt := 129) hx hb d_M_know_119 (by decide) ?_
                obtain ⟨h_22, hw⟩ := hw
                refine va_iast hx hb hK hP hD hS 4 0 rfl rfl h_22 d_M_know_129 (fun H locs hP hD hS => ?_)
                have hP : va_P (dC, dI) vwCl [(aM, .inr (5, [.int M_thrown, .int M_padded, .ref aM_pad, .int M_sources, .ref aM_kinds, .ref aM_days, .ref aM_withdrawn, .ref aM_lengths, .ref aM_texts, .ref aM_formLengths, .ref aM_forms, .int M_claims, .ref aM_onSource, .ref aM_onClaim, .ref aM_rules, .int M_rings, .ref aM_ring, .ref aM_far, .ref aM_held, .ref aM_heldBefore, .int M_opinions, .ref aM_persons, .ref aM_ofClaims, .ref aM_values, .ref aM_when, .ref aM_ranks, .ref aM_known, .ref aM_counts])), (aM_persons, .inl (cI, 300, .inl M_persons)), (aM_ofClaims, .inl (cI, 300, .inl M_ofClaims)), (aM_when, .inl (cI, 300, .inl M_when)), (aM_known, .inl (cI, 32, .inl (upd M_known x4.toNatClampNeg x5)))] H := hP
                have hD : va_D A [(aM, .inr (5, [.int M_thrown, .int M_padded, .ref aM_pad, .int M_sources, .ref aM_kinds, .ref aM_days, .ref aM_withdrawn, .ref aM_lengths, .ref aM_texts, .ref aM_formLengths, .ref aM_forms, .int M_claims, .ref aM_onSource, .ref aM_onClaim, .ref aM_rules, .int M_rings, .ref aM_ring, .ref aM_far, .ref aM_held, .ref aM_heldBefore, .int M_opinions, .ref aM_persons, .ref aM_ofClaims, .ref aM_values, .ref aM_when, .ref aM_ranks, .ref aM_known, .ref aM_counts])), (aM_persons, .inl (cI, 300, .inl M_persons)), (aM_ofClaims, .inl (cI, 300, .inl M_ofClaims)), (aM_when, .inl (cI, 300, .inl M_when)), (aM_known, .inl (cI, 32, .inl (upd M_known x4.toNatClampNeg x5)))] := hD
                refine lv_iinc (v := x5 + 1) (lv' := [(5, .int (x5 + 1)), (6, .int (1 : Int32)), (0, .ref aM), (1, .int x1), (2, .int x2), (3, .int x3), (4, .int x4)]) hx hb d_M_know_130 hl (k := 6) rfl rfl (by decide) rfl (fun ls hl => ?_)
                refine lv_goto (tgt := 23) hx hb d_M_know_133 (by decide) ?_
                exact ih (x5 + 1) (upd M_known x4.toNatClampNeg x5) hw _ _ (hP.sub [0, 1, 2, 3, 4] rfl) (hD.sub [0, 1, 2, 3, 4] (by decide) rfl) hS ls (lv_sub hl [2, 3, 4, 5, 6, 0] rfl)
              · have hw := hw.2 c_21
                refine lv_aload_n hx hb d_M_know_95 rfl (lv_at hl 1 rfl) ?_
                refine va_get (D := (dC, dI)) (ci := 5) (v := .ref aM_when) (C := "ClaimSourcesModel") (T := TT_5) (N := 28) hx hb hts hi_5 hown hK hP 0 rfl rfl 24 (by decide) hf_65 (fun _ h9 => h9) rfl d_M_know_96 ?_
                refine lv_aload_n hx hb d_M_know_99 rfl (lv_at hl 1 rfl) ?_
                refine va_get (D := (dC, dI)) (ci := 5) (v := .ref aM_known) (C := "ClaimSourcesModel") (T := TT_5) (N := 28) hx hb hts hi_5 hown hK hP 0 rfl rfl 26 (by decide) hf_71 (fun _ h9 => h9) rfl d_M_know_100 ?_
                refine lv_iload hx hb d_M_know_103 (lv_at hl 5 rfl) ?_
                obtain ⟨h_23, hw⟩ := hw
                refine va_iald hx hb hK hP 4 0 rfl rfl h_23 d_M_know_105 ?_
                obtain ⟨h_24, hw⟩ := hw
                refine va_iald hx hb hK hP 3 0 rfl rfl h_24 d_M_know_106 ?_
                refine lv_aload_n hx hb d_M_know_107 rfl (lv_at hl 1 rfl) ?_
                refine va_get (D := (dC, dI)) (ci := 5) (v := .ref aM_when) (C := "ClaimSourcesModel") (T := TT_5) (N := 28) hx hb hts hi_5 hown hK hP 0 rfl rfl 24 (by decide) hf_65 (fun _ h9 => h9) rfl d_M_know_108 ?_
                refine lv_iload hx hb d_M_know_111 (lv_at hl 6 rfl) ?_
                obtain ⟨h_25, hw⟩ := hw
                refine va_iald hx hb hK hP 3 0 rfl rfl h_25 d_M_know_113 ?_
                refine lv_icmp_ge (tgt := 122) hx hb d_M_know_114 (by decide) (fun c_26 => ?_) (fun c_26 => ?_)
                · have hw := hw.1 c_26
                  refine lv_aload_n hx hb d_M_know_122 rfl (lv_at hl 1 rfl) ?_
                  refine va_get (D := (dC, dI)) (ci := 5) (v := .ref aM_known) (C := "ClaimSourcesModel") (T := TT_5) (N := 28) hx hb hts hi_5 hown hK hP 0 rfl rfl 26 (by decide) hf_71 (fun _ h9 => h9) rfl d_M_know_123 ?_
                  refine lv_iload hx hb d_M_know_126 (lv_at hl 5 rfl) ?_
                  obtain ⟨h_27, hw⟩ := hw
                  refine va_iald hx hb hK hP 4 0 rfl rfl h_27 d_M_know_128 ?_
                  obtain ⟨h_28, hw⟩ := hw
                  refine va_iast hx hb hK hP hD hS 4 0 rfl rfl h_28 d_M_know_129 (fun H locs hP hD hS => ?_)
                  have hP : va_P (dC, dI) vwCl [(aM, .inr (5, [.int M_thrown, .int M_padded, .ref aM_pad, .int M_sources, .ref aM_kinds, .ref aM_days, .ref aM_withdrawn, .ref aM_lengths, .ref aM_texts, .ref aM_formLengths, .ref aM_forms, .int M_claims, .ref aM_onSource, .ref aM_onClaim, .ref aM_rules, .int M_rings, .ref aM_ring, .ref aM_far, .ref aM_held, .ref aM_heldBefore, .int M_opinions, .ref aM_persons, .ref aM_ofClaims, .ref aM_values, .ref aM_when, .ref aM_ranks, .ref aM_known, .ref aM_counts])), (aM_persons, .inl (cI, 300, .inl M_persons)), (aM_ofClaims, .inl (cI, 300, .inl M_ofClaims)), (aM_when, .inl (cI, 300, .inl M_when)), (aM_known, .inl (cI, 32, .inl (upd M_known x4.toNatClampNeg (M_known x4.toNatClampNeg))))] H := hP
                  have hD : va_D A [(aM, .inr (5, [.int M_thrown, .int M_padded, .ref aM_pad, .int M_sources, .ref aM_kinds, .ref aM_days, .ref aM_withdrawn, .ref aM_lengths, .ref aM_texts, .ref aM_formLengths, .ref aM_forms, .int M_claims, .ref aM_onSource, .ref aM_onClaim, .ref aM_rules, .int M_rings, .ref aM_ring, .ref aM_far, .ref aM_held, .ref aM_heldBefore, .int M_opinions, .ref aM_persons, .ref aM_ofClaims, .ref aM_values, .ref aM_when, .ref aM_ranks, .ref aM_known, .ref aM_counts])), (aM_persons, .inl (cI, 300, .inl M_persons)), (aM_ofClaims, .inl (cI, 300, .inl M_ofClaims)), (aM_when, .inl (cI, 300, .inl M_when)), (aM_known, .inl (cI, 32, .inl (upd M_known x4.toNatClampNeg (M_known x4.toNatClampNeg))))] := hD
                  refine lv_iinc (v := x5 + 1) (lv' := [(5, .int (x5 + 1)), (6, .int (1 : Int32)), (0, .ref aM), (1, .int x1), (2, .int x2), (3, .int x3), (4, .int x4)]) hx hb d_M_know_130 hl (k := 6) rfl rfl (by decide) rfl (fun ls hl => ?_)
                  refine lv_goto (tgt := 23) hx hb d_M_know_133 (by decide) ?_
                  exact ih (x5 + 1) (upd M_known x4.toNatClampNeg (M_known x4.toNatClampNeg)) hw _ _ (hP.sub [0, 1, 2, 3, 4] rfl) (hD.sub [0, 1, 2, 3, 4] (by decide) rfl) hS ls (lv_sub hl [2, 3, 4, 5, 6, 0] rfl)
                · have hw := hw.2 c_26
                  refine lv_iload hx hb d_M_know_117 (lv_at hl 6 rfl) ?_
                  refine lv_goto (tgt := 129) hx hb d_M_know_119 (by decide) ?_
                  obtain ⟨h_29, hw⟩ := hw
                  refine va_iast hx hb hK hP hD hS 4 0 rfl rfl h_29 d_M_know_129 (fun H locs hP hD hS => ?_)
                  have hP : va_P (dC, dI) vwCl [(aM, .inr (5, [.int M_thrown, .int M_padded, .ref aM_pad, .int M_sources, .ref aM_kinds, .ref aM_days, .ref aM_withdrawn, .ref aM_lengths, .ref aM_texts, .ref aM_formLengths, .ref aM_forms, .int M_claims, .ref aM_onSource, .ref aM_onClaim, .ref aM_rules, .int M_rings, .ref aM_ring, .ref aM_far, .ref aM_held, .ref aM_heldBefore, .int M_opinions, .ref aM_persons, .ref aM_ofClaims, .ref aM_values, .ref aM_when, .ref aM_ranks, .ref aM_known, .ref aM_counts])), (aM_persons, .inl (cI, 300, .inl M_persons)), (aM_ofClaims, .inl (cI, 300, .inl M_ofClaims)), (aM_when, .inl (cI, 300, .inl M_when)), (aM_known, .inl (cI, 32, .inl (upd M_known x4.toNatClampNeg x5)))] H := hP
                  have hD : va_D A [(aM, .inr (5, [.int M_thrown, .int M_padded, .ref aM_pad, .int M_sources, .ref aM_kinds, .ref aM_days, .ref aM_withdrawn, .ref aM_lengths, .ref aM_texts, .ref aM_formLengths, .ref aM_forms, .int M_claims, .ref aM_onSource, .ref aM_onClaim, .ref aM_rules, .int M_rings, .ref aM_ring, .ref aM_far, .ref aM_held, .ref aM_heldBefore, .int M_opinions, .ref aM_persons, .ref aM_ofClaims, .ref aM_values, .ref aM_when, .ref aM_ranks, .ref aM_known, .ref aM_counts])), (aM_persons, .inl (cI, 300, .inl M_persons)), (aM_ofClaims, .inl (cI, 300, .inl M_ofClaims)), (aM_when, .inl (cI, 300, .inl M_when)), (aM_known, .inl (cI, 32, .inl (upd M_known x4.toNatClampNeg x5)))] := hD
                  refine lv_iinc (v := x5 + 1) (lv' := [(5, .int (x5 + 1)), (6, .int (1 : Int32)), (0, .ref aM), (1, .int x1), (2, .int x2), (3, .int x3), (4, .int x4)]) hx hb d_M_know_130 hl (k := 6) rfl rfl (by decide) rfl (fun ls hl => ?_)
                  refine lv_goto (tgt := 23) hx hb d_M_know_133 (by decide) ?_
                  exact ih (x5 + 1) (upd M_known x4.toNatClampNeg x5) hw _ _ (hP.sub [0, 1, 2, 3, 4] rfl) (hD.sub [0, 1, 2, 3, 4] (by decide) rfl) hS ls (lv_sub hl [2, 3, 4, 5, 6, 0] rfl)
  have L5 : ∀ (x1 : Int32) (x2 : Int32) (n : Nat) (x3 : Int32) (x4 : Int32) (M_known : Nat → Int32), wl_M_know_5 M_opinions M_persons M_ofClaims M_when x1 x2 post n x3 x4 M_known → ∀ (H : Heap) (locs : List Loc), va_P (dC, dI) vwCl [(aM, .inr (5, [.int M_thrown, .int M_padded, .ref aM_pad, .int M_sources, .ref aM_kinds, .ref aM_days, .ref aM_withdrawn, .ref aM_lengths, .ref aM_texts, .ref aM_formLengths, .ref aM_forms, .int M_claims, .ref aM_onSource, .ref aM_onClaim, .ref aM_rules, .int M_rings, .ref aM_ring, .ref aM_far, .ref aM_held, .ref aM_heldBefore, .int M_opinions, .ref aM_persons, .ref aM_ofClaims, .ref aM_values, .ref aM_when, .ref aM_ranks, .ref aM_known, .ref aM_counts])), (aM_persons, .inl (cI, 300, .inl M_persons)), (aM_ofClaims, .inl (cI, 300, .inl M_ofClaims)), (aM_when, .inl (cI, 300, .inl M_when)), (aM_known, .inl (cI, 32, .inl M_known))] H → va_D A [(aM, .inr (5, [.int M_thrown, .int M_padded, .ref aM_pad, .int M_sources, .ref aM_kinds, .ref aM_days, .ref aM_withdrawn, .ref aM_lengths, .ref aM_texts, .ref aM_formLengths, .ref aM_forms, .int M_claims, .ref aM_onSource, .ref aM_onClaim, .ref aM_rules, .int M_rings, .ref aM_ring, .ref aM_far, .ref aM_held, .ref aM_heldBefore, .int M_opinions, .ref aM_persons, .ref aM_ofClaims, .ref aM_values, .ref aM_when, .ref aM_ranks, .ref aM_known, .ref aM_counts])), (aM_persons, .inl (cI, 300, .inl M_persons)), (aM_ofClaims, .inl (cI, 300, .inl M_ofClaims)), (aM_when, .inl (cI, 300, .inl M_when)), (aM_known, .inl (cI, 32, .inl M_known))] → va_S A s.heap H locs → ∀ (ls : Array Slot), lv_has ls 7 [(0, .ref aM), (1, .int x1), (2, .int x2), (3, .int x3), (4, .int x4)] → W p l e (headSpec w_M_know ({ frames := 0, cells := 0, slots := 0, locals := 0 })).room s m args below meth c H locs 0 0 Q0 (F0 m 5 ls []) := by
    intro x1 x2
    intro n
    induction n with
    | zero =>
      intro x3 x4 M_known hw
      exact False.elim hw
    | succ n ih =>
      intro x3 x4 M_known hw H locs hP hD hS ls hl
      unfold wl_M_know_5 at hw
      refine lv_iload hx hb d_M_know_5 (lv_at hl 4 rfl) ?_
      refine lv_bipush (v := 32) hx hb d_M_know_7 (by decide) ?_
      refine lv_icmp_ge (tgt := 161) hx hb d_M_know_9 (by decide) (fun c_30 => ?_) (fun c_30 => ?_)
      · have hw := hw.1 c_30
        refine lv_iload_n hx hb d_M_know_161 rfl (lv_at hl 3 rfl) ?_
        subst hQ0
        have hP9 := hP.sub (ws' := [(aM, .inr (5, [.int M_thrown, .int M_padded, .ref aM_pad, .int M_sources, .ref aM_kinds, .ref aM_days, .ref aM_withdrawn, .ref aM_lengths, .ref aM_texts, .ref aM_formLengths, .ref aM_forms, .int M_claims, .ref aM_onSource, .ref aM_onClaim, .ref aM_rules, .int M_rings, .ref aM_ring, .ref aM_far, .ref aM_held, .ref aM_heldBefore, .int M_opinions, .ref aM_persons, .ref aM_ofClaims, .ref aM_values, .ref aM_when, .ref aM_ranks, .ref aM_known, .ref aM_counts])), (aM_persons, .inl (cI, 300, .inl M_persons)), (aM_ofClaims, .inl (cI, 300, .inl M_ofClaims)), (aM_when, .inl (cI, 300, .inl M_when)), (aM_known, .inl (cI, 32, .inl M_known))]) [0, 1, 2, 3, 4] rfl
        have hD9 := hD.sub (ws' := [(aM, .inr (5, [.int M_thrown, .int M_padded, .ref aM_pad, .int M_sources, .ref aM_kinds, .ref aM_days, .ref aM_withdrawn, .ref aM_lengths, .ref aM_texts, .ref aM_formLengths, .ref aM_forms, .int M_claims, .ref aM_onSource, .ref aM_onClaim, .ref aM_rules, .int M_rings, .ref aM_ring, .ref aM_far, .ref aM_held, .ref aM_heldBefore, .int M_opinions, .ref aM_persons, .ref aM_ofClaims, .ref aM_values, .ref aM_when, .ref aM_ranks, .ref aM_known, .ref aM_counts])), (aM_persons, .inl (cI, 300, .inl M_persons)), (aM_ofClaims, .inl (cI, 300, .inl M_ofClaims)), (aM_when, .inl (cI, 300, .inl M_when)), (aM_known, .inl (cI, 32, .inl M_known))]) [0, 1, 2, 3, 4] (by decide) rfl
        exact W.iret (v := x3) hx hb hr (fun t ht hW => ⟨⟨_, (M_known), rfl, hw, by rw [ht]; exact hP9, hD9⟩, hS.F ht⟩) hS.2.2 d_M_know_162
      · have hw := hw.2 c_30
        refine lv_aload_n hx hb d_M_know_12 rfl (lv_at hl 0 rfl) ?_
        refine va_get (D := (dC, dI)) (ci := 5) (v := .ref aM_known) (C := "ClaimSourcesModel") (T := TT_5) (N := 28) hx hb hts hi_5 hown hK hP 0 rfl rfl 26 (by decide) hf_71 (fun _ h9 => h9) rfl d_M_know_13 ?_
        refine lv_iload hx hb d_M_know_16 (lv_at hl 4 rfl) ?_
        refine lv_iconst (v := -1) hx hb d_M_know_18 (by decide) ?_
        obtain ⟨h_31, hw⟩ := hw
        refine va_iast hx hb hK hP hD hS 4 0 rfl rfl h_31 d_M_know_19 (fun H locs hP hD hS => ?_)
        have hP : va_P (dC, dI) vwCl [(aM, .inr (5, [.int M_thrown, .int M_padded, .ref aM_pad, .int M_sources, .ref aM_kinds, .ref aM_days, .ref aM_withdrawn, .ref aM_lengths, .ref aM_texts, .ref aM_formLengths, .ref aM_forms, .int M_claims, .ref aM_onSource, .ref aM_onClaim, .ref aM_rules, .int M_rings, .ref aM_ring, .ref aM_far, .ref aM_held, .ref aM_heldBefore, .int M_opinions, .ref aM_persons, .ref aM_ofClaims, .ref aM_values, .ref aM_when, .ref aM_ranks, .ref aM_known, .ref aM_counts])), (aM_persons, .inl (cI, 300, .inl M_persons)), (aM_ofClaims, .inl (cI, 300, .inl M_ofClaims)), (aM_when, .inl (cI, 300, .inl M_when)), (aM_known, .inl (cI, 32, .inl (upd M_known x4.toNatClampNeg (-1 : Int32))))] H := hP
        have hD : va_D A [(aM, .inr (5, [.int M_thrown, .int M_padded, .ref aM_pad, .int M_sources, .ref aM_kinds, .ref aM_days, .ref aM_withdrawn, .ref aM_lengths, .ref aM_texts, .ref aM_formLengths, .ref aM_forms, .int M_claims, .ref aM_onSource, .ref aM_onClaim, .ref aM_rules, .int M_rings, .ref aM_ring, .ref aM_far, .ref aM_held, .ref aM_heldBefore, .int M_opinions, .ref aM_persons, .ref aM_ofClaims, .ref aM_values, .ref aM_when, .ref aM_ranks, .ref aM_known, .ref aM_counts])), (aM_persons, .inl (cI, 300, .inl M_persons)), (aM_ofClaims, .inl (cI, 300, .inl M_ofClaims)), (aM_when, .inl (cI, 300, .inl M_when)), (aM_known, .inl (cI, 32, .inl (upd M_known x4.toNatClampNeg (-1 : Int32))))] := hD
        refine lv_iconst (v := 0) hx hb d_M_know_20 (by decide) ?_
        refine lv_istore (lv' := [(5, .int (0 : Int32)), (0, .ref aM), (1, .int x1), (2, .int x2), (3, .int x3), (4, .int x4)]) hx hb d_M_know_21 hl (by decide) rfl (fun ls hl => ?_)
        obtain ⟨n_32, hw⟩ := hw
        exact L23 x1 x2 x3 x4 _ ih n_32 (0 : Int32) (upd M_known x4.toNatClampNeg (-1 : Int32)) hw _ _ (hP.sub [0, 1, 2, 3, 4] rfl) (hD.sub [0, 1, 2, 3, 4] (by decide) rfl) hS ls (lv_sub hl [1, 2, 3, 4, 5, 0] rfl)
  unfold wp_M_know at hw
  refine lv_iconst (v := 0) hx hb d_M_know_0 (by decide) ?_
  refine lv_istore_n (lv' := [(3, .int (0 : Int32)), (0, .ref aM), (1, .int x1), (2, .int x2)]) hx hb d_M_know_1 rfl hl (by decide) rfl (fun ls hl => ?_)
  refine lv_iconst (v := 0) hx hb d_M_know_2 (by decide) ?_
  refine lv_istore (lv' := [(4, .int (0 : Int32)), (3, .int (0 : Int32)), (0, .ref aM), (1, .int x1), (2, .int x2)]) hx hb d_M_know_3 hl (by decide) rfl (fun ls hl => ?_)
  obtain ⟨n_33, hw⟩ := hw
  exact L5 x1 x2 n_33 (0 : Int32) (0 : Int32) M_known hw _ _ (hP.sub [0, 1, 2, 3, 4] rfl) (hD.sub [0, 1, 2, 3, 4] (by decide) rfl) hS ls (lv_sub hl [2, 3, 4, 1, 0] rfl)
def wl_M_most_7 (M_counts : Nat → Int32) (post : Int32 → Prop) : Nat → Int32 → Int32 → Int32 → Prop
  | 0, _, _, _ => False
  | n + 1, x1, x2, x3 => (((100 : Int32) ≤ x3 → (post x2)) ∧ (¬ ((100 : Int32) ≤ x3) → (vp_in x3 100 ∧ (((M_counts x3.toNatClampNeg) ≤ x1 → (vp_in x3 100 ∧ (((M_counts x3.toNatClampNeg) = x1 → ((x1 ≤ 0 → (vp_in x3 100 ∧ wl_M_most_7 M_counts post n x1 x2 (x3 + 1))) ∧ (¬ (x1 ≤ 0) → (vp_in x3 100 ∧ wl_M_most_7 M_counts post n x1 (-2 : Int32) (x3 + 1))))) ∧ (¬ ((M_counts x3.toNatClampNeg) = x1) → (vp_in x3 100 ∧ wl_M_most_7 M_counts post n x1 x2 (x3 + 1)))))) ∧ (¬ ((M_counts x3.toNatClampNeg) ≤ x1) → (vp_in x3 100 ∧ (vp_in x3 100 ∧ wl_M_most_7 M_counts post n (M_counts x3.toNatClampNeg) x3 (x3 + 1))))))))
def wp_M_most (M_thrown : Int32) (M_padded : Int32) (M_sources : Int32) (M_claims : Int32) (M_rings : Int32) (M_opinions : Int32) (M_counts : Nat → Int32) (post : Int32 → Prop) : Prop := (∃ n9, wl_M_most_7 M_counts post n9 (0 : Int32) (-2 : Int32) (0 : Int32))
set_option maxHeartbeats 4000000 in
set_option maxRecDepth 100000 in
theorem mt_M_most (l : Launch) (dC : Nat → ClassId) (dI : Nat → Nat → Nat) (cI cZ : ClassId) (aM : Nat) (aM_counts : Nat) (aM_pad : Nat) (aM_kinds : Nat) (aM_days : Nat) (aM_withdrawn : Nat) (aM_lengths : Nat) (aM_texts : Nat) (aM_formLengths : Nat) (aM_forms : Nat) (aM_onSource : Nat) (aM_onClaim : Nat) (aM_rules : Nat) (aM_ring : Nat) (aM_far : Nat) (aM_held : Nat) (aM_heldBefore : Nat) (aM_persons : Nat) (aM_ofClaims : Nat) (aM_values : Nat) (aM_when : Nat) (aM_ranks : Nat) (aM_known : Nat) (post : Int32 → Prop) (M_thrown : Int32) (M_padded : Int32) (M_sources : Int32) (M_claims : Int32) (M_rings : Int32) (M_opinions : Int32) (M_counts : Nat → Int32) (hw : wp_M_most M_thrown M_padded M_sources M_claims M_rings M_opinions M_counts post) : Met l y_M_most w_M_most ({ frames := 0, cells := 0, slots := 0, locals := 0 }) (va_Pc [.ref aM] (fun U => va_P (dC, dI) vwCl [(aM, .inr (5, [.int M_thrown, .int M_padded, .ref aM_pad, .int M_sources, .ref aM_kinds, .ref aM_days, .ref aM_withdrawn, .ref aM_lengths, .ref aM_texts, .ref aM_formLengths, .ref aM_forms, .int M_claims, .ref aM_onSource, .ref aM_onClaim, .ref aM_rules, .int M_rings, .ref aM_ring, .ref aM_far, .ref aM_held, .ref aM_heldBefore, .int M_opinions, .ref aM_persons, .ref aM_ofClaims, .ref aM_values, .ref aM_when, .ref aM_ranks, .ref aM_known, .ref aM_counts])), (aM_counts, .inl (cI, 100, .inl M_counts))] U.heap ∧ va_K (dC, dI) vwCl [(cI, .int), (cZ, .boolean)] U ∧ en_ok U)) (vp_Si post) 0 0 (fun _ => False) := by
  refine Met.ofW (cc := prog_7_method_23_code) (maxL := 4) (ret := (some .int)) (by decide) rfl ?_
  intro p e s m args below meth c s₁ B hml hv
  obtain ⟨rfl, hP, hK, hE⟩ := hv
  have hx := B.exec
  have hb := B.bytes
  have hr := B.returns
  have hts := atoms_spec (ws := w_M_most) B.pre
  have hown : s.vm.findClass "ClaimSourcesModel" = some m.cls := findClass_of_methodNamed B.named
  have hlocks := B.notSynchronized
  have hl := lv_entry ([.ref aM]) (n := 4) (Nat.le_of_ble_eq_true rfl)
  rw [lg_entry_eq]
  generalize (lg_sl ([.ref aM]) ++ List.replicate (4 - (lg_sl ([.ref aM])).length) Slot.unset).toArray = ls at hl ⊢
  have hl : lv_has ls 4 [(0, .ref aM)] := hl
  obtain ⟨Q0, hQ0⟩ : ∃ Q0, Q0 = MQ below (vp_Si post) ([.ref aM]).toArray s 0 0 (fun _ => False) := ⟨_, rfl⟩
  rw [← hQ0]
  clear B
  generalize hag : ([.ref aM] : List Value).toArray = args at hts hQ0 ⊢
  have hi_5 : ∀ w ∈ u_ws "ClaimSourcesModel" TT_5 28, w ∈ w_M_most := fun w h => List.mem_cons_of_mem _ (ia_5 w h)
  have hf_74 := hts _ (List.mem_cons_of_mem _ m_658)
  have L7 : ∀ (n : Nat) (x1 : Int32) (x2 : Int32) (x3 : Int32), wl_M_most_7 M_counts post n x1 x2 x3 → ∀ (ls : Array Slot), lv_has ls 4 [(0, .ref aM), (1, .int x1), (2, .int x2), (3, .int x3)] → W p l e (headSpec w_M_most ({ frames := 0, cells := 0, slots := 0, locals := 0 })).room s m args below meth c s.heap [] 0 0 Q0 (F0 m 7 ls []) := by
    intro n
    induction n with
    | zero =>
      intro x1 x2 x3 hw
      exact False.elim hw
    | succ n ih =>
      intro x1 x2 x3 hw ls hl
      unfold wl_M_most_7 at hw
      refine lv_iload_n hx hb d_M_most_7 rfl (lv_at hl 3 rfl) ?_
      refine lv_bipush (v := 100) hx hb d_M_most_8 (by decide) ?_
      refine lv_icmp_ge (tgt := 75) hx hb d_M_most_10 (by decide) (fun c_1 => ?_) (fun c_1 => ?_)
      · have hw := hw.1 c_1
        refine lv_iload_n hx hb d_M_most_75 rfl (lv_at hl 2 rfl) ?_
        subst hQ0
        exact W.iret (v := x2) hx hb hr (fun t ht hW => ⟨_, rfl, hw, ht⟩) (fun q h => by cases h) d_M_most_76
      · have hw := hw.2 c_1
        refine lv_aload_n hx hb d_M_most_13 rfl (lv_at hl 0 rfl) ?_
        refine va_get (D := (dC, dI)) (ci := 5) (v := .ref aM_counts) (C := "ClaimSourcesModel") (T := TT_5) (N := 28) hx hb hts hi_5 hown hK hP 0 rfl rfl 27 (by decide) hf_74 (fun _ h9 => h9) rfl d_M_most_14 ?_
        refine lv_iload_n hx hb d_M_most_17 rfl (lv_at hl 3 rfl) ?_
        obtain ⟨h_2, hw⟩ := hw
        refine va_iald hx hb hK hP 1 0 rfl rfl h_2 d_M_most_18 ?_
        refine lv_iload_n hx hb d_M_most_19 rfl (lv_at hl 1 rfl) ?_
        refine lv_icmp_le (tgt := 27) hx hb d_M_most_20 (by decide) (fun c_3 => ?_) (fun c_3 => ?_)
        · have hw := hw.1 c_3
          refine lv_aload_n hx hb d_M_most_27 rfl (lv_at hl 0 rfl) ?_
          refine va_get (D := (dC, dI)) (ci := 5) (v := .ref aM_counts) (C := "ClaimSourcesModel") (T := TT_5) (N := 28) hx hb hts hi_5 hown hK hP 0 rfl rfl 27 (by decide) hf_74 (fun _ h9 => h9) rfl d_M_most_28 ?_
          refine lv_iload_n hx hb d_M_most_31 rfl (lv_at hl 3 rfl) ?_
          obtain ⟨h_4, hw⟩ := hw
          refine va_iald hx hb hK hP 1 0 rfl rfl h_4 d_M_most_32 ?_
          refine lv_iload_n hx hb d_M_most_33 rfl (lv_at hl 1 rfl) ?_
          refine lv_icmp_ne (tgt := 46) hx hb d_M_most_34 (by decide) (fun c_5 => ?_) (fun c_5 => ?_)
          · have hw := hw.2 c_5
            refine lv_iload_n hx hb d_M_most_46 rfl (lv_at hl 2 rfl) ?_
            refine lv_istore_n (lv' := [(2, .int x2), (0, .ref aM), (1, .int x1), (3, .int x3)]) hx hb d_M_most_47 rfl hl (by decide) rfl (fun ls hl => ?_)
            refine lv_aload_n hx hb d_M_most_48 rfl (lv_at hl 1 rfl) ?_
            refine va_get (D := (dC, dI)) (ci := 5) (v := .ref aM_counts) (C := "ClaimSourcesModel") (T := TT_5) (N := 28) hx hb hts hi_5 hown hK hP 0 rfl rfl 27 (by decide) hf_74 (fun _ h9 => h9) rfl d_M_most_49 ?_
            refine lv_iload_n hx hb d_M_most_52 rfl (lv_at hl 3 rfl) ?_
            obtain ⟨h_6, hw⟩ := hw
            refine va_iald hx hb hK hP 1 0 rfl rfl h_6 d_M_most_53 ?_
            refine lv_iload_n hx hb d_M_most_54 rfl (lv_at hl 2 rfl) ?_
            refine lv_icmp_le (tgt := 67) hx hb d_M_most_55 (by decide) (fun _ => ?_) (fun h9 => absurd c_3 h9)
            refine lv_iload_n hx hb d_M_most_67 rfl (lv_at hl 2 rfl) ?_
            refine lv_istore_n (lv' := [(1, .int x1), (2, .int x2), (0, .ref aM), (3, .int x3)]) hx hb d_M_most_68 rfl hl (by decide) rfl (fun ls hl => ?_)
            refine lv_iinc (v := x3 + 1) (lv' := [(3, .int (x3 + 1)), (1, .int x1), (2, .int x2), (0, .ref aM)]) hx hb d_M_most_69 hl (k := 3) rfl rfl (by decide) rfl (fun ls hl => ?_)
            refine lv_goto (tgt := 7) hx hb d_M_most_72 (by decide) ?_
            exact ih x1 x2 (x3 + 1) hw ls (lv_sub hl [3, 1, 2, 0] rfl)
          · have hw := hw.1 c_5
            refine lv_iload_n hx hb d_M_most_37 rfl (lv_at hl 1 rfl) ?_
            refine lv_if_le (tgt := 46) hx hb d_M_most_38 (by decide) (fun c_8 => ?_) (fun c_8 => ?_)
            · have hw := hw.1 c_8
              refine lv_iload_n hx hb d_M_most_46 rfl (lv_at hl 2 rfl) ?_
              refine lv_istore_n (lv' := [(2, .int x2), (0, .ref aM), (1, .int x1), (3, .int x3)]) hx hb d_M_most_47 rfl hl (by decide) rfl (fun ls hl => ?_)
              refine lv_aload_n hx hb d_M_most_48 rfl (lv_at hl 1 rfl) ?_
              refine va_get (D := (dC, dI)) (ci := 5) (v := .ref aM_counts) (C := "ClaimSourcesModel") (T := TT_5) (N := 28) hx hb hts hi_5 hown hK hP 0 rfl rfl 27 (by decide) hf_74 (fun _ h9 => h9) rfl d_M_most_49 ?_
              refine lv_iload_n hx hb d_M_most_52 rfl (lv_at hl 3 rfl) ?_
              obtain ⟨h_9, hw⟩ := hw
              refine va_iald hx hb hK hP 1 0 rfl rfl h_9 d_M_most_53 ?_
              refine lv_iload_n hx hb d_M_most_54 rfl (lv_at hl 2 rfl) ?_
              refine lv_icmp_le (tgt := 67) hx hb d_M_most_55 (by decide) (fun _ => ?_) (fun h9 => absurd c_3 h9)
              refine lv_iload_n hx hb d_M_most_67 rfl (lv_at hl 2 rfl) ?_
              refine lv_istore_n (lv' := [(1, .int x1), (2, .int x2), (0, .ref aM), (3, .int x3)]) hx hb d_M_most_68 rfl hl (by decide) rfl (fun ls hl => ?_)
              refine lv_iinc (v := x3 + 1) (lv' := [(3, .int (x3 + 1)), (1, .int x1), (2, .int x2), (0, .ref aM)]) hx hb d_M_most_69 hl (k := 3) rfl rfl (by decide) rfl (fun ls hl => ?_)
              refine lv_goto (tgt := 7) hx hb d_M_most_72 (by decide) ?_
              exact ih x1 x2 (x3 + 1) hw ls (lv_sub hl [3, 1, 2, 0] rfl)
            · have hw := hw.2 c_8
              refine lv_bipush (v := -2) hx hb d_M_most_41 (by decide) ?_
              refine lv_goto (tgt := 47) hx hb d_M_most_43 (by decide) ?_
              refine lv_istore_n (lv' := [(2, .int (-2 : Int32)), (0, .ref aM), (1, .int x1), (3, .int x3)]) hx hb d_M_most_47 rfl hl (by decide) rfl (fun ls hl => ?_)
              refine lv_aload_n hx hb d_M_most_48 rfl (lv_at hl 1 rfl) ?_
              refine va_get (D := (dC, dI)) (ci := 5) (v := .ref aM_counts) (C := "ClaimSourcesModel") (T := TT_5) (N := 28) hx hb hts hi_5 hown hK hP 0 rfl rfl 27 (by decide) hf_74 (fun _ h9 => h9) rfl d_M_most_49 ?_
              refine lv_iload_n hx hb d_M_most_52 rfl (lv_at hl 3 rfl) ?_
              obtain ⟨h_11, hw⟩ := hw
              refine va_iald hx hb hK hP 1 0 rfl rfl h_11 d_M_most_53 ?_
              refine lv_iload_n hx hb d_M_most_54 rfl (lv_at hl 2 rfl) ?_
              refine lv_icmp_le (tgt := 67) hx hb d_M_most_55 (by decide) (fun _ => ?_) (fun h9 => absurd c_3 h9)
              refine lv_iload_n hx hb d_M_most_67 rfl (lv_at hl 2 rfl) ?_
              refine lv_istore_n (lv' := [(1, .int x1), (2, .int (-2 : Int32)), (0, .ref aM), (3, .int x3)]) hx hb d_M_most_68 rfl hl (by decide) rfl (fun ls hl => ?_)
              refine lv_iinc (v := x3 + 1) (lv' := [(3, .int (x3 + 1)), (1, .int x1), (2, .int (-2 : Int32)), (0, .ref aM)]) hx hb d_M_most_69 hl (k := 3) rfl rfl (by decide) rfl (fun ls hl => ?_)
              refine lv_goto (tgt := 7) hx hb d_M_most_72 (by decide) ?_
              exact ih x1 (-2 : Int32) (x3 + 1) hw ls (lv_sub hl [3, 1, 2, 0] rfl)
        · have hw := hw.2 c_3
          refine lv_iload_n hx hb d_M_most_23 rfl (lv_at hl 3 rfl) ?_
          refine lv_goto (tgt := 47) hx hb d_M_most_24 (by decide) ?_
          refine lv_istore_n (lv' := [(2, .int x3), (0, .ref aM), (1, .int x1), (3, .int x3)]) hx hb d_M_most_47 rfl hl (by decide) rfl (fun ls hl => ?_)
          refine lv_aload_n hx hb d_M_most_48 rfl (lv_at hl 1 rfl) ?_
          refine va_get (D := (dC, dI)) (ci := 5) (v := .ref aM_counts) (C := "ClaimSourcesModel") (T := TT_5) (N := 28) hx hb hts hi_5 hown hK hP 0 rfl rfl 27 (by decide) hf_74 (fun _ h9 => h9) rfl d_M_most_49 ?_
          refine lv_iload_n hx hb d_M_most_52 rfl (lv_at hl 3 rfl) ?_
          obtain ⟨h_13, hw⟩ := hw
          refine va_iald hx hb hK hP 1 0 rfl rfl h_13 d_M_most_53 ?_
          refine lv_iload_n hx hb d_M_most_54 rfl (lv_at hl 2 rfl) ?_
          refine lv_icmp_le (tgt := 67) hx hb d_M_most_55 (by decide) (fun h9 => absurd h9 c_3) (fun _ => ?_)
          refine lv_aload_n hx hb d_M_most_58 rfl (lv_at hl 1 rfl) ?_
          refine va_get (D := (dC, dI)) (ci := 5) (v := .ref aM_counts) (C := "ClaimSourcesModel") (T := TT_5) (N := 28) hx hb hts hi_5 hown hK hP 0 rfl rfl 27 (by decide) hf_74 (fun _ h9 => h9) rfl d_M_most_59 ?_
          refine lv_iload_n hx hb d_M_most_62 rfl (lv_at hl 3 rfl) ?_
          obtain ⟨h_15, hw⟩ := hw
          refine va_iald hx hb hK hP 1 0 rfl rfl h_15 d_M_most_63 ?_
          refine lv_goto (tgt := 68) hx hb d_M_most_64 (by decide) ?_
          refine lv_istore_n (lv' := [(1, .int (M_counts x3.toNatClampNeg)), (2, .int x3), (0, .ref aM), (3, .int x3)]) hx hb d_M_most_68 rfl hl (by decide) rfl (fun ls hl => ?_)
          refine lv_iinc (v := x3 + 1) (lv' := [(3, .int (x3 + 1)), (1, .int (M_counts x3.toNatClampNeg)), (2, .int x3), (0, .ref aM)]) hx hb d_M_most_69 hl (k := 3) rfl rfl (by decide) rfl (fun ls hl => ?_)
          refine lv_goto (tgt := 7) hx hb d_M_most_72 (by decide) ?_
          exact ih (M_counts x3.toNatClampNeg) x3 (x3 + 1) hw ls (lv_sub hl [3, 1, 2, 0] rfl)
  unfold wp_M_most at hw
  refine lv_iconst (v := 0) hx hb d_M_most_0 (by decide) ?_
  refine lv_istore_n (lv' := [(1, .int (0 : Int32)), (0, .ref aM)]) hx hb d_M_most_1 rfl hl (by decide) rfl (fun ls hl => ?_)
  refine lv_bipush (v := -2) hx hb d_M_most_2 (by decide) ?_
  refine lv_istore_n (lv' := [(2, .int (-2 : Int32)), (1, .int (0 : Int32)), (0, .ref aM)]) hx hb d_M_most_4 rfl hl (by decide) rfl (fun ls hl => ?_)
  refine lv_iconst (v := 0) hx hb d_M_most_5 (by decide) ?_
  refine lv_istore_n (lv' := [(3, .int (0 : Int32)), (2, .int (-2 : Int32)), (1, .int (0 : Int32)), (0, .ref aM)]) hx hb d_M_most_6 rfl hl (by decide) rfl (fun ls hl => ?_)
  obtain ⟨n_16, hw⟩ := hw
  exact L7 n_16 (0 : Int32) (-2 : Int32) (0 : Int32) hw ls (lv_sub hl [3, 2, 1, 0] rfl)
