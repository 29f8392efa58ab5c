def wl_M_quote_40 (M_thrown : Int32) (M_padded : Int32) (M_pad : Nat → Int32) (M_lengths : Nat → Int32) (M_texts : Nat → Int32) (x1 : Int32) (x2 : Int32) (post : Int32 → Int32 → Prop) : Nat → Int32 → Prop
  | 0, _ => False
  | n + 1, x3 => ((M_padded ≤ x3 → (post (0 : Int32) M_thrown)) ∧ (¬ (M_padded ≤ x3) → (vp_in x1 24 ∧ (((M_lengths x1.toNatClampNeg) ≤ (x2 + x3) → (post (x3 + (1 : Int32)) M_thrown)) ∧ (¬ ((M_lengths x1.toNatClampNeg) ≤ (x2 + x3)) → (vp_in ((((60 : Int32) * x1) + x2) + x3) 1440 ∧ (vp_in x3 60 ∧ (((M_texts ((((60 : Int32) * x1) + x2) + x3).toNatClampNeg) = (M_pad x3.toNatClampNeg) → wl_M_quote_40 M_thrown M_padded M_pad M_lengths M_texts x1 x2 post n (x3 + 1)) ∧ (¬ ((M_texts ((((60 : Int32) * x1) + x2) + x3).toNatClampNeg) = (M_pad x3.toNatClampNeg)) → (post (x3 + (1 : Int32)) M_thrown))))))))))
def wp_M_quote (M_thrown : Int32) (M_padded : Int32) (M_pad : Nat → Int32) (M_sources : Int32) (M_lengths : Nat → Int32) (M_texts : Nat → Int32) (M_claims : Int32) (M_rings : Int32) (M_opinions : Int32) (x1 : Int32) (x2 : Int32) (post : Int32 → Int32 → Prop) : Prop := (wp_M_isSource M_thrown M_padded M_sources M_claims M_rings M_opinions x1 (fun r_7 => ((r_7 = 0 → (wp_M_goes M_thrown M_padded M_sources M_claims M_rings M_opinions (0 : Int32) (1 : Int32) (1 : Int32) (fun r_9 u_10 => ((r_9 = 0 → (post (0 : Int32) u_10)) ∧ (¬ (r_9 = 0) → (∃ n9, wl_M_quote_40 u_10 M_padded M_pad M_lengths M_texts x1 x2 post n9 (0 : Int32))))))) ∧ (¬ (r_7 = 0) → ((x2 < 0 → (wp_M_goes M_thrown M_padded M_sources M_claims M_rings M_opinions (0 : Int32) (1 : Int32) (1 : Int32) (fun r_14 u_15 => ((r_14 = 0 → (post (0 : Int32) u_15)) ∧ (¬ (r_14 = 0) → (∃ n9, wl_M_quote_40 u_15 M_padded M_pad M_lengths M_texts x1 x2 post n9 (0 : Int32))))))) ∧ (¬ (x2 < 0) → (vp_in x1 24 ∧ (((M_lengths x1.toNatClampNeg) < x2 → (wp_M_goes M_thrown M_padded M_sources M_claims M_rings M_opinions (0 : Int32) (1 : Int32) (1 : Int32) (fun r_20 u_21 => ((r_20 = 0 → (post (0 : Int32) u_21)) ∧ (¬ (r_20 = 0) → (∃ n9, wl_M_quote_40 u_21 M_padded M_pad M_lengths M_texts x1 x2 post n9 (0 : Int32))))))) ∧ (¬ ((M_lengths x1.toNatClampNeg) < x2) → (wp_M_goes M_thrown M_padded M_sources M_claims M_rings M_opinions (1 : Int32) (1 : Int32) (1 : Int32) (fun r_24 u_25 => ((r_24 = 0 → (post (0 : Int32) u_25)) ∧ (¬ (r_24 = 0) → (∃ n9, wl_M_quote_40 u_25 M_padded M_pad M_lengths M_texts x1 x2 post n9 (0 : Int32)))))))))))))))
set_option maxHeartbeats 4000000 in
set_option maxRecDepth 100000 in
theorem mt_M_quote (l : Launch) (dC : Nat → ClassId) (dI : Nat → Nat → Nat) (cI cZ : ClassId) (aM : Nat) (aM_pad : Nat) (aM_lengths : Nat) (aM_texts : Nat) (aM_kinds : Nat) (aM_days : Nat) (aM_withdrawn : Nat) (aM_formLengths : Nat) (aM_forms : Nat) (aM_onSource : Nat) (aM_onClaim : Nat) (aM_rules : Nat) (aM_ring : Nat) (aM_far : Nat) (aM_held : Nat) (aM_heldBefore : Nat) (aM_persons : Nat) (aM_ofClaims : Nat) (aM_values : Nat) (aM_when : Nat) (aM_ranks : Nat) (aM_known : Nat) (aM_counts : Nat) (sz : Nat) (post : Int32 → Int32 → Prop) (M_thrown : Int32) (M_padded : Int32) (M_pad : Nat → Int32) (M_sources : Int32) (M_lengths : Nat → Int32) (M_texts : Nat → Int32) (M_claims : Int32) (M_rings : Int32) (M_opinions : Int32) (x1 : Int32) (x2 : Int32) (hw : wp_M_quote M_thrown M_padded M_pad M_sources M_lengths M_texts M_claims M_rings M_opinions x1 x2 post) : Met l y_M_quote w_M_quote ({ frames := 1, cells := 0, slots := 0, locals := 23 }) (va_Pc [.ref aM, .int x1, .int x2] (fun U => U.heap.size = sz ∧ va_P (dC, dI) vwCl [(aM, .inr (5, [.int M_thrown, .int M_padded, .ref aM_pad, .int M_sources, .ref aM_kinds, .ref aM_days, .ref aM_withdrawn, .ref aM_lengths, .ref aM_texts, .ref aM_formLengths, .ref aM_forms, .int M_claims, .ref aM_onSource, .ref aM_onClaim, .ref aM_rules, .int M_rings, .ref aM_ring, .ref aM_far, .ref aM_held, .ref aM_heldBefore, .int M_opinions, .ref aM_persons, .ref aM_ofClaims, .ref aM_values, .ref aM_when, .ref aM_ranks, .ref aM_known, .ref aM_counts])), (aM_pad, .inl (cI, 60, .inl M_pad)), (aM_lengths, .inl (cI, 24, .inl M_lengths)), (aM_texts, .inl (cI, 1440, .inl M_texts))] U.heap ∧ va_K (dC, dI) vwCl [(cI, .int), (cZ, .boolean)] U ∧ va_D (fun _ => True) [(aM, .inr (5, [.int M_thrown, .int M_padded, .ref aM_pad, .int M_sources, .ref aM_kinds, .ref aM_days, .ref aM_withdrawn, .ref aM_lengths, .ref aM_texts, .ref aM_formLengths, .ref aM_forms, .int M_claims, .ref aM_onSource, .ref aM_onClaim, .ref aM_rules, .int M_rings, .ref aM_ring, .ref aM_far, .ref aM_held, .ref aM_heldBefore, .int M_opinions, .ref aM_persons, .ref aM_ofClaims, .ref aM_values, .ref aM_when, .ref aM_ranks, .ref aM_known, .ref aM_counts])), (aM_pad, .inl (cI, 60, .inl M_pad)), (aM_lengths, .inl (cI, 24, .inl M_lengths)), (aM_texts, .inl (cI, 1440, .inl M_texts))] ∧ en_ok U)) (va_Qi (fun r (u : (Int32)) => post r u) (fun (u : (Int32)) t => va_P (dC, dI) vwCl [(aM, .inr (5, [.int u, .int M_padded, .ref aM_pad, .int M_sources, .ref aM_kinds, .ref aM_days, .ref aM_withdrawn, .ref aM_lengths, .ref aM_texts, .ref aM_formLengths, .ref aM_forms, .int M_claims, .ref aM_onSource, .ref aM_onClaim, .ref aM_rules, .int M_rings, .ref aM_ring, .ref aM_far, .ref aM_held, .ref aM_heldBefore, .int M_opinions, .ref aM_persons, .ref aM_ofClaims, .ref aM_values, .ref aM_when, .ref aM_ranks, .ref aM_known, .ref aM_counts])), (aM_pad, .inl (cI, 60, .inl M_pad)), (aM_lengths, .inl (cI, 24, .inl M_lengths)), (aM_texts, .inl (cI, 1440, .inl M_texts))] t.heap ∧ va_D (va_A [(aM, .inr (5, [.int M_thrown, .int M_padded, .ref aM_pad, .int M_sources, .ref aM_kinds, .ref aM_days, .ref aM_withdrawn, .ref aM_lengths, .ref aM_texts, .ref aM_formLengths, .ref aM_forms, .int M_claims, .ref aM_onSource, .ref aM_onClaim, .ref aM_rules, .int M_rings, .ref aM_ring, .ref aM_far, .ref aM_held, .ref aM_heldBefore, .int M_opinions, .ref aM_persons, .ref aM_ofClaims, .ref aM_values, .ref aM_when, .ref aM_ranks, .ref aM_known, .ref aM_counts])), (aM_pad, .inl (cI, 60, .inl M_pad)), (aM_lengths, .inl (cI, 24, .inl M_lengths)), (aM_texts, .inl (cI, 1440, .inl M_texts))] sz) [(aM, .inr (5, [.int u, .int M_padded, .ref aM_pad, .int M_sources, .ref aM_kinds, .ref aM_days, .ref aM_withdrawn, .ref aM_lengths, .ref aM_texts, .ref aM_formLengths, .ref aM_forms, .int M_claims, .ref aM_onSource, .ref aM_onClaim, .ref aM_rules, .int M_rings, .ref aM_ring, .ref aM_far, .ref aM_held, .ref aM_heldBefore, .int M_opinions, .ref aM_persons, .ref aM_ofClaims, .ref aM_values, .ref aM_when, .ref aM_ranks, .ref aM_known, .ref aM_counts])), (aM_pad, .inl (cI, 60, .inl M_pad)), (aM_lengths, .inl (cI, 24, .inl M_lengths)), (aM_texts, .inl (cI, 1440, .inl M_texts))]) (va_A [(aM, .inr (5, [.int M_thrown, .int M_padded, .ref aM_pad, .int M_sources, .ref aM_kinds, .ref aM_days, .ref aM_withdrawn, .ref aM_lengths, .ref aM_texts, .ref aM_formLengths, .ref aM_forms, .int M_claims, .ref aM_onSource, .ref aM_onClaim, .ref aM_rules, .int M_rings, .ref aM_ring, .ref aM_far, .ref aM_held, .ref aM_heldBefore, .int M_opinions, .ref aM_persons, .ref aM_ofClaims, .ref aM_values, .ref aM_when, .ref aM_ranks, .ref aM_known, .ref aM_counts])), (aM_pad, .inl (cI, 60, .inl M_pad)), (aM_lengths, .inl (cI, 24, .inl M_lengths)), (aM_texts, .inl (cI, 1440, .inl M_texts))] sz)) 0 0 (va_A [(aM, .inr (5, [.int M_thrown, .int M_padded, .ref aM_pad, .int M_sources, .ref aM_kinds, .ref aM_days, .ref aM_withdrawn, .ref aM_lengths, .ref aM_texts, .ref aM_formLengths, .ref aM_forms, .int M_claims, .ref aM_onSource, .ref aM_onClaim, .ref aM_rules, .int M_rings, .ref aM_ring, .ref aM_far, .ref aM_held, .ref aM_heldBefore, .int M_opinions, .ref aM_persons, .ref aM_ofClaims, .ref aM_values, .ref aM_when, .ref aM_ranks, .ref aM_known, .ref aM_counts])), (aM_pad, .inl (cI, 60, .inl M_pad)), (aM_lengths, .inl (cI, 24, .inl M_lengths)), (aM_texts, .inl (cI, 1440, .inl M_texts))] sz) := by
  refine Met.ofW (cc := prog_7_method_29_code) (maxL := 4) (ret := (some .int)) (by decide) rfl ?_
  intro p e s m args below meth c s₁ B hml hv
  obtain ⟨rfl, hsz, hP, hK, hD0, hE⟩ := hv
  have hx := B.exec
  have hb := B.bytes
  have hr := B.returns
  have hts := atoms_spec (ws := w_M_quote) B.pre
  have hown : s.vm.findClass "ClaimSourcesModel" = some m.cls := findClass_of_methodNamed B.named
  have hlocks := B.notSynchronized
  subst hsz
  have hD := hD0.self (sz := s.heap.size)
  generalize hAe : va_A [(aM, .inr (5, [.int M_thrown, .int M_padded, .ref aM_pad, .int M_sources, .ref aM_kinds, .ref aM_days, .ref aM_withdrawn, .ref aM_lengths, .ref aM_texts, .ref aM_formLengths, .ref aM_forms, .int M_claims, .ref aM_onSource, .ref aM_onClaim, .ref aM_rules, .int M_rings, .ref aM_ring, .ref aM_far, .ref aM_held, .ref aM_heldBefore, .int M_opinions, .ref aM_persons, .ref aM_ofClaims, .ref aM_values, .ref aM_when, .ref aM_ranks, .ref aM_known, .ref aM_counts])), (aM_pad, .inl (cI, 60, .inl M_pad)), (aM_lengths, .inl (cI, 24, .inl M_lengths)), (aM_texts, .inl (cI, 1440, .inl M_texts))] s.heap.size = A at hD ⊢
  have hA : ∀ q : Nat, s.heap.size ≤ q → A q := fun q h => by rw [← hAe]; exact Or.inr h
  have hS : va_S A s.heap s.heap [] := va_S.rf
  have hl := lv_entry ([.ref aM, .int x1, .int x2]) (n := 4) (Nat.le_of_ble_eq_true rfl)
  rw [lg_entry_eq]
  generalize (lg_sl ([.ref aM, .int x1, .int x2]) ++ List.replicate (4 - (lg_sl ([.ref aM, .int x1, .int x2])).length) Slot.unset).toArray = ls at hl ⊢
  have hl : lv_has ls 4 [(0, .ref aM), (1, .int x1), (2, .int x2)] := hl
  obtain ⟨Q0, hQ0⟩ : ∃ Q0, Q0 = MQ below (va_Qi (fun r (u : (Int32)) => post r u) (fun (u : (Int32)) t => va_P (dC, dI) vwCl [(aM, .inr (5, [.int u, .int M_padded, .ref aM_pad, .int M_sources, .ref aM_kinds, .ref aM_days, .ref aM_withdrawn, .ref aM_lengths, .ref aM_texts, .ref aM_formLengths, .ref aM_forms, .int M_claims, .ref aM_onSource, .ref aM_onClaim, .ref aM_rules, .int M_rings, .ref aM_ring, .ref aM_far, .ref aM_held, .ref aM_heldBefore, .int M_opinions, .ref aM_persons, .ref aM_ofClaims, .ref aM_values, .ref aM_when, .ref aM_ranks, .ref aM_known, .ref aM_counts])), (aM_pad, .inl (cI, 60, .inl M_pad)), (aM_lengths, .inl (cI, 24, .inl M_lengths)), (aM_texts, .inl (cI, 1440, .inl M_texts))] t.heap ∧ va_D A [(aM, .inr (5, [.int u, .int M_padded, .ref aM_pad, .int M_sources, .ref aM_kinds, .ref aM_days, .ref aM_withdrawn, .ref aM_lengths, .ref aM_texts, .ref aM_formLengths, .ref aM_forms, .int M_claims, .ref aM_onSource, .ref aM_onClaim, .ref aM_rules, .int M_rings, .ref aM_ring, .ref aM_far, .ref aM_held, .ref aM_heldBefore, .int M_opinions, .ref aM_persons, .ref aM_ofClaims, .ref aM_values, .ref aM_when, .ref aM_ranks, .ref aM_known, .ref aM_counts])), (aM_pad, .inl (cI, 60, .inl M_pad)), (aM_lengths, .inl (cI, 24, .inl M_lengths)), (aM_texts, .inl (cI, 1440, .inl M_texts))]) A) ([.ref aM, .int x1, .int x2]).toArray s 0 0 A := ⟨_, rfl⟩
  rw [← hQ0]
  clear B
  generalize hag : ([.ref aM, .int x1, .int x2] : List Value).toArray = args at hts hQ0 ⊢
  have hi_5 : ∀ w ∈ u_ws "ClaimSourcesModel" TT_5 28, w ∈ w_M_quote := fun w h => List.mem_cons_of_mem _ (ia_5 w h)
  have hf_92 := hts _ (List.mem_cons_of_mem _ m_632)
  have hf_22 := hts _ (List.mem_cons_of_mem _ m_638)
  have hf_25 := hts _ (List.mem_cons_of_mem _ m_639)
  have hf_7 := hts _ (List.mem_cons_of_mem _ m_633)
  have L40 : ∀ (M_thrown : Int32) (x1 : Int32) (x2 : Int32) (n : Nat) (x3 : Int32), wl_M_quote_40 M_thrown M_padded M_pad M_lengths M_texts x1 x2 post n x3 → ∀ (H : Heap) (locs : List Loc), va_P (dC, dI) vwCl [(aM, .inr (5, [.int M_thrown, .int M_padded, .ref aM_pad, .int M_sources, .ref aM_kinds, .ref aM_days, .ref aM_withdrawn, .ref aM_lengths, .ref aM_texts, .ref aM_formLengths, .ref aM_forms, .int M_claims, .ref aM_onSource, .ref aM_onClaim, .ref aM_rules, .int M_rings, .ref aM_ring, .ref aM_far, .ref aM_held, .ref aM_heldBefore, .int M_opinions, .ref aM_persons, .ref aM_ofClaims, .ref aM_values, .ref aM_when, .ref aM_ranks, .ref aM_known, .ref aM_counts])), (aM_pad, .inl (cI, 60, .inl M_pad)), (aM_lengths, .inl (cI, 24, .inl M_lengths)), (aM_texts, .inl (cI, 1440, .inl M_texts))] H → va_D A [(aM, .inr (5, [.int M_thrown, .int M_padded, .ref aM_pad, .int M_sources, .ref aM_kinds, .ref aM_days, .ref aM_withdrawn, .ref aM_lengths, .ref aM_texts, .ref aM_formLengths, .ref aM_forms, .int M_claims, .ref aM_onSource, .ref aM_onClaim, .ref aM_rules, .int M_rings, .ref aM_ring, .ref aM_far, .ref aM_held, .ref aM_heldBefore, .int M_opinions, .ref aM_persons, .ref aM_ofClaims, .ref aM_values, .ref aM_when, .ref aM_ranks, .ref aM_known, .ref aM_counts])), (aM_pad, .inl (cI, 60, .inl M_pad)), (aM_lengths, .inl (cI, 24, .inl M_lengths)), (aM_texts, .inl (cI, 1440, .inl M_texts))] → va_S A s.heap H locs → ∀ (ls : Array Slot), lv_has ls 4 [(0, .ref aM), (1, .int x1), (2, .int x2), (3, .int x3)] → W p l e (headSpec w_M_quote ({ frames := 1, cells := 0, slots := 0, locals := 23 })).room s m args below meth c H locs 0 0 Q0 (F0 m 40 ls []) := by
    intro M_thrown x1 x2
    intro n
    induction n with
    | zero =>
      intro x3 hw
      exact False.elim hw
    | succ n ih =>
      intro x3 hw H locs hP hD hS ls hl
      unfold wl_M_quote_40 at hw
      refine lv_iload_n hx hb d_M_quote_40 rfl (lv_at hl 3 rfl) ?_
      refine lv_aload_n hx hb d_M_quote_41 rfl (lv_at hl 0 rfl) ?_
      refine va_get (D := (dC, dI)) (ci := 5) (v := .int M_padded) (C := "ClaimSourcesModel") (T := TT_5) (N := 28) hx hb hts hi_5 hown hK hP 0 rfl rfl 1 (by decide) hf_92 (fun _ h9 => h9) rfl d_M_quote_42 ?_
      refine lv_icmp_ge (tgt := 92) hx hb d_M_quote_45 (by decide) (fun c_1 => ?_) (fun c_1 => ?_)
      · have hw := hw.1 c_1
        refine lv_iconst (v := 0) hx hb d_M_quote_92 (by decide) ?_
        subst hQ0
        have hP9 := hP.sub (ws' := [(aM, .inr (5, [.int M_thrown, .int M_padded, .ref aM_pad, .int M_sources, .ref aM_kinds, .ref aM_days, .ref aM_withdrawn, .ref aM_lengths, .ref aM_texts, .ref aM_formLengths, .ref aM_forms, .int M_claims, .ref aM_onSource, .ref aM_onClaim, .ref aM_rules, .int M_rings, .ref aM_ring, .ref aM_far, .ref aM_held, .ref aM_heldBefore, .int M_opinions, .ref aM_persons, .ref aM_ofClaims, .ref aM_values, .ref aM_when, .ref aM_ranks, .ref aM_known, .ref aM_counts])), (aM_pad, .inl (cI, 60, .inl M_pad)), (aM_lengths, .inl (cI, 24, .inl M_lengths)), (aM_texts, .inl (cI, 1440, .inl M_texts))]) [0, 1, 2, 3] rfl
        have hD9 := hD.sub (ws' := [(aM, .inr (5, [.int M_thrown, .int M_padded, .ref aM_pad, .int M_sources, .ref aM_kinds, .ref aM_days, .ref aM_withdrawn, .ref aM_lengths, .ref aM_texts, .ref aM_formLengths, .ref aM_forms, .int M_claims, .ref aM_onSource, .ref aM_onClaim, .ref aM_rules, .int M_rings, .ref aM_ring, .ref aM_far, .ref aM_held, .ref aM_heldBefore, .int M_opinions, .ref aM_persons, .ref aM_ofClaims, .ref aM_values, .ref aM_when, .ref aM_ranks, .ref aM_known, .ref aM_counts])), (aM_pad, .inl (cI, 60, .inl M_pad)), (aM_lengths, .inl (cI, 24, .inl M_lengths)), (aM_texts, .inl (cI, 1440, .inl M_texts))]) [0, 1, 2, 3] (by decide) rfl
        exact W.iret (v := (0 : Int32)) hx hb hr (fun t ht hW => ⟨⟨_, (M_thrown), rfl, hw, by rw [ht]; exact hP9, hD9⟩, hS.F ht⟩) hS.2.2 d_M_quote_93
      · have hw := hw.2 c_1
        refine lv_iload_n hx hb d_M_quote_48 rfl (lv_at hl 2 rfl) ?_
        refine lv_iload_n hx hb d_M_quote_49 rfl (lv_at hl 3 rfl) ?_
        refine lv_iadd hx hb d_M_quote_50 ?_
        refine lv_aload_n hx hb d_M_quote_51 rfl (lv_at hl 0 rfl) ?_
        refine va_get (D := (dC, dI)) (ci := 5) (v := .ref aM_lengths) (C := "ClaimSourcesModel") (T := TT_5) (N := 28) hx hb hts hi_5 hown hK hP 0 rfl rfl 7 (by decide) hf_22 (fun _ h9 => h9) rfl d_M_quote_52 ?_
        refine lv_iload_n hx hb d_M_quote_55 rfl (lv_at hl 1 rfl) ?_
        obtain ⟨h_2, hw⟩ := hw
        refine va_iald hx hb hK hP 2 0 rfl rfl h_2 d_M_quote_56 ?_
        refine lv_icmp_ge (tgt := 82) hx hb d_M_quote_57 (by decide) (fun c_3 => ?_) (fun c_3 => ?_)
        · have hw := hw.1 c_3
          refine lv_iload_n hx hb d_M_quote_82 rfl (lv_at hl 3 rfl) ?_
          refine lv_iconst (v := 1) hx hb d_M_quote_83 (by decide) ?_
          refine lv_iadd hx hb d_M_quote_84 ?_
          subst hQ0
          have hP9 := hP.sub (ws' := [(aM, .inr (5, [.int M_thrown, .int M_padded, .ref aM_pad, .int M_sources, .ref aM_kinds, .ref aM_days, .ref aM_withdrawn, .ref aM_lengths, .ref aM_texts, .ref aM_formLengths, .ref aM_forms, .int M_claims, .ref aM_onSource, .ref aM_onClaim, .ref aM_rules, .int M_rings, .ref aM_ring, .ref aM_far, .ref aM_held, .ref aM_heldBefore, .int M_opinions, .ref aM_persons, .ref aM_ofClaims, .ref aM_values, .ref aM_when, .ref aM_ranks, .ref aM_known, .ref aM_counts])), (aM_pad, .inl (cI, 60, .inl M_pad)), (aM_lengths, .inl (cI, 24, .inl M_lengths)), (aM_texts, .inl (cI, 1440, .inl M_texts))]) [0, 1, 2, 3] rfl
          have hD9 := hD.sub (ws' := [(aM, .inr (5, [.int M_thrown, .int M_padded, .ref aM_pad, .int M_sources, .ref aM_kinds, .ref aM_days, .ref aM_withdrawn, .ref aM_lengths, .ref aM_texts, .ref aM_formLengths, .ref aM_forms, .int M_claims, .ref aM_onSource, .ref aM_onClaim, .ref aM_rules, .int M_rings, .ref aM_ring, .ref aM_far, .ref aM_held, .ref aM_heldBefore, .int M_opinions, .ref aM_persons, .ref aM_ofClaims, .ref aM_values, .ref aM_when, .ref aM_ranks, .ref aM_known, .ref aM_counts])), (aM_pad, .inl (cI, 60, .inl M_pad)), (aM_lengths, .inl (cI, 24, .inl M_lengths)), (aM_texts, .inl (cI, 1440, .inl M_texts))]) [0, 1, 2, 3] (by decide) rfl
          exact W.iret (v := x3 + (1 : Int32)) hx hb hr (fun t ht hW => ⟨⟨_, (M_thrown), rfl, hw, by rw [ht]; exact hP9, hD9⟩, hS.F ht⟩) hS.2.2 d_M_quote_85
        · have hw := hw.2 c_3
          refine lv_aload_n hx hb d_M_quote_60 rfl (lv_at hl 0 rfl) ?_
          refine va_get (D := (dC, dI)) (ci := 5) (v := .ref aM_texts) (C := "ClaimSourcesModel") (T := TT_5) (N := 28) hx hb hts hi_5 hown hK hP 0 rfl rfl 8 (by decide) hf_25 (fun _ h9 => h9) rfl d_M_quote_61 ?_
          refine lv_bipush (v := 60) hx hb d_M_quote_64 (by decide) ?_
          refine lv_iload_n hx hb d_M_quote_66 rfl (lv_at hl 1 rfl) ?_
          refine lv_imul hx hb d_M_quote_67 ?_
          refine lv_iload_n hx hb d_M_quote_68 rfl (lv_at hl 2 rfl) ?_
          refine lv_iadd hx hb d_M_quote_69 ?_
          refine lv_iload_n hx hb d_M_quote_70 rfl (lv_at hl 3 rfl) ?_
          refine lv_iadd hx hb d_M_quote_71 ?_
          obtain ⟨h_4, hw⟩ := hw
          refine va_iald hx hb hK hP 3 0 rfl rfl h_4 d_M_quote_72 ?_
          refine lv_aload_n hx hb d_M_quote_73 rfl (lv_at hl 0 rfl) ?_
          refine va_get (D := (dC, dI)) (ci := 5) (v := .ref aM_pad) (C := "ClaimSourcesModel") (T := TT_5) (N := 28) hx hb hts hi_5 hown hK hP 0 rfl rfl 2 (by decide) hf_7 (fun _ h9 => h9) rfl d_M_quote_74 ?_
          refine lv_iload_n hx hb d_M_quote_77 rfl (lv_at hl 3 rfl) ?_
          obtain ⟨h_5, hw⟩ := hw
          refine va_iald hx hb hK hP 1 0 rfl rfl h_5 d_M_quote_78 ?_
          refine lv_icmp_eq (tgt := 86) hx hb d_M_quote_79 (by decide) (fun c_6 => ?_) (fun c_6 => ?_)
          · have hw := hw.1 c_6
            refine lv_iinc (v := x3 + 1) (lv' := [(3, .int (x3 + 1)), (0, .ref aM), (1, .int x1), (2, .int x2)]) hx hb d_M_quote_86 hl (k := 3) rfl rfl (by decide) rfl (fun ls hl => ?_)
            refine lv_goto (tgt := 40) hx hb d_M_quote_89 (by decide) ?_
            exact ih (x3 + 1) hw _ _ (hP.sub [0, 1, 2, 3] rfl) (hD.sub [0, 1, 2, 3] (by decide) rfl) hS ls (lv_sub hl [1, 2, 3, 0] rfl)
          · have hw := hw.2 c_6
            refine lv_iload_n hx hb d_M_quote_82 rfl (lv_at hl 3 rfl) ?_
            refine lv_iconst (v := 1) hx hb d_M_quote_83 (by decide) ?_
            refine lv_iadd hx hb d_M_quote_84 ?_
            subst hQ0
            have hP9 := hP.sub (ws' := [(aM, .inr (5, [.int M_thrown, .int M_padded, .ref aM_pad, .int M_sources, .ref aM_kinds, .ref aM_days, .ref aM_withdrawn, .ref aM_lengths, .ref aM_texts, .ref aM_formLengths, .ref aM_forms, .int M_claims, .ref aM_onSource, .ref aM_onClaim, .ref aM_rules, .int M_rings, .ref aM_ring, .ref aM_far, .ref aM_held, .ref aM_heldBefore, .int M_opinions, .ref aM_persons, .ref aM_ofClaims, .ref aM_values, .ref aM_when, .ref aM_ranks, .ref aM_known, .ref aM_counts])), (aM_pad, .inl (cI, 60, .inl M_pad)), (aM_lengths, .inl (cI, 24, .inl M_lengths)), (aM_texts, .inl (cI, 1440, .inl M_texts))]) [0, 1, 2, 3] rfl
            have hD9 := hD.sub (ws' := [(aM, .inr (5, [.int M_thrown, .int M_padded, .ref aM_pad, .int M_sources, .ref aM_kinds, .ref aM_days, .ref aM_withdrawn, .ref aM_lengths, .ref aM_texts, .ref aM_formLengths, .ref aM_forms, .int M_claims, .ref aM_onSource, .ref aM_onClaim, .ref aM_rules, .int M_rings, .ref aM_ring, .ref aM_far, .ref aM_held, .ref aM_heldBefore, .int M_opinions, .ref aM_persons, .ref aM_ofClaims, .ref aM_values, .ref aM_when, .ref aM_ranks, .ref aM_known, .ref aM_counts])), (aM_pad, .inl (cI, 60, .inl M_pad)), (aM_lengths, .inl (cI, 24, .inl M_lengths)), (aM_texts, .inl (cI, 1440, .inl M_texts))]) [0, 1, 2, 3] (by decide) rfl
            exact W.iret (v := x3 + (1 : Int32)) hx hb hr (fun t ht hW => ⟨⟨_, (M_thrown), rfl, hw, by rw [ht]; exact hP9, hD9⟩, hS.F ht⟩) hS.2.2 d_M_quote_85
  unfold wp_M_quote at hw
  refine lv_aload_n hx hb d_M_quote_0 rfl (lv_at hl 0 rfl) ?_
  refine lv_aload_n hx hb d_M_quote_1 rfl (lv_at hl 0 rfl) ?_
  refine lv_iload_n hx hb d_M_quote_2 rfl (lv_at hl 1 rfl) ?_
  have hPc := hP.sub (ws' := [(aM, .inr (5, [.int M_thrown, .int M_padded, .ref aM_pad, .int M_sources, .ref aM_kinds, .ref aM_days, .ref aM_withdrawn, .ref aM_lengths, .ref aM_texts, .ref aM_formLengths, .ref aM_forms, .int M_claims, .ref aM_onSource, .ref aM_onClaim, .ref aM_rules, .int M_rings, .ref aM_ring, .ref aM_far, .ref aM_held, .ref aM_heldBefore, .int M_opinions, .ref aM_persons, .ref aM_ofClaims, .ref aM_values, .ref aM_when, .ref aM_ranks, .ref aM_known, .ref aM_counts]))]) [0] rfl
  refine vp_callSi (W.runV (As := [.int x1]) (rest := [.ref aM]) ⟨hx, hb, hml, hown, hts⟩ (mt_M_isSource l dC dI cI cZ aM aM_pad aM_kinds aM_days aM_withdrawn aM_lengths aM_texts aM_formLengths aM_forms aM_onSource aM_onClaim aM_rules aM_ring aM_far aM_held aM_heldBefore aM_persons aM_ofClaims aM_values aM_when aM_ranks aM_known aM_counts _ M_thrown M_padded M_sources M_claims M_rings M_opinions x1 hw) (cwV 1 hts (gdV m_756 m_758 ms_20 m_6 m_759) rfl rfl rfl (by decide +kernel) ⟨Nat.le_of_ble_eq_true rfl, Nat.le_of_ble_eq_true rfl⟩) ⟨fb_r, va_recv hK hPc (ci := 5) (q0 := 0) rfl rfl, fun U hU hW => ⟨rfl, by rw [hU]; exact hPc, va_K.moved hW.alike hK, hE.warm hW⟩⟩ rfl rfl hl.1 rfl (lv_room (Nat.le_of_ble_eq_true rfl)) d_M_quote_3 ⟨Nat.le_of_ble_eq_true rfl, Nat.le_of_ble_eq_true rfl⟩) (fun r_7 hw => ?_)
  refine lv_if_eq (tgt := 27) hx hb d_M_quote_6 (by decide) (fun c_8 => ?_) (fun c_8 => ?_)
  · have hw := hw.1 c_8
    refine lv_iconst (v := 0) hx hb d_M_quote_27 (by decide) ?_
    refine lv_iconst (v := 1) hx hb d_M_quote_28 (by decide) ?_
    refine lv_iconst (v := 1) hx hb d_M_quote_29 (by decide) ?_
    have hPc := hP.sub (ws' := [(aM, .inr (5, [.int M_thrown, .int M_padded, .ref aM_pad, .int M_sources, .ref aM_kinds, .ref aM_days, .ref aM_withdrawn, .ref aM_lengths, .ref aM_texts, .ref aM_formLengths, .ref aM_forms, .int M_claims, .ref aM_onSource, .ref aM_onClaim, .ref aM_rules, .int M_rings, .ref aM_ring, .ref aM_far, .ref aM_held, .ref aM_heldBefore, .int M_opinions, .ref aM_persons, .ref aM_ofClaims, .ref aM_values, .ref aM_when, .ref aM_ranks, .ref aM_known, .ref aM_counts]))]) [0] rfl
    have hDc := hD.sub (ws' := [(aM, .inr (5, [.int M_thrown, .int M_padded, .ref aM_pad, .int M_sources, .ref aM_kinds, .ref aM_days, .ref aM_withdrawn, .ref aM_lengths, .ref aM_texts, .ref aM_formLengths, .ref aM_forms, .int M_claims, .ref aM_onSource, .ref aM_onClaim, .ref aM_rules, .int M_rings, .ref aM_ring, .ref aM_far, .ref aM_held, .ref aM_heldBefore, .int M_opinions, .ref aM_persons, .ref aM_ofClaims, .ref aM_values, .ref aM_when, .ref aM_ranks, .ref aM_known, .ref aM_counts]))]) [0] (by decide) rfl
    have hFc := va_free (wc := [(aM, .inr (5, [.int M_thrown, .int M_padded, .ref aM_pad, .int M_sources, .ref aM_kinds, .ref aM_days, .ref aM_withdrawn, .ref aM_lengths, .ref aM_texts, .ref aM_formLengths, .ref aM_forms, .int M_claims, .ref aM_onSource, .ref aM_onClaim, .ref aM_rules, .int M_rings, .ref aM_ring, .ref aM_far, .ref aM_held, .ref aM_heldBefore, .int M_opinions, .ref aM_persons, .ref aM_ofClaims, .ref aM_values, .ref aM_when, .ref aM_ranks, .ref aM_known, .ref aM_counts]))]) hD hS hA [0] rfl
    refine va_calli (va_runV (As := [.int (0 : Int32), .int (1 : Int32), .int (1 : Int32)]) (rest := []) ⟨hx, hb, hml, hown, hts⟩ (mt_M_goes l dC dI cI cZ aM aM_pad aM_kinds aM_days aM_withdrawn aM_lengths aM_texts aM_formLengths aM_forms aM_onSource aM_onClaim aM_rules aM_ring aM_far aM_held aM_heldBefore aM_persons aM_ofClaims aM_values aM_when aM_ranks aM_known aM_counts s.heap.size _ M_thrown M_padded M_sources M_claims M_rings M_opinions (0 : Int32) (1 : Int32) (1 : Int32) hw) (cwV 3 hts (gdV m_728 m_730 ms_18 m_6 m_731) rfl rfl rfl (by decide +kernel) ⟨Nat.le_of_ble_eq_true rfl, Nat.le_of_ble_eq_true rfl⟩) ⟨fb_w, va_recv hK hPc (ci := 5) (q0 := 0) rfl rfl, fun U hU hW => ⟨rfl, by rw [hU], by rw [hU]; exact hPc, va_K.moved hW.alike hK, hDc.weaken (fun _ _ _ _ => trivial), hE.warm hW⟩⟩ rfl rfl hl.1 rfl (lv_room (Nat.le_of_ble_eq_true rfl)) d_M_quote_30 ⟨Nat.le_of_ble_eq_true rfl, Nat.le_of_ble_eq_true rfl⟩) hS (fun q _ h => hFc q h) hFc (fun r_9 u t H1 locs ht hvm hw hB hz1 hk1 hS => ?_)
    obtain ⟨u_10, rfl⟩ : ∃ z, z = u := ⟨_, rfl⟩
    obtain ⟨hP1, hD1⟩ := hB
    rw [ht] at hP1
    try dsimp only at hw hP1 hD1
    obtain ⟨hP, hD⟩ := va_join (wr := [(aM_pad, .inl (cI, 60, .inl M_pad)), (aM_lengths, .inl (cI, 24, .inl M_lengths)), (aM_texts, .inl (cI, 1440, .inl M_texts))]) (w1 := [(aM, .inr (5, [.int u_10, .int M_padded, .ref aM_pad, .int M_sources, .ref aM_kinds, .ref aM_days, .ref aM_withdrawn, .ref aM_lengths, .ref aM_texts, .ref aM_formLengths, .ref aM_forms, .int M_claims, .ref aM_onSource, .ref aM_onClaim, .ref aM_rules, .int M_rings, .ref aM_ring, .ref aM_far, .ref aM_held, .ref aM_heldBefore, .int M_opinions, .ref aM_persons, .ref aM_ofClaims, .ref aM_values, .ref aM_when, .ref aM_ranks, .ref aM_known, .ref aM_counts]))]) hP hD [0] [1, 2, 3] rfl rfl (by decide) (by decide) hk1 hFc hP1 hD1
    generalize H1 = H at hP hS ⊢
    have hP : va_P (dC, dI) vwCl [(aM_pad, .inl (cI, 60, .inl M_pad)), (aM_lengths, .inl (cI, 24, .inl M_lengths)), (aM_texts, .inl (cI, 1440, .inl M_texts)), (aM, .inr (5, [.int u_10, .int M_padded, .ref aM_pad, .int M_sources, .ref aM_kinds, .ref aM_days, .ref aM_withdrawn, .ref aM_lengths, .ref aM_texts, .ref aM_formLengths, .ref aM_forms, .int M_claims, .ref aM_onSource, .ref aM_onClaim, .ref aM_rules, .int M_rings, .ref aM_ring, .ref aM_far, .ref aM_held, .ref aM_heldBefore, .int M_opinions, .ref aM_persons, .ref aM_ofClaims, .ref aM_values, .ref aM_when, .ref aM_ranks, .ref aM_known, .ref aM_counts]))] H := hP
    have hD : va_D A [(aM_pad, .inl (cI, 60, .inl M_pad)), (aM_lengths, .inl (cI, 24, .inl M_lengths)), (aM_texts, .inl (cI, 1440, .inl M_texts)), (aM, .inr (5, [.int u_10, .int M_padded, .ref aM_pad, .int M_sources, .ref aM_kinds, .ref aM_days, .ref aM_withdrawn, .ref aM_lengths, .ref aM_texts, .ref aM_formLengths, .ref aM_forms, .int M_claims, .ref aM_onSource, .ref aM_onClaim, .ref aM_rules, .int M_rings, .ref aM_ring, .ref aM_far, .ref aM_held, .ref aM_heldBefore, .int M_opinions, .ref aM_persons, .ref aM_ofClaims, .ref aM_values, .ref aM_when, .ref aM_ranks, .ref aM_known, .ref aM_counts]))] := hD
    refine lv_if_ne (tgt := 38) hx hb d_M_quote_33 (by decide) (fun c_11 => ?_) (fun c_11 => ?_)
    · have hw := hw.2 c_11
      refine lv_iconst (v := 0) hx hb d_M_quote_38 (by decide) ?_
      refine lv_istore_n (lv' := [(3, .int (0 : Int32)), (0, .ref aM), (1, .int x1), (2, .int x2)]) hx hb d_M_quote_39 rfl hl (by decide) rfl (fun ls hl => ?_)
      obtain ⟨n_12, hw⟩ := hw
      exact L40 u_10 x1 x2 n_12 (0 : Int32) hw _ _ (hP.sub [3, 0, 1, 2] rfl) (hD.sub [3, 0, 1, 2] (by decide) rfl) hS ls (lv_sub hl [1, 2, 3, 0] rfl)
    · have hw := hw.1 c_11
      refine lv_iconst (v := 0) hx hb d_M_quote_36 (by decide) ?_
      subst hQ0
      have hP9 := hP.sub (ws' := [(aM, .inr (5, [.int u_10, .int M_padded, .ref aM_pad, .int M_sources, .ref aM_kinds, .ref aM_days, .ref aM_withdrawn, .ref aM_lengths, .ref aM_texts, .ref aM_formLengths, .ref aM_forms, .int M_claims, .ref aM_onSource, .ref aM_onClaim, .ref aM_rules, .int M_rings, .ref aM_ring, .ref aM_far, .ref aM_held, .ref aM_heldBefore, .int M_opinions, .ref aM_persons, .ref aM_ofClaims, .ref aM_values, .ref aM_when, .ref aM_ranks, .ref aM_known, .ref aM_counts])), (aM_pad, .inl (cI, 60, .inl M_pad)), (aM_lengths, .inl (cI, 24, .inl M_lengths)), (aM_texts, .inl (cI, 1440, .inl M_texts))]) [3, 0, 1, 2] rfl
      have hD9 := hD.sub (ws' := [(aM, .inr (5, [.int u_10, .int M_padded, .ref aM_pad, .int M_sources, .ref aM_kinds, .ref aM_days, .ref aM_withdrawn, .ref aM_lengths, .ref aM_texts, .ref aM_formLengths, .ref aM_forms, .int M_claims, .ref aM_onSource, .ref aM_onClaim, .ref aM_rules, .int M_rings, .ref aM_ring, .ref aM_far, .ref aM_held, .ref aM_heldBefore, .int M_opinions, .ref aM_persons, .ref aM_ofClaims, .ref aM_values, .ref aM_when, .ref aM_ranks, .ref aM_known, .ref aM_counts])), (aM_pad, .inl (cI, 60, .inl M_pad)), (aM_lengths, .inl (cI, 24, .inl M_lengths)), (aM_texts, .inl (cI, 1440, .inl M_texts))]) [3, 0, 1, 2] (by decide) rfl
      exact W.iret (v := (0 : Int32)) hx hb hr (fun t ht hW => ⟨⟨_, (u_10), rfl, hw, by rw [ht]; exact hP9, hD9⟩, hS.F ht⟩) hS.2.2 d_M_quote_37
  · have hw := hw.2 c_8
    refine lv_iload_n hx hb d_M_quote_9 rfl (lv_at hl 2 rfl) ?_
    refine lv_if_lt (tgt := 27) hx hb d_M_quote_10 (by decide) (fun c_13 => ?_) (fun c_13 => ?_)
    · have hw := hw.1 c_13
      refine lv_iconst (v := 0) hx hb d_M_quote_27 (by decide) ?_
      refine lv_iconst (v := 1) hx hb d_M_quote_28 (by decide) ?_
      refine lv_iconst (v := 1) hx hb d_M_quote_29 (by decide) ?_
      have hPc := hP.sub (ws' := [(aM, .inr (5, [.int M_thrown, .int M_padded, .ref aM_pad, .int M_sources, .ref aM_kinds, .ref aM_days, .ref aM_withdrawn, .ref aM_lengths, .ref aM_texts, .ref aM_formLengths, .ref aM_forms, .int M_claims, .ref aM_onSource, .ref aM_onClaim, .ref aM_rules, .int M_rings, .ref aM_ring, .ref aM_far, .ref aM_held, .ref aM_heldBefore, .int M_opinions, .ref aM_persons, .ref aM_ofClaims, .ref aM_values, .ref aM_when, .ref aM_ranks, .ref aM_known, .ref aM_counts]))]) [0] rfl
      have hDc := hD.sub (ws' := [(aM, .inr (5, [.int M_thrown, .int M_padded, .ref aM_pad, .int M_sources, .ref aM_kinds, .ref aM_days, .ref aM_withdrawn, .ref aM_lengths, .ref aM_texts, .ref aM_formLengths, .ref aM_forms, .int M_claims, .ref aM_onSource, .ref aM_onClaim, .ref aM_rules, .int M_rings, .ref aM_ring, .ref aM_far, .ref aM_held, .ref aM_heldBefore, .int M_opinions, .ref aM_persons, .ref aM_ofClaims, .ref aM_values, .ref aM_when, .ref aM_ranks, .ref aM_known, .ref aM_counts]))]) [0] (by decide) rfl
      have hFc := va_free (wc := [(aM, .inr (5, [.int M_thrown, .int M_padded, .ref aM_pad, .int M_sources, .ref aM_kinds, .ref aM_days, .ref aM_withdrawn, .ref aM_lengths, .ref aM_texts, .ref aM_formLengths, .ref aM_forms, .int M_claims, .ref aM_onSource, .ref aM_onClaim, .ref aM_rules, .int M_rings, .ref aM_ring, .ref aM_far, .ref aM_held, .ref aM_heldBefore, .int M_opinions, .ref aM_persons, .ref aM_ofClaims, .ref aM_values, .ref aM_when, .ref aM_ranks, .ref aM_known, .ref aM_counts]))]) hD hS hA [0] rfl
      refine va_calli (va_runV (As := [.int (0 : Int32), .int (1 : Int32), .int (1 : Int32)]) (rest := []) ⟨hx, hb, hml, hown, hts⟩ (mt_M_goes l dC dI cI cZ aM aM_pad aM_kinds aM_days aM_withdrawn aM_lengths aM_texts aM_formLengths aM_forms aM_onSource aM_onClaim aM_rules aM_ring aM_far aM_held aM_heldBefore aM_persons aM_ofClaims aM_values aM_when aM_ranks aM_known aM_counts s.heap.size _ M_thrown M_padded M_sources M_claims M_rings M_opinions (0 : Int32) (1 : Int32) (1 : Int32) hw) (cwV 3 hts (gdV m_728 m_730 ms_18 m_6 m_731) rfl rfl rfl (by decide +kernel) ⟨Nat.le_of_ble_eq_true rfl, Nat.le_of_ble_eq_true rfl⟩) ⟨fb_w, va_recv hK hPc (ci := 5) (q0 := 0) rfl rfl, fun U hU hW => ⟨rfl, by rw [hU], by rw [hU]; exact hPc, va_K.moved hW.alike hK, hDc.weaken (fun _ _ _ _ => trivial), hE.warm hW⟩⟩ rfl rfl hl.1 rfl (lv_room (Nat.le_of_ble_eq_true rfl)) d_M_quote_30 ⟨Nat.le_of_ble_eq_true rfl, Nat.le_of_ble_eq_true rfl⟩) hS (fun q _ h => hFc q h) hFc (fun r_14 u t H1 locs ht hvm hw hB hz1 hk1 hS => ?_)
      obtain ⟨u_15, rfl⟩ : ∃ z, z = u := ⟨_, rfl⟩
      obtain ⟨hP1, hD1⟩ := hB
      rw [ht] at hP1
      try dsimp only at hw hP1 hD1
      obtain ⟨hP, hD⟩ := va_join (wr := [(aM_pad, .inl (cI, 60, .inl M_pad)), (aM_lengths, .inl (cI, 24, .inl M_lengths)), (aM_texts, .inl (cI, 1440, .inl M_texts))]) (w1 := [(aM, .inr (5, [.int u_15, .int M_padded, .ref aM_pad, .int M_sources, .ref aM_kinds, .ref aM_days, .ref aM_withdrawn, .ref aM_lengths, .ref aM_texts, .ref aM_formLengths, .ref aM_forms, .int M_claims, .ref aM_onSource, .ref aM_onClaim, .ref aM_rules, .int M_rings, .ref aM_ring, .ref aM_far, .ref aM_held, .ref aM_heldBefore, .int M_opinions, .ref aM_persons, .ref aM_ofClaims, .ref aM_values, .ref aM_when, .ref aM_ranks, .ref aM_known, .ref aM_counts]))]) hP hD [0] [1, 2, 3] rfl rfl (by decide) (by decide) hk1 hFc hP1 hD1
      generalize H1 = H at hP hS ⊢
      have hP : va_P (dC, dI) vwCl [(aM_pad, .inl (cI, 60, .inl M_pad)), (aM_lengths, .inl (cI, 24, .inl M_lengths)), (aM_texts, .inl (cI, 1440, .inl M_texts)), (aM, .inr (5, [.int u_15, .int M_padded, .ref aM_pad, .int M_sources, .ref aM_kinds, .ref aM_days, .ref aM_withdrawn, .ref aM_lengths, .ref aM_texts, .ref aM_formLengths, .ref aM_forms, .int M_claims, .ref aM_onSource, .ref aM_onClaim, .ref aM_rules, .int M_rings, .ref aM_ring, .ref aM_far, .ref aM_held, .ref aM_heldBefore, .int M_opinions, .ref aM_persons, .ref aM_ofClaims, .ref aM_values, .ref aM_when, .ref aM_ranks, .ref aM_known, .ref aM_counts]))] H := hP
      have hD : va_D A [(aM_pad, .inl (cI, 60, .inl M_pad)), (aM_lengths, .inl (cI, 24, .inl M_lengths)), (aM_texts, .inl (cI, 1440, .inl M_texts)), (aM, .inr (5, [.int u_15, .int M_padded, .ref aM_pad, .int M_sources, .ref aM_kinds, .ref aM_days, .ref aM_withdrawn, .ref aM_lengths, .ref aM_texts, .ref aM_formLengths, .ref aM_forms, .int M_claims, .ref aM_onSource, .ref aM_onClaim, .ref aM_rules, .int M_rings, .ref aM_ring, .ref aM_far, .ref aM_held, .ref aM_heldBefore, .int M_opinions, .ref aM_persons, .ref aM_ofClaims, .ref aM_values, .ref aM_when, .ref aM_ranks, .ref aM_known, .ref aM_counts]))] := hD
      refine lv_if_ne (tgt := 38) hx hb d_M_quote_33 (by decide) (fun c_16 => ?_) (fun c_16 => ?_)
      · have hw := hw.2 c_16
        refine lv_iconst (v := 0) hx hb d_M_quote_38 (by decide) ?_
        refine lv_istore_n (lv' := [(3, .int (0 : Int32)), (0, .ref aM), (1, .int x1), (2, .int x2)]) hx hb d_M_quote_39 rfl hl (by decide) rfl (fun ls hl => ?_)
        obtain ⟨n_17, hw⟩ := hw
        exact L40 u_15 x1 x2 n_17 (0 : Int32) hw _ _ (hP.sub [3, 0, 1, 2] rfl) (hD.sub [3, 0, 1, 2] (by decide) rfl) hS ls (lv_sub hl [1, 2, 3, 0] rfl)
      · have hw := hw.1 c_16
        refine lv_iconst (v := 0) hx hb d_M_quote_36 (by decide) ?_
        subst hQ0
        have hP9 := hP.sub (ws' := [(aM, .inr (5, [.int u_15, .int M_padded, .ref aM_pad, .int M_sources, .ref aM_kinds, .ref aM_days, .ref aM_withdrawn, .ref aM_lengths, .ref aM_texts, .ref aM_formLengths, .ref aM_forms, .int M_claims, .ref aM_onSource, .ref aM_onClaim, .ref aM_rules, .int M_rings, .ref aM_ring, .ref aM_far, .ref aM_held, .ref aM_heldBefore, .int M_opinions, .ref aM_persons, .ref aM_ofClaims, .ref aM_values, .ref aM_when, .ref aM_ranks, .ref aM_known, .ref aM_counts])), (aM_pad, .inl (cI, 60, .inl M_pad)), (aM_lengths, .inl (cI, 24, .inl M_lengths)), (aM_texts, .inl (cI, 1440, .inl M_texts))]) [3, 0, 1, 2] rfl
        have hD9 := hD.sub (ws' := [(aM, .inr (5, [.int u_15, .int M_padded, .ref aM_pad, .int M_sources, .ref aM_kinds, .ref aM_days, .ref aM_withdrawn, .ref aM_lengths, .ref aM_texts, .ref aM_formLengths, .ref aM_forms, .int M_claims, .ref aM_onSource, .ref aM_onClaim, .ref aM_rules, .int M_rings, .ref aM_ring, .ref aM_far, .ref aM_held, .ref aM_heldBefore, .int M_opinions, .ref aM_persons, .ref aM_ofClaims, .ref aM_values, .ref aM_when, .ref aM_ranks, .ref aM_known, .ref aM_counts])), (aM_pad, .inl (cI, 60, .inl M_pad)), (aM_lengths, .inl (cI, 24, .inl M_lengths)), (aM_texts, .inl (cI, 1440, .inl M_texts))]) [3, 0, 1, 2] (by decide) rfl
        exact W.iret (v := (0 : Int32)) hx hb hr (fun t ht hW => ⟨⟨_, (u_15), rfl, hw, by rw [ht]; exact hP9, hD9⟩, hS.F ht⟩) hS.2.2 d_M_quote_37
    · have hw := hw.2 c_13
      refine lv_iload_n hx hb d_M_quote_13 rfl (lv_at hl 2 rfl) ?_
      refine lv_aload_n hx hb d_M_quote_14 rfl (lv_at hl 0 rfl) ?_
      refine va_get (D := (dC, dI)) (ci := 5) (v := .ref aM_lengths) (C := "ClaimSourcesModel") (T := TT_5) (N := 28) hx hb hts hi_5 hown hK hP 0 rfl rfl 7 (by decide) hf_22 (fun _ h9 => h9) rfl d_M_quote_15 ?_
      refine lv_iload_n hx hb d_M_quote_18 rfl (lv_at hl 1 rfl) ?_
      obtain ⟨h_18, hw⟩ := hw
      refine va_iald hx hb hK hP 2 0 rfl rfl h_18 d_M_quote_19 ?_
      refine lv_icmp_gt (tgt := 27) hx hb d_M_quote_20 (by decide) (fun c_19 => ?_) (fun c_19 => ?_)
      · have hw := hw.1 c_19
        refine lv_iconst (v := 0) hx hb d_M_quote_27 (by decide) ?_
        refine lv_iconst (v := 1) hx hb d_M_quote_28 (by decide) ?_
        refine lv_iconst (v := 1) hx hb d_M_quote_29 (by decide) ?_
        have hPc := hP.sub (ws' := [(aM, .inr (5, [.int M_thrown, .int M_padded, .ref aM_pad, .int M_sources, .ref aM_kinds, .ref aM_days, .ref aM_withdrawn, .ref aM_lengths, .ref aM_texts, .ref aM_formLengths, .ref aM_forms, .int M_claims, .ref aM_onSource, .ref aM_onClaim, .ref aM_rules, .int M_rings, .ref aM_ring, .ref aM_far, .ref aM_held, .ref aM_heldBefore, .int M_opinions, .ref aM_persons, .ref aM_ofClaims, .ref aM_values, .ref aM_when, .ref aM_ranks, .ref aM_known, .ref aM_counts]))]) [0] rfl
        have hDc := hD.sub (ws' := [(aM, .inr (5, [.int M_thrown, .int M_padded, .ref aM_pad, .int M_sources, .ref aM_kinds, .ref aM_days, .ref aM_withdrawn, .ref aM_lengths, .ref aM_texts, .ref aM_formLengths, .ref aM_forms, .int M_claims, .ref aM_onSource, .ref aM_onClaim, .ref aM_rules, .int M_rings, .ref aM_ring, .ref aM_far, .ref aM_held, .ref aM_heldBefore, .int M_opinions, .ref aM_persons, .ref aM_ofClaims, .ref aM_values, .ref aM_when, .ref aM_ranks, .ref aM_known, .ref aM_counts]))]) [0] (by decide) rfl
        have hFc := va_free (wc := [(aM, .inr (5, [.int M_thrown, .int M_padded, .ref aM_pad, .int M_sources, .ref aM_kinds, .ref aM_days, .ref aM_withdrawn, .ref aM_lengths, .ref aM_texts, .ref aM_formLengths, .ref aM_forms, .int M_claims, .ref aM_onSource, .ref aM_onClaim, .ref aM_rules, .int M_rings, .ref aM_ring, .ref aM_far, .ref aM_held, .ref aM_heldBefore, .int M_opinions, .ref aM_persons, .ref aM_ofClaims, .ref aM_values, .ref aM_when, .ref aM_ranks, .ref aM_known, .ref aM_counts]))]) hD hS hA [0] rfl
        refine va_calli (va_runV (As := [.int (0 : Int32), .int (1 : Int32), .int (1 : Int32)]) (rest := []) ⟨hx, hb, hml, hown, hts⟩ (mt_M_goes l dC dI cI cZ aM aM_pad aM_kinds aM_days aM_withdrawn aM_lengths aM_texts aM_formLengths aM_forms aM_onSource aM_onClaim aM_rules aM_ring aM_far aM_held aM_heldBefore aM_persons aM_ofClaims aM_values aM_when aM_ranks aM_known aM_counts s.heap.size _ M_thrown M_padded M_sources M_claims M_rings M_opinions (0 : Int32) (1 : Int32) (1 : Int32) hw) (cwV 3 hts (gdV m_728 m_730 ms_18 m_6 m_731) rfl rfl rfl (by decide +kernel) ⟨Nat.le_of_ble_eq_true rfl, Nat.le_of_ble_eq_true rfl⟩) ⟨fb_w, va_recv hK hPc (ci := 5) (q0 := 0) rfl rfl, fun U hU hW => ⟨rfl, by rw [hU], by rw [hU]; exact hPc, va_K.moved hW.alike hK, hDc.weaken (fun _ _ _ _ => trivial), hE.warm hW⟩⟩ rfl rfl hl.1 rfl (lv_room (Nat.le_of_ble_eq_true rfl)) d_M_quote_30 ⟨Nat.le_of_ble_eq_true rfl, Nat.le_of_ble_eq_true rfl⟩) hS (fun q _ h => hFc q h) hFc (fun r_20 u t H1 locs ht hvm hw hB hz1 hk1 hS => ?_)
        obtain ⟨u_21, rfl⟩ : ∃ z, z = u := ⟨_, rfl⟩
        obtain ⟨hP1, hD1⟩ := hB
        rw [ht] at hP1
        try dsimp only at hw hP1 hD1
        obtain ⟨hP, hD⟩ := va_join (wr := [(aM_pad, .inl (cI, 60, .inl M_pad)), (aM_lengths, .inl (cI, 24, .inl M_lengths)), (aM_texts, .inl (cI, 1440, .inl M_texts))]) (w1 := [(aM, .inr (5, [.int u_21, .int M_padded, .ref aM_pad, .int M_sources, .ref aM_kinds, .ref aM_days, .ref aM_withdrawn, .ref aM_lengths, .ref aM_texts, .ref aM_formLengths, .ref aM_forms, .int M_claims, .ref aM_onSource, .ref aM_onClaim, .ref aM_rules, .int M_rings, .ref aM_ring, .ref aM_far, .ref aM_held, .ref aM_heldBefore, .int M_opinions, .ref aM_persons, .ref aM_ofClaims, .ref aM_values, .ref aM_when, .ref aM_ranks, .ref aM_known, .ref aM_counts]))]) hP hD [0] [1, 2, 3] rfl rfl (by decide) (by decide) hk1 hFc hP1 hD1
        generalize H1 = H at hP hS ⊢
        have hP : va_P (dC, dI) vwCl [(aM_pad, .inl (cI, 60, .inl M_pad)), (aM_lengths, .inl (cI, 24, .inl M_lengths)), (aM_texts, .inl (cI, 1440, .inl M_texts)), (aM, .inr (5, [.int u_21, .int M_padded, .ref aM_pad, .int M_sources, .ref aM_kinds, .ref aM_days, .ref aM_withdrawn, .ref aM_lengths, .ref aM_texts, .ref aM_formLengths, .ref aM_forms, .int M_claims, .ref aM_onSource, .ref aM_onClaim, .ref aM_rules, .int M_rings, .ref aM_ring, .ref aM_far, .ref aM_held, .ref aM_heldBefore, .int M_opinions, .ref aM_persons, .ref aM_ofClaims, .ref aM_values, .ref aM_when, .ref aM_ranks, .ref aM_known, .ref aM_counts]))] H := hP
        have hD : va_D A [(aM_pad, .inl (cI, 60, .inl M_pad)), (aM_lengths, .inl (cI, 24, .inl M_lengths)), (aM_texts, .inl (cI, 1440, .inl M_texts)), (aM, .inr (5, [.int u_21, .int M_padded, .ref aM_pad, .int M_sources, .ref aM_kinds, .ref aM_days, .ref aM_withdrawn, .ref aM_lengths, .ref aM_texts, .ref aM_formLengths, .ref aM_forms, .int M_claims, .ref aM_onSource, .ref aM_onClaim, .ref aM_rules, .int M_rings, .ref aM_ring, .ref aM_far, .ref aM_held, .ref aM_heldBefore, .int M_opinions, .ref aM_persons, .ref aM_ofClaims, .ref aM_values, .ref aM_when, .ref aM_ranks, .ref aM_known, .ref aM_counts]))] := hD
        refine lv_if_ne (tgt := 38) hx hb d_M_quote_33 (by decide) (fun c_22 => ?_) (fun c_22 => ?_)
        · have hw := hw.2 c_22
          refine lv_iconst (v := 0) hx hb d_M_quote_38 (by decide) ?_
          refine lv_istore_n (lv' := [(3, .int (0 : Int32)), (0, .ref aM), (1, .int x1), (2, .int x2)]) hx hb d_M_quote_39 rfl hl (by decide) rfl (fun ls hl => ?_)
          obtain ⟨n_23, hw⟩ := hw
          exact L40 u_21 x1 x2 n_23 (0 : Int32) hw _ _ (hP.sub [3, 0, 1, 2] rfl) (hD.sub [3, 0, 1, 2] (by decide) rfl) hS ls (lv_sub hl [1, 2, 3, 0] rfl)
        · have hw := hw.1 c_22
          refine lv_iconst (v := 0) hx hb d_M_quote_36 (by decide) ?_
          subst hQ0
          have hP9 := hP.sub (ws' := [(aM, .inr (5, [.int u_21, .int M_padded, .ref aM_pad, .int M_sources, .ref aM_kinds, .ref aM_days, .ref aM_withdrawn, .ref aM_lengths, .ref aM_texts, .ref aM_formLengths, .ref aM_forms, .int M_claims, .ref aM_onSource, .ref aM_onClaim, .ref aM_rules, .int M_rings, .ref aM_ring, .ref aM_far, .ref aM_held, .ref aM_heldBefore, .int M_opinions, .ref aM_persons, .ref aM_ofClaims, .ref aM_values, .ref aM_when, .ref aM_ranks, .ref aM_known, .ref aM_counts])), (aM_pad, .inl (cI, 60, .inl M_pad)), (aM_lengths, .inl (cI, 24, .inl M_lengths)), (aM_texts, .inl (cI, 1440, .inl M_texts))]) [3, 0, 1, 2] rfl
          have hD9 := hD.sub (ws' := [(aM, .inr (5, [.int u_21, .int M_padded, .ref aM_pad, .int M_sources, .ref aM_kinds, .ref aM_days, .ref aM_withdrawn, .ref aM_lengths, .ref aM_texts, .ref aM_formLengths, .ref aM_forms, .int M_claims, .ref aM_onSource, .ref aM_onClaim, .ref aM_rules, .int M_rings, .ref aM_ring, .ref aM_far, .ref aM_held, .ref aM_heldBefore, .int M_opinions, .ref aM_persons, .ref aM_ofClaims, .ref aM_values, .ref aM_when, .ref aM_ranks, .ref aM_known, .ref aM_counts])), (aM_pad, .inl (cI, 60, .inl M_pad)), (aM_lengths, .inl (cI, 24, .inl M_lengths)), (aM_texts, .inl (cI, 1440, .inl M_texts))]) [3, 0, 1, 2] (by decide) rfl
          exact W.iret (v := (0 : Int32)) hx hb hr (fun t ht hW => ⟨⟨_, (u_21), rfl, hw, by rw [ht]; exact hP9, hD9⟩, hS.F ht⟩) hS.2.2 d_M_quote_37
      · have hw := hw.2 c_19
        refine lv_iconst (v := 1) hx hb d_M_quote_23 (by decide) ?_
        refine lv_goto (tgt := 28) hx hb d_M_quote_24 (by decide) ?_
        refine lv_iconst (v := 1) hx hb d_M_quote_28 (by decide) ?_
        refine lv_iconst (v := 1) hx hb d_M_quote_29 (by decide) ?_
        have hPc := hP.sub (ws' := [(aM, .inr (5, [.int M_thrown, .int M_padded, .ref aM_pad, .int M_sources, .ref aM_kinds, .ref aM_days, .ref aM_withdrawn, .ref aM_lengths, .ref aM_texts, .ref aM_formLengths, .ref aM_forms, .int M_claims, .ref aM_onSource, .ref aM_onClaim, .ref aM_rules, .int M_rings, .ref aM_ring, .ref aM_far, .ref aM_held, .ref aM_heldBefore, .int M_opinions, .ref aM_persons, .ref aM_ofClaims, .ref aM_values, .ref aM_when, .ref aM_ranks, .ref aM_known, .ref aM_counts]))]) [0] rfl
        have hDc := hD.sub (ws' := [(aM, .inr (5, [.int M_thrown, .int M_padded, .ref aM_pad, .int M_sources, .ref aM_kinds, .ref aM_days, .ref aM_withdrawn, .ref aM_lengths, .ref aM_texts, .ref aM_formLengths, .ref aM_forms, .int M_claims, .ref aM_onSource, .ref aM_onClaim, .ref aM_rules, .int M_rings, .ref aM_ring, .ref aM_far, .ref aM_held, .ref aM_heldBefore, .int M_opinions, .ref aM_persons, .ref aM_ofClaims, .ref aM_values, .ref aM_when, .ref aM_ranks, .ref aM_known, .ref aM_counts]))]) [0] (by decide) rfl
        have hFc := va_free (wc := [(aM, .inr (5, [.int M_thrown, .int M_padded, .ref aM_pad, .int M_sources, .ref aM_kinds, .ref aM_days, .ref aM_withdrawn, .ref aM_lengths, .ref aM_texts, .ref aM_formLengths, .ref aM_forms, .int M_claims, .ref aM_onSource, .ref aM_onClaim, .ref aM_rules, .int M_rings, .ref aM_ring, .ref aM_far, .ref aM_held, .ref aM_heldBefore, .int M_opinions, .ref aM_persons, .ref aM_ofClaims, .ref aM_values, .ref aM_when, .ref aM_ranks, .ref aM_known, .ref aM_counts]))]) hD hS hA [0] rfl
        refine va_calli (va_runV (As := [.int (1 : Int32), .int (1 : Int32), .int (1 : Int32)]) (rest := []) ⟨hx, hb, hml, hown, hts⟩ (mt_M_goes l dC dI cI cZ aM aM_pad aM_kinds aM_days aM_withdrawn aM_lengths aM_texts aM_formLengths aM_forms aM_onSource aM_onClaim aM_rules aM_ring aM_far aM_held aM_heldBefore aM_persons aM_ofClaims aM_values aM_when aM_ranks aM_known aM_counts s.heap.size _ M_thrown M_padded M_sources M_claims M_rings M_opinions (1 : Int32) (1 : Int32) (1 : Int32) hw) (cwV 3 hts (gdV m_728 m_730 ms_18 m_6 m_731) rfl rfl rfl (by decide +kernel) ⟨Nat.le_of_ble_eq_true rfl, Nat.le_of_ble_eq_true rfl⟩) ⟨fb_w, va_recv hK hPc (ci := 5) (q0 := 0) rfl rfl, fun U hU hW => ⟨rfl, by rw [hU], by rw [hU]; exact hPc, va_K.moved hW.alike hK, hDc.weaken (fun _ _ _ _ => trivial), hE.warm hW⟩⟩ rfl rfl hl.1 rfl (lv_room (Nat.le_of_ble_eq_true rfl)) d_M_quote_30 ⟨Nat.le_of_ble_eq_true rfl, Nat.le_of_ble_eq_true rfl⟩) hS (fun q _ h => hFc q h) hFc (fun r_24 u t H1 locs ht hvm hw hB hz1 hk1 hS => ?_)
        obtain ⟨u_25, rfl⟩ : ∃ z, z = u := ⟨_, rfl⟩
        obtain ⟨hP1, hD1⟩ := hB
        rw [ht] at hP1
        try dsimp only at hw hP1 hD1
        obtain ⟨hP, hD⟩ := va_join (wr := [(aM_pad, .inl (cI, 60, .inl M_pad)), (aM_lengths, .inl (cI, 24, .inl M_lengths)), (aM_texts, .inl (cI, 1440, .inl M_texts))]) (w1 := [(aM, .inr (5, [.int u_25, .int M_padded, .ref aM_pad, .int M_sources, .ref aM_kinds, .ref aM_days, .ref aM_withdrawn, .ref aM_lengths, .ref aM_texts, .ref aM_formLengths, .ref aM_forms, .int M_claims, .ref aM_onSource, .ref aM_onClaim, .ref aM_rules, .int M_rings, .ref aM_ring, .ref aM_far, .ref aM_held, .ref aM_heldBefore, .int M_opinions, .ref aM_persons, .ref aM_ofClaims, .ref aM_values, .ref aM_when, .ref aM_ranks, .ref aM_known, .ref aM_counts]))]) hP hD [0] [1, 2, 3] rfl rfl (by decide) (by decide) hk1 hFc hP1 hD1
        generalize H1 = H at hP hS ⊢
        have hP : va_P (dC, dI) vwCl [(aM_pad, .inl (cI, 60, .inl M_pad)), (aM_lengths, .inl (cI, 24, .inl M_lengths)), (aM_texts, .inl (cI, 1440, .inl M_texts)), (aM, .inr (5, [.int u_25, .int M_padded, .ref aM_pad, .int M_sources, .ref aM_kinds, .ref aM_days, .ref aM_withdrawn, .ref aM_lengths, .ref aM_texts, .ref aM_formLengths, .ref aM_forms, .int M_claims, .ref aM_onSource, .ref aM_onClaim, .ref aM_rules, .int M_rings, .ref aM_ring, .ref aM_far, .ref aM_held, .ref aM_heldBefore, .int M_opinions, .ref aM_persons, .ref aM_ofClaims, .ref aM_values, .ref aM_when, .ref aM_ranks, .ref aM_known, .ref aM_counts]))] H := hP
        have hD : va_D A [(aM_pad, .inl (cI, 60, .inl M_pad)), (aM_lengths, .inl (cI, 24, .inl M_lengths)), (aM_texts, .inl (cI, 1440, .inl M_texts)), (aM, .inr (5, [.int u_25, .int M_padded, .ref aM_pad, .int M_sources, .ref aM_kinds, .ref aM_days, .ref aM_withdrawn, .ref aM_lengths, .ref aM_texts, .ref aM_formLengths, .ref aM_forms, .int M_claims, .ref aM_onSource, .ref aM_onClaim, .ref aM_rules, .int M_rings, .ref aM_ring, .ref aM_far, .ref aM_held, .ref aM_heldBefore, .int M_opinions, .ref aM_persons, .ref aM_ofClaims, .ref aM_values, .ref aM_when, .ref aM_ranks, .ref aM_known, .ref aM_counts]))] := hD
        refine lv_if_ne (tgt := 38) hx hb d_M_quote_33 (by decide) (fun c_26 => ?_) (fun c_26 => ?_)
        · have hw := hw.2 c_26
          refine lv_iconst (v := 0) hx hb d_M_quote_38 (by decide) ?_
          refine lv_istore_n (lv' := [(3, .int (0 : Int32)), (0, .ref aM), (1, .int x1), (2, .int x2)]) hx hb d_M_quote_39 rfl hl (by decide) rfl (fun ls hl => ?_)
          obtain ⟨n_27, hw⟩ := hw
          exact L40 u_25 x1 x2 n_27 (0 : Int32) hw _ _ (hP.sub [3, 0, 1, 2] rfl) (hD.sub [3, 0, 1, 2] (by decide) rfl) hS ls (lv_sub hl [1, 2, 3, 0] rfl)
        · have hw := hw.1 c_26
          refine lv_iconst (v := 0) hx hb d_M_quote_36 (by decide) ?_
          subst hQ0
          have hP9 := hP.sub (ws' := [(aM, .inr (5, [.int u_25, .int M_padded, .ref aM_pad, .int M_sources, .ref aM_kinds, .ref aM_days, .ref aM_withdrawn, .ref aM_lengths, .ref aM_texts, .ref aM_formLengths, .ref aM_forms, .int M_claims, .ref aM_onSource, .ref aM_onClaim, .ref aM_rules, .int M_rings, .ref aM_ring, .ref aM_far, .ref aM_held, .ref aM_heldBefore, .int M_opinions, .ref aM_persons, .ref aM_ofClaims, .ref aM_values, .ref aM_when, .ref aM_ranks, .ref aM_known, .ref aM_counts])), (aM_pad, .inl (cI, 60, .inl M_pad)), (aM_lengths, .inl (cI, 24, .inl M_lengths)), (aM_texts, .inl (cI, 1440, .inl M_texts))]) [3, 0, 1, 2] rfl
          have hD9 := hD.sub (ws' := [(aM, .inr (5, [.int u_25, .int M_padded, .ref aM_pad, .int M_sources, .ref aM_kinds, .ref aM_days, .ref aM_withdrawn, .ref aM_lengths, .ref aM_texts, .ref aM_formLengths, .ref aM_forms, .int M_claims, .ref aM_onSource, .ref aM_onClaim, .ref aM_rules, .int M_rings, .ref aM_ring, .ref aM_far, .ref aM_held, .ref aM_heldBefore, .int M_opinions, .ref aM_persons, .ref aM_ofClaims, .ref aM_values, .ref aM_when, .ref aM_ranks, .ref aM_known, .ref aM_counts])), (aM_pad, .inl (cI, 60, .inl M_pad)), (aM_lengths, .inl (cI, 24, .inl M_lengths)), (aM_texts, .inl (cI, 1440, .inl M_texts))]) [3, 0, 1, 2] (by decide) rfl
          exact W.iret (v := (0 : Int32)) hx hb hr (fun t ht hW => ⟨⟨_, (u_25), rfl, hw, by rw [ht]; exact hP9, hD9⟩, hS.F ht⟩) hS.2.2 d_M_quote_37
def wl_M_form_19 (M_thrown : Int32) (M_padded : Int32) (M_pad : Nat → Int32) (M_formLengths : Nat → Int32) (x1 : Int32) (post : Int32 → Int32 → Int32 → (Nat → Int32) → (Nat → Int32) → Prop) : Nat → Int32 → (Nat → Int32) → Prop
  | 0, _, _ => False
  | n + 1, x2, M_forms => ((M_padded ≤ x2 → (vp_in x1 4 ∧ (vp_in x1 4 ∧ (post ((upd M_formLengths x1.toNatClampNeg M_padded) x1.toNatClampNeg) M_thrown (0 : Int32) (upd M_formLengths x1.toNatClampNeg M_padded) M_forms)))) ∧ (¬ (M_padded ≤ x2) → (vp_in x2 60 ∧ (vp_in (((60 : Int32) * x1) + x2) 240 ∧ wl_M_form_19 M_thrown M_padded M_pad M_formLengths x1 post n (x2 + 1) (upd M_forms (((60 : Int32) * x1) + x2).toNatClampNeg (M_pad x2.toNatClampNeg))))))
def wp_M_form (M_thrown : Int32) (M_padded : Int32) (M_pad : Nat → Int32) (M_sources : Int32) (M_formLengths : Nat → Int32) (M_forms : Nat → Int32) (M_claims : Int32) (M_rings : Int32) (M_opinions : Int32) (x1 : Int32) (post : Int32 → Int32 → Int32 → (Nat → Int32) → (Nat → Int32) → Prop) : Prop := (wp_M_within x1 (0 : Int32) (3 : Int32) (fun r_6 => (wp_M_goes M_thrown M_padded M_sources M_claims M_rings M_opinions r_6 (1 : Int32) (1 : Int32) (fun r_7 u_8 => ((r_7 = 0 → (post (0 : Int32) u_8 M_padded M_formLengths M_forms)) ∧ (¬ (r_7 = 0) → (∃ n9, wl_M_form_19 u_8 M_padded M_pad M_formLengths x1 post n9 (0 : Int32) M_forms)))))))
set_option maxHeartbeats 4000000 in
set_option maxRecDepth 100000 in
theorem mt_M_form (l : Launch) (dC : Nat → ClassId) (dI : Nat → Nat → Nat) (cI cZ : ClassId) (aM : Nat) (aM_pad : Nat) (aM_formLengths : Nat) (aM_forms : Nat) (aM_kinds : Nat) (aM_days : Nat) (aM_withdrawn : Nat) (aM_lengths : Nat) (aM_texts : Nat) (aM_onSource : Nat) (aM_onClaim : Nat) (aM_rules : Nat) (aM_ring : Nat) (aM_far : Nat) (aM_held : Nat) (aM_heldBefore : Nat) (aM_persons : Nat) (aM_ofClaims : Nat) (aM_values : Nat) (aM_when : Nat) (aM_ranks : Nat) (aM_known : Nat) (aM_counts : Nat) (sz : Nat) (post : Int32 → Int32 → Int32 → (Nat → Int32) → (Nat → Int32) → Prop) (M_thrown : Int32) (M_padded : Int32) (M_pad : Nat → Int32) (M_sources : Int32) (M_formLengths : Nat → Int32) (M_forms : Nat → Int32) (M_claims : Int32) (M_rings : Int32) (M_opinions : Int32) (x1 : Int32) (hw : wp_M_form M_thrown M_padded M_pad M_sources M_formLengths M_forms M_claims M_rings M_opinions x1 post) : Met l y_M_form w_M_form ({ frames := 1, cells := 0, slots := 0, locals := 23 }) (va_Pc [.ref aM, .int x1] (fun U => U.heap.size = sz ∧ va_P (dC, dI) vwCl [(aM, .inr (5, [.int M_thrown, .int M_padded, .ref aM_pad, .int M_sources, .ref aM_kinds, .ref aM_days, .ref aM_withdrawn, .ref aM_lengths, .ref aM_texts, .ref aM_formLengths, .ref aM_forms, .int M_claims, .ref aM_onSource, .ref aM_onClaim, .ref aM_rules, .int M_rings, .ref aM_ring, .ref aM_far, .ref aM_held, .ref aM_heldBefore, .int M_opinions, .ref aM_persons, .ref aM_ofClaims, .ref aM_values, .ref aM_when, .ref aM_ranks, .ref aM_known, .ref aM_counts])), (aM_pad, .inl (cI, 60, .inl M_pad)), (aM_formLengths, .inl (cI, 4, .inl M_formLengths)), (aM_forms, .inl (cI, 240, .inl M_forms))] U.heap ∧ va_K (dC, dI) vwCl [(cI, .int), (cZ, .boolean)] U ∧ va_D (fun _ => True) [(aM, .inr (5, [.int M_thrown, .int M_padded, .ref aM_pad, .int M_sources, .ref aM_kinds, .ref aM_days, .ref aM_withdrawn, .ref aM_lengths, .ref aM_texts, .ref aM_formLengths, .ref aM_forms, .int M_claims, .ref aM_onSource, .ref aM_onClaim, .ref aM_rules, .int M_rings, .ref aM_ring, .ref aM_far, .ref aM_held, .ref aM_heldBefore, .int M_opinions, .ref aM_persons, .ref aM_ofClaims, .ref aM_values, .ref aM_when, .ref aM_ranks, .ref aM_known, .ref aM_counts])), (aM_pad, .inl (cI, 60, .inl M_pad)), (aM_formLengths, .inl (cI, 4, .inl M_formLengths)), (aM_forms, .inl (cI, 240, .inl M_forms))] ∧ en_ok U)) (va_Qi (fun r (u : (Int32) × (Int32) × (Nat → Int32) × (Nat → Int32)) => post r u.1 u.2.1 u.2.2.1 u.2.2.2) (fun (u : (Int32) × (Int32) × (Nat → Int32) × (Nat → Int32)) t => va_P (dC, dI) vwCl [(aM, .inr (5, [.int u.1, .int u.2.1, .ref aM_pad, .int M_sources, .ref aM_kinds, .ref aM_days, .ref aM_withdrawn, .ref aM_lengths, .ref aM_texts, .ref aM_formLengths, .ref aM_forms, .int M_claims, .ref aM_onSource, .ref aM_onClaim, .ref aM_rules, .int M_rings, .ref aM_ring, .ref aM_far, .ref aM_held, .ref aM_heldBefore, .int M_opinions, .ref aM_persons, .ref aM_ofClaims, .ref aM_values, .ref aM_when, .ref aM_ranks, .ref aM_known, .ref aM_counts])), (aM_pad, .inl (cI, 60, .inl M_pad)), (aM_formLengths, .inl (cI, 4, .inl u.2.2.1)), (aM_forms, .inl (cI, 240, .inl u.2.2.2))] t.heap ∧ va_D (va_A [(aM, .inr (5, [.int M_thrown, .int M_padded, .ref aM_pad, .int M_sources, .ref aM_kinds, .ref aM_days, .ref aM_withdrawn, .ref aM_lengths, .ref aM_texts, .ref aM_formLengths, .ref aM_forms, .int M_claims, .ref aM_onSource, .ref aM_onClaim, .ref aM_rules, .int M_rings, .ref aM_ring, .ref aM_far, .ref aM_held, .ref aM_heldBefore, .int M_opinions, .ref aM_persons, .ref aM_ofClaims, .ref aM_values, .ref aM_when, .ref aM_ranks, .ref aM_known, .ref aM_counts])), (aM_pad, .inl (cI, 60, .inl M_pad)), (aM_formLengths, .inl (cI, 4, .inl M_formLengths)), (aM_forms, .inl (cI, 240, .inl M_forms))] sz) [(aM, .inr (5, [.int u.1, .int u.2.1, .ref aM_pad, .int M_sources, .ref aM_kinds, .ref aM_days, .ref aM_withdrawn, .ref aM_lengths, .ref aM_texts, .ref aM_formLengths, .ref aM_forms, .int M_claims, .ref aM_onSource, .ref aM_onClaim, .ref aM_rules, .int M_rings, .ref aM_ring, .ref aM_far, .ref aM_held, .ref aM_heldBefore, .int M_opinions, .ref aM_persons, .ref aM_ofClaims, .ref aM_values, .ref aM_when, .ref aM_ranks, .ref aM_known, .ref aM_counts])), (aM_pad, .inl (cI, 60, .inl M_pad)), (aM_formLengths, .inl (cI, 4, .inl u.2.2.1)), (aM_forms, .inl (cI, 240, .inl u.2.2.2))]) (va_A [(aM, .inr (5, [.int M_thrown, .int M_padded, .ref aM_pad, .int M_sources, .ref aM_kinds, .ref aM_days, .ref aM_withdrawn, .ref aM_lengths, .ref aM_texts, .ref aM_formLengths, .ref aM_forms, .int M_claims, .ref aM_onSource, .ref aM_onClaim, .ref aM_rules, .int M_rings, .ref aM_ring, .ref aM_far, .ref aM_held, .ref aM_heldBefore, .int M_opinions, .ref aM_persons, .ref aM_ofClaims, .ref aM_values, .ref aM_when, .ref aM_ranks, .ref aM_known, .ref aM_counts])), (aM_pad, .inl (cI, 60, .inl M_pad)), (aM_formLengths, .inl (cI, 4, .inl M_formLengths)), (aM_forms, .inl (cI, 240, .inl M_forms))] sz)) 0 0 (va_A [(aM, .inr (5, [.int M_thrown, .int M_padded, .ref aM_pad, .int M_sources, .ref aM_kinds, .ref aM_days, .ref aM_withdrawn, .ref aM_lengths, .ref aM_texts, .ref aM_formLengths, .ref aM_forms, .int M_claims, .ref aM_onSource, .ref aM_onClaim, .ref aM_rules, .int M_rings, .ref aM_ring, .ref aM_far, .ref aM_held, .ref aM_heldBefore, .int M_opinions, .ref aM_persons, .ref aM_ofClaims, .ref aM_values, .ref aM_when, .ref aM_ranks, .ref aM_known, .ref aM_counts])), (aM_pad, .inl (cI, 60, .inl M_pad)), (aM_formLengths, .inl (cI, 4, .inl M_formLengths)), (aM_forms, .inl (cI, 240, .inl M_forms))] sz) := by
  refine Met.ofW (cc := prog_7_method_30_code) (maxL := 3) (ret := (some .int)) (by decide) rfl ?_
  intro p e s m args below meth c s₁ B hml hv
  obtain ⟨rfl, hsz, hP, hK, hD0, hE⟩ := hv
  have hx := B.exec
  have hb := B.bytes
  have hr := B.returns
  have hts := atoms_spec (ws := w_M_form) B.pre
  have hown : s.vm.findClass "ClaimSourcesModel" = some m.cls := findClass_of_methodNamed B.named
  have hlocks := B.notSynchronized
  subst hsz
  have hD := hD0.self (sz := s.heap.size)
  generalize hAe : va_A [(aM, .inr (5, [.int M_thrown, .int M_padded, .ref aM_pad, .int M_sources, .ref aM_kinds, .ref aM_days, .ref aM_withdrawn, .ref aM_lengths, .ref aM_texts, .ref aM_formLengths, .ref aM_forms, .int M_claims, .ref aM_onSource, .ref aM_onClaim, .ref aM_rules, .int M_rings, .ref aM_ring, .ref aM_far, .ref aM_held, .ref aM_heldBefore, .int M_opinions, .ref aM_persons, .ref aM_ofClaims, .ref aM_values, .ref aM_when, .ref aM_ranks, .ref aM_known, .ref aM_counts])), (aM_pad, .inl (cI, 60, .inl M_pad)), (aM_formLengths, .inl (cI, 4, .inl M_formLengths)), (aM_forms, .inl (cI, 240, .inl M_forms))] s.heap.size = A at hD ⊢
  have hA : ∀ q : Nat, s.heap.size ≤ q → A q := fun q h => by rw [← hAe]; exact Or.inr h
  have hS : va_S A s.heap s.heap [] := va_S.rf
  have hl := lv_entry ([.ref aM, .int x1]) (n := 3) (Nat.le_of_ble_eq_true rfl)
  rw [lg_entry_eq]
  generalize (lg_sl ([.ref aM, .int x1]) ++ List.replicate (3 - (lg_sl ([.ref aM, .int x1])).length) Slot.unset).toArray = ls at hl ⊢
  have hl : lv_has ls 3 [(0, .ref aM), (1, .int x1)] := hl
  obtain ⟨Q0, hQ0⟩ : ∃ Q0, Q0 = MQ below (va_Qi (fun r (u : (Int32) × (Int32) × (Nat → Int32) × (Nat → Int32)) => post r u.1 u.2.1 u.2.2.1 u.2.2.2) (fun (u : (Int32) × (Int32) × (Nat → Int32) × (Nat → Int32)) t => va_P (dC, dI) vwCl [(aM, .inr (5, [.int u.1, .int u.2.1, .ref aM_pad, .int M_sources, .ref aM_kinds, .ref aM_days, .ref aM_withdrawn, .ref aM_lengths, .ref aM_texts, .ref aM_formLengths, .ref aM_forms, .int M_claims, .ref aM_onSource, .ref aM_onClaim, .ref aM_rules, .int M_rings, .ref aM_ring, .ref aM_far, .ref aM_held, .ref aM_heldBefore, .int M_opinions, .ref aM_persons, .ref aM_ofClaims, .ref aM_values, .ref aM_when, .ref aM_ranks, .ref aM_known, .ref aM_counts])), (aM_pad, .inl (cI, 60, .inl M_pad)), (aM_formLengths, .inl (cI, 4, .inl u.2.2.1)), (aM_forms, .inl (cI, 240, .inl u.2.2.2))] t.heap ∧ va_D A [(aM, .inr (5, [.int u.1, .int u.2.1, .ref aM_pad, .int M_sources, .ref aM_kinds, .ref aM_days, .ref aM_withdrawn, .ref aM_lengths, .ref aM_texts, .ref aM_formLengths, .ref aM_forms, .int M_claims, .ref aM_onSource, .ref aM_onClaim, .ref aM_rules, .int M_rings, .ref aM_ring, .ref aM_far, .ref aM_held, .ref aM_heldBefore, .int M_opinions, .ref aM_persons, .ref aM_ofClaims, .ref aM_values, .ref aM_when, .ref aM_ranks, .ref aM_known, .ref aM_counts])), (aM_pad, .inl (cI, 60, .inl M_pad)), (aM_formLengths, .inl (cI, 4, .inl u.2.2.1)), (aM_forms, .inl (cI, 240, .inl u.2.2.2))]) A) ([.ref aM, .int x1]).toArray s 0 0 A := ⟨_, rfl⟩
  rw [← hQ0]
  clear B
  generalize hag : ([.ref aM, .int x1] : List Value).toArray = args at hts hQ0 ⊢
  have hi_5 : ∀ w ∈ u_ws "ClaimSourcesModel" TT_5 28, w ∈ w_M_form := fun w h => List.mem_cons_of_mem _ (ia_5 w h)
  have hf_92 := hts _ (List.mem_cons_of_mem _ m_632)
  have hf_28 := hts _ (List.mem_cons_of_mem _ m_640)
  have hf_31 := hts _ (List.mem_cons_of_mem _ m_641)
  have hf_7 := hts _ (List.mem_cons_of_mem _ m_633)
  have L19 : ∀ (M_thrown : Int32) (M_padded : Int32) (M_formLengths : Nat → Int32) (x1 : Int32) (n : Nat) (x2 : Int32) (M_forms : Nat → Int32), wl_M_form_19 M_thrown M_padded M_pad M_formLengths x1 post n x2 M_forms → ∀ (H : Heap) (locs : List Loc), va_P (dC, dI) vwCl [(aM, .inr (5, [.int M_thrown, .int M_padded, .ref aM_pad, .int M_sources, .ref aM_kinds, .ref aM_days, .ref aM_withdrawn, .ref aM_lengths, .ref aM_texts, .ref aM_formLengths, .ref aM_forms, .int M_claims, .ref aM_onSource, .ref aM_onClaim, .ref aM_rules, .int M_rings, .ref aM_ring, .ref aM_far, .ref aM_held, .ref aM_heldBefore, .int M_opinions, .ref aM_persons, .ref aM_ofClaims, .ref aM_values, .ref aM_when, .ref aM_ranks, .ref aM_known, .ref aM_counts])), (aM_pad, .inl (cI, 60, .inl M_pad)), (aM_formLengths, .inl (cI, 4, .inl M_formLengths)), (aM_forms, .inl (cI, 240, .inl M_forms))] H → va_D A [(aM, .inr (5, [.int M_thrown, .int M_padded, .ref aM_pad, .int M_sources, .ref aM_kinds, .ref aM_days, .ref aM_withdrawn, .ref aM_lengths, .ref aM_texts, .ref aM_formLengths, .ref aM_forms, .int M_claims, .ref aM_onSource, .ref aM_onClaim, .ref aM_rules, .int M_rings, .ref aM_ring, .ref aM_far, .ref aM_held, .ref aM_heldBefore, .int M_opinions, .ref aM_persons, .ref aM_ofClaims, .ref aM_values, .ref aM_when, .ref aM_ranks, .ref aM_known, .ref aM_counts])), (aM_pad, .inl (cI, 60, .inl M_pad)), (aM_formLengths, .inl (cI, 4, .inl M_formLengths)), (aM_forms, .inl (cI, 240, .inl M_forms))] → va_S A s.heap H locs → ∀ (ls : Array Slot), lv_has ls 3 [(0, .ref aM), (1, .int x1), (2, .int x2)] → W p l e (headSpec w_M_form ({ frames := 1, cells := 0, slots := 0, locals := 23 })).room s m args below meth c H locs 0 0 Q0 (F0 m 19 ls []) := by
    intro M_thrown M_padded M_formLengths x1
    intro n
    induction n with
    | zero =>
      intro x2 M_forms hw
      exact False.elim hw
    | succ n ih =>
      intro x2 M_forms hw H locs hP hD hS ls hl
      unfold wl_M_form_19 at hw
      refine lv_iload_n hx hb d_M_form_19 rfl (lv_at hl 2 rfl) ?_
      refine lv_aload_n hx hb d_M_form_20 rfl (lv_at hl 0 rfl) ?_
      refine va_get (D := (dC, dI)) (ci := 5) (v := .int M_padded) (C := "ClaimSourcesModel") (T := TT_5) (N := 28) hx hb hts hi_5 hown hK hP 0 rfl rfl 1 (by decide) hf_92 (fun _ h9 => h9) rfl d_M_form_21 ?_
      refine lv_icmp_ge (tgt := 50) hx hb d_M_form_24 (by decide) (fun c_1 => ?_) (fun c_1 => ?_)
      · have hw := hw.1 c_1
        refine lv_aload_n hx hb d_M_form_50 rfl (lv_at hl 0 rfl) ?_
        refine va_get (D := (dC, dI)) (ci := 5) (v := .ref aM_formLengths) (C := "ClaimSourcesModel") (T := TT_5) (N := 28) hx hb hts hi_5 hown hK hP 0 rfl rfl 9 (by decide) hf_28 (fun _ h9 => h9) rfl d_M_form_51 ?_
        refine lv_iload_n hx hb d_M_form_54 rfl (lv_at hl 1 rfl) ?_
        refine lv_aload_n hx hb d_M_form_55 rfl (lv_at hl 0 rfl) ?_
        refine va_get (D := (dC, dI)) (ci := 5) (v := .int M_padded) (C := "ClaimSourcesModel") (T := TT_5) (N := 28) hx hb hts hi_5 hown hK hP 0 rfl rfl 1 (by decide) hf_92 (fun _ h9 => h9) rfl d_M_form_56 ?_
        obtain ⟨h_2, hw⟩ := hw
        refine va_iast hx hb hK hP hD hS 2 0 rfl rfl h_2 d_M_form_59 (fun H locs hP hD hS => ?_)
        have hP : va_P (dC, dI) vwCl [(aM, .inr (5, [.int M_thrown, .int M_padded, .ref aM_pad, .int M_sources, .ref aM_kinds, .ref aM_days, .ref aM_withdrawn, .ref aM_lengths, .ref aM_texts, .ref aM_formLengths, .ref aM_forms, .int M_claims, .ref aM_onSource, .ref aM_onClaim, .ref aM_rules, .int M_rings, .ref aM_ring, .ref aM_far, .ref aM_held, .ref aM_heldBefore, .int M_opinions, .ref aM_persons, .ref aM_ofClaims, .ref aM_values, .ref aM_when, .ref aM_ranks, .ref aM_known, .ref aM_counts])), (aM_pad, .inl (cI, 60, .inl M_pad)), (aM_formLengths, .inl (cI, 4, .inl (upd M_formLengths x1.toNatClampNeg M_padded))), (aM_forms, .inl (cI, 240, .inl M_forms))] H := hP
        have hD : va_D A [(aM, .inr (5, [.int M_thrown, .int M_padded, .ref aM_pad, .int M_sources, .ref aM_kinds, .ref aM_days, .ref aM_withdrawn, .ref aM_lengths, .ref aM_texts, .ref aM_formLengths, .ref aM_forms, .int M_claims, .ref aM_onSource, .ref aM_onClaim, .ref aM_rules, .int M_rings, .ref aM_ring, .ref aM_far, .ref aM_held, .ref aM_heldBefore, .int M_opinions, .ref aM_persons, .ref aM_ofClaims, .ref aM_values, .ref aM_when, .ref aM_ranks, .ref aM_known, .ref aM_counts])), (aM_pad, .inl (cI, 60, .inl M_pad)), (aM_formLengths, .inl (cI, 4, .inl (upd M_formLengths x1.toNatClampNeg M_padded))), (aM_forms, .inl (cI, 240, .inl M_forms))] := hD
        refine lv_aload_n hx hb d_M_form_60 rfl (lv_at hl 0 rfl) ?_
        refine lv_iconst (v := 0) hx hb d_M_form_61 (by decide) ?_
        refine va_put (D := (dC, dI)) (ci := 5) (v := .int (0 : Int32)) (ty := .int) (C := "ClaimSourcesModel") (T := TT_5) (N := 28) hx hb hts hi_5 ty_5 tyok_5 nn_5 hown hK hP hD hS 0 rfl rfl 1 (by decide) hf_92 (fun _ h9 => h9) rfl (by decide +kernel) rfl rfl (Nat.le_of_ble_eq_true rfl) d_M_form_62 (fun H locs hP hD hS => ?_)
        have hP : va_P (dC, dI) vwCl [(aM, .inr (5, [.int M_thrown, .int (0 : Int32), .ref aM_pad, .int M_sources, .ref aM_kinds, .ref aM_days, .ref aM_withdrawn, .ref aM_lengths, .ref aM_texts, .ref aM_formLengths, .ref aM_forms, .int M_claims, .ref aM_onSource, .ref aM_onClaim, .ref aM_rules, .int M_rings, .ref aM_ring, .ref aM_far, .ref aM_held, .ref aM_heldBefore, .int M_opinions, .ref aM_persons, .ref aM_ofClaims, .ref aM_values, .ref aM_when, .ref aM_ranks, .ref aM_known, .ref aM_counts])), (aM_pad, .inl (cI, 60, .inl M_pad)), (aM_formLengths, .inl (cI, 4, .inl (upd M_formLengths x1.toNatClampNeg M_padded))), (aM_forms, .inl (cI, 240, .inl M_forms))] H := hP
        have hD : va_D A [(aM, .inr (5, [.int M_thrown, .int (0 : Int32), .ref aM_pad, .int M_sources, .ref aM_kinds, .ref aM_days, .ref aM_withdrawn, .ref aM_lengths, .ref aM_texts, .ref aM_formLengths, .ref aM_forms, .int M_claims, .ref aM_onSource, .ref aM_onClaim, .ref aM_rules, .int M_rings, .ref aM_ring, .ref aM_far, .ref aM_held, .ref aM_heldBefore, .int M_opinions, .ref aM_persons, .ref aM_ofClaims, .ref aM_values, .ref aM_when, .ref aM_ranks, .ref aM_known, .ref aM_counts])), (aM_pad, .inl (cI, 60, .inl M_pad)), (aM_formLengths, .inl (cI, 4, .inl (upd M_formLengths x1.toNatClampNeg M_padded))), (aM_forms, .inl (cI, 240, .inl M_forms))] := hD
        refine lv_aload_n hx hb d_M_form_65 rfl (lv_at hl 0 rfl) ?_
        refine va_get (D := (dC, dI)) (ci := 5) (v := .ref aM_formLengths) (C := "ClaimSourcesModel") (T := TT_5) (N := 28) hx hb hts hi_5 hown hK hP 0 rfl rfl 9 (by decide) hf_28 (fun _ h9 => h9) rfl d_M_form_66 ?_
        refine lv_iload_n hx hb d_M_form_69 rfl (lv_at hl 1 rfl) ?_
        obtain ⟨h_3, hw⟩ := hw
        refine va_iald hx hb hK hP 2 0 rfl rfl h_3 d_M_form_70 ?_
        subst hQ0
        have hP9 := hP.sub (ws' := [(aM, .inr (5, [.int M_thrown, .int (0 : Int32), .ref aM_pad, .int M_sources, .ref aM_kinds, .ref aM_days, .ref aM_withdrawn, .ref aM_lengths, .ref aM_texts, .ref aM_formLengths, .ref aM_forms, .int M_claims, .ref aM_onSource, .ref aM_onClaim, .ref aM_rules, .int M_rings, .ref aM_ring, .ref aM_far, .ref aM_held, .ref aM_heldBefore, .int M_opinions, .ref aM_persons, .ref aM_ofClaims, .ref aM_values, .ref aM_when, .ref aM_ranks, .ref aM_known, .ref aM_counts])), (aM_pad, .inl (cI, 60, .inl M_pad)), (aM_formLengths, .inl (cI, 4, .inl (upd M_formLengths x1.toNatClampNeg M_padded))), (aM_forms, .inl (cI, 240, .inl M_forms))]) [0, 1, 2, 3] rfl
        have hD9 := hD.sub (ws' := [(aM, .inr (5, [.int M_thrown, .int (0 : Int32), .ref aM_pad, .int M_sources, .ref aM_kinds, .ref aM_days, .ref aM_withdrawn, .ref aM_lengths, .ref aM_texts, .ref aM_formLengths, .ref aM_forms, .int M_claims, .ref aM_onSource, .ref aM_onClaim, .ref aM_rules, .int M_rings, .ref aM_ring, .ref aM_far, .ref aM_held, .ref aM_heldBefore, .int M_opinions, .ref aM_persons, .ref aM_ofClaims, .ref aM_values, .ref aM_when, .ref aM_ranks, .ref aM_known, .ref aM_counts])), (aM_pad, .inl (cI, 60, .inl M_pad)), (aM_formLengths, .inl (cI, 4, .inl (upd M_formLengths x1.toNatClampNeg M_padded))), (aM_forms, .inl (cI, 240, .inl M_forms))]) [0, 1, 2, 3] (by decide) rfl
        exact W.iret (v := (upd M_formLengths x1.toNatClampNeg M_padded) x1.toNatClampNeg) hx hb hr (fun t ht hW => ⟨⟨_, (M_thrown, (0 : Int32), upd M_formLengths x1.toNatClampNeg M_padded, M_forms), rfl, hw, by rw [ht]; exact hP9, hD9⟩, hS.F ht⟩) hS.2.2 d_M_form_71
      · have hw := hw.2 c_1
        refine lv_aload_n hx hb d_M_form_27 rfl (lv_at hl 0 rfl) ?_
        refine va_get (D := (dC, dI)) (ci := 5) (v := .ref aM_forms) (C := "ClaimSourcesModel") (T := TT_5) (N := 28) hx hb hts hi_5 hown hK hP 0 rfl rfl 10 (by decide) hf_31 (fun _ h9 => h9) rfl d_M_form_28 ?_
        refine lv_bipush (v := 60) hx hb d_M_form_31 (by decide) ?_
        refine lv_iload_n hx hb d_M_form_33 rfl (lv_at hl 1 rfl) ?_
        refine lv_imul hx hb d_M_form_34 ?_
        refine lv_iload_n hx hb d_M_form_35 rfl (lv_at hl 2 rfl) ?_
        refine lv_iadd hx hb d_M_form_36 ?_
        refine lv_aload_n hx hb d_M_form_37 rfl (lv_at hl 0 rfl) ?_
        refine va_get (D := (dC, dI)) (ci := 5) (v := .ref aM_pad) (C := "ClaimSourcesModel") (T := TT_5) (N := 28) hx hb hts hi_5 hown hK hP 0 rfl rfl 2 (by decide) hf_7 (fun _ h9 => h9) rfl d_M_form_38 ?_
        refine lv_iload_n hx hb d_M_form_41 rfl (lv_at hl 2 rfl) ?_
        obtain ⟨h_4, hw⟩ := hw
        refine va_iald hx hb hK hP 1 0 rfl rfl h_4 d_M_form_42 ?_
        obtain ⟨h_5, hw⟩ := hw
        refine va_iast hx hb hK hP hD hS 3 0 rfl rfl h_5 d_M_form_43 (fun H locs hP hD hS => ?_)
        have hP : va_P (dC, dI) vwCl [(aM, .inr (5, [.int M_thrown, .int M_padded, .ref aM_pad, .int M_sources, .ref aM_kinds, .ref aM_days, .ref aM_withdrawn, .ref aM_lengths, .ref aM_texts, .ref aM_formLengths, .ref aM_forms, .int M_claims, .ref aM_onSource, .ref aM_onClaim, .ref aM_rules, .int M_rings, .ref aM_ring, .ref aM_far, .ref aM_held, .ref aM_heldBefore, .int M_opinions, .ref aM_persons, .ref aM_ofClaims, .ref aM_values, .ref aM_when, .ref aM_ranks, .ref aM_known, .ref aM_counts])), (aM_pad, .inl (cI, 60, .inl M_pad)), (aM_formLengths, .inl (cI, 4, .inl M_formLengths)), (aM_forms, .inl (cI, 240, .inl (upd M_forms (((60 : Int32) * x1) + x2).toNatClampNeg (M_pad x2.toNatClampNeg))))] H := hP
        have hD : va_D A [(aM, .inr (5, [.int M_thrown, .int M_padded, .ref aM_pad, .int M_sources, .ref aM_kinds, .ref aM_days, .ref aM_withdrawn, .ref aM_lengths, .ref aM_texts, .ref aM_formLengths, .ref aM_forms, .int M_claims, .ref aM_onSource, .ref aM_onClaim, .ref aM_rules, .int M_rings, .ref aM_ring, .ref aM_far, .ref aM_held, .ref aM_heldBefore, .int M_opinions, .ref aM_persons, .ref aM_ofClaims, .ref aM_values, .ref aM_when, .ref aM_ranks, .ref aM_known, .ref aM_counts])), (aM_pad, .inl (cI, 60, .inl M_pad)), (aM_formLengths, .inl (cI, 4, .inl M_formLengths)), (aM_forms, .inl (cI, 240, .inl (upd M_forms (((60 : Int32) * x1) + x2).toNatClampNeg (M_pad x2.toNatClampNeg))))] := hD
        refine lv_iinc (v := x2 + 1) (lv' := [(2, .int (x2 + 1)), (0, .ref aM), (1, .int x1)]) hx hb d_M_form_44 hl (k := 2) rfl rfl (by decide) rfl (fun ls hl => ?_)
        refine lv_goto (tgt := 19) hx hb d_M_form_47 (by decide) ?_
        exact ih (x2 + 1) (upd M_forms (((60 : Int32) * x1) + x2).toNatClampNeg (M_pad x2.toNatClampNeg)) hw _ _ (hP.sub [0, 1, 2, 3] rfl) (hD.sub [0, 1, 2, 3] (by decide) rfl) hS ls (lv_sub hl [1, 2, 0] rfl)
  unfold wp_M_form at hw
  refine lv_aload_n hx hb d_M_form_0 rfl (lv_at hl 0 rfl) ?_
  refine lv_iload_n hx hb d_M_form_1 rfl (lv_at hl 1 rfl) ?_
  refine lv_iconst (v := 0) hx hb d_M_form_2 (by decide) ?_
  refine lv_iconst (v := 3) hx hb d_M_form_3 (by decide) ?_
  have hPc := hP.sub (ws' := []) [] rfl
  refine vp_callSi (W.runS (As := [.int x1, .int (0 : Int32), .int (3 : Int32)]) (rest := [.ref aM]) ⟨hx, hb, hml, hown, hts⟩ (mt_M_within l dC dI cI _ x1 (0 : Int32) (3 : Int32) hw) (va_cwS 3 hts (gdS m_725 m_726 m_6 m_727) rfl rfl rfl (by decide +kernel) ⟨Nat.le_of_ble_eq_true rfl, Nat.le_of_ble_eq_true rfl⟩) ⟨fb_r, fun U hU hW => ⟨rfl, by rw [hU]; exact hPc, va_K.moved hW.alike (hK.sub (tys' := [(cI, .int)]) [0] rfl), hE.warm hW⟩⟩ rfl rfl hl.1 rfl (lv_room (Nat.le_of_ble_eq_true rfl)) d_M_form_4 ⟨Nat.le_of_ble_eq_true rfl, Nat.le_of_ble_eq_true rfl⟩) (fun r_6 hw => ?_)
  refine lv_iconst (v := 1) hx hb d_M_form_7 (by decide) ?_
  refine lv_iconst (v := 1) hx hb d_M_form_8 (by decide) ?_
  have hPc := hP.sub (ws' := [(aM, .inr (5, [.int M_thrown, .int M_padded, .ref aM_pad, .int M_sources, .ref aM_kinds, .ref aM_days, .ref aM_withdrawn, .ref aM_lengths, .ref aM_texts, .ref aM_formLengths, .ref aM_forms, .int M_claims, .ref aM_onSource, .ref aM_onClaim, .ref aM_rules, .int M_rings, .ref aM_ring, .ref aM_far, .ref aM_held, .ref aM_heldBefore, .int M_opinions, .ref aM_persons, .ref aM_ofClaims, .ref aM_values, .ref aM_when, .ref aM_ranks, .ref aM_known, .ref aM_counts]))]) [0] rfl
  have hDc := hD.sub (ws' := [(aM, .inr (5, [.int M_thrown, .int M_padded, .ref aM_pad, .int M_sources, .ref aM_kinds, .ref aM_days, .ref aM_withdrawn, .ref aM_lengths, .ref aM_texts, .ref aM_formLengths, .ref aM_forms, .int M_claims, .ref aM_onSource, .ref aM_onClaim, .ref aM_rules, .int M_rings, .ref aM_ring, .ref aM_far, .ref aM_held, .ref aM_heldBefore, .int M_opinions, .ref aM_persons, .ref aM_ofClaims, .ref aM_values, .ref aM_when, .ref aM_ranks, .ref aM_known, .ref aM_counts]))]) [0] (by decide) rfl
  have hFc := va_free (wc := [(aM, .inr (5, [.int M_thrown, .int M_padded, .ref aM_pad, .int M_sources, .ref aM_kinds, .ref aM_days, .ref aM_withdrawn, .ref aM_lengths, .ref aM_texts, .ref aM_formLengths, .ref aM_forms, .int M_claims, .ref aM_onSource, .ref aM_onClaim, .ref aM_rules, .int M_rings, .ref aM_ring, .ref aM_far, .ref aM_held, .ref aM_heldBefore, .int M_opinions, .ref aM_persons, .ref aM_ofClaims, .ref aM_values, .ref aM_when, .ref aM_ranks, .ref aM_known, .ref aM_counts]))]) hD hS hA [0] rfl
  refine va_calli (va_runV (As := [.int r_6, .int (1 : Int32), .int (1 : Int32)]) (rest := []) ⟨hx, hb, hml, hown, hts⟩ (mt_M_goes l dC dI cI cZ aM aM_pad aM_kinds aM_days aM_withdrawn aM_lengths aM_texts aM_formLengths aM_forms aM_onSource aM_onClaim aM_rules aM_ring aM_far aM_held aM_heldBefore aM_persons aM_ofClaims aM_values aM_when aM_ranks aM_known aM_counts s.heap.size _ M_thrown M_padded M_sources M_claims M_rings M_opinions r_6 (1 : Int32) (1 : Int32) hw) (cwV 3 hts (gdV m_728 m_730 ms_18 m_6 m_731) rfl rfl rfl (by decide +kernel) ⟨Nat.le_of_ble_eq_true rfl, Nat.le_of_ble_eq_true rfl⟩) ⟨fb_w, va_recv hK hPc (ci := 5) (q0 := 0) rfl rfl, fun U hU hW => ⟨rfl, by rw [hU], by rw [hU]; exact hPc, va_K.moved hW.alike hK, hDc.weaken (fun _ _ _ _ => trivial), hE.warm hW⟩⟩ rfl rfl hl.1 rfl (lv_room (Nat.le_of_ble_eq_true rfl)) d_M_form_9 ⟨Nat.le_of_ble_eq_true rfl, Nat.le_of_ble_eq_true rfl⟩) hS (fun q _ h => hFc q h) hFc (fun r_7 u t H1 locs ht hvm hw hB hz1 hk1 hS => ?_)
  obtain ⟨u_8, rfl⟩ : ∃ z, z = u := ⟨_, rfl⟩
  obtain ⟨hP1, hD1⟩ := hB
  rw [ht] at hP1
  try dsimp only at hw hP1 hD1
  obtain ⟨hP, hD⟩ := va_join (wr := [(aM_pad, .inl (cI, 60, .inl M_pad)), (aM_formLengths, .inl (cI, 4, .inl M_formLengths)), (aM_forms, .inl (cI, 240, .inl M_forms))]) (w1 := [(aM, .inr (5, [.int u_8, .int M_padded, .ref aM_pad, .int M_sources, .ref aM_kinds, .ref aM_days, .ref aM_withdrawn, .ref aM_lengths, .ref aM_texts, .ref aM_formLengths, .ref aM_forms, .int M_claims, .ref aM_onSource, .ref aM_onClaim, .ref aM_rules, .int M_rings, .ref aM_ring, .ref aM_far, .ref aM_held, .ref aM_heldBefore, .int M_opinions, .ref aM_persons, .ref aM_ofClaims, .ref aM_values, .ref aM_when, .ref aM_ranks, .ref aM_known, .ref aM_counts]))]) hP hD [0] [1, 2, 3] rfl rfl (by decide) (by decide) hk1 hFc hP1 hD1
  generalize H1 = H at hP hS ⊢
  have hP : va_P (dC, dI) vwCl [(aM_pad, .inl (cI, 60, .inl M_pad)), (aM_formLengths, .inl (cI, 4, .inl M_formLengths)), (aM_forms, .inl (cI, 240, .inl M_forms)), (aM, .inr (5, [.int u_8, .int M_padded, .ref aM_pad, .int M_sources, .ref aM_kinds, .ref aM_days, .ref aM_withdrawn, .ref aM_lengths, .ref aM_texts, .ref aM_formLengths, .ref aM_forms, .int M_claims, .ref aM_onSource, .ref aM_onClaim, .ref aM_rules, .int M_rings, .ref aM_ring, .ref aM_far, .ref aM_held, .ref aM_heldBefore, .int M_opinions, .ref aM_persons, .ref aM_ofClaims, .ref aM_values, .ref aM_when, .ref aM_ranks, .ref aM_known, .ref aM_counts]))] H := hP
  have hD : va_D A [(aM_pad, .inl (cI, 60, .inl M_pad)), (aM_formLengths, .inl (cI, 4, .inl M_formLengths)), (aM_forms, .inl (cI, 240, .inl M_forms)), (aM, .inr (5, [.int u_8, .int M_padded, .ref aM_pad, .int M_sources, .ref aM_kinds, .ref aM_days, .ref aM_withdrawn, .ref aM_lengths, .ref aM_texts, .ref aM_formLengths, .ref aM_forms, .int M_claims, .ref aM_onSource, .ref aM_onClaim, .ref aM_rules, .int M_rings, .ref aM_ring, .ref aM_far, .ref aM_held, .ref aM_heldBefore, .int M_opinions, .ref aM_persons, .ref aM_ofClaims, .ref aM_values, .ref aM_when, .ref aM_ranks, .ref aM_known, .ref aM_counts]))] := hD
  refine lv_if_ne (tgt := 17) hx hb d_M_form_12 (by decide) (fun c_9 => ?_) (fun c_9 => ?_)
  · have hw := hw.2 c_9
    refine lv_iconst (v := 0) hx hb d_M_form_17 (by decide) ?_
    refine lv_istore_n (lv' := [(2, .int (0 : Int32)), (0, .ref aM), (1, .int x1)]) hx hb d_M_form_18 rfl hl (by decide) rfl (fun ls hl => ?_)
    obtain ⟨n_10, hw⟩ := hw
    exact L19 u_8 M_padded M_formLengths x1 n_10 (0 : Int32) M_forms hw _ _ (hP.sub [3, 0, 1, 2] rfl) (hD.sub [3, 0, 1, 2] (by decide) rfl) hS ls (lv_sub hl [1, 2, 0] rfl)
  · have hw := hw.1 c_9
    refine lv_iconst (v := 0) hx hb d_M_form_15 (by decide) ?_
    subst hQ0
    have hP9 := hP.sub (ws' := [(aM, .inr (5, [.int u_8, .int M_padded, .ref aM_pad, .int M_sources, .ref aM_kinds, .ref aM_days, .ref aM_withdrawn, .ref aM_lengths, .ref aM_texts, .ref aM_formLengths, .ref aM_forms, .int M_claims, .ref aM_onSource, .ref aM_onClaim, .ref aM_rules, .int M_rings, .ref aM_ring, .ref aM_far, .ref aM_held, .ref aM_heldBefore, .int M_opinions, .ref aM_persons, .ref aM_ofClaims, .ref aM_values, .ref aM_when, .ref aM_ranks, .ref aM_known, .ref aM_counts])), (aM_pad, .inl (cI, 60, .inl M_pad)), (aM_formLengths, .inl (cI, 4, .inl M_formLengths)), (aM_forms, .inl (cI, 240, .inl M_forms))]) [3, 0, 1, 2] rfl
    have hD9 := hD.sub (ws' := [(aM, .inr (5, [.int u_8, .int M_padded, .ref aM_pad, .int M_sources, .ref aM_kinds, .ref aM_days, .ref aM_withdrawn, .ref aM_lengths, .ref aM_texts, .ref aM_formLengths, .ref aM_forms, .int M_claims, .ref aM_onSource, .ref aM_onClaim, .ref aM_rules, .int M_rings, .ref aM_ring, .ref aM_far, .ref aM_held, .ref aM_heldBefore, .int M_opinions, .ref aM_persons, .ref aM_ofClaims, .ref aM_values, .ref aM_when, .ref aM_ranks, .ref aM_known, .ref aM_counts])), (aM_pad, .inl (cI, 60, .inl M_pad)), (aM_formLengths, .inl (cI, 4, .inl M_formLengths)), (aM_forms, .inl (cI, 240, .inl M_forms))]) [3, 0, 1, 2] (by decide) rfl
    exact W.iret (v := (0 : Int32)) hx hb hr (fun t ht hW => ⟨⟨_, (u_8, M_padded, M_formLengths, M_forms), rfl, hw, by rw [ht]; exact hP9, hD9⟩, hS.F ht⟩) hS.2.2 d_M_form_16
def wl_M_digits_4 (post : Int32 → Prop) : Nat → Int32 → Int32 → Prop
  | 0, _, _ => False
  | n + 1, x1, x2 => ((x2 ≤ (9 : Int32) → (post x1)) ∧ (¬ (x2 ≤ (9 : Int32)) → wl_M_digits_4 post n (x1 + 1) (x2 / (10 : Int32))))
def wp_M_digits (x0 : Int32) (post : Int32 → Prop) : Prop := (∃ n9, wl_M_digits_4 post n9 (1 : Int32) x0)
set_option maxHeartbeats 4000000 in
set_option maxRecDepth 100000 in
theorem mt_M_digits (l : Launch) (dC : Nat → ClassId) (dI : Nat → Nat → Nat) (cI : ClassId) (post : Int32 → Prop) (x0 : Int32) (hw : wp_M_digits x0 post) : Met l y_M_digits w_M_digits ({ frames := 0, cells := 0, slots := 0, locals := 0 }) (va_Pc [.int x0] (fun U => va_P (dC, dI) vwCl [] U.heap ∧ va_K (dC, dI) vwCl [(cI, .int)] U ∧ en_ok U)) (vp_Si post) 0 0 (fun _ => False) := by
  refine Met.ofW (cc := prog_7_method_31_code) (maxL := 3) (ret := (some .int)) (by decide) rfl ?_
  intro p e s m args below meth c s₁ B hml hv
  obtain ⟨rfl, hP, hK, hE⟩ := hv
  have hx := B.exec
  have hb := B.bytes
  have hr := B.returns
  have hts := atoms_spec (ws := w_M_digits) B.pre
  have hown : s.vm.findClass "ClaimSourcesModel" = some m.cls := findClass_of_methodNamed B.named
  have hlocks := B.notSynchronized
  have hl := lv_entry ([.int x0]) (n := 3) (Nat.le_of_ble_eq_true rfl)
  rw [lg_entry_eq]
  generalize (lg_sl ([.int x0]) ++ List.replicate (3 - (lg_sl ([.int x0])).length) Slot.unset).toArray = ls at hl ⊢
  have hl : lv_has ls 3 [(0, .int x0)] := hl
  obtain ⟨Q0, hQ0⟩ : ∃ Q0, Q0 = MQ below (vp_Si post) ([.int x0]).toArray s 0 0 (fun _ => False) := ⟨_, rfl⟩
  rw [← hQ0]
  clear B
  generalize hag : ([.int x0] : List Value).toArray = args at hts hQ0 ⊢
  have L4 : ∀ (n : Nat) (x1 : Int32) (x2 : Int32), wl_M_digits_4 post n x1 x2 → ∀ (ls : Array Slot), lv_has ls 3 [(1, .int x1), (2, .int x2)] → W p l e (headSpec w_M_digits ({ frames := 0, cells := 0, slots := 0, locals := 0 })).room s m args below meth c s.heap [] 0 0 Q0 (F0 m 4 ls []) := by
    intro n
    induction n with
    | zero =>
      intro x1 x2 hw
      exact False.elim hw
    | succ n ih =>
      intro x1 x2 hw ls hl
      unfold wl_M_digits_4 at hw
      refine lv_iload_n hx hb d_M_digits_4 rfl (lv_at hl 1 rfl) ?_
      refine lv_bipush (v := 9) hx hb d_M_digits_5 (by decide) ?_
      refine lv_icmp_le (tgt := 21) hx hb d_M_digits_7 (by decide) (fun c_1 => ?_) (fun c_1 => ?_)
      · have hw := hw.1 c_1
        refine lv_iload_n hx hb d_M_digits_21 rfl (lv_at hl 0 rfl) ?_
        subst hQ0
        exact W.iret (v := x1) hx hb hr (fun t ht hW => ⟨_, rfl, hw, ht⟩) (fun q h => by cases h) d_M_digits_22
      · have hw := hw.2 c_1
        refine lv_iinc (v := x1 + 1) (lv' := [(1, .int (x1 + 1)), (2, .int x2)]) hx hb d_M_digits_10 hl (k := 0) rfl rfl (by decide) rfl (fun ls hl => ?_)
        refine lv_iload_n hx hb d_M_digits_13 rfl (lv_at hl 1 rfl) ?_
        refine lv_bipush (v := 10) hx hb d_M_digits_14 (by decide) ?_
        refine lv_idiv hx hb d_M_digits_16 (by decide) ?_
        refine lv_istore_n (lv' := [(2, .int (x2 / (10 : Int32))), (1, .int (x1 + 1))]) hx hb d_M_digits_17 rfl hl (by decide) rfl (fun ls hl => ?_)
        refine lv_goto (tgt := 4) hx hb d_M_digits_18 (by decide) ?_
        exact ih (x1 + 1) (x2 / (10 : Int32)) hw ls (lv_sub hl [1, 0] rfl)
  unfold wp_M_digits at hw
  refine lv_iconst (v := 1) hx hb d_M_digits_0 (by decide) ?_
  refine lv_istore_n (lv' := [(1, .int (1 : Int32)), (0, .int x0)]) hx hb d_M_digits_1 rfl hl (by decide) rfl (fun ls hl => ?_)
  refine lv_iload_n hx hb d_M_digits_2 rfl (lv_at hl 1 rfl) ?_
  refine lv_istore_n (lv' := [(2, .int x0), (1, .int (1 : Int32)), (0, .int x0)]) hx hb d_M_digits_3 rfl hl (by decide) rfl (fun ls hl => ?_)
  obtain ⟨n_2, hw⟩ := hw
  exact L4 n_2 (1 : Int32) x0 hw ls (lv_sub hl [1, 0] rfl)
def wl_M_digit_9 (x1 : Int32) (post : Int32 → Prop) : Nat → Int32 → Int32 → Prop
  | 0, _, _ => False
  | n + 1, x2, x3 => ((x3 ≤ x1 → (post ((48 : Int32) + (x2 - x2 / (10 : Int32) * (10 : Int32))))) ∧ (¬ (x3 ≤ x1) → wl_M_digit_9 x1 post n (x2 / (10 : Int32)) (x3 + (-1))))
def wp_M_digit (x0 : Int32) (x1 : Int32) (post : Int32 → Prop) : Prop := (wp_M_digits x0 (fun r_2 => (∃ n9, wl_M_digit_9 x1 post n9 x0 (r_2 - (1 : Int32)))))
set_option maxHeartbeats 4000000 in
set_option maxRecDepth 100000 in
theorem mt_M_digit (l : Launch) (dC : Nat → ClassId) (dI : Nat → Nat → Nat) (cI : ClassId) (post : Int32 → Prop) (x0 : Int32) (x1 : Int32) (hw : wp_M_digit x0 x1 post) : Met l y_M_digit w_M_digit ({ frames := 1, cells := 0, slots := 0, locals := 22 }) (va_Pc [.int x0, .int x1] (fun U => va_P (dC, dI) vwCl [] U.heap ∧ va_K (dC, dI) vwCl [(cI, .int)] U ∧ en_ok U)) (vp_Si post) 0 0 (fun _ => False) := by
  refine Met.ofW (cc := prog_7_method_32_code) (maxL := 4) (ret := (some .int)) (by decide) rfl ?_
  intro p e s m args below meth c s₁ B hml hv
  obtain ⟨rfl, hP, hK, hE⟩ := hv
  have hx := B.exec
  have hb := B.bytes
  have hr := B.returns
  have hts := atoms_spec (ws := w_M_digit) B.pre
  have hown : s.vm.findClass "ClaimSourcesModel" = some m.cls := findClass_of_methodNamed B.named
  have hlocks := B.notSynchronized
  have hl := lv_entry ([.int x0, .int x1]) (n := 4) (Nat.le_of_ble_eq_true rfl)
  rw [lg_entry_eq]
  generalize (lg_sl ([.int x0, .int x1]) ++ List.replicate (4 - (lg_sl ([.int x0, .int x1])).length) Slot.unset).toArray = ls at hl ⊢
  have hl : lv_has ls 4 [(0, .int x0), (1, .int x1)] := hl
  obtain ⟨Q0, hQ0⟩ : ∃ Q0, Q0 = MQ below (vp_Si post) ([.int x0, .int x1]).toArray s 0 0 (fun _ => False) := ⟨_, rfl⟩
  rw [← hQ0]
  clear B
  generalize hag : ([.int x0, .int x1] : List Value).toArray = args at hts hQ0 ⊢
  have L9 : ∀ (x1 : Int32) (n : Nat) (x2 : Int32) (x3 : Int32), wl_M_digit_9 x1 post n x2 x3 → ∀ (ls : Array Slot), lv_has ls 4 [(1, .int x1), (2, .int x2), (3, .int x3)] → W p l e (headSpec w_M_digit ({ frames := 1, cells := 0, slots := 0, locals := 22 })).room s m args below meth c s.heap [] 0 0 Q0 (F0 m 9 ls []) := by
    intro x1
    intro n
    induction n with
    | zero =>
      intro x2 x3 hw
      exact False.elim hw
    | succ n ih =>
      intro x2 x3 hw ls hl
      unfold wl_M_digit_9 at hw
      refine lv_iload_n hx hb d_M_digit_9 rfl (lv_at hl 2 rfl) ?_
      refine lv_iload_n hx hb d_M_digit_10 rfl (lv_at hl 0 rfl) ?_
      refine lv_icmp_le (tgt := 25) hx hb d_M_digit_11 (by decide) (fun c_1 => ?_) (fun c_1 => ?_)
      · have hw := hw.1 c_1
        refine lv_bipush (v := 48) hx hb d_M_digit_25 (by decide) ?_
        refine lv_iload_n hx hb d_M_digit_27 rfl (lv_at hl 1 rfl) ?_
        refine lv_bipush (v := 10) hx hb d_M_digit_28 (by decide) ?_
        refine lv_irem hx hb d_M_digit_30 (by decide) ?_
        refine lv_iadd hx hb d_M_digit_31 ?_
        subst hQ0
        exact W.iret (v := (48 : Int32) + (x2 - x2 / (10 : Int32) * (10 : Int32))) hx hb hr (fun t ht hW => ⟨_, rfl, hw, ht⟩) (fun q h => by cases h) d_M_digit_32
      · have hw := hw.2 c_1
        refine lv_iload_n hx hb d_M_digit_14 rfl (lv_at hl 1 rfl) ?_
        refine lv_bipush (v := 10) hx hb d_M_digit_15 (by decide) ?_
        refine lv_idiv hx hb d_M_digit_17 (by decide) ?_
        refine lv_istore_n (lv' := [(2, .int (x2 / (10 : Int32))), (1, .int x1), (3, .int x3)]) hx hb d_M_digit_18 rfl hl (by decide) rfl (fun ls hl => ?_)
        refine lv_iinc (v := x3 + (-1)) (lv' := [(3, .int (x3 + (-1))), (2, .int (x2 / (10 : Int32))), (1, .int x1)]) hx hb d_M_digit_19 hl (k := 2) rfl rfl (by decide) rfl (fun ls hl => ?_)
        refine lv_goto (tgt := 9) hx hb d_M_digit_22 (by decide) ?_
        exact ih (x2 / (10 : Int32)) (x3 + (-1)) hw ls (lv_sub hl [2, 1, 0] rfl)
  unfold wp_M_digit at hw
  refine lv_iload_n hx hb d_M_digit_0 rfl (lv_at hl 0 rfl) ?_
  refine lv_istore_n (lv' := [(2, .int x0), (0, .int x0), (1, .int x1)]) hx hb d_M_digit_1 rfl hl (by decide) rfl (fun ls hl => ?_)
  refine lv_iload_n hx hb d_M_digit_2 rfl (lv_at hl 1 rfl) ?_
  have hPc := hP.sub (ws' := []) [] rfl
  refine vp_callSi (W.runS (As := [.int x0]) (rest := []) ⟨hx, hb, hml, hown, hts⟩ (mt_M_digits l dC dI cI _ x0 hw) (va_cwS 1 hts (gdS m_836 m_837 m_6 m_838) rfl rfl rfl (by decide +kernel) ⟨Nat.le_of_ble_eq_true rfl, Nat.le_of_ble_eq_true rfl⟩) ⟨fb_r, fun U hU hW => ⟨rfl, by rw [hU]; exact hPc, va_K.moved hW.alike hK, hE.warm hW⟩⟩ rfl rfl hl.1 rfl (lv_room (Nat.le_of_ble_eq_true rfl)) d_M_digit_3 ⟨Nat.le_of_ble_eq_true rfl, Nat.le_of_ble_eq_true rfl⟩) (fun r_2 hw => ?_)
  refine lv_iconst (v := 1) hx hb d_M_digit_6 (by decide) ?_
  refine lv_isub hx hb d_M_digit_7 ?_
  refine lv_istore_n (lv' := [(3, .int (r_2 - (1 : Int32))), (2, .int x0), (0, .int x0), (1, .int x1)]) hx hb d_M_digit_8 rfl hl (by decide) rfl (fun ls hl => ?_)
  obtain ⟨n_3, hw⟩ := hw
  exact L9 x1 n_3 x0 (r_2 - (1 : Int32)) hw ls (lv_sub hl [3, 1, 0] rfl)
def wl_M_cite_38 (M_thrown : Int32) (M_padded : Int32) (M_sources : Int32) (M_kinds : Nat → Int32) (M_days : Nat → Int32) (M_formLengths : Nat → Int32) (M_forms : Nat → Int32) (M_claims : Int32) (M_rings : Int32) (M_opinions : Int32) (x1 : Int32) (x2 : Int32) (x3 : Int32) (x4 : Int32) (post : Int32 → Int32 → Prop) : Nat → Int32 → Int32 → Int32 → Prop
  | 0, _, _, _ => False
  | n + 1, x5, x6, x7 => ((x4 = 0 → (wp_M_goes M_thrown M_padded M_sources M_claims M_rings M_opinions (0 : Int32) (1 : Int32) (1 : Int32) (fun r_3 u_4 => ((r_3 = 0 → (post (0 : Int32) u_4)) ∧ (¬ (r_3 = 0) → ((x3 = (-1 : Int32) → (post x5 u_4)) ∧ (¬ (x3 = (-1 : Int32)) → (post x6 u_4)))))))) ∧ (¬ (x4 = 0) → (vp_in x2 4 ∧ (((M_formLengths x2.toNatClampNeg) ≤ x7 → ((x5 ≤ x3 → (wp_M_goes M_thrown M_padded M_sources M_claims M_rings M_opinions (0 : Int32) (1 : Int32) (1 : Int32) (fun r_11 u_12 => ((r_11 = 0 → (post (0 : Int32) u_12)) ∧ (¬ (r_11 = 0) → ((x3 = (-1 : Int32) → (post x5 u_12)) ∧ (¬ (x3 = (-1 : Int32)) → (post x6 u_12)))))))) ∧ (¬ (x5 ≤ x3) → (wp_M_goes M_thrown M_padded M_sources M_claims M_rings M_opinions (1 : Int32) (1 : Int32) (1 : Int32) (fun r_15 u_16 => ((r_15 = 0 → (post (0 : Int32) u_16)) ∧ (¬ (r_15 = 0) → ((x3 = (-1 : Int32) → (post x5 u_16)) ∧ (¬ (x3 = (-1 : Int32)) → (post x6 u_16)))))))))) ∧ (¬ ((M_formLengths x2.toNatClampNeg) ≤ x7) → (vp_in (((60 : Int32) * x2) + x7) 240 ∧ (((M_forms (((60 : Int32) * x2) + x7).toNatClampNeg) = (35 : Int32) → (wp_M_digits x1 (fun r_40 => ((x3 < x5 → wl_M_cite_38 M_thrown M_padded M_sources M_kinds M_days M_formLengths M_forms M_claims M_rings M_opinions x1 x2 x3 x4 post n (x5 + r_40) x6 (x7 + 1)) ∧ (¬ (x3 < x5) → (((x5 + r_40) ≤ x3 → wl_M_cite_38 M_thrown M_padded M_sources M_kinds M_days M_formLengths M_forms M_claims M_rings M_opinions x1 x2 x3 x4 post n (x5 + r_40) x6 (x7 + 1)) ∧ (¬ ((x5 + r_40) ≤ x3) → (wp_M_digit x1 (x3 - x5) (fun r_44 => wl_M_cite_38 M_thrown M_padded M_sources M_kinds M_days M_formLengths M_forms M_claims M_rings M_opinions x1 x2 x3 x4 post n (x5 + r_40) r_44 (x7 + 1)))))))))) ∧ (¬ ((M_forms (((60 : Int32) * x2) + x7).toNatClampNeg) = (35 : Int32)) → (((M_forms (((60 : Int32) * x2) + x7).toNatClampNeg) = (64 : Int32) → (vp_in x1 24 ∧ (wp_M_digits (M_days x1.toNatClampNeg) (fun r_33 => ((x3 < x5 → wl_M_cite_38 M_thrown M_padded M_sources M_kinds M_days M_formLengths M_forms M_claims M_rings M_opinions x1 x2 x3 x4 post n (x5 + r_33) x6 (x7 + 1)) ∧ (¬ (x3 < x5) → (((x5 + r_33) ≤ x3 → wl_M_cite_38 M_thrown M_padded M_sources M_kinds M_days M_formLengths M_forms M_claims M_rings M_opinions x1 x2 x3 x4 post n (x5 + r_33) x6 (x7 + 1)) ∧ (¬ ((x5 + r_33) ≤ x3) → (wp_M_digit (M_days x1.toNatClampNeg) (x3 - x5) (fun r_38 => wl_M_cite_38 M_thrown M_padded M_sources M_kinds M_days M_formLengths M_forms M_claims M_rings M_opinions x1 x2 x3 x4 post n (x5 + r_33) r_38 (x7 + 1))))))))))) ∧ (¬ ((M_forms (((60 : Int32) * x2) + x7).toNatClampNeg) = (64 : Int32)) → ((x3 < x5 → wl_M_cite_38 M_thrown M_padded M_sources M_kinds M_days M_formLengths M_forms M_claims M_rings M_opinions x1 x2 x3 x4 post n (x5 + (1 : Int32)) x6 (x7 + 1)) ∧ (¬ (x3 < x5) → (((x5 + (1 : Int32)) ≤ x3 → wl_M_cite_38 M_thrown M_padded M_sources M_kinds M_days M_formLengths M_forms M_claims M_rings M_opinions x1 x2 x3 x4 post n (x5 + (1 : Int32)) x6 (x7 + 1)) ∧ (¬ ((x5 + (1 : Int32)) ≤ x3) → (((M_forms (((60 : Int32) * x2) + x7).toNatClampNeg) = (36 : Int32) → (vp_in x1 24 ∧ wl_M_cite_38 M_thrown M_padded M_sources M_kinds M_days M_formLengths M_forms M_claims M_rings M_opinions x1 x2 x3 x4 post n (x5 + (1 : Int32)) ((97 : Int32) + (M_kinds x1.toNatClampNeg)) (x7 + 1))) ∧ (¬ ((M_forms (((60 : Int32) * x2) + x7).toNatClampNeg) = (36 : Int32)) → wl_M_cite_38 M_thrown M_padded M_sources M_kinds M_days M_formLengths M_forms M_claims M_rings M_opinions x1 x2 x3 x4 post n (x5 + (1 : Int32)) (M_forms (((60 : Int32) * x2) + x7).toNatClampNeg) (x7 + 1)))))))))))))))))
def wp_M_cite (M_thrown : Int32) (M_padded : Int32) (M_sources : Int32) (M_kinds : Nat → Int32) (M_days : Nat → Int32) (M_formLengths : Nat → Int32) (M_forms : Nat → Int32) (M_claims : Int32) (M_rings : Int32) (M_opinions : Int32) (x1 : Int32) (x2 : Int32) (x3 : Int32) (post : Int32 → Int32 → Prop) : Prop := (wp_M_isSource M_thrown M_padded M_sources M_claims M_rings M_opinions x1 (fun r_45 => ((r_45 = 0 → (∃ n9, wl_M_cite_38 M_thrown M_padded M_sources M_kinds M_days M_formLengths M_forms M_claims M_rings M_opinions x1 x2 x3 (0 : Int32) post n9 (0 : Int32) (0 : Int32) (0 : Int32))) ∧ (¬ (r_45 = 0) → (wp_M_within x2 (0 : Int32) (3 : Int32) (fun r_48 => ((r_48 = 0 → (∃ n9, wl_M_cite_38 M_thrown M_padded M_sources M_kinds M_days M_formLengths M_forms M_claims M_rings M_opinions x1 x2 x3 (0 : Int32) post n9 (0 : Int32) (0 : Int32) (0 : Int32))) ∧ (¬ (r_48 = 0) → ((x3 < (-1 : Int32) → (∃ n9, wl_M_cite_38 M_thrown M_padded M_sources M_kinds M_days M_formLengths M_forms M_claims M_rings M_opinions x1 x2 x3 (0 : Int32) post n9 (0 : Int32) (0 : Int32) (0 : Int32))) ∧ (¬ (x3 < (-1 : Int32)) → (∃ n9, wl_M_cite_38 M_thrown M_padded M_sources M_kinds M_days M_formLengths M_forms M_claims M_rings M_opinions x1 x2 x3 (1 : Int32) post n9 (0 : Int32) (0 : Int32) (0 : Int32))))))))))))
set_option maxHeartbeats 4000000 in
set_option maxRecDepth 100000 in
theorem mt_M_cite (l : Launch) (dC : Nat → ClassId) (dI : Nat → Nat → Nat) (cI cZ : ClassId) (aM : Nat) (aM_kinds : Nat) (aM_days : Nat) (aM_formLengths : Nat) (aM_forms : Nat) (aM_pad : Nat) (aM_withdrawn : Nat) (aM_lengths : Nat) (aM_texts : Nat) (aM_onSource : Nat) (aM_onClaim : Nat) (aM_rules : Nat) (aM_ring : Nat) (aM_far : Nat) (aM_held : Nat) (aM_heldBefore : Nat) (aM_persons : Nat) (aM_ofClaims : Nat) (aM_values : Nat) (aM_when : Nat) (aM_ranks : Nat) (aM_known : Nat) (aM_counts : Nat) (sz : Nat) (post : Int32 → Int32 → Prop) (M_thrown : Int32) (M_padded : Int32) (M_sources : Int32) (M_kinds : Nat → Int32) (M_days : Nat → Int32) (M_formLengths : Nat → Int32) (M_forms : Nat → Int32) (M_claims : Int32) (M_rings : Int32) (M_opinions : Int32) (x1 : Int32) (x2 : Int32) (x3 : Int32) (hw : wp_M_cite M_thrown M_padded M_sources M_kinds M_days M_formLengths M_forms M_claims M_rings M_opinions x1 x2 x3 post) : Met l y_M_cite w_M_cite ({ frames := 2, cells := 0, slots := 0, locals := 45 }) (va_Pc [.ref aM, .int x1, .int x2, .int x3] (fun U => U.heap.size = sz ∧ va_P (dC, dI) vwCl [(aM, .inr (5, [.int M_thrown, .int M_padded, .ref aM_pad, .int M_sources, .ref aM_kinds, .ref aM_days, .ref aM_withdrawn, .ref aM_lengths, .ref aM_texts, .ref aM_formLengths, .ref aM_forms, .int M_claims, .ref aM_onSource, .ref aM_onClaim, .ref aM_rules, .int M_rings, .ref aM_ring, .ref aM_far, .ref aM_held, .ref aM_heldBefore, .int M_opinions, .ref aM_persons, .ref aM_ofClaims, .ref aM_values, .ref aM_when, .ref aM_ranks, .ref aM_known, .ref aM_counts])), (aM_kinds, .inl (cI, 24, .inl M_kinds)), (aM_days, .inl (cI, 24, .inl M_days)), (aM_formLengths, .inl (cI, 4, .inl M_formLengths)), (aM_forms, .inl (cI, 240, .inl M_forms))] U.heap ∧ va_K (dC, dI) vwCl [(cI, .int), (cZ, .boolean)] U ∧ va_D (fun _ => True) [(aM, .inr (5, [.int M_thrown, .int M_padded, .ref aM_pad, .int M_sources, .ref aM_kinds, .ref aM_days, .ref aM_withdrawn, .ref aM_lengths, .ref aM_texts, .ref aM_formLengths, .ref aM_forms, .int M_claims, .ref aM_onSource, .ref aM_onClaim, .ref aM_rules, .int M_rings, .ref aM_ring, .ref aM_far, .ref aM_held, .ref aM_heldBefore, .int M_opinions, .ref aM_persons, .ref aM_ofClaims, .ref aM_values, .ref aM_when, .ref aM_ranks, .ref aM_known, .ref aM_counts])), (aM_kinds, .inl (cI, 24, .inl M_kinds)), (aM_days, .inl (cI, 24, .inl M_days)), (aM_formLengths, .inl (cI, 4, .inl M_formLengths)), (aM_forms, .inl (cI, 240, .inl M_forms))] ∧ en_ok U)) (va_Qi (fun r (u : (Int32)) => post r u) (fun (u : (Int32)) t => va_P (dC, dI) vwCl [(aM, .inr (5, [.int u, .int M_padded, .ref aM_pad, .int M_sources, .ref aM_kinds, .ref aM_days, .ref aM_withdrawn, .ref aM_lengths, .ref aM_texts, .ref aM_formLengths, .ref aM_forms, .int M_claims, .ref aM_onSource, .ref aM_onClaim, .ref aM_rules, .int M_rings, .ref aM_ring, .ref aM_far, .ref aM_held, .ref aM_heldBefore, .int M_opinions, .ref aM_persons, .ref aM_ofClaims, .ref aM_values, .ref aM_when, .ref aM_ranks, .ref aM_known, .ref aM_counts])), (aM_kinds, .inl (cI, 24, .inl M_kinds)), (aM_days, .inl (cI, 24, .inl M_days)), (aM_formLengths, .inl (cI, 4, .inl M_formLengths)), (aM_forms, .inl (cI, 240, .inl M_forms))] t.heap ∧ va_D (va_A [(aM, .inr (5, [.int M_thrown, .int M_padded, .ref aM_pad, .int M_sources, .ref aM_kinds, .ref aM_days, .ref aM_withdrawn, .ref aM_lengths, .ref aM_texts, .ref aM_formLengths, .ref aM_forms, .int M_claims, .ref aM_onSource, .ref aM_onClaim, .ref aM_rules, .int M_rings, .ref aM_ring, .ref aM_far, .ref aM_held, .ref aM_heldBefore, .int M_opinions, .ref aM_persons, .ref aM_ofClaims, .ref aM_values, .ref aM_when, .ref aM_ranks, .ref aM_known, .ref aM_counts])), (aM_kinds, .inl (cI, 24, .inl M_kinds)), (aM_days, .inl (cI, 24, .inl M_days)), (aM_formLengths, .inl (cI, 4, .inl M_formLengths)), (aM_forms, .inl (cI, 240, .inl M_forms))] sz) [(aM, .inr (5, [.int u, .int M_padded, .ref aM_pad, .int M_sources, .ref aM_kinds, .ref aM_days, .ref aM_withdrawn, .ref aM_lengths, .ref aM_texts, .ref aM_formLengths, .ref aM_forms, .int M_claims, .ref aM_onSource, .ref aM_onClaim, .ref aM_rules, .int M_rings, .ref aM_ring, .ref aM_far, .ref aM_held, .ref aM_heldBefore, .int M_opinions, .ref aM_persons, .ref aM_ofClaims, .ref aM_values, .ref aM_when, .ref aM_ranks, .ref aM_known, .ref aM_counts])), (aM_kinds, .inl (cI, 24, .inl M_kinds)), (aM_days, .inl (cI, 24, .inl M_days)), (aM_formLengths, .inl (cI, 4, .inl M_formLengths)), (aM_forms, .inl (cI, 240, .inl M_forms))]) (va_A [(aM, .inr (5, [.int M_thrown, .int M_padded, .ref aM_pad, .int M_sources, .ref aM_kinds, .ref aM_days, .ref aM_withdrawn, .ref aM_lengths, .ref aM_texts, .ref aM_formLengths, .ref aM_forms, .int M_claims, .ref aM_onSource, .ref aM_onClaim, .ref aM_rules, .int M_rings, .ref aM_ring, .ref aM_far, .ref aM_held, .ref aM_heldBefore, .int M_opinions, .ref aM_persons, .ref aM_ofClaims, .ref aM_values, .ref aM_when, .ref aM_ranks, .ref aM_known, .ref aM_counts])), (aM_kinds, .inl (cI, 24, .inl M_kinds)), (aM_days, .inl (cI, 24, .inl M_days)), (aM_formLengths, .inl (cI, 4, .inl M_formLengths)), (aM_forms, .inl (cI, 240, .inl M_forms))] sz)) 0 0 (va_A [(aM, .inr (5, [.int M_thrown, .int M_padded, .ref aM_pad, .int M_sources, .ref aM_kinds, .ref aM_days, .ref aM_withdrawn, .ref aM_lengths, .ref aM_texts, .ref aM_formLengths, .ref aM_forms, .int M_claims, .ref aM_onSource, .ref aM_onClaim, .ref aM_rules, .int M_rings, .ref aM_ring, .ref aM_far, .ref aM_held, .ref aM_heldBefore, .int M_opinions, .ref aM_persons, .ref aM_ofClaims, .ref aM_values, .ref aM_when, .ref aM_ranks, .ref aM_known, .ref aM_counts])), (aM_kinds, .inl (cI, 24, .inl M_kinds)), (aM_days, .inl (cI, 24, .inl M_days)), (aM_formLengths, .inl (cI, 4, .inl M_formLengths)), (aM_forms, .inl (cI, 240, .inl M_forms))] sz) := by
  refine Met.ofW (cc := prog_7_method_33_code) (maxL := 11) (ret := (some .int)) (by decide) rfl ?_
  intro p e s m args below meth c s₁ B hml hv
  obtain ⟨rfl, hsz, hP, hK, hD0, hE⟩ := hv
  have hx := B.exec
  have hb := B.bytes
  have hr := B.returns
  have hts := atoms_spec (ws := w_M_cite) B.pre
  have hown : s.vm.findClass "ClaimSourcesModel" = some m.cls := findClass_of_methodNamed B.named
  have hlocks := B.notSynchronized
  subst hsz
  have hD := hD0.self (sz := s.heap.size)
  generalize hAe : va_A [(aM, .inr (5, [.int M_thrown, .int M_padded, .ref aM_pad, .int M_sources, .ref aM_kinds, .ref aM_days, .ref aM_withdrawn, .ref aM_lengths, .ref aM_texts, .ref aM_formLengths, .ref aM_forms, .int M_claims, .ref aM_onSource, .ref aM_onClaim, .ref aM_rules, .int M_rings, .ref aM_ring, .ref aM_far, .ref aM_held, .ref aM_heldBefore, .int M_opinions, .ref aM_persons, .ref aM_ofClaims, .ref aM_values, .ref aM_when, .ref aM_ranks, .ref aM_known, .ref aM_counts])), (aM_kinds, .inl (cI, 24, .inl M_kinds)), (aM_days, .inl (cI, 24, .inl M_days)), (aM_formLengths, .inl (cI, 4, .inl M_formLengths)), (aM_forms, .inl (cI, 240, .inl M_forms))] s.heap.size = A at hD ⊢
  have hA : ∀ q : Nat, s.heap.size ≤ q → A q := fun q h => by rw [← hAe]; exact Or.inr h
  have hS : va_S A s.heap s.heap [] := va_S.rf
  have hl := lv_entry ([.ref aM, .int x1, .int x2, .int x3]) (n := 11) (Nat.le_of_ble_eq_true rfl)
  rw [lg_entry_eq]
  generalize (lg_sl ([.ref aM, .int x1, .int x2, .int x3]) ++ List.replicate (11 - (lg_sl ([.ref aM, .int x1, .int x2, .int x3])).length) Slot.unset).toArray = ls at hl ⊢
  have hl : lv_has ls 11 [(0, .ref aM), (1, .int x1), (2, .int x2), (3, .int x3)] := hl
  obtain ⟨Q0, hQ0⟩ : ∃ Q0, Q0 = MQ below (va_Qi (fun r (u : (Int32)) => post r u) (fun (u : (Int32)) t => va_P (dC, dI) vwCl [(aM, .inr (5, [.int u, .int M_padded, .ref aM_pad, .int M_sources, .ref aM_kinds, .ref aM_days, .ref aM_withdrawn, .ref aM_lengths, .ref aM_texts, .ref aM_formLengths, .ref aM_forms, .int M_claims, .ref aM_onSource, .ref aM_onClaim, .ref aM_rules, .int M_rings, .ref aM_ring, .ref aM_far, .ref aM_held, .ref aM_heldBefore, .int M_opinions, .ref aM_persons, .ref aM_ofClaims, .ref aM_values, .ref aM_when, .ref aM_ranks, .ref aM_known, .ref aM_counts])), (aM_kinds, .inl (cI, 24, .inl M_kinds)), (aM_days, .inl (cI, 24, .inl M_days)), (aM_formLengths, .inl (cI, 4, .inl M_formLengths)), (aM_forms, .inl (cI, 240, .inl M_forms))] t.heap ∧ va_D A [(aM, .inr (5, [.int u, .int M_padded, .ref aM_pad, .int M_sources, .ref aM_kinds, .ref aM_days, .ref aM_withdrawn, .ref aM_lengths, .ref aM_texts, .ref aM_formLengths, .ref aM_forms, .int M_claims, .ref aM_onSource, .ref aM_onClaim, .ref aM_rules, .int M_rings, .ref aM_ring, .ref aM_far, .ref aM_held, .ref aM_heldBefore, .int M_opinions, .ref aM_persons, .ref aM_ofClaims, .ref aM_values, .ref aM_when, .ref aM_ranks, .ref aM_known, .ref aM_counts])), (aM_kinds, .inl (cI, 24, .inl M_kinds)), (aM_days, .inl (cI, 24, .inl M_days)), (aM_formLengths, .inl (cI, 4, .inl M_formLengths)), (aM_forms, .inl (cI, 240, .inl M_forms))]) A) ([.ref aM, .int x1, .int x2, .int x3]).toArray s 0 0 A := ⟨_, rfl⟩
  rw [← hQ0]
  clear B
  generalize hag : ([.ref aM, .int x1, .int x2, .int x3] : List Value).toArray = args at hts hQ0 ⊢
  have hi_5 : ∀ w ∈ u_ws "ClaimSourcesModel" TT_5 28, w ∈ w_M_cite := fun w h => List.mem_cons_of_mem _ (ia_5 w h)
  have hf_28 := hts _ (List.mem_cons_of_mem _ m_640)
  have hf_31 := hts _ (List.mem_cons_of_mem _ m_641)
  have hf_13 := hts _ (List.mem_cons_of_mem _ m_635)
  have hf_16 := hts _ (List.mem_cons_of_mem _ m_636)
  have L38 : ∀ (M_thrown : Int32) (x1 : Int32) (x2 : Int32) (x3 : Int32) (x4 : Int32) (n : Nat) (x5 : Int32) (x6 : Int32) (x7 : Int32), wl_M_cite_38 M_thrown M_padded M_sources M_kinds M_days M_formLengths M_forms M_claims M_rings M_opinions x1 x2 x3 x4 post n x5 x6 x7 → ∀ (H : Heap) (locs : List Loc), va_P (dC, dI) vwCl [(aM, .inr (5, [.int M_thrown, .int M_padded, .ref aM_pad, .int M_sources, .ref aM_kinds, .ref aM_days, .ref aM_withdrawn, .ref aM_lengths, .ref aM_texts, .ref aM_formLengths, .ref aM_forms, .int M_claims, .ref aM_onSource, .ref aM_onClaim, .ref aM_rules, .int M_rings, .ref aM_ring, .ref aM_far, .ref aM_held, .ref aM_heldBefore, .int M_opinions, .ref aM_persons, .ref aM_ofClaims, .ref aM_values, .ref aM_when, .ref aM_ranks, .ref aM_known, .ref aM_counts])), (aM_kinds, .inl (cI, 24, .inl M_kinds)), (aM_days, .inl (cI, 24, .inl M_days)), (aM_formLengths, .inl (cI, 4, .inl M_formLengths)), (aM_forms, .inl (cI, 240, .inl M_forms))] H → va_D A [(aM, .inr (5, [.int M_thrown, .int M_padded, .ref aM_pad, .int M_sources, .ref aM_kinds, .ref aM_days, .ref aM_withdrawn, .ref aM_lengths, .ref aM_texts, .ref aM_formLengths, .ref aM_forms, .int M_claims, .ref aM_onSource, .ref aM_onClaim, .ref aM_rules, .int M_rings, .ref aM_ring, .ref aM_far, .ref aM_held, .ref aM_heldBefore, .int M_opinions, .ref aM_persons, .ref aM_ofClaims, .ref aM_values, .ref aM_when, .ref aM_ranks, .ref aM_known, .ref aM_counts])), (aM_kinds, .inl (cI, 24, .inl M_kinds)), (aM_days, .inl (cI, 24, .inl M_days)), (aM_formLengths, .inl (cI, 4, .inl M_formLengths)), (aM_forms, .inl (cI, 240, .inl M_forms))] → va_S A s.heap H locs → ∀ (ls : Array Slot), lv_has ls 11 [(0, .ref aM), (1, .int x1), (2, .int x2), (3, .int x3), (4, .int x4), (5, .int x5), (6, .int x6), (7, .int x7)] → W p l e (headSpec w_M_cite ({ frames := 2, cells := 0, slots := 0, locals := 45 })).room s m args below meth c H locs 0 0 Q0 (F0 m 38 ls []) := by
    intro M_thrown x1 x2 x3 x4
    intro n
    induction n with
    | zero =>
      intro x5 x6 x7 hw
      exact False.elim hw
    | succ n ih =>
      intro x5 x6 x7 hw H locs hP hD hS ls hl
      unfold wl_M_cite_38 at hw
      refine lv_iload hx hb d_M_cite_38 (lv_at hl 4 rfl) ?_
      refine lv_if_eq (tgt := 200) hx hb d_M_cite_40 (by decide) (fun c_1 => ?_) (fun c_1 => ?_)
      · have hw := hw.1 c_1
        refine lv_aload_n hx hb d_M_cite_200 rfl (lv_at hl 0 rfl) ?_
        refine lv_iload hx hb d_M_cite_201 (lv_at hl 4 rfl) ?_
        refine lv_if_eq (tgt := 216) hx hb d_M_cite_203 (by decide) (fun _ => ?_) (fun h9 => absurd c_1 h9)
        refine lv_iconst (v := 0) hx hb d_M_cite_216 (by decide) ?_
        refine lv_iconst (v := 1) hx hb d_M_cite_217 (by decide) ?_
        refine lv_iconst (v := 1) hx hb d_M_cite_218 (by decide) ?_
        have hPc := hP.sub (ws' := [(aM, .inr (5, [.int M_thrown, .int M_padded, .ref aM_pad, .int M_sources, .ref aM_kinds, .ref aM_days, .ref aM_withdrawn, .ref aM_lengths, .ref aM_texts, .ref aM_formLengths, .ref aM_forms, .int M_claims, .ref aM_onSource, .ref aM_onClaim, .ref aM_rules, .int M_rings, .ref aM_ring, .ref aM_far, .ref aM_held, .ref aM_heldBefore, .int M_opinions, .ref aM_persons, .ref aM_ofClaims, .ref aM_values, .ref aM_when, .ref aM_ranks, .ref aM_known, .ref aM_counts]))]) [0] rfl
        have hDc := hD.sub (ws' := [(aM, .inr (5, [.int M_thrown, .int M_padded, .ref aM_pad, .int M_sources, .ref aM_kinds, .ref aM_days, .ref aM_withdrawn, .ref aM_lengths, .ref aM_texts, .ref aM_formLengths, .ref aM_forms, .int M_claims, .ref aM_onSource, .ref aM_onClaim, .ref aM_rules, .int M_rings, .ref aM_ring, .ref aM_far, .ref aM_held, .ref aM_heldBefore, .int M_opinions, .ref aM_persons, .ref aM_ofClaims, .ref aM_values, .ref aM_when, .ref aM_ranks, .ref aM_known, .ref aM_counts]))]) [0] (by decide) rfl
        have hFc := va_free (wc := [(aM, .inr (5, [.int M_thrown, .int M_padded, .ref aM_pad, .int M_sources, .ref aM_kinds, .ref aM_days, .ref aM_withdrawn, .ref aM_lengths, .ref aM_texts, .ref aM_formLengths, .ref aM_forms, .int M_claims, .ref aM_onSource, .ref aM_onClaim, .ref aM_rules, .int M_rings, .ref aM_ring, .ref aM_far, .ref aM_held, .ref aM_heldBefore, .int M_opinions, .ref aM_persons, .ref aM_ofClaims, .ref aM_values, .ref aM_when, .ref aM_ranks, .ref aM_known, .ref aM_counts]))]) hD hS hA [0] rfl
        refine va_calli (va_runV (As := [.int (0 : Int32), .int (1 : Int32), .int (1 : Int32)]) (rest := []) ⟨hx, hb, hml, hown, hts⟩ (mt_M_goes l dC dI cI cZ aM aM_pad aM_kinds aM_days aM_withdrawn aM_lengths aM_texts aM_formLengths aM_forms aM_onSource aM_onClaim aM_rules aM_ring aM_far aM_held aM_heldBefore aM_persons aM_ofClaims aM_values aM_when aM_ranks aM_known aM_counts H.size _ M_thrown M_padded M_sources M_claims M_rings M_opinions (0 : Int32) (1 : Int32) (1 : Int32) hw) (cwV 3 hts (gdV m_728 m_730 ms_18 m_6 m_731) rfl rfl rfl (by decide +kernel) ⟨Nat.le_of_ble_eq_true rfl, Nat.le_of_ble_eq_true rfl⟩) ⟨fb_w, va_recv hK hPc (ci := 5) (q0 := 0) rfl rfl, fun U hU hW => ⟨rfl, by rw [hU], by rw [hU]; exact hPc, va_K.moved hW.alike hK, hDc.weaken (fun _ _ _ _ => trivial), hE.warm hW⟩⟩ rfl rfl hl.1 rfl (lv_room (Nat.le_of_ble_eq_true rfl)) d_M_cite_219 ⟨Nat.le_of_ble_eq_true rfl, Nat.le_of_ble_eq_true rfl⟩) hS (fun q _ h => hFc q h) hFc (fun r_3 u t H1 locs ht hvm hw hB hz1 hk1 hS => ?_)
        obtain ⟨u_4, rfl⟩ : ∃ z, z = u := ⟨_, rfl⟩
        obtain ⟨hP1, hD1⟩ := hB
        rw [ht] at hP1
        try dsimp only at hw hP1 hD1
        obtain ⟨hP, hD⟩ := va_join (wr := [(aM_kinds, .inl (cI, 24, .inl M_kinds)), (aM_days, .inl (cI, 24, .inl M_days)), (aM_formLengths, .inl (cI, 4, .inl M_formLengths)), (aM_forms, .inl (cI, 240, .inl M_forms))]) (w1 := [(aM, .inr (5, [.int u_4, .int M_padded, .ref aM_pad, .int M_sources, .ref aM_kinds, .ref aM_days, .ref aM_withdrawn, .ref aM_lengths, .ref aM_texts, .ref aM_formLengths, .ref aM_forms, .int M_claims, .ref aM_onSource, .ref aM_onClaim, .ref aM_rules, .int M_rings, .ref aM_ring, .ref aM_far, .ref aM_held, .ref aM_heldBefore, .int M_opinions, .ref aM_persons, .ref aM_ofClaims, .ref aM_values, .ref aM_when, .ref aM_ranks, .ref aM_known, .ref aM_counts]))]) hP hD [0] [1, 2, 3, 4] rfl rfl (by decide) (by decide) hk1 hFc hP1 hD1
        generalize H1 = H at hP hS ⊢
        have hP : va_P (dC, dI) vwCl [(aM_kinds, .inl (cI, 24, .inl M_kinds)), (aM_days, .inl (cI, 24, .inl M_days)), (aM_formLengths, .inl (cI, 4, .inl M_formLengths)), (aM_forms, .inl (cI, 240, .inl M_forms)), (aM, .inr (5, [.int u_4, .int M_padded, .ref aM_pad, .int M_sources, .ref aM_kinds, .ref aM_days, .ref aM_withdrawn, .ref aM_lengths, .ref aM_texts, .ref aM_formLengths, .ref aM_forms, .int M_claims, .ref aM_onSource, .ref aM_onClaim, .ref aM_rules, .int M_rings, .ref aM_ring, .ref aM_far, .ref aM_held, .ref aM_heldBefore, .int M_opinions, .ref aM_persons, .ref aM_ofClaims, .ref aM_values, .ref aM_when, .ref aM_ranks, .ref aM_known, .ref aM_counts]))] H := hP
        have hD : va_D A [(aM_kinds, .inl (cI, 24, .inl M_kinds)), (aM_days, .inl (cI, 24, .inl M_days)), (aM_formLengths, .inl (cI, 4, .inl M_formLengths)), (aM_forms, .inl (cI, 240, .inl M_forms)), (aM, .inr (5, [.int u_4, .int M_padded, .ref aM_pad, .int M_sources, .ref aM_kinds, .ref aM_days, .ref aM_withdrawn, .ref aM_lengths, .ref aM_texts, .ref aM_formLengths, .ref aM_forms, .int M_claims, .ref aM_onSource, .ref aM_onClaim, .ref aM_rules, .int M_rings, .ref aM_ring, .ref aM_far, .ref aM_held, .ref aM_heldBefore, .int M_opinions, .ref aM_persons, .ref aM_ofClaims, .ref aM_values, .ref aM_when, .ref aM_ranks, .ref aM_known, .ref aM_counts]))] := hD
        refine lv_if_ne (tgt := 227) hx hb d_M_cite_222 (by decide) (fun c_5 => ?_) (fun c_5 => ?_)
        · have hw := hw.2 c_5
          refine lv_iload_n hx hb d_M_cite_227 rfl (lv_at hl 3 rfl) ?_
          refine lv_iconst (v := -1) hx hb d_M_cite_228 (by decide) ?_
          refine lv_icmp_ne (tgt := 237) hx hb d_M_cite_229 (by decide) (fun c_6 => ?_) (fun c_6 => ?_)
          · have hw := hw.2 c_6
            refine lv_iload hx hb d_M_cite_237 (lv_at hl 6 rfl) ?_
            subst hQ0
            have hP9 := hP.sub (ws' := [(aM, .inr (5, [.int u_4, .int M_padded, .ref aM_pad, .int M_sources, .ref aM_kinds, .ref aM_days, .ref aM_withdrawn, .ref aM_lengths, .ref aM_texts, .ref aM_formLengths, .ref aM_forms, .int M_claims, .ref aM_onSource, .ref aM_onClaim, .ref aM_rules, .int M_rings, .ref aM_ring, .ref aM_far, .ref aM_held, .ref aM_heldBefore, .int M_opinions, .ref aM_persons, .ref aM_ofClaims, .ref aM_values, .ref aM_when, .ref aM_ranks, .ref aM_known, .ref aM_counts])), (aM_kinds, .inl (cI, 24, .inl M_kinds)), (aM_days, .inl (cI, 24, .inl M_days)), (aM_formLengths, .inl (cI, 4, .inl M_formLengths)), (aM_forms, .inl (cI, 240, .inl M_forms))]) [4, 0, 1, 2, 3] rfl
            have hD9 := hD.sub (ws' := [(aM, .inr (5, [.int u_4, .int M_padded, .ref aM_pad, .int M_sources, .ref aM_kinds, .ref aM_days, .ref aM_withdrawn, .ref aM_lengths, .ref aM_texts, .ref aM_formLengths, .ref aM_forms, .int M_claims, .ref aM_onSource, .ref aM_onClaim, .ref aM_rules, .int M_rings, .ref aM_ring, .ref aM_far, .ref aM_held, .ref aM_heldBefore, .int M_opinions, .ref aM_persons, .ref aM_ofClaims, .ref aM_values, .ref aM_when, .ref aM_ranks, .ref aM_known, .ref aM_counts])), (aM_kinds, .inl (cI, 24, .inl M_kinds)), (aM_days, .inl (cI, 24, .inl M_days)), (aM_formLengths, .inl (cI, 4, .inl M_formLengths)), (aM_forms, .inl (cI, 240, .inl M_forms))]) [4, 0, 1, 2, 3] (by decide) rfl
            exact W.iret (v := x6) hx hb hr (fun t ht hW => ⟨⟨_, (u_4), rfl, hw, by rw [ht]; exact hP9, hD9⟩, hS.F ht⟩) hS.2.2 d_M_cite_239
          · have hw := hw.1 c_6
            refine lv_iload hx hb d_M_cite_232 (lv_at hl 5 rfl) ?_
            refine lv_goto (tgt := 239) hx hb d_M_cite_234 (by decide) ?_
            subst hQ0
            have hP9 := hP.sub (ws' := [(aM, .inr (5, [.int u_4, .int M_padded, .ref aM_pad, .int M_sources, .ref aM_kinds, .ref aM_days, .ref aM_withdrawn, .ref aM_lengths, .ref aM_texts, .ref aM_formLengths, .ref aM_forms, .int M_claims, .ref aM_onSource, .ref aM_onClaim, .ref aM_rules, .int M_rings, .ref aM_ring, .ref aM_far, .ref aM_held, .ref aM_heldBefore, .int M_opinions, .ref aM_persons, .ref aM_ofClaims, .ref aM_values, .ref aM_when, .ref aM_ranks, .ref aM_known, .ref aM_counts])), (aM_kinds, .inl (cI, 24, .inl M_kinds)), (aM_days, .inl (cI, 24, .inl M_days)), (aM_formLengths, .inl (cI, 4, .inl M_formLengths)), (aM_forms, .inl (cI, 240, .inl M_forms))]) [4, 0, 1, 2, 3] rfl
            have hD9 := hD.sub (ws' := [(aM, .inr (5, [.int u_4, .int M_padded, .ref aM_pad, .int M_sources, .ref aM_kinds, .ref aM_days, .ref aM_withdrawn, .ref aM_lengths, .ref aM_texts, .ref aM_formLengths, .ref aM_forms, .int M_claims, .ref aM_onSource, .ref aM_onClaim, .ref aM_rules, .int M_rings, .ref aM_ring, .ref aM_far, .ref aM_held, .ref aM_heldBefore, .int M_opinions, .ref aM_persons, .ref aM_ofClaims, .ref aM_values, .ref aM_when, .ref aM_ranks, .ref aM_known, .ref aM_counts])), (aM_kinds, .inl (cI, 24, .inl M_kinds)), (aM_days, .inl (cI, 24, .inl M_days)), (aM_formLengths, .inl (cI, 4, .inl M_formLengths)), (aM_forms, .inl (cI, 240, .inl M_forms))]) [4, 0, 1, 2, 3] (by decide) rfl
            exact W.iret (v := x5) hx hb hr (fun t ht hW => ⟨⟨_, (u_4), rfl, hw, by rw [ht]; exact hP9, hD9⟩, hS.F ht⟩) hS.2.2 d_M_cite_239
        · have hw := hw.1 c_5
          refine lv_iconst (v := 0) hx hb d_M_cite_225 (by decide) ?_
          subst hQ0
          have hP9 := hP.sub (ws' := [(aM, .inr (5, [.int u_4, .int M_padded, .ref aM_pad, .int M_sources, .ref aM_kinds, .ref aM_days, .ref aM_withdrawn, .ref aM_lengths, .ref aM_texts, .ref aM_formLengths, .ref aM_forms, .int M_claims, .ref aM_onSource, .ref aM_onClaim, .ref aM_rules, .int M_rings, .ref aM_ring, .ref aM_far, .ref aM_held, .ref aM_heldBefore, .int M_opinions, .ref aM_persons, .ref aM_ofClaims, .ref aM_values, .ref aM_when, .ref aM_ranks, .ref aM_known, .ref aM_counts])), (aM_kinds, .inl (cI, 24, .inl M_kinds)), (aM_days, .inl (cI, 24, .inl M_days)), (aM_formLengths, .inl (cI, 4, .inl M_formLengths)), (aM_forms, .inl (cI, 240, .inl M_forms))]) [4, 0, 1, 2, 3] rfl
          have hD9 := hD.sub (ws' := [(aM, .inr (5, [.int u_4, .int M_padded, .ref aM_pad, .int M_sources, .ref aM_kinds, .ref aM_days, .ref aM_withdrawn, .ref aM_lengths, .ref aM_texts, .ref aM_formLengths, .ref aM_forms, .int M_claims, .ref aM_onSource, .ref aM_onClaim, .ref aM_rules, .int M_rings, .ref aM_ring, .ref aM_far, .ref aM_held, .ref aM_heldBefore, .int M_opinions, .ref aM_persons, .ref aM_ofClaims, .ref aM_values, .ref aM_when, .ref aM_ranks, .ref aM_known, .ref aM_counts])), (aM_kinds, .inl (cI, 24, .inl M_kinds)), (aM_days, .inl (cI, 24, .inl M_days)), (aM_formLengths, .inl (cI, 4, .inl M_formLengths)), (aM_forms, .inl (cI, 240, .inl M_forms))]) [4, 0, 1, 2, 3] (by decide) rfl
          exact W.iret (v := (0 : Int32)) hx hb hr (fun t ht hW => ⟨⟨_, (u_4), rfl, hw, by rw [ht]; exact hP9, hD9⟩, hS.F ht⟩) hS.2.2 d_M_cite_226
      · have hw := hw.2 c_1
        refine lv_iload hx hb d_M_cite_43 (lv_at hl 7 rfl) ?_
        refine lv_aload_n hx hb d_M_cite_45 rfl (lv_at hl 0 rfl) ?_
        refine va_get (D := (dC, dI)) (ci := 5) (v := .ref aM_formLengths) (C := "ClaimSourcesModel") (T := TT_5) (N := 28) hx hb hts hi_5 hown hK hP 0 rfl rfl 9 (by decide) hf_28 (fun _ h9 => h9) rfl d_M_cite_46 ?_
        refine lv_iload_n hx hb d_M_cite_49 rfl (lv_at hl 2 rfl) ?_
        obtain ⟨h_7, hw⟩ := hw
        refine va_iald hx hb hK hP 3 0 rfl rfl h_7 d_M_cite_50 ?_
        refine lv_icmp_ge (tgt := 200) hx hb d_M_cite_51 (by decide) (fun c_8 => ?_) (fun c_8 => ?_)
        · have hw := hw.1 c_8
          refine lv_aload_n hx hb d_M_cite_200 rfl (lv_at hl 0 rfl) ?_
          refine lv_iload hx hb d_M_cite_201 (lv_at hl 4 rfl) ?_
          refine lv_if_eq (tgt := 216) hx hb d_M_cite_203 (by decide) (fun h9 => absurd h9 c_1) (fun _ => ?_)
          refine lv_iload_n hx hb d_M_cite_206 rfl (lv_at hl 3 rfl) ?_
          refine lv_iload hx hb d_M_cite_207 (lv_at hl 5 rfl) ?_
          refine lv_icmp_ge (tgt := 216) hx hb d_M_cite_209 (by decide) (fun c_10 => ?_) (fun c_10 => ?_)
          · have hw := hw.1 c_10
            refine lv_iconst (v := 0) hx hb d_M_cite_216 (by decide) ?_
            refine lv_iconst (v := 1) hx hb d_M_cite_217 (by decide) ?_
            refine lv_iconst (v := 1) hx hb d_M_cite_218 (by decide) ?_
            have hPc := hP.sub (ws' := [(aM, .inr (5, [.int M_thrown, .int M_padded, .ref aM_pad, .int M_sources, .ref aM_kinds, .ref aM_days, .ref aM_withdrawn, .ref aM_lengths, .ref aM_texts, .ref aM_formLengths, .ref aM_forms, .int M_claims, .ref aM_onSource, .ref aM_onClaim, .ref aM_rules, .int M_rings, .ref aM_ring, .ref aM_far, .ref aM_held, .ref aM_heldBefore, .int M_opinions, .ref aM_persons, .ref aM_ofClaims, .ref aM_values, .ref aM_when, .ref aM_ranks, .ref aM_known, .ref aM_counts]))]) [0] rfl
            have hDc := hD.sub (ws' := [(aM, .inr (5, [.int M_thrown, .int M_padded, .ref aM_pad, .int M_sources, .ref aM_kinds, .ref aM_days, .ref aM_withdrawn, .ref aM_lengths, .ref aM_texts, .ref aM_formLengths, .ref aM_forms, .int M_claims, .ref aM_onSource, .ref aM_onClaim, .ref aM_rules, .int M_rings, .ref aM_ring, .ref aM_far, .ref aM_held, .ref aM_heldBefore, .int M_opinions, .ref aM_persons, .ref aM_ofClaims, .ref aM_values, .ref aM_when, .ref aM_ranks, .ref aM_known, .ref aM_counts]))]) [0] (by decide) rfl
            have hFc := va_free (wc := [(aM, .inr (5, [.int M_thrown, .int M_padded, .ref aM_pad, .int M_sources, .ref aM_kinds, .ref aM_days, .ref aM_withdrawn, .ref aM_lengths, .ref aM_texts, .ref aM_formLengths, .ref aM_forms, .int M_claims, .ref aM_onSource, .ref aM_onClaim, .ref aM_rules, .int M_rings, .ref aM_ring, .ref aM_far, .ref aM_held, .ref aM_heldBefore, .int M_opinions, .ref aM_persons, .ref aM_ofClaims, .ref aM_values, .ref aM_when, .ref aM_ranks, .ref aM_known, .ref aM_counts]))]) hD hS hA [0] rfl
            refine va_calli (va_runV (As := [.int (0 : Int32), .int (1 : Int32), .int (1 : Int32)]) (rest := []) ⟨hx, hb, hml, hown, hts⟩ (mt_M_goes l dC dI cI cZ aM aM_pad aM_kinds aM_days aM_withdrawn aM_lengths aM_texts aM_formLengths aM_forms aM_onSource aM_onClaim aM_rules aM_ring aM_far aM_held aM_heldBefore aM_persons aM_ofClaims aM_values aM_when aM_ranks aM_known aM_counts H.size _ M_thrown M_padded M_sources M_claims M_rings M_opinions (0 : Int32) (1 : Int32) (1 : Int32) hw) (cwV 3 hts (gdV m_728 m_730 ms_18 m_6 m_731) rfl rfl rfl (by decide +kernel) ⟨Nat.le_of_ble_eq_true rfl, Nat.le_of_ble_eq_true rfl⟩) ⟨fb_w, va_recv hK hPc (ci := 5) (q0 := 0) rfl rfl, fun U hU hW => ⟨rfl, by rw [hU], by rw [hU]; exact hPc, va_K.moved hW.alike hK, hDc.weaken (fun _ _ _ _ => trivial), hE.warm hW⟩⟩ rfl rfl hl.1 rfl (lv_room (Nat.le_of_ble_eq_true rfl)) d_M_cite_219 ⟨Nat.le_of_ble_eq_true rfl, Nat.le_of_ble_eq_true rfl⟩) hS (fun q _ h => hFc q h) hFc (fun r_11 u t H1 locs ht hvm hw hB hz1 hk1 hS => ?_)
            obtain ⟨u_12, rfl⟩ : ∃ z, z = u := ⟨_, rfl⟩
            obtain ⟨hP1, hD1⟩ := hB
            rw [ht] at hP1
            try dsimp only at hw hP1 hD1
            obtain ⟨hP, hD⟩ := va_join (wr := [(aM_kinds, .inl (cI, 24, .inl M_kinds)), (aM_days, .inl (cI, 24, .inl M_days)), (aM_formLengths, .inl (cI, 4, .inl M_formLengths)), (aM_forms, .inl (cI, 240, .inl M_forms))]) (w1 := [(aM, .inr (5, [.int u_12, .int M_padded, .ref aM_pad, .int M_sources, .ref aM_kinds, .ref aM_days, .ref aM_withdrawn, .ref aM_lengths, .ref aM_texts, .ref aM_formLengths, .ref aM_forms, .int M_claims, .ref aM_onSource, .ref aM_onClaim, .ref aM_rules, .int M_rings, .ref aM_ring, .ref aM_far, .ref aM_held, .ref aM_heldBefore, .int M_opinions, .ref aM_persons, .ref aM_ofClaims, .ref aM_values, .ref aM_when, .ref aM_ranks, .ref aM_known, .ref aM_counts]))]) hP hD [0] [1, 2, 3, 4] rfl rfl (by decide) (by decide) hk1 hFc hP1 hD1
            generalize H1 = H at hP hS ⊢
            have hP : va_P (dC, dI) vwCl [(aM_kinds, .inl (cI, 24, .inl M_kinds)), (aM_days, .inl (cI, 24, .inl M_days)), (aM_formLengths, .inl (cI, 4, .inl M_formLengths)), (aM_forms, .inl (cI, 240, .inl M_forms)), (aM, .inr (5, [.int u_12, .int M_padded, .ref aM_pad, .int M_sources, .ref aM_kinds, .ref aM_days, .ref aM_withdrawn, .ref aM_lengths, .ref aM_texts, .ref aM_formLengths, .ref aM_forms, .int M_claims, .ref aM_onSource, .ref aM_onClaim, .ref aM_rules, .int M_rings, .ref aM_ring, .ref aM_far, .ref aM_held, .ref aM_heldBefore, .int M_opinions, .ref aM_persons, .ref aM_ofClaims, .ref aM_values, .ref aM_when, .ref aM_ranks, .ref aM_known, .ref aM_counts]))] H := hP
            have hD : va_D A [(aM_kinds, .inl (cI, 24, .inl M_kinds)), (aM_days, .inl (cI, 24, .inl M_days)), (aM_formLengths, .inl (cI, 4, .inl M_formLengths)), (aM_forms, .inl (cI, 240, .inl M_forms)), (aM, .inr (5, [.int u_12, .int M_padded, .ref aM_pad, .int M_sources, .ref aM_kinds, .ref aM_days, .ref aM_withdrawn, .ref aM_lengths, .ref aM_texts, .ref aM_formLengths, .ref aM_forms, .int M_claims, .ref aM_onSource, .ref aM_onClaim, .ref aM_rules, .int M_rings, .ref aM_ring, .ref aM_far, .ref aM_held, .ref aM_heldBefore, .int M_opinions, .ref aM_persons, .ref aM_ofClaims, .ref aM_values, .ref aM_when, .ref aM_ranks, .ref aM_known, .ref aM_counts]))] := hD
            refine lv_if_ne (tgt := 227) hx hb d_M_cite_222 (by decide) (fun c_13 => ?_) (fun c_13 => ?_)
            · have hw := hw.2 c_13
              refine lv_iload_n hx hb d_M_cite_227 rfl (lv_at hl 3 rfl) ?_
              refine lv_iconst (v := -1) hx hb d_M_cite_228 (by decide) ?_
              refine lv_icmp_ne (tgt := 237) hx hb d_M_cite_229 (by decide) (fun c_14 => ?_) (fun c_14 => ?_)
              · have hw := hw.2 c_14
                refine lv_iload hx hb d_M_cite_237 (lv_at hl 6 rfl) ?_
                subst hQ0
                have hP9 := hP.sub (ws' := [(aM, .inr (5, [.int u_12, .int M_padded, .ref aM_pad, .int M_sources, .ref aM_kinds, .ref aM_days, .ref aM_withdrawn, .ref aM_lengths, .ref aM_texts, .ref aM_formLengths, .ref aM_forms, .int M_claims, .ref aM_onSource, .ref aM_onClaim, .ref aM_rules, .int M_rings, .ref aM_ring, .ref aM_far, .ref aM_held, .ref aM_heldBefore, .int M_opinions, .ref aM_persons, .ref aM_ofClaims, .ref aM_values, .ref aM_when, .ref aM_ranks, .ref aM_known, .ref aM_counts])), (aM_kinds, .inl (cI, 24, .inl M_kinds)), (aM_days, .inl (cI, 24, .inl M_days)), (aM_formLengths, .inl (cI, 4, .inl M_formLengths)), (aM_forms, .inl (cI, 240, .inl M_forms))]) [4, 0, 1, 2, 3] rfl
                have hD9 := hD.sub (ws' := [(aM, .inr (5, [.int u_12, .int M_padded, .ref aM_pad, .int M_sources, .ref aM_kinds, .ref aM_days, .ref aM_withdrawn, .ref aM_lengths, .ref aM_texts, .ref aM_formLengths, .ref aM_forms, .int M_claims, .ref aM_onSource, .ref aM_onClaim, .ref aM_rules, .int M_rings, .ref aM_ring, .ref aM_far, .ref aM_held, .ref aM_heldBefore, .int M_opinions, .ref aM_persons, .ref aM_ofClaims, .ref aM_values, .ref aM_when, .ref aM_ranks, .ref aM_known, .ref aM_counts])), (aM_kinds, .inl (cI, 24, .inl M_kinds)), (aM_days, .inl (cI, 24, .inl M_days)), (aM_formLengths, .inl (cI, 4, .inl M_formLengths)), (aM_forms, .inl (cI, 240, .inl M_forms))]) [4, 0, 1, 2, 3] (by decide) rfl
                exact W.iret (v := x6) hx hb hr (fun t ht hW => ⟨⟨_, (u_12), rfl, hw, by rw [ht]; exact hP9, hD9⟩, hS.F ht⟩) hS.2.2 d_M_cite_239
              · have hw := hw.1 c_14
                refine lv_iload hx hb d_M_cite_232 (lv_at hl 5 rfl) ?_
                refine lv_goto (tgt := 239) hx hb d_M_cite_234 (by decide) ?_
                subst hQ0
                have hP9 := hP.sub (ws' := [(aM, .inr (5, [.int u_12, .int M_padded, .ref aM_pad, .int M_sources, .ref aM_kinds, .ref aM_days, .ref aM_withdrawn, .ref aM_lengths, .ref aM_texts, .ref aM_formLengths, .ref aM_forms, .int M_claims, .ref aM_onSource, .ref aM_onClaim, .ref aM_rules, .int M_rings, .ref aM_ring, .ref aM_far, .ref aM_held, .ref aM_heldBefore, .int M_opinions, .ref aM_persons, .ref aM_ofClaims, .ref aM_values, .ref aM_when, .ref aM_ranks, .ref aM_known, .ref aM_counts])), (aM_kinds, .inl (cI, 24, .inl M_kinds)), (aM_days, .inl (cI, 24, .inl M_days)), (aM_formLengths, .inl (cI, 4, .inl M_formLengths)), (aM_forms, .inl (cI, 240, .inl M_forms))]) [4, 0, 1, 2, 3] rfl
                have hD9 := hD.sub (ws' := [(aM, .inr (5, [.int u_12, .int M_padded, .ref aM_pad, .int M_sources, .ref aM_kinds, .ref aM_days, .ref aM_withdrawn, .ref aM_lengths, .ref aM_texts, .ref aM_formLengths, .ref aM_forms, .int M_claims, .ref aM_onSource, .ref aM_onClaim, .ref aM_rules, .int M_rings, .ref aM_ring, .ref aM_far, .ref aM_held, .ref aM_heldBefore, .int M_opinions, .ref aM_persons, .ref aM_ofClaims, .ref aM_values, .ref aM_when, .ref aM_ranks, .ref aM_known, .ref aM_counts])), (aM_kinds, .inl (cI, 24, .inl M_kinds)), (aM_days, .inl (cI, 24, .inl M_days)), (aM_formLengths, .inl (cI, 4, .inl M_formLengths)), (aM_forms, .inl (cI, 240, .inl M_forms))]) [4, 0, 1, 2, 3] (by decide) rfl
                exact W.iret (v := x5) hx hb hr (fun t ht hW => ⟨⟨_, (u_12), rfl, hw, by rw [ht]; exact hP9, hD9⟩, hS.F ht⟩) hS.2.2 d_M_cite_239
            · have hw := hw.1 c_13
              refine lv_iconst (v := 0) hx hb d_M_cite_225 (by decide) ?_
              subst hQ0
              have hP9 := hP.sub (ws' := [(aM, .inr (5, [.int u_12, .int M_padded, .ref aM_pad, .int M_sources, .ref aM_kinds, .ref aM_days, .ref aM_withdrawn, .ref aM_lengths, .ref aM_texts, .ref aM_formLengths, .ref aM_forms, .int M_claims, .ref aM_onSource, .ref aM_onClaim, .ref aM_rules, .int M_rings, .ref aM_ring, .ref aM_far, .ref aM_held, .ref aM_heldBefore, .int M_opinions, .ref aM_persons, .ref aM_ofClaims, .ref aM_values, .ref aM_when, .ref aM_ranks, .ref aM_known, .ref aM_counts])), (aM_kinds, .inl (cI, 24, .inl M_kinds)), (aM_days, .inl (cI, 24, .inl M_days)), (aM_formLengths, .inl (cI, 4, .inl M_formLengths)), (aM_forms, .inl (cI, 240, .inl M_forms))]) [4, 0, 1, 2, 3] rfl
              have hD9 := hD.sub (ws' := [(aM, .inr (5, [.int u_12, .int M_padded, .ref aM_pad, .int M_sources, .ref aM_kinds, .ref aM_days, .ref aM_withdrawn, .ref aM_lengths, .ref aM_texts, .ref aM_formLengths, .ref aM_forms, .int M_claims, .ref aM_onSource, .ref aM_onClaim, .ref aM_rules, .int M_rings, .ref aM_ring, .ref aM_far, .ref aM_held, .ref aM_heldBefore, .int M_opinions, .ref aM_persons, .ref aM_ofClaims, .ref aM_values, .ref aM_when, .ref aM_ranks, .ref aM_known, .ref aM_counts])), (aM_kinds, .inl (cI, 24, .inl M_kinds)), (aM_days, .inl (cI, 24, .inl M_days)), (aM_formLengths, .inl (cI, 4, .inl M_formLengths)), (aM_forms, .inl (cI, 240, .inl M_forms))]) [4, 0, 1, 2, 3] (by decide) rfl
              exact W.iret (v := (0 : Int32)) hx hb hr (fun t ht hW => ⟨⟨_, (u_12), rfl, hw, by rw [ht]; exact hP9, hD9⟩, hS.F ht⟩) hS.2.2 d_M_cite_226
          · have hw := hw.2 c_10
            refine lv_iconst (v := 1) hx hb d_M_cite_212 (by decide) ?_
            refine lv_goto (tgt := 217) hx hb d_M_cite_213 (by decide) ?_
            refine lv_iconst (v := 1) hx hb d_M_cite_217 (by decide) ?_
            refine lv_iconst (v := 1) hx hb d_M_cite_218 (by decide) ?_
            have hPc := hP.sub (ws' := [(aM, .inr (5, [.int M_thrown, .int M_padded, .ref aM_pad, .int M_sources, .ref aM_kinds, .ref aM_days, .ref aM_withdrawn, .ref aM_lengths, .ref aM_texts, .ref aM_formLengths, .ref aM_forms, .int M_claims, .ref aM_onSource, .ref aM_onClaim, .ref aM_rules, .int M_rings, .ref aM_ring, .ref aM_far, .ref aM_held, .ref aM_heldBefore, .int M_opinions, .ref aM_persons, .ref aM_ofClaims, .ref aM_values, .ref aM_when, .ref aM_ranks, .ref aM_known, .ref aM_counts]))]) [0] rfl
            have hDc := hD.sub (ws' := [(aM, .inr (5, [.int M_thrown, .int M_padded, .ref aM_pad, .int M_sources, .ref aM_kinds, .ref aM_days, .ref aM_withdrawn, .ref aM_lengths, .ref aM_texts, .ref aM_formLengths, .ref aM_forms, .int M_claims, .ref aM_onSource, .ref aM_onClaim, .ref aM_rules, .int M_rings, .ref aM_ring, .ref aM_far, .ref aM_held, .ref aM_heldBefore, .int M_opinions, .ref aM_persons, .ref aM_ofClaims, .ref aM_values, .ref aM_when, .ref aM_ranks, .ref aM_known, .ref aM_counts]))]) [0] (by decide) rfl
            have hFc := va_free (wc := [(aM, .inr (5, [.int M_thrown, .int M_padded, .ref aM_pad, .int M_sources, .ref aM_kinds, .ref aM_days, .ref aM_withdrawn, .ref aM_lengths, .ref aM_texts, .ref aM_formLengths, .ref aM_forms, .int M_claims, .ref aM_onSource, .ref aM_onClaim, .ref aM_rules, .int M_rings, .ref aM_ring, .ref aM_far, .ref aM_held, .ref aM_heldBefore, .int M_opinions, .ref aM_persons, .ref aM_ofClaims, .ref aM_values, .ref aM_when, .ref aM_ranks, .ref aM_known, .ref aM_counts]))]) hD hS hA [0] rfl
            refine va_calli (va_runV (As := [.int (1 : Int32), .int (1 : Int32), .int (1 : Int32)]) (rest := []) ⟨hx, hb, hml, hown, hts⟩ (mt_M_goes l dC dI cI cZ aM aM_pad aM_kinds aM_days aM_withdrawn aM_lengths aM_texts aM_formLengths aM_forms aM_onSource aM_onClaim aM_rules aM_ring aM_far aM_held aM_heldBefore aM_persons aM_ofClaims aM_values aM_when aM_ranks aM_known aM_counts H.size _ M_thrown M_padded M_sources M_claims M_rings M_opinions (1 : Int32) (1 : Int32) (1 : Int32) hw) (cwV 3 hts (gdV m_728 m_730 ms_18 m_6 m_731) rfl rfl rfl (by decide +kernel) ⟨Nat.le_of_ble_eq_true rfl, Nat.le_of_ble_eq_true rfl⟩) ⟨fb_w, va_recv hK hPc (ci := 5) (q0 := 0) rfl rfl, fun U hU hW => ⟨rfl, by rw [hU], by rw [hU]; exact hPc, va_K.moved hW.alike hK, hDc.weaken (fun _ _ _ _ => trivial), hE.warm hW⟩⟩ rfl rfl hl.1 rfl (lv_room (Nat.le_of_ble_eq_true rfl)) d_M_cite_219 ⟨Nat.le_of_ble_eq_true rfl, Nat.le_of_ble_eq_true rfl⟩) hS (fun q _ h => hFc q h) hFc (fun r_15 u t H1 locs ht hvm hw hB hz1 hk1 hS => ?_)
            obtain ⟨u_16, rfl⟩ : ∃ z, z = u := ⟨_, rfl⟩
            obtain ⟨hP1, hD1⟩ := hB
            rw [ht] at hP1
            try dsimp only at hw hP1 hD1
            obtain ⟨hP, hD⟩ := va_join (wr := [(aM_kinds, .inl (cI, 24, .inl M_kinds)), (aM_days, .inl (cI, 24, .inl M_days)), (aM_formLengths, .inl (cI, 4, .inl M_formLengths)), (aM_forms, .inl (cI, 240, .inl M_forms))]) (w1 := [(aM, .inr (5, [.int u_16, .int M_padded, .ref aM_pad, .int M_sources, .ref aM_kinds, .ref aM_days, .ref aM_withdrawn, .ref aM_lengths, .ref aM_texts, .ref aM_formLengths, .ref aM_forms, .int M_claims, .ref aM_onSource, .ref aM_onClaim, .ref aM_rules, .int M_rings, .ref aM_ring, .ref aM_far, .ref aM_held, .ref aM_heldBefore, .int M_opinions, .ref aM_persons, .ref aM_ofClaims, .ref aM_values, .ref aM_when, .ref aM_ranks, .ref aM_known, .ref aM_counts]))]) hP hD [0] [1, 2, 3, 4] rfl rfl (by decide) (by decide) hk1 hFc hP1 hD1
            generalize H1 = H at hP hS ⊢
            have hP : va_P (dC, dI) vwCl [(aM_kinds, .inl (cI, 24, .inl M_kinds)), (aM_days, .inl (cI, 24, .inl M_days)), (aM_formLengths, .inl (cI, 4, .inl M_formLengths)), (aM_forms, .inl (cI, 240, .inl M_forms)), (aM, .inr (5, [.int u_16, .int M_padded, .ref aM_pad, .int M_sources, .ref aM_kinds, .ref aM_days, .ref aM_withdrawn, .ref aM_lengths, .ref aM_texts, .ref aM_formLengths, .ref aM_forms, .int M_claims, .ref aM_onSource, .ref aM_onClaim, .ref aM_rules, .int M_rings, .ref aM_ring, .ref aM_far, .ref aM_held, .ref aM_heldBefore, .int M_opinions, .ref aM_persons, .ref aM_ofClaims, .ref aM_values, .ref aM_when, .ref aM_ranks, .ref aM_known, .ref aM_counts]))] H := hP
            have hD : va_D A [(aM_kinds, .inl (cI, 24, .inl M_kinds)), (aM_days, .inl (cI, 24, .inl M_days)), (aM_formLengths, .inl (cI, 4, .inl M_formLengths)), (aM_forms, .inl (cI, 240, .inl M_forms)), (aM, .inr (5, [.int u_16, .int M_padded, .ref aM_pad, .int M_sources, .ref aM_kinds, .ref aM_days, .ref aM_withdrawn, .ref aM_lengths, .ref aM_texts, .ref aM_formLengths, .ref aM_forms, .int M_claims, .ref aM_onSource, .ref aM_onClaim, .ref aM_rules, .int M_rings, .ref aM_ring, .ref aM_far, .ref aM_held, .ref aM_heldBefore, .int M_opinions, .ref aM_persons, .ref aM_ofClaims, .ref aM_values, .ref aM_when, .ref aM_ranks, .ref aM_known, .ref aM_counts]))] := hD
            refine lv_if_ne (tgt := 227) hx hb d_M_cite_222 (by decide) (fun c_17 => ?_) (fun c_17 => ?_)
            · have hw := hw.2 c_17
              refine lv_iload_n hx hb d_M_cite_227 rfl (lv_at hl 3 rfl) ?_
              refine lv_iconst (v := -1) hx hb d_M_cite_228 (by decide) ?_
              refine lv_icmp_ne (tgt := 237) hx hb d_M_cite_229 (by decide) (fun c_18 => ?_) (fun c_18 => ?_)
              · have hw := hw.2 c_18
                refine lv_iload hx hb d_M_cite_237 (lv_at hl 6 rfl) ?_
                subst hQ0
                have hP9 := hP.sub (ws' := [(aM, .inr (5, [.int u_16, .int M_padded, .ref aM_pad, .int M_sources, .ref aM_kinds, .ref aM_days, .ref aM_withdrawn, .ref aM_lengths, .ref aM_texts, .ref aM_formLengths, .ref aM_forms, .int M_claims, .ref aM_onSource, .ref aM_onClaim, .ref aM_rules, .int M_rings, .ref aM_ring, .ref aM_far, .ref aM_held, .ref aM_heldBefore, .int M_opinions, .ref aM_persons, .ref aM_ofClaims, .ref aM_values, .ref aM_when, .ref aM_ranks, .ref aM_known, .ref aM_counts])), (aM_kinds, .inl (cI, 24, .inl M_kinds)), (aM_days, .inl (cI, 24, .inl M_days)), (aM_formLengths, .inl (cI, 4, .inl M_formLengths)), (aM_forms, .inl (cI, 240, .inl M_forms))]) [4, 0, 1, 2, 3] rfl
                have hD9 := hD.sub (ws' := [(aM, .inr (5, [.int u_16, .int M_padded, .ref aM_pad, .int M_sources, .ref aM_kinds, .ref aM_days, .ref aM_withdrawn, .ref aM_lengths, .ref aM_texts, .ref aM_formLengths, .ref aM_forms, .int M_claims, .ref aM_onSource, .ref aM_onClaim, .ref aM_rules, .int M_rings, .ref aM_ring, .ref aM_far, .ref aM_held, .ref aM_heldBefore, .int M_opinions, .ref aM_persons, .ref aM_ofClaims, .ref aM_values, .ref aM_when, .ref aM_ranks, .ref aM_known, .ref aM_counts])), (aM_kinds, .inl (cI, 24, .inl M_kinds)), (aM_days, .inl (cI, 24, .inl M_days)), (aM_formLengths, .inl (cI, 4, .inl M_formLengths)), (aM_forms, .inl (cI, 240, .inl M_forms))]) [4, 0, 1, 2, 3] (by decide) rfl
                exact W.iret (v := x6) hx hb hr (fun t ht hW => ⟨⟨_, (u_16), rfl, hw, by rw [ht]; exact hP9, hD9⟩, hS.F ht⟩) hS.2.2 d_M_cite_239
              · have hw := hw.1 c_18
                refine lv_iload hx hb d_M_cite_232 (lv_at hl 5 rfl) ?_
                refine lv_goto (tgt := 239) hx hb d_M_cite_234 (by decide) ?_
                subst hQ0
                have hP9 := hP.sub (ws' := [(aM, .inr (5, [.int u_16, .int M_padded, .ref aM_pad, .int M_sources, .ref aM_kinds, .ref aM_days, .ref aM_withdrawn, .ref aM_lengths, .ref aM_texts, .ref aM_formLengths, .ref aM_forms, .int M_claims, .ref aM_onSource, .ref aM_onClaim, .ref aM_rules, .int M_rings, .ref aM_ring, .ref aM_far, .ref aM_held, .ref aM_heldBefore, .int M_opinions, .ref aM_persons, .ref aM_ofClaims, .ref aM_values, .ref aM_when, .ref aM_ranks, .ref aM_known, .ref aM_counts])), (aM_kinds, .inl (cI, 24, .inl M_kinds)), (aM_days, .inl (cI, 24, .inl M_days)), (aM_formLengths, .inl (cI, 4, .inl M_formLengths)), (aM_forms, .inl (cI, 240, .inl M_forms))]) [4, 0, 1, 2, 3] rfl
                have hD9 := hD.sub (ws' := [(aM, .inr (5, [.int u_16, .int M_padded, .ref aM_pad, .int M_sources, .ref aM_kinds, .ref aM_days, .ref aM_withdrawn, .ref aM_lengths, .ref aM_texts, .ref aM_formLengths, .ref aM_forms, .int M_claims, .ref aM_onSource, .ref aM_onClaim, .ref aM_rules, .int M_rings, .ref aM_ring, .ref aM_far, .ref aM_held, .ref aM_heldBefore, .int M_opinions, .ref aM_persons, .ref aM_ofClaims, .ref aM_values, .ref aM_when, .ref aM_ranks, .ref aM_known, .ref aM_counts])), (aM_kinds, .inl (cI, 24, .inl M_kinds)), (aM_days, .inl (cI, 24, .inl M_days)), (aM_formLengths, .inl (cI, 4, .inl M_formLengths)), (aM_forms, .inl (cI, 240, .inl M_forms))]) [4, 0, 1, 2, 3] (by decide) rfl
                exact W.iret (v := x5) hx hb hr (fun t ht hW => ⟨⟨_, (u_16), rfl, hw, by rw [ht]; exact hP9, hD9⟩, hS.F ht⟩) hS.2.2 d_M_cite_239
            · have hw := hw.1 c_17
              refine lv_iconst (v := 0) hx hb d_M_cite_225 (by decide) ?_
              subst hQ0
              have hP9 := hP.sub (ws' := [(aM, .inr (5, [.int u_16, .int M_padded, .ref aM_pad, .int M_sources, .ref aM_kinds, .ref aM_days, .ref aM_withdrawn, .ref aM_lengths, .ref aM_texts, .ref aM_formLengths, .ref aM_forms, .int M_claims, .ref aM_onSource, .ref aM_onClaim, .ref aM_rules, .int M_rings, .ref aM_ring, .ref aM_far, .ref aM_held, .ref aM_heldBefore, .int M_opinions, .ref aM_persons, .ref aM_ofClaims, .ref aM_values, .ref aM_when, .ref aM_ranks, .ref aM_known, .ref aM_counts])), (aM_kinds, .inl (cI, 24, .inl M_kinds)), (aM_days, .inl (cI, 24, .inl M_days)), (aM_formLengths, .inl (cI, 4, .inl M_formLengths)), (aM_forms, .inl (cI, 240, .inl M_forms))]) [4, 0, 1, 2, 3] rfl
              have hD9 := hD.sub (ws' := [(aM, .inr (5, [.int u_16, .int M_padded, .ref aM_pad, .int M_sources, .ref aM_kinds, .ref aM_days, .ref aM_withdrawn, .ref aM_lengths, .ref aM_texts, .ref aM_formLengths, .ref aM_forms, .int M_claims, .ref aM_onSource, .ref aM_onClaim, .ref aM_rules, .int M_rings, .ref aM_ring, .ref aM_far, .ref aM_held, .ref aM_heldBefore, .int M_opinions, .ref aM_persons, .ref aM_ofClaims, .ref aM_values, .ref aM_when, .ref aM_ranks, .ref aM_known, .ref aM_counts])), (aM_kinds, .inl (cI, 24, .inl M_kinds)), (aM_days, .inl (cI, 24, .inl M_days)), (aM_formLengths, .inl (cI, 4, .inl M_formLengths)), (aM_forms, .inl (cI, 240, .inl M_forms))]) [4, 0, 1, 2, 3] (by decide) rfl
              exact W.iret (v := (0 : Int32)) hx hb hr (fun t ht hW => ⟨⟨_, (u_16), rfl, hw, by rw [ht]; exact hP9, hD9⟩, hS.F ht⟩) hS.2.2 d_M_cite_226
        · have hw := hw.2 c_8
          refine lv_aload_n hx hb d_M_cite_54 rfl (lv_at hl 0 rfl) ?_
          refine va_get (D := (dC, dI)) (ci := 5) (v := .ref aM_forms) (C := "ClaimSourcesModel") (T := TT_5) (N := 28) hx hb hts hi_5 hown hK hP 0 rfl rfl 10 (by decide) hf_31 (fun _ h9 => h9) rfl d_M_cite_55 ?_
          refine lv_bipush (v := 60) hx hb d_M_cite_58 (by decide) ?_
          refine lv_iload_n hx hb d_M_cite_60 rfl (lv_at hl 2 rfl) ?_
          refine lv_imul hx hb d_M_cite_61 ?_
          refine lv_iload hx hb d_M_cite_62 (lv_at hl 7 rfl) ?_
          refine lv_iadd hx hb d_M_cite_64 ?_
          obtain ⟨h_19, hw⟩ := hw
          refine va_iald hx hb hK hP 4 0 rfl rfl h_19 d_M_cite_65 ?_
          refine lv_istore (lv' := [(8, .int (M_forms (((60 : Int32) * x2) + x7).toNatClampNeg)), (0, .ref aM), (1, .int x1), (2, .int x2), (3, .int x3), (4, .int x4), (5, .int x5), (6, .int x6), (7, .int x7)]) hx hb d_M_cite_66 hl (by decide) rfl (fun ls hl => ?_)
          refine lv_iload hx hb d_M_cite_68 (lv_at hl 0 rfl) ?_
          refine lv_bipush (v := 35) hx hb d_M_cite_70 (by decide) ?_
          refine lv_icmp_ne (tgt := 79) hx hb d_M_cite_72 (by decide) (fun c_20 => ?_) (fun c_20 => ?_)
          · have hw := hw.2 c_20
            refine lv_iload hx hb d_M_cite_79 (lv_at hl 0 rfl) ?_
            refine lv_bipush (v := 64) hx hb d_M_cite_81 (by decide) ?_
            refine lv_icmp_ne (tgt := 95) hx hb d_M_cite_83 (by decide) (fun c_21 => ?_) (fun c_21 => ?_)
            · have hw := hw.2 c_21
              refine lv_iconst (v := 0) hx hb d_M_cite_95 (by decide) ?_
              refine lv_istore (lv' := [(9, .int (0 : Int32)), (8, .int (M_forms (((60 : Int32) * x2) + x7).toNatClampNeg)), (0, .ref aM), (1, .int x1), (2, .int x2), (3, .int x3), (4, .int x4), (5, .int x5), (6, .int x6), (7, .int x7)]) hx hb d_M_cite_96 hl (by decide) rfl (fun ls hl => ?_)
              refine lv_iload hx hb d_M_cite_98 (lv_at hl 1 rfl) ?_
              refine lv_bipush (v := 35) hx hb d_M_cite_100 (by decide) ?_
              refine lv_icmp_eq (tgt := 112) hx hb d_M_cite_102 (by decide) (fun h9 => absurd h9 c_20) (fun _ => ?_)
              refine lv_iload hx hb d_M_cite_105 (lv_at hl 1 rfl) ?_
              refine lv_bipush (v := 64) hx hb d_M_cite_107 (by decide) ?_
              refine lv_icmp_ne (tgt := 120) hx hb d_M_cite_109 (by decide) (fun _ => ?_) (fun h9 => absurd h9 c_21)
              refine lv_iconst (v := 1) hx hb d_M_cite_120 (by decide) ?_
              refine lv_istore (lv' := [(10, .int (1 : Int32)), (9, .int (0 : Int32)), (8, .int (M_forms (((60 : Int32) * x2) + x7).toNatClampNeg)), (0, .ref aM), (1, .int x1), (2, .int x2), (3, .int x3), (4, .int x4), (5, .int x5), (6, .int x6), (7, .int x7)]) hx hb d_M_cite_121 hl (by decide) rfl (fun ls hl => ?_)
              refine lv_iload_n hx hb d_M_cite_123 rfl (lv_at hl 6 rfl) ?_
              refine lv_iload hx hb d_M_cite_124 (lv_at hl 8 rfl) ?_
              refine lv_icmp_lt (tgt := 187) hx hb d_M_cite_126 (by decide) (fun c_24 => ?_) (fun c_24 => ?_)
              · have hw := hw.1 c_24
                refine lv_iload hx hb d_M_cite_187 (lv_at hl 8 rfl) ?_
                refine lv_iload hx hb d_M_cite_189 (lv_at hl 0 rfl) ?_
                refine lv_iadd hx hb d_M_cite_191 ?_
                refine lv_istore (lv' := [(5, .int (x5 + (1 : Int32))), (10, .int (1 : Int32)), (9, .int (0 : Int32)), (8, .int (M_forms (((60 : Int32) * x2) + x7).toNatClampNeg)), (0, .ref aM), (1, .int x1), (2, .int x2), (3, .int x3), (4, .int x4), (6, .int x6), (7, .int x7)]) hx hb d_M_cite_192 hl (by decide) rfl (fun ls hl => ?_)
                refine lv_iinc (v := x7 + 1) (lv' := [(7, .int (x7 + 1)), (5, .int (x5 + (1 : Int32))), (10, .int (1 : Int32)), (9, .int (0 : Int32)), (8, .int (M_forms (((60 : Int32) * x2) + x7).toNatClampNeg)), (0, .ref aM), (1, .int x1), (2, .int x2), (3, .int x3), (4, .int x4), (6, .int x6)]) hx hb d_M_cite_194 hl (k := 10) rfl rfl (by decide) rfl (fun ls hl => ?_)
                refine lv_goto (tgt := 38) hx hb d_M_cite_197 (by decide) ?_
                exact ih (x5 + (1 : Int32)) x6 (x7 + 1) hw _ _ (hP.sub [0, 1, 2, 3, 4] rfl) (hD.sub [0, 1, 2, 3, 4] (by decide) rfl) hS ls (lv_sub hl [5, 6, 7, 8, 9, 1, 10, 0] rfl)
              · have hw := hw.2 c_24
                refine lv_iload_n hx hb d_M_cite_129 rfl (lv_at hl 6 rfl) ?_
                refine lv_iload hx hb d_M_cite_130 (lv_at hl 8 rfl) ?_
                refine lv_iload hx hb d_M_cite_132 (lv_at hl 0 rfl) ?_
                refine lv_iadd hx hb d_M_cite_134 ?_
                refine lv_icmp_ge (tgt := 187) hx hb d_M_cite_135 (by decide) (fun c_25 => ?_) (fun c_25 => ?_)
                · have hw := hw.1 c_25
                  refine lv_iload hx hb d_M_cite_187 (lv_at hl 8 rfl) ?_
                  refine lv_iload hx hb d_M_cite_189 (lv_at hl 0 rfl) ?_
                  refine lv_iadd hx hb d_M_cite_191 ?_
                  refine lv_istore (lv' := [(5, .int (x5 + (1 : Int32))), (10, .int (1 : Int32)), (9, .int (0 : Int32)), (8, .int (M_forms (((60 : Int32) * x2) + x7).toNatClampNeg)), (0, .ref aM), (1, .int x1), (2, .int x2), (3, .int x3), (4, .int x4), (6, .int x6), (7, .int x7)]) hx hb d_M_cite_192 hl (by decide) rfl (fun ls hl => ?_)
                  refine lv_iinc (v := x7 + 1) (lv' := [(7, .int (x7 + 1)), (5, .int (x5 + (1 : Int32))), (10, .int (1 : Int32)), (9, .int (0 : Int32)), (8, .int (M_forms (((60 : Int32) * x2) + x7).toNatClampNeg)), (0, .ref aM), (1, .int x1), (2, .int x2), (3, .int x3), (4, .int x4), (6, .int x6)]) hx hb d_M_cite_194 hl (k := 10) rfl rfl (by decide) rfl (fun ls hl => ?_)
                  refine lv_goto (tgt := 38) hx hb d_M_cite_197 (by decide) ?_
                  exact ih (x5 + (1 : Int32)) x6 (x7 + 1) hw _ _ (hP.sub [0, 1, 2, 3, 4] rfl) (hD.sub [0, 1, 2, 3, 4] (by decide) rfl) hS ls (lv_sub hl [5, 6, 7, 8, 9, 1, 10, 0] rfl)
                · have hw := hw.2 c_25
                  refine lv_iload hx hb d_M_cite_138 (lv_at hl 2 rfl) ?_
                  refine lv_bipush (v := 35) hx hb d_M_cite_140 (by decide) ?_
                  refine lv_icmp_eq (tgt := 152) hx hb d_M_cite_142 (by decide) (fun h9 => absurd h9 c_20) (fun _ => ?_)
                  refine lv_iload hx hb d_M_cite_145 (lv_at hl 2 rfl) ?_
                  refine lv_bipush (v := 64) hx hb d_M_cite_147 (by decide) ?_
                  refine lv_icmp_ne (tgt := 164) hx hb d_M_cite_149 (by decide) (fun _ => ?_) (fun h9 => absurd h9 c_21)
                  refine lv_iload hx hb d_M_cite_164 (lv_at hl 2 rfl) ?_
                  refine lv_bipush (v := 36) hx hb d_M_cite_166 (by decide) ?_
                  refine lv_icmp_ne (tgt := 183) hx hb d_M_cite_168 (by decide) (fun c_28 => ?_) (fun c_28 => ?_)
                  · have hw := hw.2 c_28
                    refine lv_iload hx hb d_M_cite_183 (lv_at hl 2 rfl) ?_
                    refine lv_istore (lv' := [(6, .int (M_forms (((60 : Int32) * x2) + x7).toNatClampNeg)), (10, .int (1 : Int32)), (9, .int (0 : Int32)), (8, .int (M_forms (((60 : Int32) * x2) + x7).toNatClampNeg)), (0, .ref aM), (1, .int x1), (2, .int x2), (3, .int x3), (4, .int x4), (5, .int x5), (7, .int x7)]) hx hb d_M_cite_185 hl (by decide) rfl (fun ls hl => ?_)
                    refine lv_iload hx hb d_M_cite_187 (lv_at hl 9 rfl) ?_
                    refine lv_iload hx hb d_M_cite_189 (lv_at hl 1 rfl) ?_
                    refine lv_iadd hx hb d_M_cite_191 ?_
                    refine lv_istore (lv' := [(5, .int (x5 + (1 : Int32))), (6, .int (M_forms (((60 : Int32) * x2) + x7).toNatClampNeg)), (10, .int (1 : Int32)), (9, .int (0 : Int32)), (8, .int (M_forms (((60 : Int32) * x2) + x7).toNatClampNeg)), (0, .ref aM), (1, .int x1), (2, .int x2), (3, .int x3), (4, .int x4), (7, .int x7)]) hx hb d_M_cite_192 hl (by decide) rfl (fun ls hl => ?_)
                    refine lv_iinc (v := x7 + 1) (lv' := [(7, .int (x7 + 1)), (5, .int (x5 + (1 : Int32))), (6, .int (M_forms (((60 : Int32) * x2) + x7).toNatClampNeg)), (10, .int (1 : Int32)), (9, .int (0 : Int32)), (8, .int (M_forms (((60 : Int32) * x2) + x7).toNatClampNeg)), (0, .ref aM), (1, .int x1), (2, .int x2), (3, .int x3), (4, .int x4)]) hx hb d_M_cite_194 hl (k := 10) rfl rfl (by decide) rfl (fun ls hl => ?_)
                    refine lv_goto (tgt := 38) hx hb d_M_cite_197 (by decide) ?_
                    exact ih (x5 + (1 : Int32)) (M_forms (((60 : Int32) * x2) + x7).toNatClampNeg) (x7 + 1) hw _ _ (hP.sub [0, 1, 2, 3, 4] rfl) (hD.sub [0, 1, 2, 3, 4] (by decide) rfl) hS ls (lv_sub hl [6, 7, 8, 9, 10, 1, 2, 0] rfl)
                  · have hw := hw.1 c_28
                    refine lv_bipush (v := 97) hx hb d_M_cite_171 (by decide) ?_
                    refine lv_aload_n hx hb d_M_cite_173 rfl (lv_at hl 3 rfl) ?_
                    refine va_get (D := (dC, dI)) (ci := 5) (v := .ref aM_kinds) (C := "ClaimSourcesModel") (T := TT_5) (N := 28) hx hb hts hi_5 hown hK hP 0 rfl rfl 4 (by decide) hf_13 (fun _ h9 => h9) rfl d_M_cite_174 ?_
                    refine lv_iload_n hx hb d_M_cite_177 rfl (lv_at hl 4 rfl) ?_
                    obtain ⟨h_29, hw⟩ := hw
                    refine va_iald hx hb hK hP 1 0 rfl rfl h_29 d_M_cite_178 ?_
                    refine lv_iadd hx hb d_M_cite_179 ?_
                    refine lv_goto (tgt := 185) hx hb d_M_cite_180 (by decide) ?_
                    refine lv_istore (lv' := [(6, .int ((97 : Int32) + (M_kinds x1.toNatClampNeg))), (10, .int (1 : Int32)), (9, .int (0 : Int32)), (8, .int (M_forms (((60 : Int32) * x2) + x7).toNatClampNeg)), (0, .ref aM), (1, .int x1), (2, .int x2), (3, .int x3), (4, .int x4), (5, .int x5), (7, .int x7)]) hx hb d_M_cite_185 hl (by decide) rfl (fun ls hl => ?_)
                    refine lv_iload hx hb d_M_cite_187 (lv_at hl 9 rfl) ?_
                    refine lv_iload hx hb d_M_cite_189 (lv_at hl 1 rfl) ?_
                    refine lv_iadd hx hb d_M_cite_191 ?_
                    refine lv_istore (lv' := [(5, .int (x5 + (1 : Int32))), (6, .int ((97 : Int32) + (M_kinds x1.toNatClampNeg))), (10, .int (1 : Int32)), (9, .int (0 : Int32)), (8, .int (M_forms (((60 : Int32) * x2) + x7).toNatClampNeg)), (0, .ref aM), (1, .int x1), (2, .int x2), (3, .int x3), (4, .int x4), (7, .int x7)]) hx hb d_M_cite_192 hl (by decide) rfl (fun ls hl => ?_)
                    refine lv_iinc (v := x7 + 1) (lv' := [(7, .int (x7 + 1)), (5, .int (x5 + (1 : Int32))), (6, .int ((97 : Int32) + (M_kinds x1.toNatClampNeg))), (10, .int (1 : Int32)), (9, .int (0 : Int32)), (8, .int (M_forms (((60 : Int32) * x2) + x7).toNatClampNeg)), (0, .ref aM), (1, .int x1), (2, .int x2), (3, .int x3), (4, .int x4)]) hx hb d_M_cite_194 hl (k := 10) rfl rfl (by decide) rfl (fun ls hl => ?_)
                    refine lv_goto (tgt := 38) hx hb d_M_cite_197 (by decide) ?_
                    exact ih (x5 + (1 : Int32)) ((97 : Int32) + (M_kinds x1.toNatClampNeg)) (x7 + 1) hw _ _ (hP.sub [0, 1, 2, 3, 4] rfl) (hD.sub [0, 1, 2, 3, 4] (by decide) rfl) hS ls (lv_sub hl [6, 7, 8, 9, 10, 1, 2, 0] rfl)
            · have hw := hw.1 c_21
              refine lv_aload_n hx hb d_M_cite_86 rfl (lv_at hl 1 rfl) ?_
              refine va_get (D := (dC, dI)) (ci := 5) (v := .ref aM_days) (C := "ClaimSourcesModel") (T := TT_5) (N := 28) hx hb hts hi_5 hown hK hP 0 rfl rfl 5 (by decide) hf_16 (fun _ h9 => h9) rfl d_M_cite_87 ?_
              refine lv_iload_n hx hb d_M_cite_90 rfl (lv_at hl 2 rfl) ?_
              obtain ⟨h_30, hw⟩ := hw
              refine va_iald hx hb hK hP 2 0 rfl rfl h_30 d_M_cite_91 ?_
              refine lv_goto (tgt := 96) hx hb d_M_cite_92 (by decide) ?_
              refine lv_istore (lv' := [(9, .int (M_days x1.toNatClampNeg)), (8, .int (M_forms (((60 : Int32) * x2) + x7).toNatClampNeg)), (0, .ref aM), (1, .int x1), (2, .int x2), (3, .int x3), (4, .int x4), (5, .int x5), (6, .int x6), (7, .int x7)]) hx hb d_M_cite_96 hl (by decide) rfl (fun ls hl => ?_)
              refine lv_iload hx hb d_M_cite_98 (lv_at hl 1 rfl) ?_
              refine lv_bipush (v := 35) hx hb d_M_cite_100 (by decide) ?_
              refine lv_icmp_eq (tgt := 112) hx hb d_M_cite_102 (by decide) (fun h9 => absurd h9 c_20) (fun _ => ?_)
              refine lv_iload hx hb d_M_cite_105 (lv_at hl 1 rfl) ?_
              refine lv_bipush (v := 64) hx hb d_M_cite_107 (by decide) ?_
              refine lv_icmp_ne (tgt := 120) hx hb d_M_cite_109 (by decide) (fun h9 => absurd c_21 h9) (fun _ => ?_)
              refine lv_iload hx hb d_M_cite_112 (lv_at hl 0 rfl) ?_
              have hPc := hP.sub (ws' := []) [] rfl
              refine vp_callSi (W.runS (As := [.int (M_days x1.toNatClampNeg)]) (rest := []) ⟨hx, hb, hml, hown, hts⟩ (mt_M_digits l dC dI cI _ (M_days x1.toNatClampNeg) hw) (va_cwS 1 hts (gdS m_836 m_837 m_6 m_838) rfl rfl rfl (by decide +kernel) ⟨Nat.le_of_ble_eq_true rfl, Nat.le_of_ble_eq_true rfl⟩) ⟨fb_r, fun U hU hW => ⟨rfl, by rw [hU]; exact hPc, va_K.moved hW.alike (hK.sub (tys' := [(cI, .int)]) [0] rfl), hE.warm hW⟩⟩ rfl rfl hl.1 rfl (lv_room (Nat.le_of_ble_eq_true rfl)) d_M_cite_114 ⟨Nat.le_of_ble_eq_true rfl, Nat.le_of_ble_eq_true rfl⟩) (fun r_33 hw => ?_)
              refine lv_goto (tgt := 121) hx hb d_M_cite_117 (by decide) ?_
              refine lv_istore (lv' := [(10, .int r_33), (9, .int (M_days x1.toNatClampNeg)), (8, .int (M_forms (((60 : Int32) * x2) + x7).toNatClampNeg)), (0, .ref aM), (1, .int x1), (2, .int x2), (3, .int x3), (4, .int x4), (5, .int x5), (6, .int x6), (7, .int x7)]) hx hb d_M_cite_121 hl (by decide) rfl (fun ls hl => ?_)
              refine lv_iload_n hx hb d_M_cite_123 rfl (lv_at hl 6 rfl) ?_
              refine lv_iload hx hb d_M_cite_124 (lv_at hl 8 rfl) ?_
              refine lv_icmp_lt (tgt := 187) hx hb d_M_cite_126 (by decide) (fun c_34 => ?_) (fun c_34 => ?_)
              · have hw := hw.1 c_34
                refine lv_iload hx hb d_M_cite_187 (lv_at hl 8 rfl) ?_
                refine lv_iload hx hb d_M_cite_189 (lv_at hl 0 rfl) ?_
                refine lv_iadd hx hb d_M_cite_191 ?_
                refine lv_istore (lv' := [(5, .int (x5 + r_33)), (10, .int r_33), (9, .int (M_days x1.toNatClampNeg)), (8, .int (M_forms (((60 : Int32) * x2) + x7).toNatClampNeg)), (0, .ref aM), (1, .int x1), (2, .int x2), (3, .int x3), (4, .int x4), (6, .int x6), (7, .int x7)]) hx hb d_M_cite_192 hl (by decide) rfl (fun ls hl => ?_)
                refine lv_iinc (v := x7 + 1) (lv' := [(7, .int (x7 + 1)), (5, .int (x5 + r_33)), (10, .int r_33), (9, .int (M_days x1.toNatClampNeg)), (8, .int (M_forms (((60 : Int32) * x2) + x7).toNatClampNeg)), (0, .ref aM), (1, .int x1), (2, .int x2), (3, .int x3), (4, .int x4), (6, .int x6)]) hx hb d_M_cite_194 hl (k := 10) rfl rfl (by decide) rfl (fun ls hl => ?_)
                refine lv_goto (tgt := 38) hx hb d_M_cite_197 (by decide) ?_
                exact ih (x5 + r_33) x6 (x7 + 1) hw _ _ (hP.sub [0, 1, 2, 3, 4] rfl) (hD.sub [0, 1, 2, 3, 4] (by decide) rfl) hS ls (lv_sub hl [5, 6, 7, 8, 9, 1, 10, 0] rfl)
              · have hw := hw.2 c_34
                refine lv_iload_n hx hb d_M_cite_129 rfl (lv_at hl 6 rfl) ?_
                refine lv_iload hx hb d_M_cite_130 (lv_at hl 8 rfl) ?_
                refine lv_iload hx hb d_M_cite_132 (lv_at hl 0 rfl) ?_
                refine lv_iadd hx hb d_M_cite_134 ?_
                refine lv_icmp_ge (tgt := 187) hx hb d_M_cite_135 (by decide) (fun c_35 => ?_) (fun c_35 => ?_)
                · have hw := hw.1 c_35
                  refine lv_iload hx hb d_M_cite_187 (lv_at hl 8 rfl) ?_
                  refine lv_iload hx hb d_M_cite_189 (lv_at hl 0 rfl) ?_
                  refine lv_iadd hx hb d_M_cite_191 ?_
                  refine lv_istore (lv' := [(5, .int (x5 + r_33)), (10, .int r_33), (9, .int (M_days x1.toNatClampNeg)), (8, .int (M_forms (((60 : Int32) * x2) + x7).toNatClampNeg)), (0, .ref aM), (1, .int x1), (2, .int x2), (3, .int x3), (4, .int x4), (6, .int x6), (7, .int x7)]) hx hb d_M_cite_192 hl (by decide) rfl (fun ls hl => ?_)
                  refine lv_iinc (v := x7 + 1) (lv' := [(7, .int (x7 + 1)), (5, .int (x5 + r_33)), (10, .int r_33), (9, .int (M_days x1.toNatClampNeg)), (8, .int (M_forms (((60 : Int32) * x2) + x7).toNatClampNeg)), (0, .ref aM), (1, .int x1), (2, .int x2), (3, .int x3), (4, .int x4), (6, .int x6)]) hx hb d_M_cite_194 hl (k := 10) rfl rfl (by decide) rfl (fun ls hl => ?_)
                  refine lv_goto (tgt := 38) hx hb d_M_cite_197 (by decide) ?_
                  exact ih (x5 + r_33) x6 (x7 + 1) hw _ _ (hP.sub [0, 1, 2, 3, 4] rfl) (hD.sub [0, 1, 2, 3, 4] (by decide) rfl) hS ls (lv_sub hl [5, 6, 7, 8, 9, 1, 10, 0] rfl)
                · have hw := hw.2 c_35
                  refine lv_iload hx hb d_M_cite_138 (lv_at hl 2 rfl) ?_
                  refine lv_bipush (v := 35) hx hb d_M_cite_140 (by decide) ?_
                  refine lv_icmp_eq (tgt := 152) hx hb d_M_cite_142 (by decide) (fun h9 => absurd h9 c_20) (fun _ => ?_)
                  refine lv_iload hx hb d_M_cite_145 (lv_at hl 2 rfl) ?_
                  refine lv_bipush (v := 64) hx hb d_M_cite_147 (by decide) ?_
                  refine lv_icmp_ne (tgt := 164) hx hb d_M_cite_149 (by decide) (fun h9 => absurd c_21 h9) (fun _ => ?_)
                  refine lv_iload hx hb d_M_cite_152 (lv_at hl 1 rfl) ?_
                  refine lv_iload_n hx hb d_M_cite_154 rfl (lv_at hl 6 rfl) ?_
                  refine lv_iload hx hb d_M_cite_155 (lv_at hl 8 rfl) ?_
                  refine lv_isub hx hb d_M_cite_157 ?_
                  have hPc := hP.sub (ws' := []) [] rfl
                  refine vp_callSi (W.runS (As := [.int (M_days x1.toNatClampNeg), .int (x3 - x5)]) (rest := []) ⟨hx, hb, hml, hown, hts⟩ (mt_M_digit l dC dI cI _ (M_days x1.toNatClampNeg) (x3 - x5) hw) (va_cwS 2 hts (gdS m_839 m_840 m_6 m_841) rfl rfl rfl (by decide +kernel) ⟨Nat.le_of_ble_eq_true rfl, Nat.le_of_ble_eq_true rfl⟩) ⟨fb_r, fun U hU hW => ⟨rfl, by rw [hU]; exact hPc, va_K.moved hW.alike (hK.sub (tys' := [(cI, .int)]) [0] rfl), hE.warm hW⟩⟩ rfl rfl hl.1 rfl (lv_room (Nat.le_of_ble_eq_true rfl)) d_M_cite_158 ⟨Nat.le_of_ble_eq_true rfl, Nat.le_of_ble_eq_true rfl⟩) (fun r_38 hw => ?_)
                  refine lv_goto (tgt := 185) hx hb d_M_cite_161 (by decide) ?_
                  refine lv_istore (lv' := [(6, .int r_38), (10, .int r_33), (9, .int (M_days x1.toNatClampNeg)), (8, .int (M_forms (((60 : Int32) * x2) + x7).toNatClampNeg)), (0, .ref aM), (1, .int x1), (2, .int x2), (3, .int x3), (4, .int x4), (5, .int x5), (7, .int x7)]) hx hb d_M_cite_185 hl (by decide) rfl (fun ls hl => ?_)
                  refine lv_iload hx hb d_M_cite_187 (lv_at hl 9 rfl) ?_
                  refine lv_iload hx hb d_M_cite_189 (lv_at hl 1 rfl) ?_
                  refine lv_iadd hx hb d_M_cite_191 ?_
                  refine lv_istore (lv' := [(5, .int (x5 + r_33)), (6, .int r_38), (10, .int r_33), (9, .int (M_days x1.toNatClampNeg)), (8, .int (M_forms (((60 : Int32) * x2) + x7).toNatClampNeg)), (0, .ref aM), (1, .int x1), (2, .int x2), (3, .int x3), (4, .int x4), (7, .int x7)]) hx hb d_M_cite_192 hl (by decide) rfl (fun ls hl => ?_)
                  refine lv_iinc (v := x7 + 1) (lv' := [(7, .int (x7 + 1)), (5, .int (x5 + r_33)), (6, .int r_38), (10, .int r_33), (9, .int (M_days x1.toNatClampNeg)), (8, .int (M_forms (((60 : Int32) * x2) + x7).toNatClampNeg)), (0, .ref aM), (1, .int x1), (2, .int x2), (3, .int x3), (4, .int x4)]) hx hb d_M_cite_194 hl (k := 10) rfl rfl (by decide) rfl (fun ls hl => ?_)
                  refine lv_goto (tgt := 38) hx hb d_M_cite_197 (by decide) ?_
                  exact ih (x5 + r_33) r_38 (x7 + 1) hw _ _ (hP.sub [0, 1, 2, 3, 4] rfl) (hD.sub [0, 1, 2, 3, 4] (by decide) rfl) hS ls (lv_sub hl [6, 7, 8, 9, 10, 1, 2, 0] rfl)
          · have hw := hw.1 c_20
            refine lv_iload_n hx hb d_M_cite_75 rfl (lv_at hl 2 rfl) ?_
            refine lv_goto (tgt := 96) hx hb d_M_cite_76 (by decide) ?_
            refine lv_istore (lv' := [(9, .int x1), (8, .int (M_forms (((60 : Int32) * x2) + x7).toNatClampNeg)), (0, .ref aM), (1, .int x1), (2, .int x2), (3, .int x3), (4, .int x4), (5, .int x5), (6, .int x6), (7, .int x7)]) hx hb d_M_cite_96 hl (by decide) rfl (fun ls hl => ?_)
            refine lv_iload hx hb d_M_cite_98 (lv_at hl 1 rfl) ?_
            refine lv_bipush (v := 35) hx hb d_M_cite_100 (by decide) ?_
            refine lv_icmp_eq (tgt := 112) hx hb d_M_cite_102 (by decide) (fun _ => ?_) (fun h9 => absurd c_20 h9)
            refine lv_iload hx hb d_M_cite_112 (lv_at hl 0 rfl) ?_
            have hPc := hP.sub (ws' := []) [] rfl
            refine vp_callSi (W.runS (As := [.int x1]) (rest := []) ⟨hx, hb, hml, hown, hts⟩ (mt_M_digits l dC dI cI _ x1 hw) (va_cwS 1 hts (gdS m_836 m_837 m_6 m_838) rfl rfl rfl (by decide +kernel) ⟨Nat.le_of_ble_eq_true rfl, Nat.le_of_ble_eq_true rfl⟩) ⟨fb_r, fun U hU hW => ⟨rfl, by rw [hU]; exact hPc, va_K.moved hW.alike (hK.sub (tys' := [(cI, .int)]) [0] rfl), hE.warm hW⟩⟩ rfl rfl hl.1 rfl (lv_room (Nat.le_of_ble_eq_true rfl)) d_M_cite_114 ⟨Nat.le_of_ble_eq_true rfl, Nat.le_of_ble_eq_true rfl⟩) (fun r_40 hw => ?_)
            refine lv_goto (tgt := 121) hx hb d_M_cite_117 (by decide) ?_
            refine lv_istore (lv' := [(10, .int r_40), (9, .int x1), (8, .int (M_forms (((60 : Int32) * x2) + x7).toNatClampNeg)), (0, .ref aM), (1, .int x1), (2, .int x2), (3, .int x3), (4, .int x4), (5, .int x5), (6, .int x6), (7, .int x7)]) hx hb d_M_cite_121 hl (by decide) rfl (fun ls hl => ?_)
            refine lv_iload_n hx hb d_M_cite_123 rfl (lv_at hl 6 rfl) ?_
            refine lv_iload hx hb d_M_cite_124 (lv_at hl 8 rfl) ?_
            refine lv_icmp_lt (tgt := 187) hx hb d_M_cite_126 (by decide) (fun c_41 => ?_) (fun c_41 => ?_)
            · have hw := hw.1 c_41
              refine lv_iload hx hb d_M_cite_187 (lv_at hl 8 rfl) ?_
              refine lv_iload hx hb d_M_cite_189 (lv_at hl 0 rfl) ?_
              refine lv_iadd hx hb d_M_cite_191 ?_
              refine lv_istore (lv' := [(5, .int (x5 + r_40)), (10, .int r_40), (9, .int x1), (8, .int (M_forms (((60 : Int32) * x2) + x7).toNatClampNeg)), (0, .ref aM), (1, .int x1), (2, .int x2), (3, .int x3), (4, .int x4), (6, .int x6), (7, .int x7)]) hx hb d_M_cite_192 hl (by decide) rfl (fun ls hl => ?_)
              refine lv_iinc (v := x7 + 1) (lv' := [(7, .int (x7 + 1)), (5, .int (x5 + r_40)), (10, .int r_40), (9, .int x1), (8, .int (M_forms (((60 : Int32) * x2) + x7).toNatClampNeg)), (0, .ref aM), (1, .int x1), (2, .int x2), (3, .int x3), (4, .int x4), (6, .int x6)]) hx hb d_M_cite_194 hl (k := 10) rfl rfl (by decide) rfl (fun ls hl => ?_)
              refine lv_goto (tgt := 38) hx hb d_M_cite_197 (by decide) ?_
              exact ih (x5 + r_40) x6 (x7 + 1) hw _ _ (hP.sub [0, 1, 2, 3, 4] rfl) (hD.sub [0, 1, 2, 3, 4] (by decide) rfl) hS ls (lv_sub hl [5, 6, 7, 8, 9, 1, 10, 0] rfl)
            · have hw := hw.2 c_41
              refine lv_iload_n hx hb d_M_cite_129 rfl (lv_at hl 6 rfl) ?_
              refine lv_iload hx hb d_M_cite_130 (lv_at hl 8 rfl) ?_
              refine lv_iload hx hb d_M_cite_132 (lv_at hl 0 rfl) ?_
              refine lv_iadd hx hb d_M_cite_134 ?_
              refine lv_icmp_ge (tgt := 187) hx hb d_M_cite_135 (by decide) (fun c_42 => ?_) (fun c_42 => ?_)
              · have hw := hw.1 c_42
                refine lv_iload hx hb d_M_cite_187 (lv_at hl 8 rfl) ?_
                refine lv_iload hx hb d_M_cite_189 (lv_at hl 0 rfl) ?_
                refine lv_iadd hx hb d_M_cite_191 ?_
                refine lv_istore (lv' := [(5, .int (x5 + r_40)), (10, .int r_40), (9, .int x1), (8, .int (M_forms (((60 : Int32) * x2) + x7).toNatClampNeg)), (0, .ref aM), (1, .int x1), (2, .int x2), (3, .int x3), (4, .int x4), (6, .int x6), (7, .int x7)]) hx hb d_M_cite_192 hl (by decide) rfl (fun ls hl => ?_)
                refine lv_iinc (v := x7 + 1) (lv' := [(7, .int (x7 + 1)), (5, .int (x5 + r_40)), (10, .int r_40), (9, .int x1), (8, .int (M_forms (((60 : Int32) * x2) + x7).toNatClampNeg)), (0, .ref aM), (1, .int x1), (2, .int x2), (3, .int x3), (4, .int x4), (6, .int x6)]) hx hb d_M_cite_194 hl (k := 10) rfl rfl (by decide) rfl (fun ls hl => ?_)
                refine lv_goto (tgt := 38) hx hb d_M_cite_197 (by decide) ?_
                exact ih (x5 + r_40) x6 (x7 + 1) hw _ _ (hP.sub [0, 1, 2, 3, 4] rfl) (hD.sub [0, 1, 2, 3, 4] (by decide) rfl) hS ls (lv_sub hl [5, 6, 7, 8, 9, 1, 10, 0] rfl)
              · have hw := hw.2 c_42
                refine lv_iload hx hb d_M_cite_138 (lv_at hl 2 rfl) ?_
                refine lv_bipush (v := 35) hx hb d_M_cite_140 (by decide) ?_
                refine lv_icmp_eq (tgt := 152) hx hb d_M_cite_142 (by decide) (fun _ => ?_) (fun h9 => absurd c_20 h9)
                refine lv_iload hx hb d_M_cite_152 (lv_at hl 1 rfl) ?_
                refine lv_iload_n hx hb d_M_cite_154 rfl (lv_at hl 6 rfl) ?_
                refine lv_iload hx hb d_M_cite_155 (lv_at hl 8 rfl) ?_
                refine lv_isub hx hb d_M_cite_157 ?_
                have hPc := hP.sub (ws' := []) [] rfl
                refine vp_callSi (W.runS (As := [.int x1, .int (x3 - x5)]) (rest := []) ⟨hx, hb, hml, hown, hts⟩ (mt_M_digit l dC dI cI _ x1 (x3 - x5) hw) (va_cwS 2 hts (gdS m_839 m_840 m_6 m_841) rfl rfl rfl (by decide +kernel) ⟨Nat.le_of_ble_eq_true rfl, Nat.le_of_ble_eq_true rfl⟩) ⟨fb_r, fun U hU hW => ⟨rfl, by rw [hU]; exact hPc, va_K.moved hW.alike (hK.sub (tys' := [(cI, .int)]) [0] rfl), hE.warm hW⟩⟩ rfl rfl hl.1 rfl (lv_room (Nat.le_of_ble_eq_true rfl)) d_M_cite_158 ⟨Nat.le_of_ble_eq_true rfl, Nat.le_of_ble_eq_true rfl⟩) (fun r_44 hw => ?_)
                refine lv_goto (tgt := 185) hx hb d_M_cite_161 (by decide) ?_
                refine lv_istore (lv' := [(6, .int r_44), (10, .int r_40), (9, .int x1), (8, .int (M_forms (((60 : Int32) * x2) + x7).toNatClampNeg)), (0, .ref aM), (1, .int x1), (2, .int x2), (3, .int x3), (4, .int x4), (5, .int x5), (7, .int x7)]) hx hb d_M_cite_185 hl (by decide) rfl (fun ls hl => ?_)
                refine lv_iload hx hb d_M_cite_187 (lv_at hl 9 rfl) ?_
                refine lv_iload hx hb d_M_cite_189 (lv_at hl 1 rfl) ?_
                refine lv_iadd hx hb d_M_cite_191 ?_
                refine lv_istore (lv' := [(5, .int (x5 + r_40)), (6, .int r_44), (10, .int r_40), (9, .int x1), (8, .int (M_forms (((60 : Int32) * x2) + x7).toNatClampNeg)), (0, .ref aM), (1, .int x1), (2, .int x2), (3, .int x3), (4, .int x4), (7, .int x7)]) hx hb d_M_cite_192 hl (by decide) rfl (fun ls hl => ?_)
                refine lv_iinc (v := x7 + 1) (lv' := [(7, .int (x7 + 1)), (5, .int (x5 + r_40)), (6, .int r_44), (10, .int r_40), (9, .int x1), (8, .int (M_forms (((60 : Int32) * x2) + x7).toNatClampNeg)), (0, .ref aM), (1, .int x1), (2, .int x2), (3, .int x3), (4, .int x4)]) hx hb d_M_cite_194 hl (k := 10) rfl rfl (by decide) rfl (fun ls hl => ?_)
                refine lv_goto (tgt := 38) hx hb d_M_cite_197 (by decide) ?_
                exact ih (x5 + r_40) r_44 (x7 + 1) hw _ _ (hP.sub [0, 1, 2, 3, 4] rfl) (hD.sub [0, 1, 2, 3, 4] (by decide) rfl) hS ls (lv_sub hl [6, 7, 8, 9, 10, 1, 2, 0] rfl)
  unfold wp_M_cite at hw
  refine lv_aload_n hx hb d_M_cite_0 rfl (lv_at hl 0 rfl) ?_
  refine lv_iload_n hx hb d_M_cite_1 rfl (lv_at hl 1 rfl) ?_
  have hPc := hP.sub (ws' := [(aM, .inr (5, [.int M_thrown, .int M_padded, .ref aM_pad, .int M_sources, .ref aM_kinds, .ref aM_days, .ref aM_withdrawn, .ref aM_lengths, .ref aM_texts, .ref aM_formLengths, .ref aM_forms, .int M_claims, .ref aM_onSource, .ref aM_onClaim, .ref aM_rules, .int M_rings, .ref aM_ring, .ref aM_far, .ref aM_held, .ref aM_heldBefore, .int M_opinions, .ref aM_persons, .ref aM_ofClaims, .ref aM_values, .ref aM_when, .ref aM_ranks, .ref aM_known, .ref aM_counts]))]) [0] rfl
  refine vp_callSi (W.runV (As := [.int x1]) (rest := []) ⟨hx, hb, hml, hown, hts⟩ (mt_M_isSource l dC dI cI cZ aM aM_pad aM_kinds aM_days aM_withdrawn aM_lengths aM_texts aM_formLengths aM_forms aM_onSource aM_onClaim aM_rules aM_ring aM_far aM_held aM_heldBefore aM_persons aM_ofClaims aM_values aM_when aM_ranks aM_known aM_counts _ M_thrown M_padded M_sources M_claims M_rings M_opinions x1 hw) (cwV 1 hts (gdV m_756 m_758 ms_20 m_6 m_759) rfl rfl rfl (by decide +kernel) ⟨Nat.le_of_ble_eq_true rfl, Nat.le_of_ble_eq_true rfl⟩) ⟨fb_r, va_recv hK hPc (ci := 5) (q0 := 0) rfl rfl, fun U hU hW => ⟨rfl, by rw [hU]; exact hPc, va_K.moved hW.alike hK, hE.warm hW⟩⟩ rfl rfl hl.1 rfl (lv_room (Nat.le_of_ble_eq_true rfl)) d_M_cite_2 ⟨Nat.le_of_ble_eq_true rfl, Nat.le_of_ble_eq_true rfl⟩) (fun r_45 hw => ?_)
  refine lv_if_eq (tgt := 26) hx hb d_M_cite_5 (by decide) (fun c_46 => ?_) (fun c_46 => ?_)
  · have hw := hw.1 c_46
    refine lv_iconst (v := 0) hx hb d_M_cite_26 (by decide) ?_
    refine lv_istore (lv' := [(4, .int (0 : Int32)), (0, .ref aM), (1, .int x1), (2, .int x2), (3, .int x3)]) hx hb d_M_cite_27 hl (by decide) rfl (fun ls hl => ?_)
    refine lv_iconst (v := 0) hx hb d_M_cite_29 (by decide) ?_
    refine lv_istore (lv' := [(5, .int (0 : Int32)), (4, .int (0 : Int32)), (0, .ref aM), (1, .int x1), (2, .int x2), (3, .int x3)]) hx hb d_M_cite_30 hl (by decide) rfl (fun ls hl => ?_)
    refine lv_iconst (v := 0) hx hb d_M_cite_32 (by decide) ?_
    refine lv_istore (lv' := [(6, .int (0 : Int32)), (5, .int (0 : Int32)), (4, .int (0 : Int32)), (0, .ref aM), (1, .int x1), (2, .int x2), (3, .int x3)]) hx hb d_M_cite_33 hl (by decide) rfl (fun ls hl => ?_)
    refine lv_iconst (v := 0) hx hb d_M_cite_35 (by decide) ?_
    refine lv_istore (lv' := [(7, .int (0 : Int32)), (6, .int (0 : Int32)), (5, .int (0 : Int32)), (4, .int (0 : Int32)), (0, .ref aM), (1, .int x1), (2, .int x2), (3, .int x3)]) hx hb d_M_cite_36 hl (by decide) rfl (fun ls hl => ?_)
    obtain ⟨n_47, hw⟩ := hw
    exact L38 M_thrown x1 x2 x3 (0 : Int32) n_47 (0 : Int32) (0 : Int32) (0 : Int32) hw _ _ (hP.sub [0, 1, 2, 3, 4] rfl) (hD.sub [0, 1, 2, 3, 4] (by decide) rfl) hS ls (lv_sub hl [4, 5, 6, 7, 3, 2, 1, 0] rfl)
  · have hw := hw.2 c_46
    refine lv_iload_n hx hb d_M_cite_8 rfl (lv_at hl 2 rfl) ?_
    refine lv_iconst (v := 0) hx hb d_M_cite_9 (by decide) ?_
    refine lv_iconst (v := 3) hx hb d_M_cite_10 (by decide) ?_
    have hPc := hP.sub (ws' := []) [] rfl
    refine vp_callSi (W.runS (As := [.int x2, .int (0 : Int32), .int (3 : Int32)]) (rest := []) ⟨hx, hb, hml, hown, hts⟩ (mt_M_within l dC dI cI _ x2 (0 : Int32) (3 : Int32) hw) (va_cwS 3 hts (gdS m_725 m_726 m_6 m_727) rfl rfl rfl (by decide +kernel) ⟨Nat.le_of_ble_eq_true rfl, Nat.le_of_ble_eq_true rfl⟩) ⟨fb_r, fun U hU hW => ⟨rfl, by rw [hU]; exact hPc, va_K.moved hW.alike (hK.sub (tys' := [(cI, .int)]) [0] rfl), hE.warm hW⟩⟩ rfl rfl hl.1 rfl (lv_room (Nat.le_of_ble_eq_true rfl)) d_M_cite_11 ⟨Nat.le_of_ble_eq_true rfl, Nat.le_of_ble_eq_true rfl⟩) (fun r_48 hw => ?_)
    refine lv_if_eq (tgt := 26) hx hb d_M_cite_14 (by decide) (fun c_49 => ?_) (fun c_49 => ?_)
    · have hw := hw.1 c_49
      refine lv_iconst (v := 0) hx hb d_M_cite_26 (by decide) ?_
      refine lv_istore (lv' := [(4, .int (0 : Int32)), (0, .ref aM), (1, .int x1), (2, .int x2), (3, .int x3)]) hx hb d_M_cite_27 hl (by decide) rfl (fun ls hl => ?_)
      refine lv_iconst (v := 0) hx hb d_M_cite_29 (by decide) ?_
      refine lv_istore (lv' := [(5, .int (0 : Int32)), (4, .int (0 : Int32)), (0, .ref aM), (1, .int x1), (2, .int x2), (3, .int x3)]) hx hb d_M_cite_30 hl (by decide) rfl (fun ls hl => ?_)
      refine lv_iconst (v := 0) hx hb d_M_cite_32 (by decide) ?_
      refine lv_istore (lv' := [(6, .int (0 : Int32)), (5, .int (0 : Int32)), (4, .int (0 : Int32)), (0, .ref aM), (1, .int x1), (2, .int x2), (3, .int x3)]) hx hb d_M_cite_33 hl (by decide) rfl (fun ls hl => ?_)
      refine lv_iconst (v := 0) hx hb d_M_cite_35 (by decide) ?_
      refine lv_istore (lv' := [(7, .int (0 : Int32)), (6, .int (0 : Int32)), (5, .int (0 : Int32)), (4, .int (0 : Int32)), (0, .ref aM), (1, .int x1), (2, .int x2), (3, .int x3)]) hx hb d_M_cite_36 hl (by decide) rfl (fun ls hl => ?_)
      obtain ⟨n_50, hw⟩ := hw
      exact L38 M_thrown x1 x2 x3 (0 : Int32) n_50 (0 : Int32) (0 : Int32) (0 : Int32) hw _ _ (hP.sub [0, 1, 2, 3, 4] rfl) (hD.sub [0, 1, 2, 3, 4] (by decide) rfl) hS ls (lv_sub hl [4, 5, 6, 7, 3, 2, 1, 0] rfl)
    · have hw := hw.2 c_49
      refine lv_iload_n hx hb d_M_cite_17 rfl (lv_at hl 3 rfl) ?_
      refine lv_iconst (v := -1) hx hb d_M_cite_18 (by decide) ?_
      refine lv_icmp_lt (tgt := 26) hx hb d_M_cite_19 (by decide) (fun c_51 => ?_) (fun c_51 => ?_)
      · have hw := hw.1 c_51
        refine lv_iconst (v := 0) hx hb d_M_cite_26 (by decide) ?_
        refine lv_istore (lv' := [(4, .int (0 : Int32)), (0, .ref aM), (1, .int x1), (2, .int x2), (3, .int x3)]) hx hb d_M_cite_27 hl (by decide) rfl (fun ls hl => ?_)
        refine lv_iconst (v := 0) hx hb d_M_cite_29 (by decide) ?_
        refine lv_istore (lv' := [(5, .int (0 : Int32)), (4, .int (0 : Int32)), (0, .ref aM), (1, .int x1), (2, .int x2), (3, .int x3)]) hx hb d_M_cite_30 hl (by decide) rfl (fun ls hl => ?_)
        refine lv_iconst (v := 0) hx hb d_M_cite_32 (by decide) ?_
        refine lv_istore (lv' := [(6, .int (0 : Int32)), (5, .int (0 : Int32)), (4, .int (0 : Int32)), (0, .ref aM), (1, .int x1), (2, .int x2), (3, .int x3)]) hx hb d_M_cite_33 hl (by decide) rfl (fun ls hl => ?_)
        refine lv_iconst (v := 0) hx hb d_M_cite_35 (by decide) ?_
        refine lv_istore (lv' := [(7, .int (0 : Int32)), (6, .int (0 : Int32)), (5, .int (0 : Int32)), (4, .int (0 : Int32)), (0, .ref aM), (1, .int x1), (2, .int x2), (3, .int x3)]) hx hb d_M_cite_36 hl (by decide) rfl (fun ls hl => ?_)
        obtain ⟨n_52, hw⟩ := hw
        exact L38 M_thrown x1 x2 x3 (0 : Int32) n_52 (0 : Int32) (0 : Int32) (0 : Int32) hw _ _ (hP.sub [0, 1, 2, 3, 4] rfl) (hD.sub [0, 1, 2, 3, 4] (by decide) rfl) hS ls (lv_sub hl [4, 5, 6, 7, 3, 2, 1, 0] rfl)
      · have hw := hw.2 c_51
        refine lv_iconst (v := 1) hx hb d_M_cite_22 (by decide) ?_
        refine lv_goto (tgt := 27) hx hb d_M_cite_23 (by decide) ?_
        refine lv_istore (lv' := [(4, .int (1 : Int32)), (0, .ref aM), (1, .int x1), (2, .int x2), (3, .int x3)]) hx hb d_M_cite_27 hl (by decide) rfl (fun ls hl => ?_)
        refine lv_iconst (v := 0) hx hb d_M_cite_29 (by decide) ?_
        refine lv_istore (lv' := [(5, .int (0 : Int32)), (4, .int (1 : Int32)), (0, .ref aM), (1, .int x1), (2, .int x2), (3, .int x3)]) hx hb d_M_cite_30 hl (by decide) rfl (fun ls hl => ?_)
        refine lv_iconst (v := 0) hx hb d_M_cite_32 (by decide) ?_
        refine lv_istore (lv' := [(6, .int (0 : Int32)), (5, .int (0 : Int32)), (4, .int (1 : Int32)), (0, .ref aM), (1, .int x1), (2, .int x2), (3, .int x3)]) hx hb d_M_cite_33 hl (by decide) rfl (fun ls hl => ?_)
        refine lv_iconst (v := 0) hx hb d_M_cite_35 (by decide) ?_
        refine lv_istore (lv' := [(7, .int (0 : Int32)), (6, .int (0 : Int32)), (5, .int (0 : Int32)), (4, .int (1 : Int32)), (0, .ref aM), (1, .int x1), (2, .int x2), (3, .int x3)]) hx hb d_M_cite_36 hl (by decide) rfl (fun ls hl => ?_)
        obtain ⟨n_53, hw⟩ := hw
        exact L38 M_thrown x1 x2 x3 (1 : Int32) n_53 (0 : Int32) (0 : Int32) (0 : Int32) hw _ _ (hP.sub [0, 1, 2, 3, 4] rfl) (hD.sub [0, 1, 2, 3, 4] (by decide) rfl) hS ls (lv_sub hl [4, 5, 6, 7, 3, 2, 1, 0] rfl)
