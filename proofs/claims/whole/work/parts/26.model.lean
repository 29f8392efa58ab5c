def wl_M_count_21 (M_thrown : Int32) (M_padded : Int32) (M_sources : Int32) (M_claims : Int32) (M_onClaim : Nat → Int32) (M_opinions : Int32) (x1 : Int32) (post : Int32 → Int32 → Prop) : Nat → Int32 → Int32 → Prop
  | 0, _, _ => False
  | n + 1, x2, x3 => (((576 : Int32) ≤ x3 → ((x1 = 0 → (post M_padded M_thrown)) ∧ (¬ (x1 = 0) → ((x1 = (1 : Int32) → (post M_sources M_thrown)) ∧ (¬ (x1 = (1 : Int32)) → ((x1 = (2 : Int32) → (post M_claims M_thrown)) ∧ (¬ (x1 = (2 : Int32)) → ((x1 = (3 : Int32) → (post M_opinions M_thrown)) ∧ (¬ (x1 = (3 : Int32)) → (post x2 M_thrown)))))))))) ∧ (¬ ((576 : Int32) ≤ x3) → (vp_in x3 576 ∧ (((M_onClaim x3.toNatClampNeg) = 0 → wl_M_count_21 M_thrown M_padded M_sources M_claims M_onClaim M_opinions x1 post n x2 (x3 + 1)) ∧ (¬ ((M_onClaim x3.toNatClampNeg) = 0) → wl_M_count_21 M_thrown M_padded M_sources M_claims M_onClaim M_opinions x1 post n (x2 + (1 : Int32)) (x3 + 1))))))
def wp_M_count (M_thrown : Int32) (M_padded : Int32) (M_sources : Int32) (M_claims : Int32) (M_onClaim : Nat → Int32) (M_rings : Int32) (M_opinions : Int32) (x1 : Int32) (post : Int32 → Int32 → Prop) : Prop := (wp_M_within x1 (0 : Int32) (4 : Int32) (fun r_8 => (wp_M_goes M_thrown M_padded M_sources M_claims M_rings M_opinions r_8 (1 : Int32) (1 : Int32) (fun r_9 u_10 => ((r_9 = 0 → (post (0 : Int32) u_10)) ∧ (¬ (r_9 = 0) → (∃ n9, wl_M_count_21 u_10 M_padded M_sources M_claims M_onClaim M_opinions x1 post n9 (0 : Int32) (0 : Int32))))))))
set_option maxHeartbeats 4000000 in
set_option maxRecDepth 100000 in
theorem mt_M_count (l : Launch) (dC : Nat → ClassId) (dI : Nat → Nat → Nat) (cI cZ : ClassId) (aM : Nat) (aM_onClaim : Nat) (aM_pad : Nat) (aM_kinds : Nat) (aM_days : Nat) (aM_withdrawn : Nat) (aM_lengths : Nat) (aM_texts : Nat) (aM_formLengths : Nat) (aM_forms : Nat) (aM_onSource : Nat) (aM_rules : Nat) (aM_ring : Nat) (aM_far : Nat) (aM_held : Nat) (aM_heldBefore : Nat) (aM_persons : Nat) (aM_ofClaims : Nat) (aM_values : Nat) (aM_when : Nat) (aM_ranks : Nat) (aM_known : Nat) (aM_counts : Nat) (sz : Nat) (post : Int32 → Int32 → Prop) (M_thrown : Int32) (M_padded : Int32) (M_sources : Int32) (M_claims : Int32) (M_onClaim : Nat → Int32) (M_rings : Int32) (M_opinions : Int32) (x1 : Int32) (hw : wp_M_count M_thrown M_padded M_sources M_claims M_onClaim M_rings M_opinions x1 post) : Met l y_M_count w_M_count ({ frames := 1, cells := 0, slots := 0, locals := 23 }) (va_Pc [.ref aM, .int x1] (fun U => U.heap.size = sz ∧ va_P (dC, dI) vwCl [(aM, .inr (5, [.int M_thrown, .int M_padded, .ref aM_pad, .int M_sources, .ref aM_kinds, .ref aM_days, .ref aM_withdrawn, .ref aM_lengths, .ref aM_texts, .ref aM_formLengths, .ref aM_forms, .int M_claims, .ref aM_onSource, .ref aM_onClaim, .ref aM_rules, .int M_rings, .ref aM_ring, .ref aM_far, .ref aM_held, .ref aM_heldBefore, .int M_opinions, .ref aM_persons, .ref aM_ofClaims, .ref aM_values, .ref aM_when, .ref aM_ranks, .ref aM_known, .ref aM_counts])), (aM_onClaim, .inl (cZ, 576, .inl M_onClaim))] U.heap ∧ va_K (dC, dI) vwCl [(cI, .int), (cZ, .boolean)] U ∧ va_D (fun _ => True) [(aM, .inr (5, [.int M_thrown, .int M_padded, .ref aM_pad, .int M_sources, .ref aM_kinds, .ref aM_days, .ref aM_withdrawn, .ref aM_lengths, .ref aM_texts, .ref aM_formLengths, .ref aM_forms, .int M_claims, .ref aM_onSource, .ref aM_onClaim, .ref aM_rules, .int M_rings, .ref aM_ring, .ref aM_far, .ref aM_held, .ref aM_heldBefore, .int M_opinions, .ref aM_persons, .ref aM_ofClaims, .ref aM_values, .ref aM_when, .ref aM_ranks, .ref aM_known, .ref aM_counts])), (aM_onClaim, .inl (cZ, 576, .inl M_onClaim))] ∧ en_ok U)) (va_Qi (fun r (u : (Int32)) => post r u) (fun (u : (Int32)) t => va_P (dC, dI) vwCl [(aM, .inr (5, [.int u, .int M_padded, .ref aM_pad, .int M_sources, .ref aM_kinds, .ref aM_days, .ref aM_withdrawn, .ref aM_lengths, .ref aM_texts, .ref aM_formLengths, .ref aM_forms, .int M_claims, .ref aM_onSource, .ref aM_onClaim, .ref aM_rules, .int M_rings, .ref aM_ring, .ref aM_far, .ref aM_held, .ref aM_heldBefore, .int M_opinions, .ref aM_persons, .ref aM_ofClaims, .ref aM_values, .ref aM_when, .ref aM_ranks, .ref aM_known, .ref aM_counts])), (aM_onClaim, .inl (cZ, 576, .inl M_onClaim))] t.heap ∧ va_D (va_A [(aM, .inr (5, [.int M_thrown, .int M_padded, .ref aM_pad, .int M_sources, .ref aM_kinds, .ref aM_days, .ref aM_withdrawn, .ref aM_lengths, .ref aM_texts, .ref aM_formLengths, .ref aM_forms, .int M_claims, .ref aM_onSource, .ref aM_onClaim, .ref aM_rules, .int M_rings, .ref aM_ring, .ref aM_far, .ref aM_held, .ref aM_heldBefore, .int M_opinions, .ref aM_persons, .ref aM_ofClaims, .ref aM_values, .ref aM_when, .ref aM_ranks, .ref aM_known, .ref aM_counts])), (aM_onClaim, .inl (cZ, 576, .inl M_onClaim))] sz) [(aM, .inr (5, [.int u, .int M_padded, .ref aM_pad, .int M_sources, .ref aM_kinds, .ref aM_days, .ref aM_withdrawn, .ref aM_lengths, .ref aM_texts, .ref aM_formLengths, .ref aM_forms, .int M_claims, .ref aM_onSource, .ref aM_onClaim, .ref aM_rules, .int M_rings, .ref aM_ring, .ref aM_far, .ref aM_held, .ref aM_heldBefore, .int M_opinions, .ref aM_persons, .ref aM_ofClaims, .ref aM_values, .ref aM_when, .ref aM_ranks, .ref aM_known, .ref aM_counts])), (aM_onClaim, .inl (cZ, 576, .inl M_onClaim))]) (va_A [(aM, .inr (5, [.int M_thrown, .int M_padded, .ref aM_pad, .int M_sources, .ref aM_kinds, .ref aM_days, .ref aM_withdrawn, .ref aM_lengths, .ref aM_texts, .ref aM_formLengths, .ref aM_forms, .int M_claims, .ref aM_onSource, .ref aM_onClaim, .ref aM_rules, .int M_rings, .ref aM_ring, .ref aM_far, .ref aM_held, .ref aM_heldBefore, .int M_opinions, .ref aM_persons, .ref aM_ofClaims, .ref aM_values, .ref aM_when, .ref aM_ranks, .ref aM_known, .ref aM_counts])), (aM_onClaim, .inl (cZ, 576, .inl M_onClaim))] sz)) 0 0 (va_A [(aM, .inr (5, [.int M_thrown, .int M_padded, .ref aM_pad, .int M_sources, .ref aM_kinds, .ref aM_days, .ref aM_withdrawn, .ref aM_lengths, .ref aM_texts, .ref aM_formLengths, .ref aM_forms, .int M_claims, .ref aM_onSource, .ref aM_onClaim, .ref aM_rules, .int M_rings, .ref aM_ring, .ref aM_far, .ref aM_held, .ref aM_heldBefore, .int M_opinions, .ref aM_persons, .ref aM_ofClaims, .ref aM_values, .ref aM_when, .ref aM_ranks, .ref aM_known, .ref aM_counts])), (aM_onClaim, .inl (cZ, 576, .inl M_onClaim))] sz) := by
  refine Met.ofW (cc := prog_7_method_34_code) (maxL := 4) (ret := (some .int)) (by decide) rfl ?_
  intro p e s m args below meth c s₁ B hml hv
  obtain ⟨rfl, hsz, hP, hK, hD0, hE⟩ := hv
  have hx := B.exec
  have hb := B.bytes
  have hr := B.returns
  have hts := atoms_spec (ws := w_M_count) B.pre
  have hown : s.vm.findClass "ClaimSourcesModel" = some m.cls := findClass_of_methodNamed B.named
  have hlocks := B.notSynchronized
  subst hsz
  have hD := hD0.self (sz := s.heap.size)
  generalize hAe : va_A [(aM, .inr (5, [.int M_thrown, .int M_padded, .ref aM_pad, .int M_sources, .ref aM_kinds, .ref aM_days, .ref aM_withdrawn, .ref aM_lengths, .ref aM_texts, .ref aM_formLengths, .ref aM_forms, .int M_claims, .ref aM_onSource, .ref aM_onClaim, .ref aM_rules, .int M_rings, .ref aM_ring, .ref aM_far, .ref aM_held, .ref aM_heldBefore, .int M_opinions, .ref aM_persons, .ref aM_ofClaims, .ref aM_values, .ref aM_when, .ref aM_ranks, .ref aM_known, .ref aM_counts])), (aM_onClaim, .inl (cZ, 576, .inl M_onClaim))] s.heap.size = A at hD ⊢
  have hA : ∀ q : Nat, s.heap.size ≤ q → A q := fun q h => by rw [← hAe]; exact Or.inr h
  have hS : va_S A s.heap s.heap [] := va_S.rf
  have hl := lv_entry ([.ref aM, .int x1]) (n := 4) (Nat.le_of_ble_eq_true rfl)
  rw [lg_entry_eq]
  generalize (lg_sl ([.ref aM, .int x1]) ++ List.replicate (4 - (lg_sl ([.ref aM, .int x1])).length) Slot.unset).toArray = ls at hl ⊢
  have hl : lv_has ls 4 [(0, .ref aM), (1, .int x1)] := hl
  obtain ⟨Q0, hQ0⟩ : ∃ Q0, Q0 = MQ below (va_Qi (fun r (u : (Int32)) => post r u) (fun (u : (Int32)) t => va_P (dC, dI) vwCl [(aM, .inr (5, [.int u, .int M_padded, .ref aM_pad, .int M_sources, .ref aM_kinds, .ref aM_days, .ref aM_withdrawn, .ref aM_lengths, .ref aM_texts, .ref aM_formLengths, .ref aM_forms, .int M_claims, .ref aM_onSource, .ref aM_onClaim, .ref aM_rules, .int M_rings, .ref aM_ring, .ref aM_far, .ref aM_held, .ref aM_heldBefore, .int M_opinions, .ref aM_persons, .ref aM_ofClaims, .ref aM_values, .ref aM_when, .ref aM_ranks, .ref aM_known, .ref aM_counts])), (aM_onClaim, .inl (cZ, 576, .inl M_onClaim))] t.heap ∧ va_D A [(aM, .inr (5, [.int u, .int M_padded, .ref aM_pad, .int M_sources, .ref aM_kinds, .ref aM_days, .ref aM_withdrawn, .ref aM_lengths, .ref aM_texts, .ref aM_formLengths, .ref aM_forms, .int M_claims, .ref aM_onSource, .ref aM_onClaim, .ref aM_rules, .int M_rings, .ref aM_ring, .ref aM_far, .ref aM_held, .ref aM_heldBefore, .int M_opinions, .ref aM_persons, .ref aM_ofClaims, .ref aM_values, .ref aM_when, .ref aM_ranks, .ref aM_known, .ref aM_counts])), (aM_onClaim, .inl (cZ, 576, .inl M_onClaim))]) A) ([.ref aM, .int x1]).toArray s 0 0 A := ⟨_, rfl⟩
  rw [← hQ0]
  clear B
  generalize hag : ([.ref aM, .int x1] : List Value).toArray = args at hts hQ0 ⊢
  have hi_5 : ∀ w ∈ u_ws "ClaimSourcesModel" TT_5 28, w ∈ w_M_count := fun w h => List.mem_cons_of_mem _ (ia_5 w h)
  have hf_116 := hts _ (List.mem_cons_of_mem _ m_651)
  have hf_85 := hts _ (List.mem_cons_of_mem _ m_642)
  have hf_82 := hts _ (List.mem_cons_of_mem _ m_634)
  have hf_92 := hts _ (List.mem_cons_of_mem _ m_632)
  have hf_38 := hts _ (List.mem_cons_of_mem _ m_644)
  have L21 : ∀ (M_thrown : Int32) (x1 : Int32) (n : Nat) (x2 : Int32) (x3 : Int32), wl_M_count_21 M_thrown M_padded M_sources M_claims M_onClaim M_opinions x1 post n x2 x3 → ∀ (H : Heap) (locs : List Loc), va_P (dC, dI) vwCl [(aM, .inr (5, [.int M_thrown, .int M_padded, .ref aM_pad, .int M_sources, .ref aM_kinds, .ref aM_days, .ref aM_withdrawn, .ref aM_lengths, .ref aM_texts, .ref aM_formLengths, .ref aM_forms, .int M_claims, .ref aM_onSource, .ref aM_onClaim, .ref aM_rules, .int M_rings, .ref aM_ring, .ref aM_far, .ref aM_held, .ref aM_heldBefore, .int M_opinions, .ref aM_persons, .ref aM_ofClaims, .ref aM_values, .ref aM_when, .ref aM_ranks, .ref aM_known, .ref aM_counts])), (aM_onClaim, .inl (cZ, 576, .inl M_onClaim))] H → va_D A [(aM, .inr (5, [.int M_thrown, .int M_padded, .ref aM_pad, .int M_sources, .ref aM_kinds, .ref aM_days, .ref aM_withdrawn, .ref aM_lengths, .ref aM_texts, .ref aM_formLengths, .ref aM_forms, .int M_claims, .ref aM_onSource, .ref aM_onClaim, .ref aM_rules, .int M_rings, .ref aM_ring, .ref aM_far, .ref aM_held, .ref aM_heldBefore, .int M_opinions, .ref aM_persons, .ref aM_ofClaims, .ref aM_values, .ref aM_when, .ref aM_ranks, .ref aM_known, .ref aM_counts])), (aM_onClaim, .inl (cZ, 576, .inl M_onClaim))] → va_S A s.heap H locs → ∀ (ls : Array Slot), lv_has ls 4 [(0, .ref aM), (1, .int x1), (2, .int x2), (3, .int x3)] → W p l e (headSpec w_M_count ({ frames := 1, cells := 0, slots := 0, locals := 23 })).room s m args below meth c H locs 0 0 Q0 (F0 m 21 ls []) := by
    intro M_thrown x1
    intro n
    induction n with
    | zero =>
      intro x2 x3 hw
      exact False.elim hw
    | succ n ih =>
      intro x2 x3 hw H locs hP hD hS ls hl
      unfold wl_M_count_21 at hw
      refine lv_iload_n hx hb d_M_count_21 rfl (lv_at hl 3 rfl) ?_
      refine lv_sipush (v := 576) hx hb d_M_count_22 (by decide) ?_
      refine lv_icmp_ge (tgt := 51) hx hb d_M_count_25 (by decide) (fun c_1 => ?_) (fun c_1 => ?_)
      · have hw := hw.1 c_1
        refine lv_iload_n hx hb d_M_count_51 rfl (lv_at hl 1 rfl) ?_
        refine lv_if_ne (tgt := 62) hx hb d_M_count_52 (by decide) (fun c_2 => ?_) (fun c_2 => ?_)
        · have hw := hw.2 c_2
          refine lv_iload_n hx hb d_M_count_62 rfl (lv_at hl 1 rfl) ?_
          refine lv_iconst (v := 1) hx hb d_M_count_63 (by decide) ?_
          refine lv_icmp_ne (tgt := 74) hx hb d_M_count_64 (by decide) (fun c_3 => ?_) (fun c_3 => ?_)
          · have hw := hw.2 c_3
            refine lv_iload_n hx hb d_M_count_74 rfl (lv_at hl 1 rfl) ?_
            refine lv_iconst (v := 2) hx hb d_M_count_75 (by decide) ?_
            refine lv_icmp_ne (tgt := 86) hx hb d_M_count_76 (by decide) (fun c_4 => ?_) (fun c_4 => ?_)
            · have hw := hw.2 c_4
              refine lv_iload_n hx hb d_M_count_86 rfl (lv_at hl 1 rfl) ?_
              refine lv_iconst (v := 3) hx hb d_M_count_87 (by decide) ?_
              refine lv_icmp_ne (tgt := 98) hx hb d_M_count_88 (by decide) (fun c_5 => ?_) (fun c_5 => ?_)
              · have hw := hw.2 c_5
                refine lv_iload_n hx hb d_M_count_98 rfl (lv_at hl 2 rfl) ?_
                subst hQ0
                have hP9 := hP.sub (ws' := [(aM, .inr (5, [.int M_thrown, .int M_padded, .ref aM_pad, .int M_sources, .ref aM_kinds, .ref aM_days, .ref aM_withdrawn, .ref aM_lengths, .ref aM_texts, .ref aM_formLengths, .ref aM_forms, .int M_claims, .ref aM_onSource, .ref aM_onClaim, .ref aM_rules, .int M_rings, .ref aM_ring, .ref aM_far, .ref aM_held, .ref aM_heldBefore, .int M_opinions, .ref aM_persons, .ref aM_ofClaims, .ref aM_values, .ref aM_when, .ref aM_ranks, .ref aM_known, .ref aM_counts])), (aM_onClaim, .inl (cZ, 576, .inl M_onClaim))]) [0, 1] rfl
                have hD9 := hD.sub (ws' := [(aM, .inr (5, [.int M_thrown, .int M_padded, .ref aM_pad, .int M_sources, .ref aM_kinds, .ref aM_days, .ref aM_withdrawn, .ref aM_lengths, .ref aM_texts, .ref aM_formLengths, .ref aM_forms, .int M_claims, .ref aM_onSource, .ref aM_onClaim, .ref aM_rules, .int M_rings, .ref aM_ring, .ref aM_far, .ref aM_held, .ref aM_heldBefore, .int M_opinions, .ref aM_persons, .ref aM_ofClaims, .ref aM_values, .ref aM_when, .ref aM_ranks, .ref aM_known, .ref aM_counts])), (aM_onClaim, .inl (cZ, 576, .inl M_onClaim))]) [0, 1] (by decide) rfl
                exact W.iret (v := x2) hx hb hr (fun t ht hW => ⟨⟨_, (M_thrown), rfl, hw, by rw [ht]; exact hP9, hD9⟩, hS.F ht⟩) hS.2.2 d_M_count_99
              · have hw := hw.1 c_5
                refine lv_aload_n hx hb d_M_count_91 rfl (lv_at hl 0 rfl) ?_
                refine va_get (D := (dC, dI)) (ci := 5) (v := .int M_opinions) (C := "ClaimSourcesModel") (T := TT_5) (N := 28) hx hb hts hi_5 hown hK hP 0 rfl rfl 20 (by decide) hf_116 (fun _ h9 => h9) rfl d_M_count_92 ?_
                refine lv_goto (tgt := 99) hx hb d_M_count_95 (by decide) ?_
                subst hQ0
                have hP9 := hP.sub (ws' := [(aM, .inr (5, [.int M_thrown, .int M_padded, .ref aM_pad, .int M_sources, .ref aM_kinds, .ref aM_days, .ref aM_withdrawn, .ref aM_lengths, .ref aM_texts, .ref aM_formLengths, .ref aM_forms, .int M_claims, .ref aM_onSource, .ref aM_onClaim, .ref aM_rules, .int M_rings, .ref aM_ring, .ref aM_far, .ref aM_held, .ref aM_heldBefore, .int M_opinions, .ref aM_persons, .ref aM_ofClaims, .ref aM_values, .ref aM_when, .ref aM_ranks, .ref aM_known, .ref aM_counts])), (aM_onClaim, .inl (cZ, 576, .inl M_onClaim))]) [0, 1] rfl
                have hD9 := hD.sub (ws' := [(aM, .inr (5, [.int M_thrown, .int M_padded, .ref aM_pad, .int M_sources, .ref aM_kinds, .ref aM_days, .ref aM_withdrawn, .ref aM_lengths, .ref aM_texts, .ref aM_formLengths, .ref aM_forms, .int M_claims, .ref aM_onSource, .ref aM_onClaim, .ref aM_rules, .int M_rings, .ref aM_ring, .ref aM_far, .ref aM_held, .ref aM_heldBefore, .int M_opinions, .ref aM_persons, .ref aM_ofClaims, .ref aM_values, .ref aM_when, .ref aM_ranks, .ref aM_known, .ref aM_counts])), (aM_onClaim, .inl (cZ, 576, .inl M_onClaim))]) [0, 1] (by decide) rfl
                exact W.iret (v := M_opinions) hx hb hr (fun t ht hW => ⟨⟨_, (M_thrown), rfl, hw, by rw [ht]; exact hP9, hD9⟩, hS.F ht⟩) hS.2.2 d_M_count_99
            · have hw := hw.1 c_4
              refine lv_aload_n hx hb d_M_count_79 rfl (lv_at hl 0 rfl) ?_
              refine va_get (D := (dC, dI)) (ci := 5) (v := .int M_claims) (C := "ClaimSourcesModel") (T := TT_5) (N := 28) hx hb hts hi_5 hown hK hP 0 rfl rfl 11 (by decide) hf_85 (fun _ h9 => h9) rfl d_M_count_80 ?_
              refine lv_goto (tgt := 99) hx hb d_M_count_83 (by decide) ?_
              subst hQ0
              have hP9 := hP.sub (ws' := [(aM, .inr (5, [.int M_thrown, .int M_padded, .ref aM_pad, .int M_sources, .ref aM_kinds, .ref aM_days, .ref aM_withdrawn, .ref aM_lengths, .ref aM_texts, .ref aM_formLengths, .ref aM_forms, .int M_claims, .ref aM_onSource, .ref aM_onClaim, .ref aM_rules, .int M_rings, .ref aM_ring, .ref aM_far, .ref aM_held, .ref aM_heldBefore, .int M_opinions, .ref aM_persons, .ref aM_ofClaims, .ref aM_values, .ref aM_when, .ref aM_ranks, .ref aM_known, .ref aM_counts])), (aM_onClaim, .inl (cZ, 576, .inl M_onClaim))]) [0, 1] rfl
              have hD9 := hD.sub (ws' := [(aM, .inr (5, [.int M_thrown, .int M_padded, .ref aM_pad, .int M_sources, .ref aM_kinds, .ref aM_days, .ref aM_withdrawn, .ref aM_lengths, .ref aM_texts, .ref aM_formLengths, .ref aM_forms, .int M_claims, .ref aM_onSource, .ref aM_onClaim, .ref aM_rules, .int M_rings, .ref aM_ring, .ref aM_far, .ref aM_held, .ref aM_heldBefore, .int M_opinions, .ref aM_persons, .ref aM_ofClaims, .ref aM_values, .ref aM_when, .ref aM_ranks, .ref aM_known, .ref aM_counts])), (aM_onClaim, .inl (cZ, 576, .inl M_onClaim))]) [0, 1] (by decide) rfl
              exact W.iret (v := M_claims) hx hb hr (fun t ht hW => ⟨⟨_, (M_thrown), rfl, hw, by rw [ht]; exact hP9, hD9⟩, hS.F ht⟩) hS.2.2 d_M_count_99
          · have hw := hw.1 c_3
            refine lv_aload_n hx hb d_M_count_67 rfl (lv_at hl 0 rfl) ?_
            refine va_get (D := (dC, dI)) (ci := 5) (v := .int M_sources) (C := "ClaimSourcesModel") (T := TT_5) (N := 28) hx hb hts hi_5 hown hK hP 0 rfl rfl 3 (by decide) hf_82 (fun _ h9 => h9) rfl d_M_count_68 ?_
            refine lv_goto (tgt := 99) hx hb d_M_count_71 (by decide) ?_
            subst hQ0
            have hP9 := hP.sub (ws' := [(aM, .inr (5, [.int M_thrown, .int M_padded, .ref aM_pad, .int M_sources, .ref aM_kinds, .ref aM_days, .ref aM_withdrawn, .ref aM_lengths, .ref aM_texts, .ref aM_formLengths, .ref aM_forms, .int M_claims, .ref aM_onSource, .ref aM_onClaim, .ref aM_rules, .int M_rings, .ref aM_ring, .ref aM_far, .ref aM_held, .ref aM_heldBefore, .int M_opinions, .ref aM_persons, .ref aM_ofClaims, .ref aM_values, .ref aM_when, .ref aM_ranks, .ref aM_known, .ref aM_counts])), (aM_onClaim, .inl (cZ, 576, .inl M_onClaim))]) [0, 1] rfl
            have hD9 := hD.sub (ws' := [(aM, .inr (5, [.int M_thrown, .int M_padded, .ref aM_pad, .int M_sources, .ref aM_kinds, .ref aM_days, .ref aM_withdrawn, .ref aM_lengths, .ref aM_texts, .ref aM_formLengths, .ref aM_forms, .int M_claims, .ref aM_onSource, .ref aM_onClaim, .ref aM_rules, .int M_rings, .ref aM_ring, .ref aM_far, .ref aM_held, .ref aM_heldBefore, .int M_opinions, .ref aM_persons, .ref aM_ofClaims, .ref aM_values, .ref aM_when, .ref aM_ranks, .ref aM_known, .ref aM_counts])), (aM_onClaim, .inl (cZ, 576, .inl M_onClaim))]) [0, 1] (by decide) rfl
            exact W.iret (v := M_sources) hx hb hr (fun t ht hW => ⟨⟨_, (M_thrown), rfl, hw, by rw [ht]; exact hP9, hD9⟩, hS.F ht⟩) hS.2.2 d_M_count_99
        · have hw := hw.1 c_2
          refine lv_aload_n hx hb d_M_count_55 rfl (lv_at hl 0 rfl) ?_
          refine va_get (D := (dC, dI)) (ci := 5) (v := .int M_padded) (C := "ClaimSourcesModel") (T := TT_5) (N := 28) hx hb hts hi_5 hown hK hP 0 rfl rfl 1 (by decide) hf_92 (fun _ h9 => h9) rfl d_M_count_56 ?_
          refine lv_goto (tgt := 99) hx hb d_M_count_59 (by decide) ?_
          subst hQ0
          have hP9 := hP.sub (ws' := [(aM, .inr (5, [.int M_thrown, .int M_padded, .ref aM_pad, .int M_sources, .ref aM_kinds, .ref aM_days, .ref aM_withdrawn, .ref aM_lengths, .ref aM_texts, .ref aM_formLengths, .ref aM_forms, .int M_claims, .ref aM_onSource, .ref aM_onClaim, .ref aM_rules, .int M_rings, .ref aM_ring, .ref aM_far, .ref aM_held, .ref aM_heldBefore, .int M_opinions, .ref aM_persons, .ref aM_ofClaims, .ref aM_values, .ref aM_when, .ref aM_ranks, .ref aM_known, .ref aM_counts])), (aM_onClaim, .inl (cZ, 576, .inl M_onClaim))]) [0, 1] rfl
          have hD9 := hD.sub (ws' := [(aM, .inr (5, [.int M_thrown, .int M_padded, .ref aM_pad, .int M_sources, .ref aM_kinds, .ref aM_days, .ref aM_withdrawn, .ref aM_lengths, .ref aM_texts, .ref aM_formLengths, .ref aM_forms, .int M_claims, .ref aM_onSource, .ref aM_onClaim, .ref aM_rules, .int M_rings, .ref aM_ring, .ref aM_far, .ref aM_held, .ref aM_heldBefore, .int M_opinions, .ref aM_persons, .ref aM_ofClaims, .ref aM_values, .ref aM_when, .ref aM_ranks, .ref aM_known, .ref aM_counts])), (aM_onClaim, .inl (cZ, 576, .inl M_onClaim))]) [0, 1] (by decide) rfl
          exact W.iret (v := M_padded) hx hb hr (fun t ht hW => ⟨⟨_, (M_thrown), rfl, hw, by rw [ht]; exact hP9, hD9⟩, hS.F ht⟩) hS.2.2 d_M_count_99
      · have hw := hw.2 c_1
        refine lv_aload_n hx hb d_M_count_28 rfl (lv_at hl 0 rfl) ?_
        refine va_get (D := (dC, dI)) (ci := 5) (v := .ref aM_onClaim) (C := "ClaimSourcesModel") (T := TT_5) (N := 28) hx hb hts hi_5 hown hK hP 0 rfl rfl 13 (by decide) hf_38 (fun _ h9 => h9) rfl d_M_count_29 ?_
        refine lv_iload_n hx hb d_M_count_32 rfl (lv_at hl 3 rfl) ?_
        obtain ⟨h_6, hw⟩ := hw
        refine va_zald hx hb hK hP 1 1 rfl rfl h_6 d_M_count_33 ?_
        refine lv_if_eq (tgt := 43) hx hb d_M_count_34 (by decide) (fun c_7 => ?_) (fun c_7 => ?_)
        · have hw := hw.1 c_7
          refine lv_iload_n hx hb d_M_count_43 rfl (lv_at hl 2 rfl) ?_
          refine lv_istore_n (lv' := [(2, .int x2), (0, .ref aM), (1, .int x1), (3, .int x3)]) hx hb d_M_count_44 rfl hl (by decide) rfl (fun ls hl => ?_)
          refine lv_iinc (v := x3 + 1) (lv' := [(3, .int (x3 + 1)), (2, .int x2), (0, .ref aM), (1, .int x1)]) hx hb d_M_count_45 hl (k := 3) rfl rfl (by decide) rfl (fun ls hl => ?_)
          refine lv_goto (tgt := 21) hx hb d_M_count_48 (by decide) ?_
          exact ih x2 (x3 + 1) hw _ _ (hP.sub [0, 1] rfl) (hD.sub [0, 1] (by decide) rfl) hS ls (lv_sub hl [2, 3, 1, 0] rfl)
        · have hw := hw.2 c_7
          refine lv_iload_n hx hb d_M_count_37 rfl (lv_at hl 2 rfl) ?_
          refine lv_iconst (v := 1) hx hb d_M_count_38 (by decide) ?_
          refine lv_iadd hx hb d_M_count_39 ?_
          refine lv_goto (tgt := 44) hx hb d_M_count_40 (by decide) ?_
          refine lv_istore_n (lv' := [(2, .int (x2 + (1 : Int32))), (0, .ref aM), (1, .int x1), (3, .int x3)]) hx hb d_M_count_44 rfl hl (by decide) rfl (fun ls hl => ?_)
          refine lv_iinc (v := x3 + 1) (lv' := [(3, .int (x3 + 1)), (2, .int (x2 + (1 : Int32))), (0, .ref aM), (1, .int x1)]) hx hb d_M_count_45 hl (k := 3) rfl rfl (by decide) rfl (fun ls hl => ?_)
          refine lv_goto (tgt := 21) hx hb d_M_count_48 (by decide) ?_
          exact ih (x2 + (1 : Int32)) (x3 + 1) hw _ _ (hP.sub [0, 1] rfl) (hD.sub [0, 1] (by decide) rfl) hS ls (lv_sub hl [2, 3, 1, 0] rfl)
  unfold wp_M_count at hw
  refine lv_aload_n hx hb d_M_count_0 rfl (lv_at hl 0 rfl) ?_
  refine lv_iload_n hx hb d_M_count_1 rfl (lv_at hl 1 rfl) ?_
  refine lv_iconst (v := 0) hx hb d_M_count_2 (by decide) ?_
  refine lv_iconst (v := 4) hx hb d_M_count_3 (by decide) ?_
  have hPc := hP.sub (ws' := []) [] rfl
  refine vp_callSi (W.runS (As := [.int x1, .int (0 : Int32), .int (4 : Int32)]) (rest := [.ref aM]) ⟨hx, hb, hml, hown, hts⟩ (mt_M_within l dC dI cI _ x1 (0 : Int32) (4 : Int32) hw) (va_cwS 3 hts (gdS m_725 m_726 m_6 m_727) rfl rfl rfl (by decide +kernel) ⟨Nat.le_of_ble_eq_true rfl, Nat.le_of_ble_eq_true rfl⟩) ⟨fb_r, fun U hU hW => ⟨rfl, by rw [hU]; exact hPc, va_K.moved hW.alike (hK.sub (tys' := [(cI, .int)]) [0] rfl), hE.warm hW⟩⟩ rfl rfl hl.1 rfl (lv_room (Nat.le_of_ble_eq_true rfl)) d_M_count_4 ⟨Nat.le_of_ble_eq_true rfl, Nat.le_of_ble_eq_true rfl⟩) (fun r_8 hw => ?_)
  refine lv_iconst (v := 1) hx hb d_M_count_7 (by decide) ?_
  refine lv_iconst (v := 1) hx hb d_M_count_8 (by decide) ?_
  have hPc := hP.sub (ws' := [(aM, .inr (5, [.int M_thrown, .int M_padded, .ref aM_pad, .int M_sources, .ref aM_kinds, .ref aM_days, .ref aM_withdrawn, .ref aM_lengths, .ref aM_texts, .ref aM_formLengths, .ref aM_forms, .int M_claims, .ref aM_onSource, .ref aM_onClaim, .ref aM_rules, .int M_rings, .ref aM_ring, .ref aM_far, .ref aM_held, .ref aM_heldBefore, .int M_opinions, .ref aM_persons, .ref aM_ofClaims, .ref aM_values, .ref aM_when, .ref aM_ranks, .ref aM_known, .ref aM_counts]))]) [0] rfl
  have hDc := hD.sub (ws' := [(aM, .inr (5, [.int M_thrown, .int M_padded, .ref aM_pad, .int M_sources, .ref aM_kinds, .ref aM_days, .ref aM_withdrawn, .ref aM_lengths, .ref aM_texts, .ref aM_formLengths, .ref aM_forms, .int M_claims, .ref aM_onSource, .ref aM_onClaim, .ref aM_rules, .int M_rings, .ref aM_ring, .ref aM_far, .ref aM_held, .ref aM_heldBefore, .int M_opinions, .ref aM_persons, .ref aM_ofClaims, .ref aM_values, .ref aM_when, .ref aM_ranks, .ref aM_known, .ref aM_counts]))]) [0] (by decide) rfl
  have hFc := va_free (wc := [(aM, .inr (5, [.int M_thrown, .int M_padded, .ref aM_pad, .int M_sources, .ref aM_kinds, .ref aM_days, .ref aM_withdrawn, .ref aM_lengths, .ref aM_texts, .ref aM_formLengths, .ref aM_forms, .int M_claims, .ref aM_onSource, .ref aM_onClaim, .ref aM_rules, .int M_rings, .ref aM_ring, .ref aM_far, .ref aM_held, .ref aM_heldBefore, .int M_opinions, .ref aM_persons, .ref aM_ofClaims, .ref aM_values, .ref aM_when, .ref aM_ranks, .ref aM_known, .ref aM_counts]))]) hD hS hA [0] rfl
  refine va_calli (va_runV (As := [.int r_8, .int (1 : Int32), .int (1 : Int32)]) (rest := []) ⟨hx, hb, hml, hown, hts⟩ (mt_M_goes l dC dI cI cZ aM aM_pad aM_kinds aM_days aM_withdrawn aM_lengths aM_texts aM_formLengths aM_forms aM_onSource aM_onClaim aM_rules aM_ring aM_far aM_held aM_heldBefore aM_persons aM_ofClaims aM_values aM_when aM_ranks aM_known aM_counts s.heap.size _ M_thrown M_padded M_sources M_claims M_rings M_opinions r_8 (1 : Int32) (1 : Int32) hw) (cwV 3 hts (gdV m_728 m_730 ms_18 m_6 m_731) rfl rfl rfl (by decide +kernel) ⟨Nat.le_of_ble_eq_true rfl, Nat.le_of_ble_eq_true rfl⟩) ⟨fb_w, va_recv hK hPc (ci := 5) (q0 := 0) rfl rfl, fun U hU hW => ⟨rfl, by rw [hU], by rw [hU]; exact hPc, va_K.moved hW.alike hK, hDc.weaken (fun _ _ _ _ => trivial), hE.warm hW⟩⟩ rfl rfl hl.1 rfl (lv_room (Nat.le_of_ble_eq_true rfl)) d_M_count_9 ⟨Nat.le_of_ble_eq_true rfl, Nat.le_of_ble_eq_true rfl⟩) hS (fun q _ h => hFc q h) hFc (fun r_9 u t H1 locs ht hvm hw hB hz1 hk1 hS => ?_)
  obtain ⟨u_10, rfl⟩ : ∃ z, z = u := ⟨_, rfl⟩
  obtain ⟨hP1, hD1⟩ := hB
  rw [ht] at hP1
  try dsimp only at hw hP1 hD1
  obtain ⟨hP, hD⟩ := va_join (wr := [(aM_onClaim, .inl (cZ, 576, .inl M_onClaim))]) (w1 := [(aM, .inr (5, [.int u_10, .int M_padded, .ref aM_pad, .int M_sources, .ref aM_kinds, .ref aM_days, .ref aM_withdrawn, .ref aM_lengths, .ref aM_texts, .ref aM_formLengths, .ref aM_forms, .int M_claims, .ref aM_onSource, .ref aM_onClaim, .ref aM_rules, .int M_rings, .ref aM_ring, .ref aM_far, .ref aM_held, .ref aM_heldBefore, .int M_opinions, .ref aM_persons, .ref aM_ofClaims, .ref aM_values, .ref aM_when, .ref aM_ranks, .ref aM_known, .ref aM_counts]))]) hP hD [0] [1] rfl rfl (by decide) (by decide) hk1 hFc hP1 hD1
  generalize H1 = H at hP hS ⊢
  have hP : va_P (dC, dI) vwCl [(aM_onClaim, .inl (cZ, 576, .inl M_onClaim)), (aM, .inr (5, [.int u_10, .int M_padded, .ref aM_pad, .int M_sources, .ref aM_kinds, .ref aM_days, .ref aM_withdrawn, .ref aM_lengths, .ref aM_texts, .ref aM_formLengths, .ref aM_forms, .int M_claims, .ref aM_onSource, .ref aM_onClaim, .ref aM_rules, .int M_rings, .ref aM_ring, .ref aM_far, .ref aM_held, .ref aM_heldBefore, .int M_opinions, .ref aM_persons, .ref aM_ofClaims, .ref aM_values, .ref aM_when, .ref aM_ranks, .ref aM_known, .ref aM_counts]))] H := hP
  have hD : va_D A [(aM_onClaim, .inl (cZ, 576, .inl M_onClaim)), (aM, .inr (5, [.int u_10, .int M_padded, .ref aM_pad, .int M_sources, .ref aM_kinds, .ref aM_days, .ref aM_withdrawn, .ref aM_lengths, .ref aM_texts, .ref aM_formLengths, .ref aM_forms, .int M_claims, .ref aM_onSource, .ref aM_onClaim, .ref aM_rules, .int M_rings, .ref aM_ring, .ref aM_far, .ref aM_held, .ref aM_heldBefore, .int M_opinions, .ref aM_persons, .ref aM_ofClaims, .ref aM_values, .ref aM_when, .ref aM_ranks, .ref aM_known, .ref aM_counts]))] := hD
  refine lv_if_ne (tgt := 17) hx hb d_M_count_12 (by decide) (fun c_11 => ?_) (fun c_11 => ?_)
  · have hw := hw.2 c_11
    refine lv_iconst (v := 0) hx hb d_M_count_17 (by decide) ?_
    refine lv_istore_n (lv' := [(2, .int (0 : Int32)), (0, .ref aM), (1, .int x1)]) hx hb d_M_count_18 rfl hl (by decide) rfl (fun ls hl => ?_)
    refine lv_iconst (v := 0) hx hb d_M_count_19 (by decide) ?_
    refine lv_istore_n (lv' := [(3, .int (0 : Int32)), (2, .int (0 : Int32)), (0, .ref aM), (1, .int x1)]) hx hb d_M_count_20 rfl hl (by decide) rfl (fun ls hl => ?_)
    obtain ⟨n_12, hw⟩ := hw
    exact L21 u_10 x1 n_12 (0 : Int32) (0 : Int32) hw _ _ (hP.sub [1, 0] rfl) (hD.sub [1, 0] (by decide) rfl) hS ls (lv_sub hl [2, 3, 1, 0] rfl)
  · have hw := hw.1 c_11
    refine lv_iconst (v := 0) hx hb d_M_count_15 (by decide) ?_
    subst hQ0
    have hP9 := hP.sub (ws' := [(aM, .inr (5, [.int u_10, .int M_padded, .ref aM_pad, .int M_sources, .ref aM_kinds, .ref aM_days, .ref aM_withdrawn, .ref aM_lengths, .ref aM_texts, .ref aM_formLengths, .ref aM_forms, .int M_claims, .ref aM_onSource, .ref aM_onClaim, .ref aM_rules, .int M_rings, .ref aM_ring, .ref aM_far, .ref aM_held, .ref aM_heldBefore, .int M_opinions, .ref aM_persons, .ref aM_ofClaims, .ref aM_values, .ref aM_when, .ref aM_ranks, .ref aM_known, .ref aM_counts])), (aM_onClaim, .inl (cZ, 576, .inl M_onClaim))]) [1, 0] rfl
    have hD9 := hD.sub (ws' := [(aM, .inr (5, [.int u_10, .int M_padded, .ref aM_pad, .int M_sources, .ref aM_kinds, .ref aM_days, .ref aM_withdrawn, .ref aM_lengths, .ref aM_texts, .ref aM_formLengths, .ref aM_forms, .int M_claims, .ref aM_onSource, .ref aM_onClaim, .ref aM_rules, .int M_rings, .ref aM_ring, .ref aM_far, .ref aM_held, .ref aM_heldBefore, .int M_opinions, .ref aM_persons, .ref aM_ofClaims, .ref aM_values, .ref aM_when, .ref aM_ranks, .ref aM_known, .ref aM_counts])), (aM_onClaim, .inl (cZ, 576, .inl M_onClaim))]) [1, 0] (by decide) rfl
    exact W.iret (v := (0 : Int32)) hx hb hr (fun t ht hW => ⟨⟨_, (u_10), rfl, hw, by rw [ht]; exact hP9, hD9⟩, hS.F ht⟩) hS.2.2 d_M_count_16
