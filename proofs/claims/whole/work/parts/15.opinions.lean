def wl_O_find_3 (O_persons : Nat → Int32) (O_claimNumbers : Nat → Int32) (O_days : Nat → Int32) (O_made : Int32) (x1 : Int32) (x2 : Int32) (x3 : Int32) (post : Int32 → Prop) : Nat → Int32 → Prop
  | 0, _ => False
  | n + 1, x4 => ((O_made ≤ x4 → (post (-1 : Int32))) ∧ (¬ (O_made ≤ x4) → (vp_in x4 300 ∧ (((O_persons x4.toNatClampNeg) = x1 → (vp_in x4 300 ∧ (((O_claimNumbers x4.toNatClampNeg) = x2 → (vp_in x4 300 ∧ (((O_days x4.toNatClampNeg) = x3 → (post x4)) ∧ (¬ ((O_days x4.toNatClampNeg) = x3) → wl_O_find_3 O_persons O_claimNumbers O_days O_made x1 x2 x3 post n (x4 + 1))))) ∧ (¬ ((O_claimNumbers x4.toNatClampNeg) = x2) → wl_O_find_3 O_persons O_claimNumbers O_days O_made x1 x2 x3 post n (x4 + 1))))) ∧ (¬ ((O_persons x4.toNatClampNeg) = x1) → wl_O_find_3 O_persons O_claimNumbers O_days O_made x1 x2 x3 post n (x4 + 1))))))
def wp_O_find (O_persons : Nat → Int32) (O_claimNumbers : Nat → Int32) (O_days : Nat → Int32) (O_values : Nat → Int32) (O_ranks : Nat → Int32) (O_known : Nat → Int32) (O_tally : Nat → Int32) (O_made : Int32) (x1 : Int32) (x2 : Int32) (x3 : Int32) (post : Int32 → Prop) : Prop := (∃ n9, wl_O_find_3 O_persons O_claimNumbers O_days O_made x1 x2 x3 post n9 (0 : Int32))
set_option maxHeartbeats 4000000 in
set_option maxRecDepth 100000 in
theorem mt_O_find (l : Launch) (dC : Nat → ClassId) (dI : Nat → Nat → Nat) (cI : ClassId) (aO : Nat) (aO_persons : Nat) (aO_claimNumbers : Nat) (aO_days : Nat) (aO_values : Nat) (aO_ranks : Nat) (aO_known : Nat) (aO_tally : Nat) (post : Int32 → Prop) (O_persons : Nat → Int32) (O_claimNumbers : Nat → Int32) (O_days : Nat → Int32) (O_values : Nat → Int32) (O_ranks : Nat → Int32) (O_known : Nat → Int32) (O_tally : Nat → Int32) (O_made : Int32) (x1 : Int32) (x2 : Int32) (x3 : Int32) (hw : wp_O_find O_persons O_claimNumbers O_days O_values O_ranks O_known O_tally O_made x1 x2 x3 post) : Met l y_O_find w_O_find ({ frames := 0, cells := 0, slots := 0, locals := 0 }) (va_Pc [.ref aO, .int x1, .int x2, .int x3] (fun U => va_P (dC, dI) vwCl [(aO, .inr (1, [.ref aO_persons, .ref aO_claimNumbers, .ref aO_days, .ref aO_values, .ref aO_ranks, .ref aO_known, .ref aO_tally, .int O_made])), (aO_persons, .inl (cI, 300, .inl O_persons)), (aO_claimNumbers, .inl (cI, 300, .inl O_claimNumbers)), (aO_days, .inl (cI, 300, .inl O_days)), (aO_values, .inl (cI, 300, .inl O_values)), (aO_ranks, .inl (cI, 300, .inl O_ranks)), (aO_known, .inl (cI, 32, .inl O_known)), (aO_tally, .inl (cI, 100, .inl O_tally))] U.heap ∧ va_K (dC, dI) vwCl [(cI, .int)] U ∧ en_ok U)) (vp_Si post) 0 0 (fun _ => False) := by
  refine Met.ofW (cc := prog_3_method_3_code) (maxL := 5) (ret := (some .int)) (by decide) rfl ?_
  intro p e s m args below meth c s₁ B hml hv
  obtain ⟨rfl, hP, hK, hE⟩ := hv
  have hx := B.exec
  have hb := B.bytes
  have hr := B.returns
  have hts := atoms_spec (ws := w_O_find) B.pre
  have hown : s.vm.findClass "ClaimSources$Opinions" = some m.cls := findClass_of_methodNamed B.named
  have hlocks := B.notSynchronized
  have hl := lv_entry ([.ref aO, .int x1, .int x2, .int x3]) (n := 5) (Nat.le_of_ble_eq_true rfl)
  rw [lg_entry_eq]
  generalize (lg_sl ([.ref aO, .int x1, .int x2, .int x3]) ++ List.replicate (5 - (lg_sl ([.ref aO, .int x1, .int x2, .int x3])).length) Slot.unset).toArray = ls at hl ⊢
  have hl : lv_has ls 5 [(0, .ref aO), (1, .int x1), (2, .int x2), (3, .int x3)] := hl
  obtain ⟨Q0, hQ0⟩ : ∃ Q0, Q0 = MQ below (vp_Si post) ([.ref aO, .int x1, .int x2, .int x3]).toArray s 0 0 (fun _ => False) := ⟨_, rfl⟩
  rw [← hQ0]
  clear B
  generalize hag : ([.ref aO, .int x1, .int x2, .int x3] : List Value).toArray = args at hts hQ0 ⊢
  have hi_1 : ∀ w ∈ u_ws "ClaimSources$Opinions" TT_1 8, w ∈ w_O_find := fun w h => List.mem_cons_of_mem _ (ia_1 w h)
  have hf_33 := hts _ (List.mem_cons_of_mem _ m_99)
  have hf_9 := hts _ (List.mem_cons_of_mem _ m_92)
  have hf_15 := hts _ (List.mem_cons_of_mem _ m_93)
  have hf_18 := hts _ (List.mem_cons_of_mem _ m_94)
  have L3 : ∀ (x1 : Int32) (x2 : Int32) (x3 : Int32) (n : Nat) (x4 : Int32), wl_O_find_3 O_persons O_claimNumbers O_days O_made x1 x2 x3 post n x4 → ∀ (ls : Array Slot), lv_has ls 5 [(0, .ref aO), (1, .int x1), (2, .int x2), (3, .int x3), (4, .int x4)] → W p l e (headSpec w_O_find ({ frames := 0, cells := 0, slots := 0, locals := 0 })).room s m args below meth c s.heap [] 0 0 Q0 (F0 m 3 ls []) := by
    intro x1 x2 x3
    intro n
    induction n with
    | zero =>
      intro x4 hw
      exact False.elim hw
    | succ n ih =>
      intro x4 hw ls hl
      unfold wl_O_find_3 at hw
      refine lv_iload hx hb d_O_find_3 (lv_at hl 4 rfl) ?_
      refine lv_aload_n hx hb d_O_find_5 rfl (lv_at hl 0 rfl) ?_
      refine va_get (D := (dC, dI)) (ci := 1) (v := .int O_made) (C := "ClaimSources$Opinions") (T := TT_1) (N := 8) hx hb hts hi_1 hown hK hP 0 rfl rfl 7 (by decide) hf_33 (fun _ h9 => h9) rfl d_O_find_6 ?_
      refine lv_icmp_ge (tgt := 54) hx hb d_O_find_9 (by decide) (fun c_1 => ?_) (fun c_1 => ?_)
      · have hw := hw.1 c_1
        refine lv_iconst (v := -1) hx hb d_O_find_54 (by decide) ?_
        subst hQ0
        exact W.iret (v := (-1 : Int32)) hx hb hr (fun t ht hW => ⟨_, rfl, hw, ht⟩) (fun q h => by cases h) d_O_find_55
      · have hw := hw.2 c_1
        refine lv_aload_n hx hb d_O_find_12 rfl (lv_at hl 0 rfl) ?_
        refine va_get (D := (dC, dI)) (ci := 1) (v := .ref aO_persons) (C := "ClaimSources$Opinions") (T := TT_1) (N := 8) hx hb hts hi_1 hown hK hP 0 rfl rfl 0 (by decide) hf_9 (fun _ h9 => h9) rfl d_O_find_13 ?_
        refine lv_iload hx hb d_O_find_16 (lv_at hl 4 rfl) ?_
        obtain ⟨h_2, hw⟩ := hw
        refine va_iald hx hb hK hP 1 0 rfl rfl h_2 d_O_find_18 ?_
        refine lv_iload_n hx hb d_O_find_19 rfl (lv_at hl 1 rfl) ?_
        refine lv_icmp_ne (tgt := 48) hx hb d_O_find_20 (by decide) (fun c_3 => ?_) (fun c_3 => ?_)
        · have hw := hw.2 c_3
          refine lv_iinc (v := x4 + 1) (lv' := [(4, .int (x4 + 1)), (0, .ref aO), (1, .int x1), (2, .int x2), (3, .int x3)]) hx hb d_O_find_48 hl (k := 4) rfl rfl (by decide) rfl (fun ls hl => ?_)
          refine lv_goto (tgt := 3) hx hb d_O_find_51 (by decide) ?_
          exact ih (x4 + 1) hw ls (lv_sub hl [1, 2, 3, 4, 0] rfl)
        · have hw := hw.1 c_3
          refine lv_aload_n hx hb d_O_find_23 rfl (lv_at hl 0 rfl) ?_
          refine va_get (D := (dC, dI)) (ci := 1) (v := .ref aO_claimNumbers) (C := "ClaimSources$Opinions") (T := TT_1) (N := 8) hx hb hts hi_1 hown hK hP 0 rfl rfl 1 (by decide) hf_15 (fun _ h9 => h9) rfl d_O_find_24 ?_
          refine lv_iload hx hb d_O_find_27 (lv_at hl 4 rfl) ?_
          obtain ⟨h_4, hw⟩ := hw
          refine va_iald hx hb hK hP 2 0 rfl rfl h_4 d_O_find_29 ?_
          refine lv_iload_n hx hb d_O_find_30 rfl (lv_at hl 2 rfl) ?_
          refine lv_icmp_ne (tgt := 48) hx hb d_O_find_31 (by decide) (fun c_5 => ?_) (fun c_5 => ?_)
          · have hw := hw.2 c_5
            refine lv_iinc (v := x4 + 1) (lv' := [(4, .int (x4 + 1)), (0, .ref aO), (1, .int x1), (2, .int x2), (3, .int x3)]) hx hb d_O_find_48 hl (k := 4) rfl rfl (by decide) rfl (fun ls hl => ?_)
            refine lv_goto (tgt := 3) hx hb d_O_find_51 (by decide) ?_
            exact ih (x4 + 1) hw ls (lv_sub hl [1, 2, 3, 4, 0] rfl)
          · have hw := hw.1 c_5
            refine lv_aload_n hx hb d_O_find_34 rfl (lv_at hl 0 rfl) ?_
            refine va_get (D := (dC, dI)) (ci := 1) (v := .ref aO_days) (C := "ClaimSources$Opinions") (T := TT_1) (N := 8) hx hb hts hi_1 hown hK hP 0 rfl rfl 2 (by decide) hf_18 (fun _ h9 => h9) rfl d_O_find_35 ?_
            refine lv_iload hx hb d_O_find_38 (lv_at hl 4 rfl) ?_
            obtain ⟨h_6, hw⟩ := hw
            refine va_iald hx hb hK hP 3 0 rfl rfl h_6 d_O_find_40 ?_
            refine lv_iload_n hx hb d_O_find_41 rfl (lv_at hl 3 rfl) ?_
            refine lv_icmp_ne (tgt := 48) hx hb d_O_find_42 (by decide) (fun c_7 => ?_) (fun c_7 => ?_)
            · have hw := hw.2 c_7
              refine lv_iinc (v := x4 + 1) (lv' := [(4, .int (x4 + 1)), (0, .ref aO), (1, .int x1), (2, .int x2), (3, .int x3)]) hx hb d_O_find_48 hl (k := 4) rfl rfl (by decide) rfl (fun ls hl => ?_)
              refine lv_goto (tgt := 3) hx hb d_O_find_51 (by decide) ?_
              exact ih (x4 + 1) hw ls (lv_sub hl [1, 2, 3, 4, 0] rfl)
            · have hw := hw.1 c_7
              refine lv_iload hx hb d_O_find_45 (lv_at hl 4 rfl) ?_
              subst hQ0
              exact W.iret (v := x4) hx hb hr (fun t ht hW => ⟨_, rfl, hw, ht⟩) (fun q h => by cases h) d_O_find_47
  unfold wp_O_find at hw
  refine lv_iconst (v := 0) hx hb d_O_find_0 (by decide) ?_
  refine lv_istore (lv' := [(4, .int (0 : Int32)), (0, .ref aO), (1, .int x1), (2, .int x2), (3, .int x3)]) hx hb d_O_find_1 hl (by decide) rfl (fun ls hl => ?_)
  obtain ⟨n_8, hw⟩ := hw
  exact L3 x1 x2 x3 n_8 (0 : Int32) hw ls (lv_sub hl [1, 2, 3, 4, 0] rfl)
def wp_O_made (O_persons : Nat → Int32) (O_claimNumbers : Nat → Int32) (O_days : Nat → Int32) (O_values : Nat → Int32) (O_ranks : Nat → Int32) (O_known : Nat → Int32) (O_tally : Nat → Int32) (O_made : Int32) (post : Int32 → Prop) : Prop := (post O_made)
set_option maxHeartbeats 4000000 in
set_option maxRecDepth 100000 in
theorem mt_O_made (l : Launch) (dC : Nat → ClassId) (dI : Nat → Nat → Nat) (cI : ClassId) (aO : Nat) (aO_persons : Nat) (aO_claimNumbers : Nat) (aO_days : Nat) (aO_values : Nat) (aO_ranks : Nat) (aO_known : Nat) (aO_tally : Nat) (post : Int32 → Prop) (O_persons : Nat → Int32) (O_claimNumbers : Nat → Int32) (O_days : Nat → Int32) (O_values : Nat → Int32) (O_ranks : Nat → Int32) (O_known : Nat → Int32) (O_tally : Nat → Int32) (O_made : Int32) (hw : wp_O_made O_persons O_claimNumbers O_days O_values O_ranks O_known O_tally O_made post) : Met l y_O_made w_O_made ({ frames := 0, cells := 0, slots := 0, locals := 0 }) (va_Pc [.ref aO] (fun U => va_P (dC, dI) vwCl [(aO, .inr (1, [.ref aO_persons, .ref aO_claimNumbers, .ref aO_days, .ref aO_values, .ref aO_ranks, .ref aO_known, .ref aO_tally, .int O_made])), (aO_persons, .inl (cI, 300, .inl O_persons)), (aO_claimNumbers, .inl (cI, 300, .inl O_claimNumbers)), (aO_days, .inl (cI, 300, .inl O_days)), (aO_values, .inl (cI, 300, .inl O_values)), (aO_ranks, .inl (cI, 300, .inl O_ranks)), (aO_known, .inl (cI, 32, .inl O_known)), (aO_tally, .inl (cI, 100, .inl O_tally))] U.heap ∧ va_K (dC, dI) vwCl [(cI, .int)] U ∧ en_ok U)) (vp_Si post) 0 0 (fun _ => False) := by
  refine Met.ofW (cc := prog_3_method_2_code) (maxL := 1) (ret := (some .int)) (by decide) rfl ?_
  intro p e s m args below meth c s₁ B hml hv
  obtain ⟨rfl, hP, hK, hE⟩ := hv
  have hx := B.exec
  have hb := B.bytes
  have hr := B.returns
  have hts := atoms_spec (ws := w_O_made) B.pre
  have hown : s.vm.findClass "ClaimSources$Opinions" = some m.cls := findClass_of_methodNamed B.named
  have hlocks := B.notSynchronized
  have hl := lv_entry ([.ref aO]) (n := 1) (Nat.le_of_ble_eq_true rfl)
  rw [lg_entry_eq]
  generalize (lg_sl ([.ref aO]) ++ List.replicate (1 - (lg_sl ([.ref aO])).length) Slot.unset).toArray = ls at hl ⊢
  have hl : lv_has ls 1 [(0, .ref aO)] := hl
  obtain ⟨Q0, hQ0⟩ : ∃ Q0, Q0 = MQ below (vp_Si post) ([.ref aO]).toArray s 0 0 (fun _ => False) := ⟨_, rfl⟩
  rw [← hQ0]
  clear B
  generalize hag : ([.ref aO] : List Value).toArray = args at hts hQ0 ⊢
  have hi_1 : ∀ w ∈ u_ws "ClaimSources$Opinions" TT_1 8, w ∈ w_O_made := fun w h => List.mem_cons_of_mem _ (ia_1 w h)
  have hf_33 := hts _ (List.mem_cons_of_mem _ m_99)
  unfold wp_O_made at hw
  refine lv_aload_n hx hb d_O_made_0 rfl (lv_at hl 0 rfl) ?_
  refine va_get (D := (dC, dI)) (ci := 1) (v := .int O_made) (C := "ClaimSources$Opinions") (T := TT_1) (N := 8) hx hb hts hi_1 hown hK hP 0 rfl rfl 7 (by decide) hf_33 (fun _ h9 => h9) rfl d_O_made_1 ?_
  subst hQ0
  exact W.iret (v := O_made) hx hb hr (fun t ht hW => ⟨_, rfl, hw, ht⟩) (fun q h => by cases h) d_O_made_4
def wp_O_add (O_persons : Nat → Int32) (O_claimNumbers : Nat → Int32) (O_days : Nat → Int32) (O_values : Nat → Int32) (O_ranks : Nat → Int32) (O_known : Nat → Int32) (O_tally : Nat → Int32) (O_made : Int32) (x1 : Int32) (x2 : Int32) (x3 : Int32) (post : Int32 → (Nat → Int32) → (Nat → Int32) → (Nat → Int32) → Int32 → Prop) : Prop := (vp_in O_made 300 ∧ (vp_in O_made 300 ∧ (vp_in O_made 300 ∧ (post O_made (upd O_persons O_made.toNatClampNeg x1) (upd O_claimNumbers O_made.toNatClampNeg x2) (upd O_days O_made.toNatClampNeg x3) (O_made + (1 : Int32))))))
set_option maxHeartbeats 4000000 in
set_option maxRecDepth 100000 in
theorem mt_O_add (l : Launch) (dC : Nat → ClassId) (dI : Nat → Nat → Nat) (cI : ClassId) (aO : Nat) (aO_persons : Nat) (aO_claimNumbers : Nat) (aO_days : Nat) (aO_values : Nat) (aO_ranks : Nat) (aO_known : Nat) (aO_tally : Nat) (sz : Nat) (post : Int32 → (Nat → Int32) → (Nat → Int32) → (Nat → Int32) → Int32 → Prop) (O_persons : Nat → Int32) (O_claimNumbers : Nat → Int32) (O_days : Nat → Int32) (O_values : Nat → Int32) (O_ranks : Nat → Int32) (O_known : Nat → Int32) (O_tally : Nat → Int32) (O_made : Int32) (x1 : Int32) (x2 : Int32) (x3 : Int32) (hw : wp_O_add O_persons O_claimNumbers O_days O_values O_ranks O_known O_tally O_made x1 x2 x3 post) : Met l y_O_add w_O_add ({ frames := 0, cells := 0, slots := 0, locals := 0 }) (va_Pc [.ref aO, .int x1, .int x2, .int x3] (fun U => U.heap.size = sz ∧ va_P (dC, dI) vwCl [(aO, .inr (1, [.ref aO_persons, .ref aO_claimNumbers, .ref aO_days, .ref aO_values, .ref aO_ranks, .ref aO_known, .ref aO_tally, .int O_made])), (aO_persons, .inl (cI, 300, .inl O_persons)), (aO_claimNumbers, .inl (cI, 300, .inl O_claimNumbers)), (aO_days, .inl (cI, 300, .inl O_days)), (aO_values, .inl (cI, 300, .inl O_values)), (aO_ranks, .inl (cI, 300, .inl O_ranks)), (aO_known, .inl (cI, 32, .inl O_known)), (aO_tally, .inl (cI, 100, .inl O_tally))] U.heap ∧ va_K (dC, dI) vwCl [(cI, .int)] U ∧ va_D (fun _ => True) [(aO, .inr (1, [.ref aO_persons, .ref aO_claimNumbers, .ref aO_days, .ref aO_values, .ref aO_ranks, .ref aO_known, .ref aO_tally, .int O_made])), (aO_persons, .inl (cI, 300, .inl O_persons)), (aO_claimNumbers, .inl (cI, 300, .inl O_claimNumbers)), (aO_days, .inl (cI, 300, .inl O_days)), (aO_values, .inl (cI, 300, .inl O_values)), (aO_ranks, .inl (cI, 300, .inl O_ranks)), (aO_known, .inl (cI, 32, .inl O_known)), (aO_tally, .inl (cI, 100, .inl O_tally))] ∧ en_ok U)) (va_Qi (fun r (u : (Nat → Int32) × (Nat → Int32) × (Nat → Int32) × (Int32)) => post r u.1 u.2.1 u.2.2.1 u.2.2.2) (fun (u : (Nat → Int32) × (Nat → Int32) × (Nat → Int32) × (Int32)) t => va_P (dC, dI) vwCl [(aO, .inr (1, [.ref aO_persons, .ref aO_claimNumbers, .ref aO_days, .ref aO_values, .ref aO_ranks, .ref aO_known, .ref aO_tally, .int u.2.2.2])), (aO_persons, .inl (cI, 300, .inl u.1)), (aO_claimNumbers, .inl (cI, 300, .inl u.2.1)), (aO_days, .inl (cI, 300, .inl u.2.2.1)), (aO_values, .inl (cI, 300, .inl O_values)), (aO_ranks, .inl (cI, 300, .inl O_ranks)), (aO_known, .inl (cI, 32, .inl O_known)), (aO_tally, .inl (cI, 100, .inl O_tally))] t.heap ∧ va_D (va_A [(aO, .inr (1, [.ref aO_persons, .ref aO_claimNumbers, .ref aO_days, .ref aO_values, .ref aO_ranks, .ref aO_known, .ref aO_tally, .int O_made])), (aO_persons, .inl (cI, 300, .inl O_persons)), (aO_claimNumbers, .inl (cI, 300, .inl O_claimNumbers)), (aO_days, .inl (cI, 300, .inl O_days)), (aO_values, .inl (cI, 300, .inl O_values)), (aO_ranks, .inl (cI, 300, .inl O_ranks)), (aO_known, .inl (cI, 32, .inl O_known)), (aO_tally, .inl (cI, 100, .inl O_tally))] sz) [(aO, .inr (1, [.ref aO_persons, .ref aO_claimNumbers, .ref aO_days, .ref aO_values, .ref aO_ranks, .ref aO_known, .ref aO_tally, .int u.2.2.2])), (aO_persons, .inl (cI, 300, .inl u.1)), (aO_claimNumbers, .inl (cI, 300, .inl u.2.1)), (aO_days, .inl (cI, 300, .inl u.2.2.1)), (aO_values, .inl (cI, 300, .inl O_values)), (aO_ranks, .inl (cI, 300, .inl O_ranks)), (aO_known, .inl (cI, 32, .inl O_known)), (aO_tally, .inl (cI, 100, .inl O_tally))]) (va_A [(aO, .inr (1, [.ref aO_persons, .ref aO_claimNumbers, .ref aO_days, .ref aO_values, .ref aO_ranks, .ref aO_known, .ref aO_tally, .int O_made])), (aO_persons, .inl (cI, 300, .inl O_persons)), (aO_claimNumbers, .inl (cI, 300, .inl O_claimNumbers)), (aO_days, .inl (cI, 300, .inl O_days)), (aO_values, .inl (cI, 300, .inl O_values)), (aO_ranks, .inl (cI, 300, .inl O_ranks)), (aO_known, .inl (cI, 32, .inl O_known)), (aO_tally, .inl (cI, 100, .inl O_tally))] sz)) 0 0 (va_A [(aO, .inr (1, [.ref aO_persons, .ref aO_claimNumbers, .ref aO_days, .ref aO_values, .ref aO_ranks, .ref aO_known, .ref aO_tally, .int O_made])), (aO_persons, .inl (cI, 300, .inl O_persons)), (aO_claimNumbers, .inl (cI, 300, .inl O_claimNumbers)), (aO_days, .inl (cI, 300, .inl O_days)), (aO_values, .inl (cI, 300, .inl O_values)), (aO_ranks, .inl (cI, 300, .inl O_ranks)), (aO_known, .inl (cI, 32, .inl O_known)), (aO_tally, .inl (cI, 100, .inl O_tally))] sz) := by
  refine Met.ofW (cc := prog_3_method_4_code) (maxL := 5) (ret := (some .int)) (by decide) rfl ?_
  intro p e s m args below meth c s₁ B hml hv
  obtain ⟨rfl, hsz, hP, hK, hD0, hE⟩ := hv
  have hx := B.exec
  have hb := B.bytes
  have hr := B.returns
  have hts := atoms_spec (ws := w_O_add) B.pre
  have hown : s.vm.findClass "ClaimSources$Opinions" = some m.cls := findClass_of_methodNamed B.named
  have hlocks := B.notSynchronized
  subst hsz
  have hD := hD0.self (sz := s.heap.size)
  generalize hAe : va_A [(aO, .inr (1, [.ref aO_persons, .ref aO_claimNumbers, .ref aO_days, .ref aO_values, .ref aO_ranks, .ref aO_known, .ref aO_tally, .int O_made])), (aO_persons, .inl (cI, 300, .inl O_persons)), (aO_claimNumbers, .inl (cI, 300, .inl O_claimNumbers)), (aO_days, .inl (cI, 300, .inl O_days)), (aO_values, .inl (cI, 300, .inl O_values)), (aO_ranks, .inl (cI, 300, .inl O_ranks)), (aO_known, .inl (cI, 32, .inl O_known)), (aO_tally, .inl (cI, 100, .inl O_tally))] s.heap.size = A at hD ⊢
  have hA : ∀ q : Nat, s.heap.size ≤ q → A q := fun q h => by rw [← hAe]; exact Or.inr h
  have hS : va_S A s.heap s.heap [] := va_S.rf
  have hl := lv_entry ([.ref aO, .int x1, .int x2, .int x3]) (n := 5) (Nat.le_of_ble_eq_true rfl)
  rw [lg_entry_eq]
  generalize (lg_sl ([.ref aO, .int x1, .int x2, .int x3]) ++ List.replicate (5 - (lg_sl ([.ref aO, .int x1, .int x2, .int x3])).length) Slot.unset).toArray = ls at hl ⊢
  have hl : lv_has ls 5 [(0, .ref aO), (1, .int x1), (2, .int x2), (3, .int x3)] := hl
  obtain ⟨Q0, hQ0⟩ : ∃ Q0, Q0 = MQ below (va_Qi (fun r (u : (Nat → Int32) × (Nat → Int32) × (Nat → Int32) × (Int32)) => post r u.1 u.2.1 u.2.2.1 u.2.2.2) (fun (u : (Nat → Int32) × (Nat → Int32) × (Nat → Int32) × (Int32)) t => va_P (dC, dI) vwCl [(aO, .inr (1, [.ref aO_persons, .ref aO_claimNumbers, .ref aO_days, .ref aO_values, .ref aO_ranks, .ref aO_known, .ref aO_tally, .int u.2.2.2])), (aO_persons, .inl (cI, 300, .inl u.1)), (aO_claimNumbers, .inl (cI, 300, .inl u.2.1)), (aO_days, .inl (cI, 300, .inl u.2.2.1)), (aO_values, .inl (cI, 300, .inl O_values)), (aO_ranks, .inl (cI, 300, .inl O_ranks)), (aO_known, .inl (cI, 32, .inl O_known)), (aO_tally, .inl (cI, 100, .inl O_tally))] t.heap ∧ va_D A [(aO, .inr (1, [.ref aO_persons, .ref aO_claimNumbers, .ref aO_days, .ref aO_values, .ref aO_ranks, .ref aO_known, .ref aO_tally, .int u.2.2.2])), (aO_persons, .inl (cI, 300, .inl u.1)), (aO_claimNumbers, .inl (cI, 300, .inl u.2.1)), (aO_days, .inl (cI, 300, .inl u.2.2.1)), (aO_values, .inl (cI, 300, .inl O_values)), (aO_ranks, .inl (cI, 300, .inl O_ranks)), (aO_known, .inl (cI, 32, .inl O_known)), (aO_tally, .inl (cI, 100, .inl O_tally))]) A) ([.ref aO, .int x1, .int x2, .int x3]).toArray s 0 0 A := ⟨_, rfl⟩
  rw [← hQ0]
  clear B
  generalize hag : ([.ref aO, .int x1, .int x2, .int x3] : List Value).toArray = args at hts hQ0 ⊢
  have hi_1 : ∀ w ∈ u_ws "ClaimSources$Opinions" TT_1 8, w ∈ w_O_add := fun w h => List.mem_cons_of_mem _ (ia_1 w h)
  have hf_33 := hts _ (List.mem_cons_of_mem _ m_99)
  have hf_9 := hts _ (List.mem_cons_of_mem _ m_92)
  have hf_15 := hts _ (List.mem_cons_of_mem _ m_93)
  have hf_18 := hts _ (List.mem_cons_of_mem _ m_94)
  unfold wp_O_add at hw
  refine lv_aload_n hx hb d_O_add_0 rfl (lv_at hl 0 rfl) ?_
  refine va_get (D := (dC, dI)) (ci := 1) (v := .int O_made) (C := "ClaimSources$Opinions") (T := TT_1) (N := 8) hx hb hts hi_1 hown hK hP 0 rfl rfl 7 (by decide) hf_33 (fun _ h9 => h9) rfl d_O_add_1 ?_
  refine lv_istore (lv' := [(4, .int O_made), (0, .ref aO), (1, .int x1), (2, .int x2), (3, .int x3)]) hx hb d_O_add_4 hl (by decide) rfl (fun ls hl => ?_)
  refine lv_aload_n hx hb d_O_add_6 rfl (lv_at hl 1 rfl) ?_
  refine va_get (D := (dC, dI)) (ci := 1) (v := .ref aO_persons) (C := "ClaimSources$Opinions") (T := TT_1) (N := 8) hx hb hts hi_1 hown hK hP 0 rfl rfl 0 (by decide) hf_9 (fun _ h9 => h9) rfl d_O_add_7 ?_
  refine lv_iload hx hb d_O_add_10 (lv_at hl 0 rfl) ?_
  refine lv_iload_n hx hb d_O_add_12 rfl (lv_at hl 2 rfl) ?_
  obtain ⟨h_1, hw⟩ := hw
  refine va_iast hx hb hK hP hD hS 1 0 rfl rfl h_1 d_O_add_13 (fun H locs hP hD hS => ?_)
  have hP : va_P (dC, dI) vwCl [(aO, .inr (1, [.ref aO_persons, .ref aO_claimNumbers, .ref aO_days, .ref aO_values, .ref aO_ranks, .ref aO_known, .ref aO_tally, .int O_made])), (aO_persons, .inl (cI, 300, .inl (upd O_persons O_made.toNatClampNeg x1))), (aO_claimNumbers, .inl (cI, 300, .inl O_claimNumbers)), (aO_days, .inl (cI, 300, .inl O_days)), (aO_values, .inl (cI, 300, .inl O_values)), (aO_ranks, .inl (cI, 300, .inl O_ranks)), (aO_known, .inl (cI, 32, .inl O_known)), (aO_tally, .inl (cI, 100, .inl O_tally))] H := hP
  have hD : va_D A [(aO, .inr (1, [.ref aO_persons, .ref aO_claimNumbers, .ref aO_days, .ref aO_values, .ref aO_ranks, .ref aO_known, .ref aO_tally, .int O_made])), (aO_persons, .inl (cI, 300, .inl (upd O_persons O_made.toNatClampNeg x1))), (aO_claimNumbers, .inl (cI, 300, .inl O_claimNumbers)), (aO_days, .inl (cI, 300, .inl O_days)), (aO_values, .inl (cI, 300, .inl O_values)), (aO_ranks, .inl (cI, 300, .inl O_ranks)), (aO_known, .inl (cI, 32, .inl O_known)), (aO_tally, .inl (cI, 100, .inl O_tally))] := hD
  refine lv_aload_n hx hb d_O_add_14 rfl (lv_at hl 1 rfl) ?_
  refine va_get (D := (dC, dI)) (ci := 1) (v := .ref aO_claimNumbers) (C := "ClaimSources$Opinions") (T := TT_1) (N := 8) hx hb hts hi_1 hown hK hP 0 rfl rfl 1 (by decide) hf_15 (fun _ h9 => h9) rfl d_O_add_15 ?_
  refine lv_iload hx hb d_O_add_18 (lv_at hl 0 rfl) ?_
  refine lv_iload_n hx hb d_O_add_20 rfl (lv_at hl 3 rfl) ?_
  obtain ⟨h_2, hw⟩ := hw
  refine va_iast hx hb hK hP hD hS 2 0 rfl rfl h_2 d_O_add_21 (fun H locs hP hD hS => ?_)
  have hP : va_P (dC, dI) vwCl [(aO, .inr (1, [.ref aO_persons, .ref aO_claimNumbers, .ref aO_days, .ref aO_values, .ref aO_ranks, .ref aO_known, .ref aO_tally, .int O_made])), (aO_persons, .inl (cI, 300, .inl (upd O_persons O_made.toNatClampNeg x1))), (aO_claimNumbers, .inl (cI, 300, .inl (upd O_claimNumbers O_made.toNatClampNeg x2))), (aO_days, .inl (cI, 300, .inl O_days)), (aO_values, .inl (cI, 300, .inl O_values)), (aO_ranks, .inl (cI, 300, .inl O_ranks)), (aO_known, .inl (cI, 32, .inl O_known)), (aO_tally, .inl (cI, 100, .inl O_tally))] H := hP
  have hD : va_D A [(aO, .inr (1, [.ref aO_persons, .ref aO_claimNumbers, .ref aO_days, .ref aO_values, .ref aO_ranks, .ref aO_known, .ref aO_tally, .int O_made])), (aO_persons, .inl (cI, 300, .inl (upd O_persons O_made.toNatClampNeg x1))), (aO_claimNumbers, .inl (cI, 300, .inl (upd O_claimNumbers O_made.toNatClampNeg x2))), (aO_days, .inl (cI, 300, .inl O_days)), (aO_values, .inl (cI, 300, .inl O_values)), (aO_ranks, .inl (cI, 300, .inl O_ranks)), (aO_known, .inl (cI, 32, .inl O_known)), (aO_tally, .inl (cI, 100, .inl O_tally))] := hD
  refine lv_aload_n hx hb d_O_add_22 rfl (lv_at hl 1 rfl) ?_
  refine va_get (D := (dC, dI)) (ci := 1) (v := .ref aO_days) (C := "ClaimSources$Opinions") (T := TT_1) (N := 8) hx hb hts hi_1 hown hK hP 0 rfl rfl 2 (by decide) hf_18 (fun _ h9 => h9) rfl d_O_add_23 ?_
  refine lv_iload hx hb d_O_add_26 (lv_at hl 0 rfl) ?_
  refine lv_iload_n hx hb d_O_add_28 rfl (lv_at hl 4 rfl) ?_
  obtain ⟨h_3, hw⟩ := hw
  refine va_iast hx hb hK hP hD hS 3 0 rfl rfl h_3 d_O_add_29 (fun H locs hP hD hS => ?_)
  have hP : va_P (dC, dI) vwCl [(aO, .inr (1, [.ref aO_persons, .ref aO_claimNumbers, .ref aO_days, .ref aO_values, .ref aO_ranks, .ref aO_known, .ref aO_tally, .int O_made])), (aO_persons, .inl (cI, 300, .inl (upd O_persons O_made.toNatClampNeg x1))), (aO_claimNumbers, .inl (cI, 300, .inl (upd O_claimNumbers O_made.toNatClampNeg x2))), (aO_days, .inl (cI, 300, .inl (upd O_days O_made.toNatClampNeg x3))), (aO_values, .inl (cI, 300, .inl O_values)), (aO_ranks, .inl (cI, 300, .inl O_ranks)), (aO_known, .inl (cI, 32, .inl O_known)), (aO_tally, .inl (cI, 100, .inl O_tally))] H := hP
  have hD : va_D A [(aO, .inr (1, [.ref aO_persons, .ref aO_claimNumbers, .ref aO_days, .ref aO_values, .ref aO_ranks, .ref aO_known, .ref aO_tally, .int O_made])), (aO_persons, .inl (cI, 300, .inl (upd O_persons O_made.toNatClampNeg x1))), (aO_claimNumbers, .inl (cI, 300, .inl (upd O_claimNumbers O_made.toNatClampNeg x2))), (aO_days, .inl (cI, 300, .inl (upd O_days O_made.toNatClampNeg x3))), (aO_values, .inl (cI, 300, .inl O_values)), (aO_ranks, .inl (cI, 300, .inl O_ranks)), (aO_known, .inl (cI, 32, .inl O_known)), (aO_tally, .inl (cI, 100, .inl O_tally))] := hD
  refine lv_aload_n hx hb d_O_add_30 rfl (lv_at hl 1 rfl) ?_
  refine lv_dup hx hb d_O_add_31 rfl ?_
  refine va_get (D := (dC, dI)) (ci := 1) (v := .int O_made) (C := "ClaimSources$Opinions") (T := TT_1) (N := 8) hx hb hts hi_1 hown hK hP 0 rfl rfl 7 (by decide) hf_33 (fun _ h9 => h9) rfl d_O_add_32 ?_
  refine lv_iconst (v := 1) hx hb d_O_add_35 (by decide) ?_
  refine lv_iadd hx hb d_O_add_36 ?_
  refine va_put (D := (dC, dI)) (ci := 1) (v := .int (O_made + (1 : Int32))) (ty := .int) (C := "ClaimSources$Opinions") (T := TT_1) (N := 8) hx hb hts hi_1 ty_1 tyok_1 nn_1 hown hK hP hD hS 0 rfl rfl 7 (by decide) hf_33 (fun _ h9 => h9) rfl (by decide +kernel) rfl rfl (Nat.le_of_ble_eq_true rfl) d_O_add_37 (fun H locs hP hD hS => ?_)
  have hP : va_P (dC, dI) vwCl [(aO, .inr (1, [.ref aO_persons, .ref aO_claimNumbers, .ref aO_days, .ref aO_values, .ref aO_ranks, .ref aO_known, .ref aO_tally, .int (O_made + (1 : Int32))])), (aO_persons, .inl (cI, 300, .inl (upd O_persons O_made.toNatClampNeg x1))), (aO_claimNumbers, .inl (cI, 300, .inl (upd O_claimNumbers O_made.toNatClampNeg x2))), (aO_days, .inl (cI, 300, .inl (upd O_days O_made.toNatClampNeg x3))), (aO_values, .inl (cI, 300, .inl O_values)), (aO_ranks, .inl (cI, 300, .inl O_ranks)), (aO_known, .inl (cI, 32, .inl O_known)), (aO_tally, .inl (cI, 100, .inl O_tally))] H := hP
  have hD : va_D A [(aO, .inr (1, [.ref aO_persons, .ref aO_claimNumbers, .ref aO_days, .ref aO_values, .ref aO_ranks, .ref aO_known, .ref aO_tally, .int (O_made + (1 : Int32))])), (aO_persons, .inl (cI, 300, .inl (upd O_persons O_made.toNatClampNeg x1))), (aO_claimNumbers, .inl (cI, 300, .inl (upd O_claimNumbers O_made.toNatClampNeg x2))), (aO_days, .inl (cI, 300, .inl (upd O_days O_made.toNatClampNeg x3))), (aO_values, .inl (cI, 300, .inl O_values)), (aO_ranks, .inl (cI, 300, .inl O_ranks)), (aO_known, .inl (cI, 32, .inl O_known)), (aO_tally, .inl (cI, 100, .inl O_tally))] := hD
  refine lv_iload hx hb d_O_add_40 (lv_at hl 0 rfl) ?_
  subst hQ0
  have hP9 := hP.sub (ws' := [(aO, .inr (1, [.ref aO_persons, .ref aO_claimNumbers, .ref aO_days, .ref aO_values, .ref aO_ranks, .ref aO_known, .ref aO_tally, .int (O_made + (1 : Int32))])), (aO_persons, .inl (cI, 300, .inl (upd O_persons O_made.toNatClampNeg x1))), (aO_claimNumbers, .inl (cI, 300, .inl (upd O_claimNumbers O_made.toNatClampNeg x2))), (aO_days, .inl (cI, 300, .inl (upd O_days O_made.toNatClampNeg x3))), (aO_values, .inl (cI, 300, .inl O_values)), (aO_ranks, .inl (cI, 300, .inl O_ranks)), (aO_known, .inl (cI, 32, .inl O_known)), (aO_tally, .inl (cI, 100, .inl O_tally))]) [0, 1, 2, 3, 4, 5, 6, 7] rfl
  have hD9 := hD.sub (ws' := [(aO, .inr (1, [.ref aO_persons, .ref aO_claimNumbers, .ref aO_days, .ref aO_values, .ref aO_ranks, .ref aO_known, .ref aO_tally, .int (O_made + (1 : Int32))])), (aO_persons, .inl (cI, 300, .inl (upd O_persons O_made.toNatClampNeg x1))), (aO_claimNumbers, .inl (cI, 300, .inl (upd O_claimNumbers O_made.toNatClampNeg x2))), (aO_days, .inl (cI, 300, .inl (upd O_days O_made.toNatClampNeg x3))), (aO_values, .inl (cI, 300, .inl O_values)), (aO_ranks, .inl (cI, 300, .inl O_ranks)), (aO_known, .inl (cI, 32, .inl O_known)), (aO_tally, .inl (cI, 100, .inl O_tally))]) [0, 1, 2, 3, 4, 5, 6, 7] (by decide) rfl
  exact W.iret (v := O_made) hx hb hr (fun t ht hW => ⟨⟨_, (upd O_persons O_made.toNatClampNeg x1, upd O_claimNumbers O_made.toNatClampNeg x2, upd O_days O_made.toNatClampNeg x3, O_made + (1 : Int32)), rfl, hw, by rw [ht]; exact hP9, hD9⟩, hS.F ht⟩) hS.2.2 d_O_add_42
def wp_O_say (O_persons : Nat → Int32) (O_claimNumbers : Nat → Int32) (O_days : Nat → Int32) (O_values : Nat → Int32) (O_ranks : Nat → Int32) (O_known : Nat → Int32) (O_tally : Nat → Int32) (O_made : Int32) (x1 : Int32) (x2 : Int32) (x3 : Int32) (post : (Nat → Int32) → (Nat → Int32) → Prop) : Prop := (vp_in x1 300 ∧ (vp_in x1 300 ∧ (post (upd O_values x1.toNatClampNeg x2) (upd O_ranks x1.toNatClampNeg x3))))
set_option maxHeartbeats 4000000 in
set_option maxRecDepth 100000 in
theorem mt_O_say (l : Launch) (dC : Nat → ClassId) (dI : Nat → Nat → Nat) (cI : ClassId) (aO : Nat) (aO_persons : Nat) (aO_claimNumbers : Nat) (aO_days : Nat) (aO_values : Nat) (aO_ranks : Nat) (aO_known : Nat) (aO_tally : Nat) (sz : Nat) (post : (Nat → Int32) → (Nat → Int32) → Prop) (O_persons : Nat → Int32) (O_claimNumbers : Nat → Int32) (O_days : Nat → Int32) (O_values : Nat → Int32) (O_ranks : Nat → Int32) (O_known : Nat → Int32) (O_tally : Nat → Int32) (O_made : Int32) (x1 : Int32) (x2 : Int32) (x3 : Int32) (hw : wp_O_say O_persons O_claimNumbers O_days O_values O_ranks O_known O_tally O_made x1 x2 x3 post) : Met l y_O_say w_O_say ({ frames := 0, cells := 0, slots := 0, locals := 0 }) (va_Pc [.ref aO, .int x1, .int x2, .int x3] (fun U => U.heap.size = sz ∧ va_P (dC, dI) vwCl [(aO, .inr (1, [.ref aO_persons, .ref aO_claimNumbers, .ref aO_days, .ref aO_values, .ref aO_ranks, .ref aO_known, .ref aO_tally, .int O_made])), (aO_persons, .inl (cI, 300, .inl O_persons)), (aO_claimNumbers, .inl (cI, 300, .inl O_claimNumbers)), (aO_days, .inl (cI, 300, .inl O_days)), (aO_values, .inl (cI, 300, .inl O_values)), (aO_ranks, .inl (cI, 300, .inl O_ranks)), (aO_known, .inl (cI, 32, .inl O_known)), (aO_tally, .inl (cI, 100, .inl O_tally))] U.heap ∧ va_K (dC, dI) vwCl [(cI, .int)] U ∧ va_D (fun _ => True) [(aO, .inr (1, [.ref aO_persons, .ref aO_claimNumbers, .ref aO_days, .ref aO_values, .ref aO_ranks, .ref aO_known, .ref aO_tally, .int O_made])), (aO_persons, .inl (cI, 300, .inl O_persons)), (aO_claimNumbers, .inl (cI, 300, .inl O_claimNumbers)), (aO_days, .inl (cI, 300, .inl O_days)), (aO_values, .inl (cI, 300, .inl O_values)), (aO_ranks, .inl (cI, 300, .inl O_ranks)), (aO_known, .inl (cI, 32, .inl O_known)), (aO_tally, .inl (cI, 100, .inl O_tally))] ∧ en_ok U)) (va_Qv (fun (u : (Nat → Int32) × (Nat → Int32)) => post u.1 u.2) (fun (u : (Nat → Int32) × (Nat → Int32)) t => va_P (dC, dI) vwCl [(aO, .inr (1, [.ref aO_persons, .ref aO_claimNumbers, .ref aO_days, .ref aO_values, .ref aO_ranks, .ref aO_known, .ref aO_tally, .int O_made])), (aO_persons, .inl (cI, 300, .inl O_persons)), (aO_claimNumbers, .inl (cI, 300, .inl O_claimNumbers)), (aO_days, .inl (cI, 300, .inl O_days)), (aO_values, .inl (cI, 300, .inl u.1)), (aO_ranks, .inl (cI, 300, .inl u.2)), (aO_known, .inl (cI, 32, .inl O_known)), (aO_tally, .inl (cI, 100, .inl O_tally))] t.heap ∧ va_D (va_A [(aO, .inr (1, [.ref aO_persons, .ref aO_claimNumbers, .ref aO_days, .ref aO_values, .ref aO_ranks, .ref aO_known, .ref aO_tally, .int O_made])), (aO_persons, .inl (cI, 300, .inl O_persons)), (aO_claimNumbers, .inl (cI, 300, .inl O_claimNumbers)), (aO_days, .inl (cI, 300, .inl O_days)), (aO_values, .inl (cI, 300, .inl O_values)), (aO_ranks, .inl (cI, 300, .inl O_ranks)), (aO_known, .inl (cI, 32, .inl O_known)), (aO_tally, .inl (cI, 100, .inl O_tally))] sz) [(aO, .inr (1, [.ref aO_persons, .ref aO_claimNumbers, .ref aO_days, .ref aO_values, .ref aO_ranks, .ref aO_known, .ref aO_tally, .int O_made])), (aO_persons, .inl (cI, 300, .inl O_persons)), (aO_claimNumbers, .inl (cI, 300, .inl O_claimNumbers)), (aO_days, .inl (cI, 300, .inl O_days)), (aO_values, .inl (cI, 300, .inl u.1)), (aO_ranks, .inl (cI, 300, .inl u.2)), (aO_known, .inl (cI, 32, .inl O_known)), (aO_tally, .inl (cI, 100, .inl O_tally))]) (va_A [(aO, .inr (1, [.ref aO_persons, .ref aO_claimNumbers, .ref aO_days, .ref aO_values, .ref aO_ranks, .ref aO_known, .ref aO_tally, .int O_made])), (aO_persons, .inl (cI, 300, .inl O_persons)), (aO_claimNumbers, .inl (cI, 300, .inl O_claimNumbers)), (aO_days, .inl (cI, 300, .inl O_days)), (aO_values, .inl (cI, 300, .inl O_values)), (aO_ranks, .inl (cI, 300, .inl O_ranks)), (aO_known, .inl (cI, 32, .inl O_known)), (aO_tally, .inl (cI, 100, .inl O_tally))] sz)) 0 0 (va_A [(aO, .inr (1, [.ref aO_persons, .ref aO_claimNumbers, .ref aO_days, .ref aO_values, .ref aO_ranks, .ref aO_known, .ref aO_tally, .int O_made])), (aO_persons, .inl (cI, 300, .inl O_persons)), (aO_claimNumbers, .inl (cI, 300, .inl O_claimNumbers)), (aO_days, .inl (cI, 300, .inl O_days)), (aO_values, .inl (cI, 300, .inl O_values)), (aO_ranks, .inl (cI, 300, .inl O_ranks)), (aO_known, .inl (cI, 32, .inl O_known)), (aO_tally, .inl (cI, 100, .inl O_tally))] sz) := by
  refine Met.ofW (cc := prog_3_method_5_code) (maxL := 4) (ret := none) (by decide) rfl ?_
  intro p e s m args below meth c s₁ B hml hv
  obtain ⟨rfl, hsz, hP, hK, hD0, hE⟩ := hv
  have hx := B.exec
  have hb := B.bytes
  have hr := B.returns
  have hts := atoms_spec (ws := w_O_say) B.pre
  have hown : s.vm.findClass "ClaimSources$Opinions" = some m.cls := findClass_of_methodNamed B.named
  have hlocks := B.notSynchronized
  subst hsz
  have hD := hD0.self (sz := s.heap.size)
  generalize hAe : va_A [(aO, .inr (1, [.ref aO_persons, .ref aO_claimNumbers, .ref aO_days, .ref aO_values, .ref aO_ranks, .ref aO_known, .ref aO_tally, .int O_made])), (aO_persons, .inl (cI, 300, .inl O_persons)), (aO_claimNumbers, .inl (cI, 300, .inl O_claimNumbers)), (aO_days, .inl (cI, 300, .inl O_days)), (aO_values, .inl (cI, 300, .inl O_values)), (aO_ranks, .inl (cI, 300, .inl O_ranks)), (aO_known, .inl (cI, 32, .inl O_known)), (aO_tally, .inl (cI, 100, .inl O_tally))] s.heap.size = A at hD ⊢
  have hA : ∀ q : Nat, s.heap.size ≤ q → A q := fun q h => by rw [← hAe]; exact Or.inr h
  have hS : va_S A s.heap s.heap [] := va_S.rf
  have hl := lv_entry ([.ref aO, .int x1, .int x2, .int x3]) (n := 4) (Nat.le_of_ble_eq_true rfl)
  rw [lg_entry_eq]
  generalize (lg_sl ([.ref aO, .int x1, .int x2, .int x3]) ++ List.replicate (4 - (lg_sl ([.ref aO, .int x1, .int x2, .int x3])).length) Slot.unset).toArray = ls at hl ⊢
  have hl : lv_has ls 4 [(0, .ref aO), (1, .int x1), (2, .int x2), (3, .int x3)] := hl
  obtain ⟨Q0, hQ0⟩ : ∃ Q0, Q0 = MQ below (va_Qv (fun (u : (Nat → Int32) × (Nat → Int32)) => post u.1 u.2) (fun (u : (Nat → Int32) × (Nat → Int32)) t => va_P (dC, dI) vwCl [(aO, .inr (1, [.ref aO_persons, .ref aO_claimNumbers, .ref aO_days, .ref aO_values, .ref aO_ranks, .ref aO_known, .ref aO_tally, .int O_made])), (aO_persons, .inl (cI, 300, .inl O_persons)), (aO_claimNumbers, .inl (cI, 300, .inl O_claimNumbers)), (aO_days, .inl (cI, 300, .inl O_days)), (aO_values, .inl (cI, 300, .inl u.1)), (aO_ranks, .inl (cI, 300, .inl u.2)), (aO_known, .inl (cI, 32, .inl O_known)), (aO_tally, .inl (cI, 100, .inl O_tally))] t.heap ∧ va_D A [(aO, .inr (1, [.ref aO_persons, .ref aO_claimNumbers, .ref aO_days, .ref aO_values, .ref aO_ranks, .ref aO_known, .ref aO_tally, .int O_made])), (aO_persons, .inl (cI, 300, .inl O_persons)), (aO_claimNumbers, .inl (cI, 300, .inl O_claimNumbers)), (aO_days, .inl (cI, 300, .inl O_days)), (aO_values, .inl (cI, 300, .inl u.1)), (aO_ranks, .inl (cI, 300, .inl u.2)), (aO_known, .inl (cI, 32, .inl O_known)), (aO_tally, .inl (cI, 100, .inl O_tally))]) A) ([.ref aO, .int x1, .int x2, .int x3]).toArray s 0 0 A := ⟨_, rfl⟩
  rw [← hQ0]
  clear B
  generalize hag : ([.ref aO, .int x1, .int x2, .int x3] : List Value).toArray = args at hts hQ0 ⊢
  have hi_1 : ∀ w ∈ u_ws "ClaimSources$Opinions" TT_1 8, w ∈ w_O_say := fun w h => List.mem_cons_of_mem _ (ia_1 w h)
  have hf_21 := hts _ (List.mem_cons_of_mem _ m_95)
  have hf_24 := hts _ (List.mem_cons_of_mem _ m_96)
  unfold wp_O_say at hw
  refine lv_aload_n hx hb d_O_say_0 rfl (lv_at hl 0 rfl) ?_
  refine va_get (D := (dC, dI)) (ci := 1) (v := .ref aO_values) (C := "ClaimSources$Opinions") (T := TT_1) (N := 8) hx hb hts hi_1 hown hK hP 0 rfl rfl 3 (by decide) hf_21 (fun _ h9 => h9) rfl d_O_say_1 ?_
  refine lv_iload_n hx hb d_O_say_4 rfl (lv_at hl 1 rfl) ?_
  refine lv_iload_n hx hb d_O_say_5 rfl (lv_at hl 2 rfl) ?_
  obtain ⟨h_1, hw⟩ := hw
  refine va_iast hx hb hK hP hD hS 4 0 rfl rfl h_1 d_O_say_6 (fun H locs hP hD hS => ?_)
  have hP : va_P (dC, dI) vwCl [(aO, .inr (1, [.ref aO_persons, .ref aO_claimNumbers, .ref aO_days, .ref aO_values, .ref aO_ranks, .ref aO_known, .ref aO_tally, .int O_made])), (aO_persons, .inl (cI, 300, .inl O_persons)), (aO_claimNumbers, .inl (cI, 300, .inl O_claimNumbers)), (aO_days, .inl (cI, 300, .inl O_days)), (aO_values, .inl (cI, 300, .inl (upd O_values x1.toNatClampNeg x2))), (aO_ranks, .inl (cI, 300, .inl O_ranks)), (aO_known, .inl (cI, 32, .inl O_known)), (aO_tally, .inl (cI, 100, .inl O_tally))] H := hP
  have hD : va_D A [(aO, .inr (1, [.ref aO_persons, .ref aO_claimNumbers, .ref aO_days, .ref aO_values, .ref aO_ranks, .ref aO_known, .ref aO_tally, .int O_made])), (aO_persons, .inl (cI, 300, .inl O_persons)), (aO_claimNumbers, .inl (cI, 300, .inl O_claimNumbers)), (aO_days, .inl (cI, 300, .inl O_days)), (aO_values, .inl (cI, 300, .inl (upd O_values x1.toNatClampNeg x2))), (aO_ranks, .inl (cI, 300, .inl O_ranks)), (aO_known, .inl (cI, 32, .inl O_known)), (aO_tally, .inl (cI, 100, .inl O_tally))] := hD
  refine lv_aload_n hx hb d_O_say_7 rfl (lv_at hl 0 rfl) ?_
  refine va_get (D := (dC, dI)) (ci := 1) (v := .ref aO_ranks) (C := "ClaimSources$Opinions") (T := TT_1) (N := 8) hx hb hts hi_1 hown hK hP 0 rfl rfl 4 (by decide) hf_24 (fun _ h9 => h9) rfl d_O_say_8 ?_
  refine lv_iload_n hx hb d_O_say_11 rfl (lv_at hl 1 rfl) ?_
  refine lv_iload_n hx hb d_O_say_12 rfl (lv_at hl 3 rfl) ?_
  obtain ⟨h_2, hw⟩ := hw
  refine va_iast hx hb hK hP hD hS 5 0 rfl rfl h_2 d_O_say_13 (fun H locs hP hD hS => ?_)
  have hP : va_P (dC, dI) vwCl [(aO, .inr (1, [.ref aO_persons, .ref aO_claimNumbers, .ref aO_days, .ref aO_values, .ref aO_ranks, .ref aO_known, .ref aO_tally, .int O_made])), (aO_persons, .inl (cI, 300, .inl O_persons)), (aO_claimNumbers, .inl (cI, 300, .inl O_claimNumbers)), (aO_days, .inl (cI, 300, .inl O_days)), (aO_values, .inl (cI, 300, .inl (upd O_values x1.toNatClampNeg x2))), (aO_ranks, .inl (cI, 300, .inl (upd O_ranks x1.toNatClampNeg x3))), (aO_known, .inl (cI, 32, .inl O_known)), (aO_tally, .inl (cI, 100, .inl O_tally))] H := hP
  have hD : va_D A [(aO, .inr (1, [.ref aO_persons, .ref aO_claimNumbers, .ref aO_days, .ref aO_values, .ref aO_ranks, .ref aO_known, .ref aO_tally, .int O_made])), (aO_persons, .inl (cI, 300, .inl O_persons)), (aO_claimNumbers, .inl (cI, 300, .inl O_claimNumbers)), (aO_days, .inl (cI, 300, .inl O_days)), (aO_values, .inl (cI, 300, .inl (upd O_values x1.toNatClampNeg x2))), (aO_ranks, .inl (cI, 300, .inl (upd O_ranks x1.toNatClampNeg x3))), (aO_known, .inl (cI, 32, .inl O_known)), (aO_tally, .inl (cI, 100, .inl O_tally))] := hD
  subst hQ0
  have hP9 := hP.sub (ws' := [(aO, .inr (1, [.ref aO_persons, .ref aO_claimNumbers, .ref aO_days, .ref aO_values, .ref aO_ranks, .ref aO_known, .ref aO_tally, .int O_made])), (aO_persons, .inl (cI, 300, .inl O_persons)), (aO_claimNumbers, .inl (cI, 300, .inl O_claimNumbers)), (aO_days, .inl (cI, 300, .inl O_days)), (aO_values, .inl (cI, 300, .inl (upd O_values x1.toNatClampNeg x2))), (aO_ranks, .inl (cI, 300, .inl (upd O_ranks x1.toNatClampNeg x3))), (aO_known, .inl (cI, 32, .inl O_known)), (aO_tally, .inl (cI, 100, .inl O_tally))]) [0, 1, 2, 3, 4, 5, 6, 7] rfl
  have hD9 := hD.sub (ws' := [(aO, .inr (1, [.ref aO_persons, .ref aO_claimNumbers, .ref aO_days, .ref aO_values, .ref aO_ranks, .ref aO_known, .ref aO_tally, .int O_made])), (aO_persons, .inl (cI, 300, .inl O_persons)), (aO_claimNumbers, .inl (cI, 300, .inl O_claimNumbers)), (aO_days, .inl (cI, 300, .inl O_days)), (aO_values, .inl (cI, 300, .inl (upd O_values x1.toNatClampNeg x2))), (aO_ranks, .inl (cI, 300, .inl (upd O_ranks x1.toNatClampNeg x3))), (aO_known, .inl (cI, 32, .inl O_known)), (aO_tally, .inl (cI, 100, .inl O_tally))]) [0, 1, 2, 3, 4, 5, 6, 7] (by decide) rfl
  exact W.vret hx hb hr (fun t ht hW => ⟨⟨(upd O_values x1.toNatClampNeg x2, upd O_ranks x1.toNatClampNeg x3), rfl, hw, by rw [ht]; exact hP9, hD9⟩, hS.F ht⟩) hS.2.2 d_O_say_14
def wl_O_numberOf_4 (O_claimNumbers : Nat → Int32) (O_made : Int32) (x1 : Int32) (post : Int32 → Prop) : Nat → Int32 → Int32 → Prop
  | 0, _, _ => False
  | n + 1, x2, x3 => ((O_made ≤ x3 → (post x2)) ∧ (¬ (O_made ≤ x3) → (vp_in x3 300 ∧ (((O_claimNumbers x3.toNatClampNeg) = x1 → wl_O_numberOf_4 O_claimNumbers O_made x1 post n (x2 + 1) (x3 + 1)) ∧ (¬ ((O_claimNumbers x3.toNatClampNeg) = x1) → wl_O_numberOf_4 O_claimNumbers O_made x1 post n x2 (x3 + 1))))))
def wp_O_numberOf (O_persons : Nat → Int32) (O_claimNumbers : Nat → Int32) (O_days : Nat → Int32) (O_values : Nat → Int32) (O_ranks : Nat → Int32) (O_known : Nat → Int32) (O_tally : Nat → Int32) (O_made : Int32) (x1 : Int32) (post : Int32 → Prop) : Prop := (∃ n9, wl_O_numberOf_4 O_claimNumbers O_made x1 post n9 (0 : Int32) (0 : Int32))
set_option maxHeartbeats 4000000 in
set_option maxRecDepth 100000 in
theorem mt_O_numberOf (l : Launch) (dC : Nat → ClassId) (dI : Nat → Nat → Nat) (cI : ClassId) (aO : Nat) (aO_persons : Nat) (aO_claimNumbers : Nat) (aO_days : Nat) (aO_values : Nat) (aO_ranks : Nat) (aO_known : Nat) (aO_tally : Nat) (post : Int32 → Prop) (O_persons : Nat → Int32) (O_claimNumbers : Nat → Int32) (O_days : Nat → Int32) (O_values : Nat → Int32) (O_ranks : Nat → Int32) (O_known : Nat → Int32) (O_tally : Nat → Int32) (O_made : Int32) (x1 : Int32) (hw : wp_O_numberOf O_persons O_claimNumbers O_days O_values O_ranks O_known O_tally O_made x1 post) : Met l y_O_numberOf w_O_numberOf ({ frames := 0, cells := 0, slots := 0, locals := 0 }) (va_Pc [.ref aO, .int x1] (fun U => va_P (dC, dI) vwCl [(aO, .inr (1, [.ref aO_persons, .ref aO_claimNumbers, .ref aO_days, .ref aO_values, .ref aO_ranks, .ref aO_known, .ref aO_tally, .int O_made])), (aO_persons, .inl (cI, 300, .inl O_persons)), (aO_claimNumbers, .inl (cI, 300, .inl O_claimNumbers)), (aO_days, .inl (cI, 300, .inl O_days)), (aO_values, .inl (cI, 300, .inl O_values)), (aO_ranks, .inl (cI, 300, .inl O_ranks)), (aO_known, .inl (cI, 32, .inl O_known)), (aO_tally, .inl (cI, 100, .inl O_tally))] U.heap ∧ va_K (dC, dI) vwCl [(cI, .int)] U ∧ en_ok U)) (vp_Si post) 0 0 (fun _ => False) := by
  refine Met.ofW (cc := prog_3_method_6_code) (maxL := 4) (ret := (some .int)) (by decide) rfl ?_
  intro p e s m args below meth c s₁ B hml hv
  obtain ⟨rfl, hP, hK, hE⟩ := hv
  have hx := B.exec
  have hb := B.bytes
  have hr := B.returns
  have hts := atoms_spec (ws := w_O_numberOf) B.pre
  have hown : s.vm.findClass "ClaimSources$Opinions" = some m.cls := findClass_of_methodNamed B.named
  have hlocks := B.notSynchronized
  have hl := lv_entry ([.ref aO, .int x1]) (n := 4) (Nat.le_of_ble_eq_true rfl)
  rw [lg_entry_eq]
  generalize (lg_sl ([.ref aO, .int x1]) ++ List.replicate (4 - (lg_sl ([.ref aO, .int x1])).length) Slot.unset).toArray = ls at hl ⊢
  have hl : lv_has ls 4 [(0, .ref aO), (1, .int x1)] := hl
  obtain ⟨Q0, hQ0⟩ : ∃ Q0, Q0 = MQ below (vp_Si post) ([.ref aO, .int x1]).toArray s 0 0 (fun _ => False) := ⟨_, rfl⟩
  rw [← hQ0]
  clear B
  generalize hag : ([.ref aO, .int x1] : List Value).toArray = args at hts hQ0 ⊢
  have hi_1 : ∀ w ∈ u_ws "ClaimSources$Opinions" TT_1 8, w ∈ w_O_numberOf := fun w h => List.mem_cons_of_mem _ (ia_1 w h)
  have hf_33 := hts _ (List.mem_cons_of_mem _ m_99)
  have hf_15 := hts _ (List.mem_cons_of_mem _ m_93)
  have L4 : ∀ (x1 : Int32) (n : Nat) (x2 : Int32) (x3 : Int32), wl_O_numberOf_4 O_claimNumbers O_made x1 post n x2 x3 → ∀ (ls : Array Slot), lv_has ls 4 [(0, .ref aO), (1, .int x1), (2, .int x2), (3, .int x3)] → W p l e (headSpec w_O_numberOf ({ frames := 0, cells := 0, slots := 0, locals := 0 })).room s m args below meth c s.heap [] 0 0 Q0 (F0 m 4 ls []) := by
    intro x1
    intro n
    induction n with
    | zero =>
      intro x2 x3 hw
      exact False.elim hw
    | succ n ih =>
      intro x2 x3 hw ls hl
      unfold wl_O_numberOf_4 at hw
      refine lv_iload_n hx hb d_O_numberOf_4 rfl (lv_at hl 3 rfl) ?_
      refine lv_aload_n hx hb d_O_numberOf_5 rfl (lv_at hl 0 rfl) ?_
      refine va_get (D := (dC, dI)) (ci := 1) (v := .int O_made) (C := "ClaimSources$Opinions") (T := TT_1) (N := 8) hx hb hts hi_1 hown hK hP 0 rfl rfl 7 (by decide) hf_33 (fun _ h9 => h9) rfl d_O_numberOf_6 ?_
      refine lv_icmp_ge (tgt := 31) hx hb d_O_numberOf_9 (by decide) (fun c_1 => ?_) (fun c_1 => ?_)
      · have hw := hw.1 c_1
        refine lv_iload_n hx hb d_O_numberOf_31 rfl (lv_at hl 2 rfl) ?_
        subst hQ0
        exact W.iret (v := x2) hx hb hr (fun t ht hW => ⟨_, rfl, hw, ht⟩) (fun q h => by cases h) d_O_numberOf_32
      · have hw := hw.2 c_1
        refine lv_aload_n hx hb d_O_numberOf_12 rfl (lv_at hl 0 rfl) ?_
        refine va_get (D := (dC, dI)) (ci := 1) (v := .ref aO_claimNumbers) (C := "ClaimSources$Opinions") (T := TT_1) (N := 8) hx hb hts hi_1 hown hK hP 0 rfl rfl 1 (by decide) hf_15 (fun _ h9 => h9) rfl d_O_numberOf_13 ?_
        refine lv_iload_n hx hb d_O_numberOf_16 rfl (lv_at hl 3 rfl) ?_
        obtain ⟨h_2, hw⟩ := hw
        refine va_iald hx hb hK hP 2 0 rfl rfl h_2 d_O_numberOf_17 ?_
        refine lv_iload_n hx hb d_O_numberOf_18 rfl (lv_at hl 1 rfl) ?_
        refine lv_icmp_ne (tgt := 25) hx hb d_O_numberOf_19 (by decide) (fun c_3 => ?_) (fun c_3 => ?_)
        · have hw := hw.2 c_3
          refine lv_iinc (v := x3 + 1) (lv' := [(3, .int (x3 + 1)), (0, .ref aO), (1, .int x1), (2, .int x2)]) hx hb d_O_numberOf_25 hl (k := 3) rfl rfl (by decide) rfl (fun ls hl => ?_)
          refine lv_goto (tgt := 4) hx hb d_O_numberOf_28 (by decide) ?_
          exact ih x2 (x3 + 1) hw ls (lv_sub hl [1, 2, 3, 0] rfl)
        · have hw := hw.1 c_3
          refine lv_iinc (v := x2 + 1) (lv' := [(2, .int (x2 + 1)), (0, .ref aO), (1, .int x1), (3, .int x3)]) hx hb d_O_numberOf_22 hl (k := 2) rfl rfl (by decide) rfl (fun ls hl => ?_)
          refine lv_iinc (v := x3 + 1) (lv' := [(3, .int (x3 + 1)), (2, .int (x2 + 1)), (0, .ref aO), (1, .int x1)]) hx hb d_O_numberOf_25 hl (k := 3) rfl rfl (by decide) rfl (fun ls hl => ?_)
          refine lv_goto (tgt := 4) hx hb d_O_numberOf_28 (by decide) ?_
          exact ih (x2 + 1) (x3 + 1) hw ls (lv_sub hl [2, 3, 1, 0] rfl)
  unfold wp_O_numberOf at hw
  refine lv_iconst (v := 0) hx hb d_O_numberOf_0 (by decide) ?_
  refine lv_istore_n (lv' := [(2, .int (0 : Int32)), (0, .ref aO), (1, .int x1)]) hx hb d_O_numberOf_1 rfl hl (by decide) rfl (fun ls hl => ?_)
  refine lv_iconst (v := 0) hx hb d_O_numberOf_2 (by decide) ?_
  refine lv_istore_n (lv' := [(3, .int (0 : Int32)), (2, .int (0 : Int32)), (0, .ref aO), (1, .int x1)]) hx hb d_O_numberOf_3 rfl hl (by decide) rfl (fun ls hl => ?_)
  obtain ⟨n_4, hw⟩ := hw
  exact L4 x1 n_4 (0 : Int32) (0 : Int32) hw ls (lv_sub hl [2, 3, 1, 0] rfl)
def wl_O_learn_10 (O_persons : Nat → Int32) (O_claimNumbers : Nat → Int32) (O_days : Nat → Int32) (O_made : Int32) (x1 : Int32) (x2 : Int32) (post : (Nat → Int32) → Prop) : Nat → Int32 → (Nat → Int32) → Prop
  | 0, _, _ => False
  | n + 1, x3, O_known => ((O_made ≤ x3 → (post O_known)) ∧ (¬ (O_made ≤ x3) → (vp_in x3 300 ∧ (((O_claimNumbers x3.toNatClampNeg) = x1 → (vp_in x3 300 ∧ ((x2 < (O_days x3.toNatClampNeg) → wl_O_learn_10 O_persons O_claimNumbers O_days O_made x1 x2 post n (x3 + 1) O_known) ∧ (¬ (x2 < (O_days x3.toNatClampNeg)) → (vp_in x3 300 ∧ (vp_in (O_persons x3.toNatClampNeg) 32 ∧ (((O_known (O_persons x3.toNatClampNeg).toNatClampNeg) = (-1 : Int32) → (vp_in x3 300 ∧ (vp_in (O_persons x3.toNatClampNeg) 32 ∧ wl_O_learn_10 O_persons O_claimNumbers O_days O_made x1 x2 post n (x3 + 1) (upd O_known (O_persons x3.toNatClampNeg).toNatClampNeg x3)))) ∧ (¬ ((O_known (O_persons x3.toNatClampNeg).toNatClampNeg) = (-1 : Int32)) → (vp_in (O_known (O_persons x3.toNatClampNeg).toNatClampNeg) 300 ∧ (vp_in x3 300 ∧ (((O_days x3.toNatClampNeg) ≤ (O_days (O_known (O_persons x3.toNatClampNeg).toNatClampNeg).toNatClampNeg) → wl_O_learn_10 O_persons O_claimNumbers O_days O_made x1 x2 post n (x3 + 1) O_known) ∧ (¬ ((O_days x3.toNatClampNeg) ≤ (O_days (O_known (O_persons x3.toNatClampNeg).toNatClampNeg).toNatClampNeg)) → (vp_in x3 300 ∧ (vp_in (O_persons x3.toNatClampNeg) 32 ∧ wl_O_learn_10 O_persons O_claimNumbers O_days O_made x1 x2 post n (x3 + 1) (upd O_known (O_persons x3.toNatClampNeg).toNatClampNeg x3))))))))))))))) ∧ (¬ ((O_claimNumbers x3.toNatClampNeg) = x1) → wl_O_learn_10 O_persons O_claimNumbers O_days O_made x1 x2 post n (x3 + 1) O_known)))))
def wp_O_learn (O_persons : Nat → Int32) (O_claimNumbers : Nat → Int32) (O_days : Nat → Int32) (O_values : Nat → Int32) (O_ranks : Nat → Int32) (O_known : Nat → Int32) (O_tally : Nat → Int32) (O_made : Int32) (x1 : Int32) (x2 : Int32) (post : (Nat → Int32) → Prop) : Prop := (wp_J_fill 32 O_known (-1 : Int32) (fun u_16 => (∃ n9, wl_O_learn_10 O_persons O_claimNumbers O_days O_made x1 x2 post n9 (0 : Int32) u_16)))
set_option maxHeartbeats 4000000 in
set_option maxRecDepth 100000 in
theorem mt_O_learn (l : Launch) (dC : Nat → ClassId) (dI : Nat → Nat → Nat) (cI : ClassId) (aO : Nat) (aO_persons : Nat) (aO_claimNumbers : Nat) (aO_days : Nat) (aO_values : Nat) (aO_ranks : Nat) (aO_known : Nat) (aO_tally : Nat) (sz : Nat) (post : (Nat → Int32) → Prop) (O_persons : Nat → Int32) (O_claimNumbers : Nat → Int32) (O_days : Nat → Int32) (O_values : Nat → Int32) (O_ranks : Nat → Int32) (O_known : Nat → Int32) (O_tally : Nat → Int32) (O_made : Int32) (x1 : Int32) (x2 : Int32) (hw : wp_O_learn O_persons O_claimNumbers O_days O_values O_ranks O_known O_tally O_made x1 x2 post) : Met l y_O_learn w_O_learn ({ frames := 1, cells := 0, slots := 0, locals := 23 }) (va_Pc [.ref aO, .int x1, .int x2] (fun U => U.heap.size = sz ∧ va_P (dC, dI) vwCl [(aO, .inr (1, [.ref aO_persons, .ref aO_claimNumbers, .ref aO_days, .ref aO_values, .ref aO_ranks, .ref aO_known, .ref aO_tally, .int O_made])), (aO_persons, .inl (cI, 300, .inl O_persons)), (aO_claimNumbers, .inl (cI, 300, .inl O_claimNumbers)), (aO_days, .inl (cI, 300, .inl O_days)), (aO_values, .inl (cI, 300, .inl O_values)), (aO_ranks, .inl (cI, 300, .inl O_ranks)), (aO_known, .inl (cI, 32, .inl O_known)), (aO_tally, .inl (cI, 100, .inl O_tally))] U.heap ∧ va_K (dC, dI) vwCl [(cI, .int)] U ∧ va_D (fun _ => True) [(aO, .inr (1, [.ref aO_persons, .ref aO_claimNumbers, .ref aO_days, .ref aO_values, .ref aO_ranks, .ref aO_known, .ref aO_tally, .int O_made])), (aO_persons, .inl (cI, 300, .inl O_persons)), (aO_claimNumbers, .inl (cI, 300, .inl O_claimNumbers)), (aO_days, .inl (cI, 300, .inl O_days)), (aO_values, .inl (cI, 300, .inl O_values)), (aO_ranks, .inl (cI, 300, .inl O_ranks)), (aO_known, .inl (cI, 32, .inl O_known)), (aO_tally, .inl (cI, 100, .inl O_tally))] ∧ en_ok U)) (va_Qv (fun (u : (Nat → Int32)) => post u) (fun (u : (Nat → Int32)) t => va_P (dC, dI) vwCl [(aO, .inr (1, [.ref aO_persons, .ref aO_claimNumbers, .ref aO_days, .ref aO_values, .ref aO_ranks, .ref aO_known, .ref aO_tally, .int O_made])), (aO_persons, .inl (cI, 300, .inl O_persons)), (aO_claimNumbers, .inl (cI, 300, .inl O_claimNumbers)), (aO_days, .inl (cI, 300, .inl O_days)), (aO_values, .inl (cI, 300, .inl O_values)), (aO_ranks, .inl (cI, 300, .inl O_ranks)), (aO_known, .inl (cI, 32, .inl u)), (aO_tally, .inl (cI, 100, .inl O_tally))] t.heap ∧ va_D (va_A [(aO, .inr (1, [.ref aO_persons, .ref aO_claimNumbers, .ref aO_days, .ref aO_values, .ref aO_ranks, .ref aO_known, .ref aO_tally, .int O_made])), (aO_persons, .inl (cI, 300, .inl O_persons)), (aO_claimNumbers, .inl (cI, 300, .inl O_claimNumbers)), (aO_days, .inl (cI, 300, .inl O_days)), (aO_values, .inl (cI, 300, .inl O_values)), (aO_ranks, .inl (cI, 300, .inl O_ranks)), (aO_known, .inl (cI, 32, .inl O_known)), (aO_tally, .inl (cI, 100, .inl O_tally))] sz) [(aO, .inr (1, [.ref aO_persons, .ref aO_claimNumbers, .ref aO_days, .ref aO_values, .ref aO_ranks, .ref aO_known, .ref aO_tally, .int O_made])), (aO_persons, .inl (cI, 300, .inl O_persons)), (aO_claimNumbers, .inl (cI, 300, .inl O_claimNumbers)), (aO_days, .inl (cI, 300, .inl O_days)), (aO_values, .inl (cI, 300, .inl O_values)), (aO_ranks, .inl (cI, 300, .inl O_ranks)), (aO_known, .inl (cI, 32, .inl u)), (aO_tally, .inl (cI, 100, .inl O_tally))]) (va_A [(aO, .inr (1, [.ref aO_persons, .ref aO_claimNumbers, .ref aO_days, .ref aO_values, .ref aO_ranks, .ref aO_known, .ref aO_tally, .int O_made])), (aO_persons, .inl (cI, 300, .inl O_persons)), (aO_claimNumbers, .inl (cI, 300, .inl O_claimNumbers)), (aO_days, .inl (cI, 300, .inl O_days)), (aO_values, .inl (cI, 300, .inl O_values)), (aO_ranks, .inl (cI, 300, .inl O_ranks)), (aO_known, .inl (cI, 32, .inl O_known)), (aO_tally, .inl (cI, 100, .inl O_tally))] sz)) 0 0 (va_A [(aO, .inr (1, [.ref aO_persons, .ref aO_claimNumbers, .ref aO_days, .ref aO_values, .ref aO_ranks, .ref aO_known, .ref aO_tally, .int O_made])), (aO_persons, .inl (cI, 300, .inl O_persons)), (aO_claimNumbers, .inl (cI, 300, .inl O_claimNumbers)), (aO_days, .inl (cI, 300, .inl O_days)), (aO_values, .inl (cI, 300, .inl O_values)), (aO_ranks, .inl (cI, 300, .inl O_ranks)), (aO_known, .inl (cI, 32, .inl O_known)), (aO_tally, .inl (cI, 100, .inl O_tally))] sz) := by
  refine Met.ofW (cc := prog_3_method_7_code) (maxL := 5) (ret := none) (by decide) rfl ?_
  intro p e s m args below meth c s₁ B hml hv
  obtain ⟨rfl, hsz, hP, hK, hD0, hE⟩ := hv
  have hx := B.exec
  have hb := B.bytes
  have hr := B.returns
  have hts := atoms_spec (ws := w_O_learn) B.pre
  have hown : s.vm.findClass "ClaimSources$Opinions" = some m.cls := findClass_of_methodNamed B.named
  have hlocks := B.notSynchronized
  subst hsz
  have hD := hD0.self (sz := s.heap.size)
  generalize hAe : va_A [(aO, .inr (1, [.ref aO_persons, .ref aO_claimNumbers, .ref aO_days, .ref aO_values, .ref aO_ranks, .ref aO_known, .ref aO_tally, .int O_made])), (aO_persons, .inl (cI, 300, .inl O_persons)), (aO_claimNumbers, .inl (cI, 300, .inl O_claimNumbers)), (aO_days, .inl (cI, 300, .inl O_days)), (aO_values, .inl (cI, 300, .inl O_values)), (aO_ranks, .inl (cI, 300, .inl O_ranks)), (aO_known, .inl (cI, 32, .inl O_known)), (aO_tally, .inl (cI, 100, .inl O_tally))] s.heap.size = A at hD ⊢
  have hA : ∀ q : Nat, s.heap.size ≤ q → A q := fun q h => by rw [← hAe]; exact Or.inr h
  have hS : va_S A s.heap s.heap [] := va_S.rf
  have hl := lv_entry ([.ref aO, .int x1, .int x2]) (n := 5) (Nat.le_of_ble_eq_true rfl)
  rw [lg_entry_eq]
  generalize (lg_sl ([.ref aO, .int x1, .int x2]) ++ List.replicate (5 - (lg_sl ([.ref aO, .int x1, .int x2])).length) Slot.unset).toArray = ls at hl ⊢
  have hl : lv_has ls 5 [(0, .ref aO), (1, .int x1), (2, .int x2)] := hl
  obtain ⟨Q0, hQ0⟩ : ∃ Q0, Q0 = MQ below (va_Qv (fun (u : (Nat → Int32)) => post u) (fun (u : (Nat → Int32)) t => va_P (dC, dI) vwCl [(aO, .inr (1, [.ref aO_persons, .ref aO_claimNumbers, .ref aO_days, .ref aO_values, .ref aO_ranks, .ref aO_known, .ref aO_tally, .int O_made])), (aO_persons, .inl (cI, 300, .inl O_persons)), (aO_claimNumbers, .inl (cI, 300, .inl O_claimNumbers)), (aO_days, .inl (cI, 300, .inl O_days)), (aO_values, .inl (cI, 300, .inl O_values)), (aO_ranks, .inl (cI, 300, .inl O_ranks)), (aO_known, .inl (cI, 32, .inl u)), (aO_tally, .inl (cI, 100, .inl O_tally))] t.heap ∧ va_D A [(aO, .inr (1, [.ref aO_persons, .ref aO_claimNumbers, .ref aO_days, .ref aO_values, .ref aO_ranks, .ref aO_known, .ref aO_tally, .int O_made])), (aO_persons, .inl (cI, 300, .inl O_persons)), (aO_claimNumbers, .inl (cI, 300, .inl O_claimNumbers)), (aO_days, .inl (cI, 300, .inl O_days)), (aO_values, .inl (cI, 300, .inl O_values)), (aO_ranks, .inl (cI, 300, .inl O_ranks)), (aO_known, .inl (cI, 32, .inl u)), (aO_tally, .inl (cI, 100, .inl O_tally))]) A) ([.ref aO, .int x1, .int x2]).toArray s 0 0 A := ⟨_, rfl⟩
  rw [← hQ0]
  clear B
  generalize hag : ([.ref aO, .int x1, .int x2] : List Value).toArray = args at hts hQ0 ⊢
  have hi_1 : ∀ w ∈ u_ws "ClaimSources$Opinions" TT_1 8, w ∈ w_O_learn := fun w h => List.mem_cons_of_mem _ (ia_1 w h)
  have hf_33 := hts _ (List.mem_cons_of_mem _ m_99)
  have hf_15 := hts _ (List.mem_cons_of_mem _ m_93)
  have hf_18 := hts _ (List.mem_cons_of_mem _ m_94)
  have hf_27 := hts _ (List.mem_cons_of_mem _ m_97)
  have hf_9 := hts _ (List.mem_cons_of_mem _ m_92)
  have L10 : ∀ (x1 : Int32) (x2 : Int32) (n : Nat) (x3 : Int32) (O_known : Nat → Int32), wl_O_learn_10 O_persons O_claimNumbers O_days O_made x1 x2 post n x3 O_known → ∀ (H : Heap) (locs : List Loc), va_P (dC, dI) vwCl [(aO, .inr (1, [.ref aO_persons, .ref aO_claimNumbers, .ref aO_days, .ref aO_values, .ref aO_ranks, .ref aO_known, .ref aO_tally, .int O_made])), (aO_persons, .inl (cI, 300, .inl O_persons)), (aO_claimNumbers, .inl (cI, 300, .inl O_claimNumbers)), (aO_days, .inl (cI, 300, .inl O_days)), (aO_values, .inl (cI, 300, .inl O_values)), (aO_ranks, .inl (cI, 300, .inl O_ranks)), (aO_known, .inl (cI, 32, .inl O_known)), (aO_tally, .inl (cI, 100, .inl O_tally))] H → va_D A [(aO, .inr (1, [.ref aO_persons, .ref aO_claimNumbers, .ref aO_days, .ref aO_values, .ref aO_ranks, .ref aO_known, .ref aO_tally, .int O_made])), (aO_persons, .inl (cI, 300, .inl O_persons)), (aO_claimNumbers, .inl (cI, 300, .inl O_claimNumbers)), (aO_days, .inl (cI, 300, .inl O_days)), (aO_values, .inl (cI, 300, .inl O_values)), (aO_ranks, .inl (cI, 300, .inl O_ranks)), (aO_known, .inl (cI, 32, .inl O_known)), (aO_tally, .inl (cI, 100, .inl O_tally))] → va_S A s.heap H locs → ∀ (ls : Array Slot), lv_has ls 5 [(0, .ref aO), (1, .int x1), (2, .int x2), (3, .int x3)] → W p l e (headSpec w_O_learn ({ frames := 1, cells := 0, slots := 0, locals := 23 })).room s m args below meth c H locs 0 0 Q0 (F0 m 10 ls []) := by
    intro x1 x2
    intro n
    induction n with
    | zero =>
      intro x3 O_known hw
      exact False.elim hw
    | succ n ih =>
      intro x3 O_known hw H locs hP hD hS ls hl
      unfold wl_O_learn_10 at hw
      refine lv_iload_n hx hb d_O_learn_10 rfl (lv_at hl 3 rfl) ?_
      refine lv_aload_n hx hb d_O_learn_11 rfl (lv_at hl 0 rfl) ?_
      refine va_get (D := (dC, dI)) (ci := 1) (v := .int O_made) (C := "ClaimSources$Opinions") (T := TT_1) (N := 8) hx hb hts hi_1 hown hK hP 0 rfl rfl 7 (by decide) hf_33 (fun _ h9 => h9) rfl d_O_learn_12 ?_
      refine lv_icmp_ge (tgt := 91) hx hb d_O_learn_15 (by decide) (fun c_1 => ?_) (fun c_1 => ?_)
      · have hw := hw.1 c_1
        subst hQ0
        have hP9 := hP.sub (ws' := [(aO, .inr (1, [.ref aO_persons, .ref aO_claimNumbers, .ref aO_days, .ref aO_values, .ref aO_ranks, .ref aO_known, .ref aO_tally, .int O_made])), (aO_persons, .inl (cI, 300, .inl O_persons)), (aO_claimNumbers, .inl (cI, 300, .inl O_claimNumbers)), (aO_days, .inl (cI, 300, .inl O_days)), (aO_values, .inl (cI, 300, .inl O_values)), (aO_ranks, .inl (cI, 300, .inl O_ranks)), (aO_known, .inl (cI, 32, .inl O_known)), (aO_tally, .inl (cI, 100, .inl O_tally))]) [0, 1, 2, 3, 4, 5, 6, 7] rfl
        have hD9 := hD.sub (ws' := [(aO, .inr (1, [.ref aO_persons, .ref aO_claimNumbers, .ref aO_days, .ref aO_values, .ref aO_ranks, .ref aO_known, .ref aO_tally, .int O_made])), (aO_persons, .inl (cI, 300, .inl O_persons)), (aO_claimNumbers, .inl (cI, 300, .inl O_claimNumbers)), (aO_days, .inl (cI, 300, .inl O_days)), (aO_values, .inl (cI, 300, .inl O_values)), (aO_ranks, .inl (cI, 300, .inl O_ranks)), (aO_known, .inl (cI, 32, .inl O_known)), (aO_tally, .inl (cI, 100, .inl O_tally))]) [0, 1, 2, 3, 4, 5, 6, 7] (by decide) rfl
        exact W.vret hx hb hr (fun t ht hW => ⟨⟨(O_known), rfl, hw, by rw [ht]; exact hP9, hD9⟩, hS.F ht⟩) hS.2.2 d_O_learn_91
      · have hw := hw.2 c_1
        refine lv_aload_n hx hb d_O_learn_18 rfl (lv_at hl 0 rfl) ?_
        refine va_get (D := (dC, dI)) (ci := 1) (v := .ref aO_claimNumbers) (C := "ClaimSources$Opinions") (T := TT_1) (N := 8) hx hb hts hi_1 hown hK hP 0 rfl rfl 1 (by decide) hf_15 (fun _ h9 => h9) rfl d_O_learn_19 ?_
        refine lv_iload_n hx hb d_O_learn_22 rfl (lv_at hl 3 rfl) ?_
        obtain ⟨h_2, hw⟩ := hw
        refine va_iald hx hb hK hP 2 0 rfl rfl h_2 d_O_learn_23 ?_
        refine lv_iload_n hx hb d_O_learn_24 rfl (lv_at hl 1 rfl) ?_
        refine lv_icmp_ne (tgt := 85) hx hb d_O_learn_25 (by decide) (fun c_3 => ?_) (fun c_3 => ?_)
        · have hw := hw.2 c_3
          refine lv_iinc (v := x3 + 1) (lv' := [(3, .int (x3 + 1)), (0, .ref aO), (1, .int x1), (2, .int x2)]) hx hb d_O_learn_85 hl (k := 3) rfl rfl (by decide) rfl (fun ls hl => ?_)
          refine lv_goto (tgt := 10) hx hb d_O_learn_88 (by decide) ?_
          exact ih (x3 + 1) O_known hw _ _ (hP.sub [0, 1, 2, 3, 4, 5, 6, 7] rfl) (hD.sub [0, 1, 2, 3, 4, 5, 6, 7] (by decide) rfl) hS ls (lv_sub hl [1, 2, 3, 0] rfl)
        · have hw := hw.1 c_3
          refine lv_aload_n hx hb d_O_learn_28 rfl (lv_at hl 0 rfl) ?_
          refine va_get (D := (dC, dI)) (ci := 1) (v := .ref aO_days) (C := "ClaimSources$Opinions") (T := TT_1) (N := 8) hx hb hts hi_1 hown hK hP 0 rfl rfl 2 (by decide) hf_18 (fun _ h9 => h9) rfl d_O_learn_29 ?_
          refine lv_iload_n hx hb d_O_learn_32 rfl (lv_at hl 3 rfl) ?_
          obtain ⟨h_4, hw⟩ := hw
          refine va_iald hx hb hK hP 3 0 rfl rfl h_4 d_O_learn_33 ?_
          refine lv_iload_n hx hb d_O_learn_34 rfl (lv_at hl 2 rfl) ?_
          refine lv_icmp_gt (tgt := 85) hx hb d_O_learn_35 (by decide) (fun c_5 => ?_) (fun c_5 => ?_)
          · have hw := hw.1 c_5
            refine lv_iinc (v := x3 + 1) (lv' := [(3, .int (x3 + 1)), (0, .ref aO), (1, .int x1), (2, .int x2)]) hx hb d_O_learn_85 hl (k := 3) rfl rfl (by decide) rfl (fun ls hl => ?_)
            refine lv_goto (tgt := 10) hx hb d_O_learn_88 (by decide) ?_
            exact ih (x3 + 1) O_known hw _ _ (hP.sub [0, 1, 2, 3, 4, 5, 6, 7] rfl) (hD.sub [0, 1, 2, 3, 4, 5, 6, 7] (by decide) rfl) hS ls (lv_sub hl [1, 2, 3, 0] rfl)
          · have hw := hw.2 c_5
            refine lv_aload_n hx hb d_O_learn_38 rfl (lv_at hl 0 rfl) ?_
            refine va_get (D := (dC, dI)) (ci := 1) (v := .ref aO_known) (C := "ClaimSources$Opinions") (T := TT_1) (N := 8) hx hb hts hi_1 hown hK hP 0 rfl rfl 5 (by decide) hf_27 (fun _ h9 => h9) rfl d_O_learn_39 ?_
            refine lv_aload_n hx hb d_O_learn_42 rfl (lv_at hl 0 rfl) ?_
            refine va_get (D := (dC, dI)) (ci := 1) (v := .ref aO_persons) (C := "ClaimSources$Opinions") (T := TT_1) (N := 8) hx hb hts hi_1 hown hK hP 0 rfl rfl 0 (by decide) hf_9 (fun _ h9 => h9) rfl d_O_learn_43 ?_
            refine lv_iload_n hx hb d_O_learn_46 rfl (lv_at hl 3 rfl) ?_
            obtain ⟨h_6, hw⟩ := hw
            refine va_iald hx hb hK hP 1 0 rfl rfl h_6 d_O_learn_47 ?_
            obtain ⟨h_7, hw⟩ := hw
            refine va_iald hx hb hK hP 6 0 rfl rfl h_7 d_O_learn_48 ?_
            refine lv_istore (lv' := [(4, .int (O_known (O_persons x3.toNatClampNeg).toNatClampNeg)), (0, .ref aO), (1, .int x1), (2, .int x2), (3, .int x3)]) hx hb d_O_learn_49 hl (by decide) rfl (fun ls hl => ?_)
            refine lv_iload hx hb d_O_learn_51 (lv_at hl 0 rfl) ?_
            refine lv_iconst (v := -1) hx hb d_O_learn_53 (by decide) ?_
            refine lv_icmp_eq (tgt := 73) hx hb d_O_learn_54 (by decide) (fun c_8 => ?_) (fun c_8 => ?_)
            · have hw := hw.1 c_8
              refine lv_aload_n hx hb d_O_learn_73 rfl (lv_at hl 1 rfl) ?_
              refine va_get (D := (dC, dI)) (ci := 1) (v := .ref aO_known) (C := "ClaimSources$Opinions") (T := TT_1) (N := 8) hx hb hts hi_1 hown hK hP 0 rfl rfl 5 (by decide) hf_27 (fun _ h9 => h9) rfl d_O_learn_74 ?_
              refine lv_aload_n hx hb d_O_learn_77 rfl (lv_at hl 1 rfl) ?_
              refine va_get (D := (dC, dI)) (ci := 1) (v := .ref aO_persons) (C := "ClaimSources$Opinions") (T := TT_1) (N := 8) hx hb hts hi_1 hown hK hP 0 rfl rfl 0 (by decide) hf_9 (fun _ h9 => h9) rfl d_O_learn_78 ?_
              refine lv_iload_n hx hb d_O_learn_81 rfl (lv_at hl 4 rfl) ?_
              obtain ⟨h_9, hw⟩ := hw
              refine va_iald hx hb hK hP 1 0 rfl rfl h_9 d_O_learn_82 ?_
              refine lv_iload_n hx hb d_O_learn_83 rfl (lv_at hl 4 rfl) ?_
              obtain ⟨h_10, hw⟩ := hw
              refine va_iast hx hb hK hP hD hS 6 0 rfl rfl h_10 d_O_learn_84 (fun H locs hP hD hS => ?_)
              have hP : va_P (dC, dI) vwCl [(aO, .inr (1, [.ref aO_persons, .ref aO_claimNumbers, .ref aO_days, .ref aO_values, .ref aO_ranks, .ref aO_known, .ref aO_tally, .int O_made])), (aO_persons, .inl (cI, 300, .inl O_persons)), (aO_claimNumbers, .inl (cI, 300, .inl O_claimNumbers)), (aO_days, .inl (cI, 300, .inl O_days)), (aO_values, .inl (cI, 300, .inl O_values)), (aO_ranks, .inl (cI, 300, .inl O_ranks)), (aO_known, .inl (cI, 32, .inl (upd O_known (O_persons x3.toNatClampNeg).toNatClampNeg x3))), (aO_tally, .inl (cI, 100, .inl O_tally))] H := hP
              have hD : va_D A [(aO, .inr (1, [.ref aO_persons, .ref aO_claimNumbers, .ref aO_days, .ref aO_values, .ref aO_ranks, .ref aO_known, .ref aO_tally, .int O_made])), (aO_persons, .inl (cI, 300, .inl O_persons)), (aO_claimNumbers, .inl (cI, 300, .inl O_claimNumbers)), (aO_days, .inl (cI, 300, .inl O_days)), (aO_values, .inl (cI, 300, .inl O_values)), (aO_ranks, .inl (cI, 300, .inl O_ranks)), (aO_known, .inl (cI, 32, .inl (upd O_known (O_persons x3.toNatClampNeg).toNatClampNeg x3))), (aO_tally, .inl (cI, 100, .inl O_tally))] := hD
              refine lv_iinc (v := x3 + 1) (lv' := [(3, .int (x3 + 1)), (4, .int (O_known (O_persons x3.toNatClampNeg).toNatClampNeg)), (0, .ref aO), (1, .int x1), (2, .int x2)]) hx hb d_O_learn_85 hl (k := 4) rfl rfl (by decide) rfl (fun ls hl => ?_)
              refine lv_goto (tgt := 10) hx hb d_O_learn_88 (by decide) ?_
              exact ih (x3 + 1) (upd O_known (O_persons x3.toNatClampNeg).toNatClampNeg x3) hw _ _ (hP.sub [0, 1, 2, 3, 4, 5, 6, 7] rfl) (hD.sub [0, 1, 2, 3, 4, 5, 6, 7] (by decide) rfl) hS ls (lv_sub hl [2, 3, 4, 0] rfl)
            · have hw := hw.2 c_8
              refine lv_aload_n hx hb d_O_learn_57 rfl (lv_at hl 1 rfl) ?_
              refine va_get (D := (dC, dI)) (ci := 1) (v := .ref aO_days) (C := "ClaimSources$Opinions") (T := TT_1) (N := 8) hx hb hts hi_1 hown hK hP 0 rfl rfl 2 (by decide) hf_18 (fun _ h9 => h9) rfl d_O_learn_58 ?_
              refine lv_iload hx hb d_O_learn_61 (lv_at hl 0 rfl) ?_
              obtain ⟨h_11, hw⟩ := hw
              refine va_iald hx hb hK hP 3 0 rfl rfl h_11 d_O_learn_63 ?_
              refine lv_aload_n hx hb d_O_learn_64 rfl (lv_at hl 1 rfl) ?_
              refine va_get (D := (dC, dI)) (ci := 1) (v := .ref aO_days) (C := "ClaimSources$Opinions") (T := TT_1) (N := 8) hx hb hts hi_1 hown hK hP 0 rfl rfl 2 (by decide) hf_18 (fun _ h9 => h9) rfl d_O_learn_65 ?_
              refine lv_iload_n hx hb d_O_learn_68 rfl (lv_at hl 4 rfl) ?_
              obtain ⟨h_12, hw⟩ := hw
              refine va_iald hx hb hK hP 3 0 rfl rfl h_12 d_O_learn_69 ?_
              refine lv_icmp_ge (tgt := 85) hx hb d_O_learn_70 (by decide) (fun c_13 => ?_) (fun c_13 => ?_)
              · have hw := hw.1 c_13
                refine lv_iinc (v := x3 + 1) (lv' := [(3, .int (x3 + 1)), (4, .int (O_known (O_persons x3.toNatClampNeg).toNatClampNeg)), (0, .ref aO), (1, .int x1), (2, .int x2)]) hx hb d_O_learn_85 hl (k := 4) rfl rfl (by decide) rfl (fun ls hl => ?_)
                refine lv_goto (tgt := 10) hx hb d_O_learn_88 (by decide) ?_
                exact ih (x3 + 1) O_known hw _ _ (hP.sub [0, 1, 2, 3, 4, 5, 6, 7] rfl) (hD.sub [0, 1, 2, 3, 4, 5, 6, 7] (by decide) rfl) hS ls (lv_sub hl [2, 3, 4, 0] rfl)
              · have hw := hw.2 c_13
                refine lv_aload_n hx hb d_O_learn_73 rfl (lv_at hl 1 rfl) ?_
                refine va_get (D := (dC, dI)) (ci := 1) (v := .ref aO_known) (C := "ClaimSources$Opinions") (T := TT_1) (N := 8) hx hb hts hi_1 hown hK hP 0 rfl rfl 5 (by decide) hf_27 (fun _ h9 => h9) rfl d_O_learn_74 ?_
                refine lv_aload_n hx hb d_O_learn_77 rfl (lv_at hl 1 rfl) ?_
                refine va_get (D := (dC, dI)) (ci := 1) (v := .ref aO_persons) (C := "ClaimSources$Opinions") (T := TT_1) (N := 8) hx hb hts hi_1 hown hK hP 0 rfl rfl 0 (by decide) hf_9 (fun _ h9 => h9) rfl d_O_learn_78 ?_
                refine lv_iload_n hx hb d_O_learn_81 rfl (lv_at hl 4 rfl) ?_
                obtain ⟨h_14, hw⟩ := hw
                refine va_iald hx hb hK hP 1 0 rfl rfl h_14 d_O_learn_82 ?_
                refine lv_iload_n hx hb d_O_learn_83 rfl (lv_at hl 4 rfl) ?_
                obtain ⟨h_15, hw⟩ := hw
                refine va_iast hx hb hK hP hD hS 6 0 rfl rfl h_15 d_O_learn_84 (fun H locs hP hD hS => ?_)
                have hP : va_P (dC, dI) vwCl [(aO, .inr (1, [.ref aO_persons, .ref aO_claimNumbers, .ref aO_days, .ref aO_values, .ref aO_ranks, .ref aO_known, .ref aO_tally, .int O_made])), (aO_persons, .inl (cI, 300, .inl O_persons)), (aO_claimNumbers, .inl (cI, 300, .inl O_claimNumbers)), (aO_days, .inl (cI, 300, .inl O_days)), (aO_values, .inl (cI, 300, .inl O_values)), (aO_ranks, .inl (cI, 300, .inl O_ranks)), (aO_known, .inl (cI, 32, .inl (upd O_known (O_persons x3.toNatClampNeg).toNatClampNeg x3))), (aO_tally, .inl (cI, 100, .inl O_tally))] H := hP
                have hD : va_D A [(aO, .inr (1, [.ref aO_persons, .ref aO_claimNumbers, .ref aO_days, .ref aO_values, .ref aO_ranks, .ref aO_known, .ref aO_tally, .int O_made])), (aO_persons, .inl (cI, 300, .inl O_persons)), (aO_claimNumbers, .inl (cI, 300, .inl O_claimNumbers)), (aO_days, .inl (cI, 300, .inl O_days)), (aO_values, .inl (cI, 300, .inl O_values)), (aO_ranks, .inl (cI, 300, .inl O_ranks)), (aO_known, .inl (cI, 32, .inl (upd O_known (O_persons x3.toNatClampNeg).toNatClampNeg x3))), (aO_tally, .inl (cI, 100, .inl O_tally))] := hD
                refine lv_iinc (v := x3 + 1) (lv' := [(3, .int (x3 + 1)), (4, .int (O_known (O_persons x3.toNatClampNeg).toNatClampNeg)), (0, .ref aO), (1, .int x1), (2, .int x2)]) hx hb d_O_learn_85 hl (k := 4) rfl rfl (by decide) rfl (fun ls hl => ?_)
                refine lv_goto (tgt := 10) hx hb d_O_learn_88 (by decide) ?_
                exact ih (x3 + 1) (upd O_known (O_persons x3.toNatClampNeg).toNatClampNeg x3) hw _ _ (hP.sub [0, 1, 2, 3, 4, 5, 6, 7] rfl) (hD.sub [0, 1, 2, 3, 4, 5, 6, 7] (by decide) rfl) hS ls (lv_sub hl [2, 3, 4, 0] rfl)
  unfold wp_O_learn at hw
  refine lv_aload_n hx hb d_O_learn_0 rfl (lv_at hl 0 rfl) ?_
  refine va_get (D := (dC, dI)) (ci := 1) (v := .ref aO_known) (C := "ClaimSources$Opinions") (T := TT_1) (N := 8) hx hb hts hi_1 hown hK hP 0 rfl rfl 5 (by decide) hf_27 (fun _ h9 => h9) rfl d_O_learn_1 ?_
  refine lv_iconst (v := -1) hx hb d_O_learn_4 (by decide) ?_
  have hPc := hP.sub (ws' := [(aO_known, .inl (cI, 32, .inl O_known))]) [6] rfl
  have hDc := hD.sub (ws' := [(aO_known, .inl (cI, 32, .inl O_known))]) [6] (by decide) rfl
  have hFc := va_free (wc := [(aO_known, .inl (cI, 32, .inl O_known))]) hD hS hA [6] rfl
  refine va_callv (va_runS (As := [.ref aO_known, .int (-1 : Int32)]) (rest := []) ⟨hx, hb, hml, hown, hts⟩ (mt_J_fill l dC dI cI aO_known s.heap.size _ 32 O_known (-1 : Int32) hw) (va_cwS 2 hts (gdS m_462 m_353 m_14 m_354) rfl rfl rfl (by decide +kernel) ⟨Nat.le_of_ble_eq_true rfl, Nat.le_of_ble_eq_true rfl⟩) ⟨fb_w, fun U hU hW => ⟨rfl, by rw [hU], by rw [hU]; exact hPc, va_K.moved hW.alike hK, hDc.weaken (fun _ _ _ _ => trivial), hE.warm hW⟩⟩ rfl rfl hl.1 rfl (lv_room (Nat.le_of_ble_eq_true rfl)) d_O_learn_5 ⟨Nat.le_of_ble_eq_true rfl, Nat.le_of_ble_eq_true rfl⟩) hS (fun q _ h => hFc q h) hFc (fun u t H1 locs ht hvm hw hB hz1 hk1 hS => ?_)
  obtain ⟨u_16, rfl⟩ : ∃ z, z = u := ⟨_, rfl⟩
  obtain ⟨hP1, hD1⟩ := hB
  rw [ht] at hP1
  try dsimp only at hw hP1 hD1
  obtain ⟨hP, hD⟩ := va_join (wr := [(aO, .inr (1, [.ref aO_persons, .ref aO_claimNumbers, .ref aO_days, .ref aO_values, .ref aO_ranks, .ref aO_known, .ref aO_tally, .int O_made])), (aO_persons, .inl (cI, 300, .inl O_persons)), (aO_claimNumbers, .inl (cI, 300, .inl O_claimNumbers)), (aO_days, .inl (cI, 300, .inl O_days)), (aO_values, .inl (cI, 300, .inl O_values)), (aO_ranks, .inl (cI, 300, .inl O_ranks)), (aO_tally, .inl (cI, 100, .inl O_tally))]) (w1 := [(aO_known, .inl (cI, 32, .inl u_16))]) hP hD [6] [0, 1, 2, 3, 4, 5, 7] rfl rfl (by decide) (by decide) hk1 hFc hP1 hD1
  generalize H1 = H at hP hS ⊢
  have hP : va_P (dC, dI) vwCl [(aO, .inr (1, [.ref aO_persons, .ref aO_claimNumbers, .ref aO_days, .ref aO_values, .ref aO_ranks, .ref aO_known, .ref aO_tally, .int O_made])), (aO_persons, .inl (cI, 300, .inl O_persons)), (aO_claimNumbers, .inl (cI, 300, .inl O_claimNumbers)), (aO_days, .inl (cI, 300, .inl O_days)), (aO_values, .inl (cI, 300, .inl O_values)), (aO_ranks, .inl (cI, 300, .inl O_ranks)), (aO_tally, .inl (cI, 100, .inl O_tally)), (aO_known, .inl (cI, 32, .inl u_16))] H := hP
  have hD : va_D A [(aO, .inr (1, [.ref aO_persons, .ref aO_claimNumbers, .ref aO_days, .ref aO_values, .ref aO_ranks, .ref aO_known, .ref aO_tally, .int O_made])), (aO_persons, .inl (cI, 300, .inl O_persons)), (aO_claimNumbers, .inl (cI, 300, .inl O_claimNumbers)), (aO_days, .inl (cI, 300, .inl O_days)), (aO_values, .inl (cI, 300, .inl O_values)), (aO_ranks, .inl (cI, 300, .inl O_ranks)), (aO_tally, .inl (cI, 100, .inl O_tally)), (aO_known, .inl (cI, 32, .inl u_16))] := hD
  refine lv_iconst (v := 0) hx hb d_O_learn_8 (by decide) ?_
  refine lv_istore_n (lv' := [(3, .int (0 : Int32)), (0, .ref aO), (1, .int x1), (2, .int x2)]) hx hb d_O_learn_9 rfl hl (by decide) rfl (fun ls hl => ?_)
  obtain ⟨n_17, hw⟩ := hw
  exact L10 x1 x2 n_17 (0 : Int32) u_16 hw _ _ (hP.sub [0, 1, 2, 3, 4, 5, 7, 6] rfl) (hD.sub [0, 1, 2, 3, 4, 5, 7, 6] (by decide) rfl) hS ls (lv_sub hl [1, 2, 3, 0] rfl)
def wl_O_greatestRank_4 (O_ranks : Nat → Int32) (O_known : Nat → Int32) (post : Int32 → Prop) : Nat → Int32 → Int32 → Prop
  | 0, _, _ => False
  | n + 1, x1, x2 => (((32 : Int32) ≤ x2 → (post x1)) ∧ (¬ ((32 : Int32) ≤ x2) → (vp_in x2 32 ∧ (((O_known x2.toNatClampNeg) = (-1 : Int32) → wl_O_greatestRank_4 O_ranks O_known post n x1 (x2 + 1)) ∧ (¬ ((O_known x2.toNatClampNeg) = (-1 : Int32)) → (vp_in (O_known x2.toNatClampNeg) 300 ∧ wl_O_greatestRank_4 O_ranks O_known post n (if x1 < (O_ranks (O_known x2.toNatClampNeg).toNatClampNeg) then (O_ranks (O_known x2.toNatClampNeg).toNatClampNeg) else x1) (x2 + 1)))))))
def wp_O_greatestRank (O_persons : Nat → Int32) (O_claimNumbers : Nat → Int32) (O_days : Nat → Int32) (O_values : Nat → Int32) (O_ranks : Nat → Int32) (O_known : Nat → Int32) (O_tally : Nat → Int32) (O_made : Int32) (post : Int32 → Prop) : Prop := (∃ n9, wl_O_greatestRank_4 O_ranks O_known post n9 (-1 : Int32) (0 : Int32))
set_option maxHeartbeats 4000000 in
set_option maxRecDepth 100000 in
theorem mt_O_greatestRank (l : Launch) (dC : Nat → ClassId) (dI : Nat → Nat → Nat) (cI : ClassId) (aO : Nat) (aO_persons : Nat) (aO_claimNumbers : Nat) (aO_days : Nat) (aO_values : Nat) (aO_ranks : Nat) (aO_known : Nat) (aO_tally : Nat) (post : Int32 → Prop) (O_persons : Nat → Int32) (O_claimNumbers : Nat → Int32) (O_days : Nat → Int32) (O_values : Nat → Int32) (O_ranks : Nat → Int32) (O_known : Nat → Int32) (O_tally : Nat → Int32) (O_made : Int32) (hw : wp_O_greatestRank O_persons O_claimNumbers O_days O_values O_ranks O_known O_tally O_made post) : Met l y_O_greatestRank w_O_greatestRank ({ frames := 1, cells := 0, slots := 0, locals := 21 }) (va_Pc [.ref aO] (fun U => va_P (dC, dI) vwCl [(aO, .inr (1, [.ref aO_persons, .ref aO_claimNumbers, .ref aO_days, .ref aO_values, .ref aO_ranks, .ref aO_known, .ref aO_tally, .int O_made])), (aO_persons, .inl (cI, 300, .inl O_persons)), (aO_claimNumbers, .inl (cI, 300, .inl O_claimNumbers)), (aO_days, .inl (cI, 300, .inl O_days)), (aO_values, .inl (cI, 300, .inl O_values)), (aO_ranks, .inl (cI, 300, .inl O_ranks)), (aO_known, .inl (cI, 32, .inl O_known)), (aO_tally, .inl (cI, 100, .inl O_tally))] U.heap ∧ va_K (dC, dI) vwCl [(cI, .int)] U ∧ en_ok U)) (vp_Si post) 0 0 (fun _ => False) := by
  refine Met.ofW (cc := prog_3_method_12_code) (maxL := 4) (ret := (some .int)) (by decide) rfl ?_
  intro p e s m args below meth c s₁ B hml hv
  obtain ⟨rfl, hP, hK, hE⟩ := hv
  have hx := B.exec
  have hb := B.bytes
  have hr := B.returns
  have hts := atoms_spec (ws := w_O_greatestRank) B.pre
  have hown : s.vm.findClass "ClaimSources$Opinions" = some m.cls := findClass_of_methodNamed B.named
  have hlocks := B.notSynchronized
  have hl := lv_entry ([.ref aO]) (n := 4) (Nat.le_of_ble_eq_true rfl)
  rw [lg_entry_eq]
  generalize (lg_sl ([.ref aO]) ++ List.replicate (4 - (lg_sl ([.ref aO])).length) Slot.unset).toArray = ls at hl ⊢
  have hl : lv_has ls 4 [(0, .ref aO)] := hl
  obtain ⟨Q0, hQ0⟩ : ∃ Q0, Q0 = MQ below (vp_Si post) ([.ref aO]).toArray s 0 0 (fun _ => False) := ⟨_, rfl⟩
  rw [← hQ0]
  clear B
  generalize hag : ([.ref aO] : List Value).toArray = args at hts hQ0 ⊢
  have hi_1 : ∀ w ∈ u_ws "ClaimSources$Opinions" TT_1 8, w ∈ w_O_greatestRank := fun w h => List.mem_cons_of_mem _ (ia_1 w h)
  have hf_27 := hts _ (List.mem_cons_of_mem _ m_97)
  have hf_24 := hts _ (List.mem_cons_of_mem _ m_96)
  have L4 : ∀ (n : Nat) (x1 : Int32) (x2 : Int32), wl_O_greatestRank_4 O_ranks O_known post n x1 x2 → ∀ (ls : Array Slot), lv_has ls 4 [(0, .ref aO), (1, .int x1), (2, .int x2)] → W p l e (headSpec w_O_greatestRank ({ frames := 1, cells := 0, slots := 0, locals := 21 })).room s m args below meth c s.heap [] 0 0 Q0 (F0 m 4 ls []) := by
    intro n
    induction n with
    | zero =>
      intro x1 x2 hw
      exact False.elim hw
    | succ n ih =>
      intro x1 x2 hw ls hl
      unfold wl_O_greatestRank_4 at hw
      refine lv_iload_n hx hb d_O_greatestRank_4 rfl (lv_at hl 2 rfl) ?_
      refine lv_bipush (v := 32) hx hb d_O_greatestRank_5 (by decide) ?_
      refine lv_icmp_ge (tgt := 39) hx hb d_O_greatestRank_7 (by decide) (fun c_1 => ?_) (fun c_1 => ?_)
      · have hw := hw.1 c_1
        refine lv_iload_n hx hb d_O_greatestRank_39 rfl (lv_at hl 1 rfl) ?_
        subst hQ0
        exact W.iret (v := x1) hx hb hr (fun t ht hW => ⟨_, rfl, hw, ht⟩) (fun q h => by cases h) d_O_greatestRank_40
      · have hw := hw.2 c_1
        refine lv_aload_n hx hb d_O_greatestRank_10 rfl (lv_at hl 0 rfl) ?_
        refine va_get (D := (dC, dI)) (ci := 1) (v := .ref aO_known) (C := "ClaimSources$Opinions") (T := TT_1) (N := 8) hx hb hts hi_1 hown hK hP 0 rfl rfl 5 (by decide) hf_27 (fun _ h9 => h9) rfl d_O_greatestRank_11 ?_
        refine lv_iload_n hx hb d_O_greatestRank_14 rfl (lv_at hl 2 rfl) ?_
        obtain ⟨h_2, hw⟩ := hw
        refine va_iald hx hb hK hP 6 0 rfl rfl h_2 d_O_greatestRank_15 ?_
        refine lv_istore_n (lv' := [(3, .int (O_known x2.toNatClampNeg)), (0, .ref aO), (1, .int x1), (2, .int x2)]) hx hb d_O_greatestRank_16 rfl hl (by decide) rfl (fun ls hl => ?_)
        refine lv_iload_n hx hb d_O_greatestRank_17 rfl (lv_at hl 0 rfl) ?_
        refine lv_iconst (v := -1) hx hb d_O_greatestRank_18 (by decide) ?_
        refine lv_icmp_eq (tgt := 33) hx hb d_O_greatestRank_19 (by decide) (fun c_3 => ?_) (fun c_3 => ?_)
        · have hw := hw.1 c_3
          refine lv_iinc (v := x2 + 1) (lv' := [(2, .int (x2 + 1)), (3, .int (O_known x2.toNatClampNeg)), (0, .ref aO), (1, .int x1)]) hx hb d_O_greatestRank_33 hl (k := 3) rfl rfl (by decide) rfl (fun ls hl => ?_)
          refine lv_goto (tgt := 4) hx hb d_O_greatestRank_36 (by decide) ?_
          exact ih x1 (x2 + 1) hw ls (lv_sub hl [2, 3, 0] rfl)
        · have hw := hw.2 c_3
          refine lv_iload_n hx hb d_O_greatestRank_22 rfl (lv_at hl 2 rfl) ?_
          refine lv_aload_n hx hb d_O_greatestRank_23 rfl (lv_at hl 1 rfl) ?_
          refine va_get (D := (dC, dI)) (ci := 1) (v := .ref aO_ranks) (C := "ClaimSources$Opinions") (T := TT_1) (N := 8) hx hb hts hi_1 hown hK hP 0 rfl rfl 4 (by decide) hf_24 (fun _ h9 => h9) rfl d_O_greatestRank_24 ?_
          refine lv_iload_n hx hb d_O_greatestRank_27 rfl (lv_at hl 0 rfl) ?_
          obtain ⟨h_4, hw⟩ := hw
          refine va_iald hx hb hK hP 5 0 rfl rfl h_4 d_O_greatestRank_28 ?_
          refine va_mmax hx hb (hml.trans hl.1.symm) hown (hts _ (List.mem_cons_of_mem _ m_497)) (hts _ (List.mem_cons_of_mem _ m_498)) (hts _ (List.mem_cons_of_mem _ m_15)) (hts _ (List.mem_cons_of_mem _ m_499)) (Nat.le_of_ble_eq_true rfl) (Nat.le_of_ble_eq_true rfl) (Nat.le_of_ble_eq_true rfl) (Nat.le_of_ble_eq_true rfl) d_O_greatestRank_29 ?_
          refine lv_istore_n (lv' := [(1, .int (if x1 < (O_ranks (O_known x2.toNatClampNeg).toNatClampNeg) then (O_ranks (O_known x2.toNatClampNeg).toNatClampNeg) else x1)), (3, .int (O_known x2.toNatClampNeg)), (0, .ref aO), (2, .int x2)]) hx hb d_O_greatestRank_32 rfl hl (by decide) rfl (fun ls hl => ?_)
          refine lv_iinc (v := x2 + 1) (lv' := [(2, .int (x2 + 1)), (1, .int (if x1 < (O_ranks (O_known x2.toNatClampNeg).toNatClampNeg) then (O_ranks (O_known x2.toNatClampNeg).toNatClampNeg) else x1)), (3, .int (O_known x2.toNatClampNeg)), (0, .ref aO)]) hx hb d_O_greatestRank_33 hl (k := 3) rfl rfl (by decide) rfl (fun ls hl => ?_)
          refine lv_goto (tgt := 4) hx hb d_O_greatestRank_36 (by decide) ?_
          exact ih (if x1 < (O_ranks (O_known x2.toNatClampNeg).toNatClampNeg) then (O_ranks (O_known x2.toNatClampNeg).toNatClampNeg) else x1) (x2 + 1) hw ls (lv_sub hl [3, 1, 0] rfl)
  unfold wp_O_greatestRank at hw
  refine lv_iconst (v := -1) hx hb d_O_greatestRank_0 (by decide) ?_
  refine lv_istore_n (lv' := [(1, .int (-1 : Int32)), (0, .ref aO)]) hx hb d_O_greatestRank_1 rfl hl (by decide) rfl (fun ls hl => ?_)
  refine lv_iconst (v := 0) hx hb d_O_greatestRank_2 (by decide) ?_
  refine lv_istore_n (lv' := [(2, .int (0 : Int32)), (1, .int (-1 : Int32)), (0, .ref aO)]) hx hb d_O_greatestRank_3 rfl hl (by decide) rfl (fun ls hl => ?_)
  obtain ⟨n_5, hw⟩ := hw
  exact L4 n_5 (-1 : Int32) (0 : Int32) hw ls (lv_sub hl [2, 1, 0] rfl)
def wl_O_greatestDayOf_4 (O_days : Nat → Int32) (O_ranks : Nat → Int32) (O_known : Nat → Int32) (x1 : Int32) (post : Int32 → Prop) : Nat → Int32 → Int32 → Prop
  | 0, _, _ => False
  | n + 1, x2, x3 => (((32 : Int32) ≤ x3 → (post x2)) ∧ (¬ ((32 : Int32) ≤ x3) → (vp_in x3 32 ∧ (((O_known x3.toNatClampNeg) = (-1 : Int32) → wl_O_greatestDayOf_4 O_days O_ranks O_known x1 post n x2 (x3 + 1)) ∧ (¬ ((O_known x3.toNatClampNeg) = (-1 : Int32)) → (vp_in (O_known x3.toNatClampNeg) 300 ∧ (((O_ranks (O_known x3.toNatClampNeg).toNatClampNeg) = x1 → (vp_in (O_known x3.toNatClampNeg) 300 ∧ wl_O_greatestDayOf_4 O_days O_ranks O_known x1 post n (if x2 < (O_days (O_known x3.toNatClampNeg).toNatClampNeg) then (O_days (O_known x3.toNatClampNeg).toNatClampNeg) else x2) (x3 + 1))) ∧ (¬ ((O_ranks (O_known x3.toNatClampNeg).toNatClampNeg) = x1) → wl_O_greatestDayOf_4 O_days O_ranks O_known x1 post n x2 (x3 + 1)))))))))
def wp_O_greatestDayOf (O_persons : Nat → Int32) (O_claimNumbers : Nat → Int32) (O_days : Nat → Int32) (O_values : Nat → Int32) (O_ranks : Nat → Int32) (O_known : Nat → Int32) (O_tally : Nat → Int32) (O_made : Int32) (x1 : Int32) (post : Int32 → Prop) : Prop := (∃ n9, wl_O_greatestDayOf_4 O_days O_ranks O_known x1 post n9 (-1 : Int32) (0 : Int32))
set_option maxHeartbeats 4000000 in
set_option maxRecDepth 100000 in
theorem mt_O_greatestDayOf (l : Launch) (dC : Nat → ClassId) (dI : Nat → Nat → Nat) (cI : ClassId) (aO : Nat) (aO_persons : Nat) (aO_claimNumbers : Nat) (aO_days : Nat) (aO_values : Nat) (aO_ranks : Nat) (aO_known : Nat) (aO_tally : Nat) (post : Int32 → Prop) (O_persons : Nat → Int32) (O_claimNumbers : Nat → Int32) (O_days : Nat → Int32) (O_values : Nat → Int32) (O_ranks : Nat → Int32) (O_known : Nat → Int32) (O_tally : Nat → Int32) (O_made : Int32) (x1 : Int32) (hw : wp_O_greatestDayOf O_persons O_claimNumbers O_days O_values O_ranks O_known O_tally O_made x1 post) : Met l y_O_greatestDayOf w_O_greatestDayOf ({ frames := 1, cells := 0, slots := 0, locals := 21 }) (va_Pc [.ref aO, .int x1] (fun U => va_P (dC, dI) vwCl [(aO, .inr (1, [.ref aO_persons, .ref aO_claimNumbers, .ref aO_days, .ref aO_values, .ref aO_ranks, .ref aO_known, .ref aO_tally, .int O_made])), (aO_persons, .inl (cI, 300, .inl O_persons)), (aO_claimNumbers, .inl (cI, 300, .inl O_claimNumbers)), (aO_days, .inl (cI, 300, .inl O_days)), (aO_values, .inl (cI, 300, .inl O_values)), (aO_ranks, .inl (cI, 300, .inl O_ranks)), (aO_known, .inl (cI, 32, .inl O_known)), (aO_tally, .inl (cI, 100, .inl O_tally))] U.heap ∧ va_K (dC, dI) vwCl [(cI, .int)] U ∧ en_ok U)) (vp_Si post) 0 0 (fun _ => False) := by
  refine Met.ofW (cc := prog_3_method_13_code) (maxL := 5) (ret := (some .int)) (by decide) rfl ?_
  intro p e s m args below meth c s₁ B hml hv
  obtain ⟨rfl, hP, hK, hE⟩ := hv
  have hx := B.exec
  have hb := B.bytes
  have hr := B.returns
  have hts := atoms_spec (ws := w_O_greatestDayOf) B.pre
  have hown : s.vm.findClass "ClaimSources$Opinions" = some m.cls := findClass_of_methodNamed B.named
  have hlocks := B.notSynchronized
  have hl := lv_entry ([.ref aO, .int x1]) (n := 5) (Nat.le_of_ble_eq_true rfl)
  rw [lg_entry_eq]
  generalize (lg_sl ([.ref aO, .int x1]) ++ List.replicate (5 - (lg_sl ([.ref aO, .int x1])).length) Slot.unset).toArray = ls at hl ⊢
  have hl : lv_has ls 5 [(0, .ref aO), (1, .int x1)] := hl
  obtain ⟨Q0, hQ0⟩ : ∃ Q0, Q0 = MQ below (vp_Si post) ([.ref aO, .int x1]).toArray s 0 0 (fun _ => False) := ⟨_, rfl⟩
  rw [← hQ0]
  clear B
  generalize hag : ([.ref aO, .int x1] : List Value).toArray = args at hts hQ0 ⊢
  have hi_1 : ∀ w ∈ u_ws "ClaimSources$Opinions" TT_1 8, w ∈ w_O_greatestDayOf := fun w h => List.mem_cons_of_mem _ (ia_1 w h)
  have hf_27 := hts _ (List.mem_cons_of_mem _ m_97)
  have hf_24 := hts _ (List.mem_cons_of_mem _ m_96)
  have hf_18 := hts _ (List.mem_cons_of_mem _ m_94)
  have L4 : ∀ (x1 : Int32) (n : Nat) (x2 : Int32) (x3 : Int32), wl_O_greatestDayOf_4 O_days O_ranks O_known x1 post n x2 x3 → ∀ (ls : Array Slot), lv_has ls 5 [(0, .ref aO), (1, .int x1), (2, .int x2), (3, .int x3)] → W p l e (headSpec w_O_greatestDayOf ({ frames := 1, cells := 0, slots := 0, locals := 21 })).room s m args below meth c s.heap [] 0 0 Q0 (F0 m 4 ls []) := by
    intro x1
    intro n
    induction n with
    | zero =>
      intro x2 x3 hw
      exact False.elim hw
    | succ n ih =>
      intro x2 x3 hw ls hl
      unfold wl_O_greatestDayOf_4 at hw
      refine lv_iload_n hx hb d_O_greatestDayOf_4 rfl (lv_at hl 3 rfl) ?_
      refine lv_bipush (v := 32) hx hb d_O_greatestDayOf_5 (by decide) ?_
      refine lv_icmp_ge (tgt := 53) hx hb d_O_greatestDayOf_7 (by decide) (fun c_1 => ?_) (fun c_1 => ?_)
      · have hw := hw.1 c_1
        refine lv_iload_n hx hb d_O_greatestDayOf_53 rfl (lv_at hl 2 rfl) ?_
        subst hQ0
        exact W.iret (v := x2) hx hb hr (fun t ht hW => ⟨_, rfl, hw, ht⟩) (fun q h => by cases h) d_O_greatestDayOf_54
      · have hw := hw.2 c_1
        refine lv_aload_n hx hb d_O_greatestDayOf_10 rfl (lv_at hl 0 rfl) ?_
        refine va_get (D := (dC, dI)) (ci := 1) (v := .ref aO_known) (C := "ClaimSources$Opinions") (T := TT_1) (N := 8) hx hb hts hi_1 hown hK hP 0 rfl rfl 5 (by decide) hf_27 (fun _ h9 => h9) rfl d_O_greatestDayOf_11 ?_
        refine lv_iload_n hx hb d_O_greatestDayOf_14 rfl (lv_at hl 3 rfl) ?_
        obtain ⟨h_2, hw⟩ := hw
        refine va_iald hx hb hK hP 6 0 rfl rfl h_2 d_O_greatestDayOf_15 ?_
        refine lv_istore (lv' := [(4, .int (O_known x3.toNatClampNeg)), (0, .ref aO), (1, .int x1), (2, .int x2), (3, .int x3)]) hx hb d_O_greatestDayOf_16 hl (by decide) rfl (fun ls hl => ?_)
        refine lv_iload hx hb d_O_greatestDayOf_18 (lv_at hl 0 rfl) ?_
        refine lv_iconst (v := -1) hx hb d_O_greatestDayOf_20 (by decide) ?_
        refine lv_icmp_eq (tgt := 47) hx hb d_O_greatestDayOf_21 (by decide) (fun c_3 => ?_) (fun c_3 => ?_)
        · have hw := hw.1 c_3
          refine lv_iinc (v := x3 + 1) (lv' := [(3, .int (x3 + 1)), (4, .int (O_known x3.toNatClampNeg)), (0, .ref aO), (1, .int x1), (2, .int x2)]) hx hb d_O_greatestDayOf_47 hl (k := 4) rfl rfl (by decide) rfl (fun ls hl => ?_)
          refine lv_goto (tgt := 4) hx hb d_O_greatestDayOf_50 (by decide) ?_
          exact ih x2 (x3 + 1) hw ls (lv_sub hl [2, 3, 4, 0] rfl)
        · have hw := hw.2 c_3
          refine lv_aload_n hx hb d_O_greatestDayOf_24 rfl (lv_at hl 1 rfl) ?_
          refine va_get (D := (dC, dI)) (ci := 1) (v := .ref aO_ranks) (C := "ClaimSources$Opinions") (T := TT_1) (N := 8) hx hb hts hi_1 hown hK hP 0 rfl rfl 4 (by decide) hf_24 (fun _ h9 => h9) rfl d_O_greatestDayOf_25 ?_
          refine lv_iload hx hb d_O_greatestDayOf_28 (lv_at hl 0 rfl) ?_
          obtain ⟨h_4, hw⟩ := hw
          refine va_iald hx hb hK hP 5 0 rfl rfl h_4 d_O_greatestDayOf_30 ?_
          refine lv_iload_n hx hb d_O_greatestDayOf_31 rfl (lv_at hl 2 rfl) ?_
          refine lv_icmp_ne (tgt := 47) hx hb d_O_greatestDayOf_32 (by decide) (fun c_5 => ?_) (fun c_5 => ?_)
          · have hw := hw.2 c_5
            refine lv_iinc (v := x3 + 1) (lv' := [(3, .int (x3 + 1)), (4, .int (O_known x3.toNatClampNeg)), (0, .ref aO), (1, .int x1), (2, .int x2)]) hx hb d_O_greatestDayOf_47 hl (k := 4) rfl rfl (by decide) rfl (fun ls hl => ?_)
            refine lv_goto (tgt := 4) hx hb d_O_greatestDayOf_50 (by decide) ?_
            exact ih x2 (x3 + 1) hw ls (lv_sub hl [2, 3, 4, 0] rfl)
          · have hw := hw.1 c_5
            refine lv_iload_n hx hb d_O_greatestDayOf_35 rfl (lv_at hl 3 rfl) ?_
            refine lv_aload_n hx hb d_O_greatestDayOf_36 rfl (lv_at hl 1 rfl) ?_
            refine va_get (D := (dC, dI)) (ci := 1) (v := .ref aO_days) (C := "ClaimSources$Opinions") (T := TT_1) (N := 8) hx hb hts hi_1 hown hK hP 0 rfl rfl 2 (by decide) hf_18 (fun _ h9 => h9) rfl d_O_greatestDayOf_37 ?_
            refine lv_iload hx hb d_O_greatestDayOf_40 (lv_at hl 0 rfl) ?_
            obtain ⟨h_6, hw⟩ := hw
            refine va_iald hx hb hK hP 3 0 rfl rfl h_6 d_O_greatestDayOf_42 ?_
            refine va_mmax hx hb (hml.trans hl.1.symm) hown (hts _ (List.mem_cons_of_mem _ m_497)) (hts _ (List.mem_cons_of_mem _ m_498)) (hts _ (List.mem_cons_of_mem _ m_15)) (hts _ (List.mem_cons_of_mem _ m_499)) (Nat.le_of_ble_eq_true rfl) (Nat.le_of_ble_eq_true rfl) (Nat.le_of_ble_eq_true rfl) (Nat.le_of_ble_eq_true rfl) d_O_greatestDayOf_43 ?_
            refine lv_istore_n (lv' := [(2, .int (if x2 < (O_days (O_known x3.toNatClampNeg).toNatClampNeg) then (O_days (O_known x3.toNatClampNeg).toNatClampNeg) else x2)), (4, .int (O_known x3.toNatClampNeg)), (0, .ref aO), (1, .int x1), (3, .int x3)]) hx hb d_O_greatestDayOf_46 rfl hl (by decide) rfl (fun ls hl => ?_)
            refine lv_iinc (v := x3 + 1) (lv' := [(3, .int (x3 + 1)), (2, .int (if x2 < (O_days (O_known x3.toNatClampNeg).toNatClampNeg) then (O_days (O_known x3.toNatClampNeg).toNatClampNeg) else x2)), (4, .int (O_known x3.toNatClampNeg)), (0, .ref aO), (1, .int x1)]) hx hb d_O_greatestDayOf_47 hl (k := 4) rfl rfl (by decide) rfl (fun ls hl => ?_)
            refine lv_goto (tgt := 4) hx hb d_O_greatestDayOf_50 (by decide) ?_
            exact ih (if x2 < (O_days (O_known x3.toNatClampNeg).toNatClampNeg) then (O_days (O_known x3.toNatClampNeg).toNatClampNeg) else x2) (x3 + 1) hw ls (lv_sub hl [3, 4, 1, 0] rfl)
  unfold wp_O_greatestDayOf at hw
  refine lv_iconst (v := -1) hx hb d_O_greatestDayOf_0 (by decide) ?_
  refine lv_istore_n (lv' := [(2, .int (-1 : Int32)), (0, .ref aO), (1, .int x1)]) hx hb d_O_greatestDayOf_1 rfl hl (by decide) rfl (fun ls hl => ?_)
  refine lv_iconst (v := 0) hx hb d_O_greatestDayOf_2 (by decide) ?_
  refine lv_istore_n (lv' := [(3, .int (0 : Int32)), (2, .int (-1 : Int32)), (0, .ref aO), (1, .int x1)]) hx hb d_O_greatestDayOf_3 rfl hl (by decide) rfl (fun ls hl => ?_)
  obtain ⟨n_7, hw⟩ := hw
  exact L4 x1 n_7 (-1 : Int32) (0 : Int32) hw ls (lv_sub hl [2, 3, 1, 0] rfl)
def wl_O_commonValue_5 (O_days : Nat → Int32) (O_values : Nat → Int32) (O_ranks : Nat → Int32) (O_known : Nat → Int32) (x1 : Int32) (x2 : Int32) (post : Int32 → Prop) : Nat → Int32 → Int32 → Prop
  | 0, _, _ => False
  | n + 1, x3, x4 => (((32 : Int32) ≤ x4 → (post x3)) ∧ (¬ ((32 : Int32) ≤ x4) → (vp_in x4 32 ∧ (((O_known x4.toNatClampNeg) = (-1 : Int32) → wl_O_commonValue_5 O_days O_values O_ranks O_known x1 x2 post n x3 (x4 + 1)) ∧ (¬ ((O_known x4.toNatClampNeg) = (-1 : Int32)) → (vp_in (O_known x4.toNatClampNeg) 300 ∧ (((O_ranks (O_known x4.toNatClampNeg).toNatClampNeg) < x1 → wl_O_commonValue_5 O_days O_values O_ranks O_known x1 x2 post n x3 (x4 + 1)) ∧ (¬ ((O_ranks (O_known x4.toNatClampNeg).toNatClampNeg) < x1) → (vp_in (O_known x4.toNatClampNeg) 300 ∧ (((O_days (O_known x4.toNatClampNeg).toNatClampNeg) < x2 → wl_O_commonValue_5 O_days O_values O_ranks O_known x1 x2 post n x3 (x4 + 1)) ∧ (¬ ((O_days (O_known x4.toNatClampNeg).toNatClampNeg) < x2) → ((x3 = (-1 : Int32) → (vp_in (O_known x4.toNatClampNeg) 300 ∧ wl_O_commonValue_5 O_days O_values O_ranks O_known x1 x2 post n (O_values (O_known x4.toNatClampNeg).toNatClampNeg) (x4 + 1))) ∧ (¬ (x3 = (-1 : Int32)) → (vp_in (O_known x4.toNatClampNeg) 300 ∧ ((x3 = (O_values (O_known x4.toNatClampNeg).toNatClampNeg) → wl_O_commonValue_5 O_days O_values O_ranks O_known x1 x2 post n x3 (x4 + 1)) ∧ (¬ (x3 = (O_values (O_known x4.toNatClampNeg).toNatClampNeg)) → (post (-2 : Int32))))))))))))))))))
def wp_O_commonValue (O_persons : Nat → Int32) (O_claimNumbers : Nat → Int32) (O_days : Nat → Int32) (O_values : Nat → Int32) (O_ranks : Nat → Int32) (O_known : Nat → Int32) (O_tally : Nat → Int32) (O_made : Int32) (x1 : Int32) (x2 : Int32) (post : Int32 → Prop) : Prop := (∃ n9, wl_O_commonValue_5 O_days O_values O_ranks O_known x1 x2 post n9 (-1 : Int32) (0 : Int32))
set_option maxHeartbeats 4000000 in
set_option maxRecDepth 100000 in
theorem mt_O_commonValue (l : Launch) (dC : Nat → ClassId) (dI : Nat → Nat → Nat) (cI : ClassId) (aO : Nat) (aO_persons : Nat) (aO_claimNumbers : Nat) (aO_days : Nat) (aO_values : Nat) (aO_ranks : Nat) (aO_known : Nat) (aO_tally : Nat) (post : Int32 → Prop) (O_persons : Nat → Int32) (O_claimNumbers : Nat → Int32) (O_days : Nat → Int32) (O_values : Nat → Int32) (O_ranks : Nat → Int32) (O_known : Nat → Int32) (O_tally : Nat → Int32) (O_made : Int32) (x1 : Int32) (x2 : Int32) (hw : wp_O_commonValue O_persons O_claimNumbers O_days O_values O_ranks O_known O_tally O_made x1 x2 post) : Met l y_O_commonValue w_O_commonValue ({ frames := 0, cells := 0, slots := 0, locals := 0 }) (va_Pc [.ref aO, .int x1, .int x2] (fun U => va_P (dC, dI) vwCl [(aO, .inr (1, [.ref aO_persons, .ref aO_claimNumbers, .ref aO_days, .ref aO_values, .ref aO_ranks, .ref aO_known, .ref aO_tally, .int O_made])), (aO_persons, .inl (cI, 300, .inl O_persons)), (aO_claimNumbers, .inl (cI, 300, .inl O_claimNumbers)), (aO_days, .inl (cI, 300, .inl O_days)), (aO_values, .inl (cI, 300, .inl O_values)), (aO_ranks, .inl (cI, 300, .inl O_ranks)), (aO_known, .inl (cI, 32, .inl O_known)), (aO_tally, .inl (cI, 100, .inl O_tally))] U.heap ∧ va_K (dC, dI) vwCl [(cI, .int)] U ∧ en_ok U)) (vp_Si post) 0 0 (fun _ => False) := by
  refine Met.ofW (cc := prog_3_method_14_code) (maxL := 6) (ret := (some .int)) (by decide) rfl ?_
  intro p e s m args below meth c s₁ B hml hv
  obtain ⟨rfl, hP, hK, hE⟩ := hv
  have hx := B.exec
  have hb := B.bytes
  have hr := B.returns
  have hts := atoms_spec (ws := w_O_commonValue) B.pre
  have hown : s.vm.findClass "ClaimSources$Opinions" = some m.cls := findClass_of_methodNamed B.named
  have hlocks := B.notSynchronized
  have hl := lv_entry ([.ref aO, .int x1, .int x2]) (n := 6) (Nat.le_of_ble_eq_true rfl)
  rw [lg_entry_eq]
  generalize (lg_sl ([.ref aO, .int x1, .int x2]) ++ List.replicate (6 - (lg_sl ([.ref aO, .int x1, .int x2])).length) Slot.unset).toArray = ls at hl ⊢
  have hl : lv_has ls 6 [(0, .ref aO), (1, .int x1), (2, .int x2)] := hl
  obtain ⟨Q0, hQ0⟩ : ∃ Q0, Q0 = MQ below (vp_Si post) ([.ref aO, .int x1, .int x2]).toArray s 0 0 (fun _ => False) := ⟨_, rfl⟩
  rw [← hQ0]
  clear B
  generalize hag : ([.ref aO, .int x1, .int x2] : List Value).toArray = args at hts hQ0 ⊢
  have hi_1 : ∀ w ∈ u_ws "ClaimSources$Opinions" TT_1 8, w ∈ w_O_commonValue := fun w h => List.mem_cons_of_mem _ (ia_1 w h)
  have hf_27 := hts _ (List.mem_cons_of_mem _ m_97)
  have hf_24 := hts _ (List.mem_cons_of_mem _ m_96)
  have hf_18 := hts _ (List.mem_cons_of_mem _ m_94)
  have hf_21 := hts _ (List.mem_cons_of_mem _ m_95)
  have L5 : ∀ (x1 : Int32) (x2 : Int32) (n : Nat) (x3 : Int32) (x4 : Int32), wl_O_commonValue_5 O_days O_values O_ranks O_known x1 x2 post n x3 x4 → ∀ (ls : Array Slot), lv_has ls 6 [(0, .ref aO), (1, .int x1), (2, .int x2), (3, .int x3), (4, .int x4)] → W p l e (headSpec w_O_commonValue ({ frames := 0, cells := 0, slots := 0, locals := 0 })).room s m args below meth c s.heap [] 0 0 Q0 (F0 m 5 ls []) := by
    intro x1 x2
    intro n
    induction n with
    | zero =>
      intro x3 x4 hw
      exact False.elim hw
    | succ n ih =>
      intro x3 x4 hw ls hl
      unfold wl_O_commonValue_5 at hw
      refine lv_iload hx hb d_O_commonValue_5 (lv_at hl 4 rfl) ?_
      refine lv_bipush (v := 32) hx hb d_O_commonValue_7 (by decide) ?_
      refine lv_icmp_ge (tgt := 85) hx hb d_O_commonValue_9 (by decide) (fun c_1 => ?_) (fun c_1 => ?_)
      · have hw := hw.1 c_1
        refine lv_iload_n hx hb d_O_commonValue_85 rfl (lv_at hl 3 rfl) ?_
        subst hQ0
        exact W.iret (v := x3) hx hb hr (fun t ht hW => ⟨_, rfl, hw, ht⟩) (fun q h => by cases h) d_O_commonValue_86
      · have hw := hw.2 c_1
        refine lv_aload_n hx hb d_O_commonValue_12 rfl (lv_at hl 0 rfl) ?_
        refine va_get (D := (dC, dI)) (ci := 1) (v := .ref aO_known) (C := "ClaimSources$Opinions") (T := TT_1) (N := 8) hx hb hts hi_1 hown hK hP 0 rfl rfl 5 (by decide) hf_27 (fun _ h9 => h9) rfl d_O_commonValue_13 ?_
        refine lv_iload hx hb d_O_commonValue_16 (lv_at hl 4 rfl) ?_
        obtain ⟨h_2, hw⟩ := hw
        refine va_iald hx hb hK hP 6 0 rfl rfl h_2 d_O_commonValue_18 ?_
        refine lv_istore (lv' := [(5, .int (O_known x4.toNatClampNeg)), (0, .ref aO), (1, .int x1), (2, .int x2), (3, .int x3), (4, .int x4)]) hx hb d_O_commonValue_19 hl (by decide) rfl (fun ls hl => ?_)
        refine lv_iload hx hb d_O_commonValue_21 (lv_at hl 0 rfl) ?_
        refine lv_iconst (v := -1) hx hb d_O_commonValue_23 (by decide) ?_
        refine lv_icmp_eq (tgt := 79) hx hb d_O_commonValue_24 (by decide) (fun c_3 => ?_) (fun c_3 => ?_)
        · have hw := hw.1 c_3
          refine lv_iinc (v := x4 + 1) (lv' := [(4, .int (x4 + 1)), (5, .int (O_known x4.toNatClampNeg)), (0, .ref aO), (1, .int x1), (2, .int x2), (3, .int x3)]) hx hb d_O_commonValue_79 hl (k := 5) rfl rfl (by decide) rfl (fun ls hl => ?_)
          refine lv_goto (tgt := 5) hx hb d_O_commonValue_82 (by decide) ?_
          exact ih x3 (x4 + 1) hw ls (lv_sub hl [2, 3, 4, 5, 0] rfl)
        · have hw := hw.2 c_3
          refine lv_aload_n hx hb d_O_commonValue_27 rfl (lv_at hl 1 rfl) ?_
          refine va_get (D := (dC, dI)) (ci := 1) (v := .ref aO_ranks) (C := "ClaimSources$Opinions") (T := TT_1) (N := 8) hx hb hts hi_1 hown hK hP 0 rfl rfl 4 (by decide) hf_24 (fun _ h9 => h9) rfl d_O_commonValue_28 ?_
          refine lv_iload hx hb d_O_commonValue_31 (lv_at hl 0 rfl) ?_
          obtain ⟨h_4, hw⟩ := hw
          refine va_iald hx hb hK hP 5 0 rfl rfl h_4 d_O_commonValue_33 ?_
          refine lv_iload_n hx hb d_O_commonValue_34 rfl (lv_at hl 2 rfl) ?_
          refine lv_icmp_lt (tgt := 79) hx hb d_O_commonValue_35 (by decide) (fun c_5 => ?_) (fun c_5 => ?_)
          · have hw := hw.1 c_5
            refine lv_iinc (v := x4 + 1) (lv' := [(4, .int (x4 + 1)), (5, .int (O_known x4.toNatClampNeg)), (0, .ref aO), (1, .int x1), (2, .int x2), (3, .int x3)]) hx hb d_O_commonValue_79 hl (k := 5) rfl rfl (by decide) rfl (fun ls hl => ?_)
            refine lv_goto (tgt := 5) hx hb d_O_commonValue_82 (by decide) ?_
            exact ih x3 (x4 + 1) hw ls (lv_sub hl [2, 3, 4, 5, 0] rfl)
          · have hw := hw.2 c_5
            refine lv_aload_n hx hb d_O_commonValue_38 rfl (lv_at hl 1 rfl) ?_
            refine va_get (D := (dC, dI)) (ci := 1) (v := .ref aO_days) (C := "ClaimSources$Opinions") (T := TT_1) (N := 8) hx hb hts hi_1 hown hK hP 0 rfl rfl 2 (by decide) hf_18 (fun _ h9 => h9) rfl d_O_commonValue_39 ?_
            refine lv_iload hx hb d_O_commonValue_42 (lv_at hl 0 rfl) ?_
            obtain ⟨h_6, hw⟩ := hw
            refine va_iald hx hb hK hP 3 0 rfl rfl h_6 d_O_commonValue_44 ?_
            refine lv_iload_n hx hb d_O_commonValue_45 rfl (lv_at hl 3 rfl) ?_
            refine lv_icmp_lt (tgt := 79) hx hb d_O_commonValue_46 (by decide) (fun c_7 => ?_) (fun c_7 => ?_)
            · have hw := hw.1 c_7
              refine lv_iinc (v := x4 + 1) (lv' := [(4, .int (x4 + 1)), (5, .int (O_known x4.toNatClampNeg)), (0, .ref aO), (1, .int x1), (2, .int x2), (3, .int x3)]) hx hb d_O_commonValue_79 hl (k := 5) rfl rfl (by decide) rfl (fun ls hl => ?_)
              refine lv_goto (tgt := 5) hx hb d_O_commonValue_82 (by decide) ?_
              exact ih x3 (x4 + 1) hw ls (lv_sub hl [2, 3, 4, 5, 0] rfl)
            · have hw := hw.2 c_7
              refine lv_iload_n hx hb d_O_commonValue_49 rfl (lv_at hl 4 rfl) ?_
              refine lv_iconst (v := -1) hx hb d_O_commonValue_50 (by decide) ?_
              refine lv_icmp_ne (tgt := 65) hx hb d_O_commonValue_51 (by decide) (fun c_8 => ?_) (fun c_8 => ?_)
              · have hw := hw.2 c_8
                refine lv_iload_n hx hb d_O_commonValue_65 rfl (lv_at hl 4 rfl) ?_
                refine lv_aload_n hx hb d_O_commonValue_66 rfl (lv_at hl 1 rfl) ?_
                refine va_get (D := (dC, dI)) (ci := 1) (v := .ref aO_values) (C := "ClaimSources$Opinions") (T := TT_1) (N := 8) hx hb hts hi_1 hown hK hP 0 rfl rfl 3 (by decide) hf_21 (fun _ h9 => h9) rfl d_O_commonValue_67 ?_
                refine lv_iload hx hb d_O_commonValue_70 (lv_at hl 0 rfl) ?_
                obtain ⟨h_9, hw⟩ := hw
                refine va_iald hx hb hK hP 4 0 rfl rfl h_9 d_O_commonValue_72 ?_
                refine lv_icmp_eq (tgt := 79) hx hb d_O_commonValue_73 (by decide) (fun c_10 => ?_) (fun c_10 => ?_)
                · have hw := hw.1 c_10
                  refine lv_iinc (v := x4 + 1) (lv' := [(4, .int (x4 + 1)), (5, .int (O_known x4.toNatClampNeg)), (0, .ref aO), (1, .int x1), (2, .int x2), (3, .int x3)]) hx hb d_O_commonValue_79 hl (k := 5) rfl rfl (by decide) rfl (fun ls hl => ?_)
                  refine lv_goto (tgt := 5) hx hb d_O_commonValue_82 (by decide) ?_
                  exact ih x3 (x4 + 1) hw ls (lv_sub hl [2, 3, 4, 5, 0] rfl)
                · have hw := hw.2 c_10
                  refine lv_bipush (v := -2) hx hb d_O_commonValue_76 (by decide) ?_
                  subst hQ0
                  exact W.iret (v := (-2 : Int32)) hx hb hr (fun t ht hW => ⟨_, rfl, hw, ht⟩) (fun q h => by cases h) d_O_commonValue_78
              · have hw := hw.1 c_8
                refine lv_aload_n hx hb d_O_commonValue_54 rfl (lv_at hl 1 rfl) ?_
                refine va_get (D := (dC, dI)) (ci := 1) (v := .ref aO_values) (C := "ClaimSources$Opinions") (T := TT_1) (N := 8) hx hb hts hi_1 hown hK hP 0 rfl rfl 3 (by decide) hf_21 (fun _ h9 => h9) rfl d_O_commonValue_55 ?_
                refine lv_iload hx hb d_O_commonValue_58 (lv_at hl 0 rfl) ?_
                obtain ⟨h_11, hw⟩ := hw
                refine va_iald hx hb hK hP 4 0 rfl rfl h_11 d_O_commonValue_60 ?_
                refine lv_istore_n (lv' := [(3, .int (O_values (O_known x4.toNatClampNeg).toNatClampNeg)), (5, .int (O_known x4.toNatClampNeg)), (0, .ref aO), (1, .int x1), (2, .int x2), (4, .int x4)]) hx hb d_O_commonValue_61 rfl hl (by decide) rfl (fun ls hl => ?_)
                refine lv_goto (tgt := 79) hx hb d_O_commonValue_62 (by decide) ?_
                refine lv_iinc (v := x4 + 1) (lv' := [(4, .int (x4 + 1)), (3, .int (O_values (O_known x4.toNatClampNeg).toNatClampNeg)), (5, .int (O_known x4.toNatClampNeg)), (0, .ref aO), (1, .int x1), (2, .int x2)]) hx hb d_O_commonValue_79 hl (k := 5) rfl rfl (by decide) rfl (fun ls hl => ?_)
                refine lv_goto (tgt := 5) hx hb d_O_commonValue_82 (by decide) ?_
                exact ih (O_values (O_known x4.toNatClampNeg).toNatClampNeg) (x4 + 1) hw ls (lv_sub hl [3, 4, 5, 1, 0] rfl)
  unfold wp_O_commonValue at hw
  refine lv_iconst (v := -1) hx hb d_O_commonValue_0 (by decide) ?_
  refine lv_istore_n (lv' := [(3, .int (-1 : Int32)), (0, .ref aO), (1, .int x1), (2, .int x2)]) hx hb d_O_commonValue_1 rfl hl (by decide) rfl (fun ls hl => ?_)
  refine lv_iconst (v := 0) hx hb d_O_commonValue_2 (by decide) ?_
  refine lv_istore (lv' := [(4, .int (0 : Int32)), (3, .int (-1 : Int32)), (0, .ref aO), (1, .int x1), (2, .int x2)]) hx hb d_O_commonValue_3 hl (by decide) rfl (fun ls hl => ?_)
  obtain ⟨n_12, hw⟩ := hw
  exact L5 x1 x2 n_12 (-1 : Int32) (0 : Int32) hw ls (lv_sub hl [2, 3, 4, 1, 0] rfl)
def wp_O_valueOfGreatestRank (O_persons : Nat → Int32) (O_claimNumbers : Nat → Int32) (O_days : Nat → Int32) (O_values : Nat → Int32) (O_ranks : Nat → Int32) (O_known : Nat → Int32) (O_tally : Nat → Int32) (O_made : Int32) (post : Int32 → Prop) : Prop := (wp_O_greatestRank O_persons O_claimNumbers O_days O_values O_ranks O_known O_tally O_made (fun r_1 => (wp_O_greatestDayOf O_persons O_claimNumbers O_days O_values O_ranks O_known O_tally O_made r_1 (fun r_2 => (wp_O_commonValue O_persons O_claimNumbers O_days O_values O_ranks O_known O_tally O_made r_1 r_2 (fun r_3 => (post r_3)))))))
set_option maxHeartbeats 4000000 in
set_option maxRecDepth 100000 in
theorem mt_O_valueOfGreatestRank (l : Launch) (dC : Nat → ClassId) (dI : Nat → Nat → Nat) (cI : ClassId) (aO : Nat) (aO_persons : Nat) (aO_claimNumbers : Nat) (aO_days : Nat) (aO_values : Nat) (aO_ranks : Nat) (aO_known : Nat) (aO_tally : Nat) (post : Int32 → Prop) (O_persons : Nat → Int32) (O_claimNumbers : Nat → Int32) (O_days : Nat → Int32) (O_values : Nat → Int32) (O_ranks : Nat → Int32) (O_known : Nat → Int32) (O_tally : Nat → Int32) (O_made : Int32) (hw : wp_O_valueOfGreatestRank O_persons O_claimNumbers O_days O_values O_ranks O_known O_tally O_made post) : Met l y_O_valueOfGreatestRank w_O_valueOfGreatestRank ({ frames := 2, cells := 0, slots := 0, locals := 45 }) (va_Pc [.ref aO] (fun U => va_P (dC, dI) vwCl [(aO, .inr (1, [.ref aO_persons, .ref aO_claimNumbers, .ref aO_days, .ref aO_values, .ref aO_ranks, .ref aO_known, .ref aO_tally, .int O_made])), (aO_persons, .inl (cI, 300, .inl O_persons)), (aO_claimNumbers, .inl (cI, 300, .inl O_claimNumbers)), (aO_days, .inl (cI, 300, .inl O_days)), (aO_values, .inl (cI, 300, .inl O_values)), (aO_ranks, .inl (cI, 300, .inl O_ranks)), (aO_known, .inl (cI, 32, .inl O_known)), (aO_tally, .inl (cI, 100, .inl O_tally))] U.heap ∧ va_K (dC, dI) vwCl [(cI, .int)] U ∧ en_ok U)) (vp_Si post) 0 0 (fun _ => False) := by
  refine Met.ofW (cc := prog_3_method_11_code) (maxL := 2) (ret := (some .int)) (by decide) rfl ?_
  intro p e s m args below meth c s₁ B hml hv
  obtain ⟨rfl, hP, hK, hE⟩ := hv
  have hx := B.exec
  have hb := B.bytes
  have hr := B.returns
  have hts := atoms_spec (ws := w_O_valueOfGreatestRank) B.pre
  have hown : s.vm.findClass "ClaimSources$Opinions" = some m.cls := findClass_of_methodNamed B.named
  have hlocks := B.notSynchronized
  have hl := lv_entry ([.ref aO]) (n := 2) (Nat.le_of_ble_eq_true rfl)
  rw [lg_entry_eq]
  generalize (lg_sl ([.ref aO]) ++ List.replicate (2 - (lg_sl ([.ref aO])).length) Slot.unset).toArray = ls at hl ⊢
  have hl : lv_has ls 2 [(0, .ref aO)] := hl
  obtain ⟨Q0, hQ0⟩ : ∃ Q0, Q0 = MQ below (vp_Si post) ([.ref aO]).toArray s 0 0 (fun _ => False) := ⟨_, rfl⟩
  rw [← hQ0]
  clear B
  generalize hag : ([.ref aO] : List Value).toArray = args at hts hQ0 ⊢
  unfold wp_O_valueOfGreatestRank at hw
  refine lv_aload_n hx hb d_O_valueOfGreatestRank_0 rfl (lv_at hl 0 rfl) ?_
  have hPc := hP.sub (ws' := [(aO, .inr (1, [.ref aO_persons, .ref aO_claimNumbers, .ref aO_days, .ref aO_values, .ref aO_ranks, .ref aO_known, .ref aO_tally, .int O_made])), (aO_persons, .inl (cI, 300, .inl O_persons)), (aO_claimNumbers, .inl (cI, 300, .inl O_claimNumbers)), (aO_days, .inl (cI, 300, .inl O_days)), (aO_values, .inl (cI, 300, .inl O_values)), (aO_ranks, .inl (cI, 300, .inl O_ranks)), (aO_known, .inl (cI, 32, .inl O_known)), (aO_tally, .inl (cI, 100, .inl O_tally))]) [0, 1, 2, 3, 4, 5, 6, 7] rfl
  refine vp_callSi (W.runV (As := []) (rest := []) ⟨hx, hb, hml, hown, hts⟩ (mt_O_greatestRank l dC dI cI aO aO_persons aO_claimNumbers aO_days aO_values aO_ranks aO_known aO_tally _ O_persons O_claimNumbers O_days O_values O_ranks O_known O_tally O_made hw) (cwV 0 hts (gdV m_493 m_495 ms_10 m_5 m_496) rfl rfl rfl (by decide +kernel) ⟨Nat.le_of_ble_eq_true rfl, Nat.le_of_ble_eq_true rfl⟩) ⟨fb_r, va_recv hK hPc (ci := 1) (q0 := 0) rfl rfl, fun U hU hW => ⟨rfl, by rw [hU]; exact hPc, va_K.moved hW.alike hK, hE.warm hW⟩⟩ rfl rfl hl.1 rfl (lv_room (Nat.le_of_ble_eq_true rfl)) d_O_valueOfGreatestRank_1 ⟨Nat.le_of_ble_eq_true rfl, Nat.le_of_ble_eq_true rfl⟩) (fun r_1 hw => ?_)
  refine lv_istore_n (lv' := [(1, .int r_1), (0, .ref aO)]) hx hb d_O_valueOfGreatestRank_4 rfl hl (by decide) rfl (fun ls hl => ?_)
  refine lv_aload_n hx hb d_O_valueOfGreatestRank_5 rfl (lv_at hl 1 rfl) ?_
  refine lv_iload_n hx hb d_O_valueOfGreatestRank_6 rfl (lv_at hl 0 rfl) ?_
  refine lv_aload_n hx hb d_O_valueOfGreatestRank_7 rfl (lv_at hl 1 rfl) ?_
  refine lv_iload_n hx hb d_O_valueOfGreatestRank_8 rfl (lv_at hl 0 rfl) ?_
  have hPc := hP.sub (ws' := [(aO, .inr (1, [.ref aO_persons, .ref aO_claimNumbers, .ref aO_days, .ref aO_values, .ref aO_ranks, .ref aO_known, .ref aO_tally, .int O_made])), (aO_persons, .inl (cI, 300, .inl O_persons)), (aO_claimNumbers, .inl (cI, 300, .inl O_claimNumbers)), (aO_days, .inl (cI, 300, .inl O_days)), (aO_values, .inl (cI, 300, .inl O_values)), (aO_ranks, .inl (cI, 300, .inl O_ranks)), (aO_known, .inl (cI, 32, .inl O_known)), (aO_tally, .inl (cI, 100, .inl O_tally))]) [0, 1, 2, 3, 4, 5, 6, 7] rfl
  refine vp_callSi (W.runV (As := [.int r_1]) (rest := [.int r_1, .ref aO]) ⟨hx, hb, hml, hown, hts⟩ (mt_O_greatestDayOf l dC dI cI aO aO_persons aO_claimNumbers aO_days aO_values aO_ranks aO_known aO_tally _ O_persons O_claimNumbers O_days O_values O_ranks O_known O_tally O_made r_1 hw) (cwV 1 hts (gdV m_500 m_502 ms_11 m_5 m_503) rfl rfl rfl (by decide +kernel) ⟨Nat.le_of_ble_eq_true rfl, Nat.le_of_ble_eq_true rfl⟩) ⟨fb_r, va_recv hK hPc (ci := 1) (q0 := 0) rfl rfl, fun U hU hW => ⟨rfl, by rw [hU]; exact hPc, va_K.moved hW.alike hK, hE.warm hW⟩⟩ rfl rfl hl.1 rfl (lv_room (Nat.le_of_ble_eq_true rfl)) d_O_valueOfGreatestRank_9 ⟨Nat.le_of_ble_eq_true rfl, Nat.le_of_ble_eq_true rfl⟩) (fun r_2 hw => ?_)
  have hPc := hP.sub (ws' := [(aO, .inr (1, [.ref aO_persons, .ref aO_claimNumbers, .ref aO_days, .ref aO_values, .ref aO_ranks, .ref aO_known, .ref aO_tally, .int O_made])), (aO_persons, .inl (cI, 300, .inl O_persons)), (aO_claimNumbers, .inl (cI, 300, .inl O_claimNumbers)), (aO_days, .inl (cI, 300, .inl O_days)), (aO_values, .inl (cI, 300, .inl O_values)), (aO_ranks, .inl (cI, 300, .inl O_ranks)), (aO_known, .inl (cI, 32, .inl O_known)), (aO_tally, .inl (cI, 100, .inl O_tally))]) [0, 1, 2, 3, 4, 5, 6, 7] rfl
  refine vp_callSi (W.runV (As := [.int r_1, .int r_2]) (rest := []) ⟨hx, hb, hml, hown, hts⟩ (mt_O_commonValue l dC dI cI aO aO_persons aO_claimNumbers aO_days aO_values aO_ranks aO_known aO_tally _ O_persons O_claimNumbers O_days O_values O_ranks O_known O_tally O_made r_1 r_2 hw) (cwV 2 hts (gdV m_504 m_506 ms_12 m_5 m_507) rfl rfl rfl (by decide +kernel) ⟨Nat.le_of_ble_eq_true rfl, Nat.le_of_ble_eq_true rfl⟩) ⟨fb_r, va_recv hK hPc (ci := 1) (q0 := 0) rfl rfl, fun U hU hW => ⟨rfl, by rw [hU]; exact hPc, va_K.moved hW.alike hK, hE.warm hW⟩⟩ rfl rfl hl.1 rfl (lv_room (Nat.le_of_ble_eq_true rfl)) d_O_valueOfGreatestRank_12 ⟨Nat.le_of_ble_eq_true rfl, Nat.le_of_ble_eq_true rfl⟩) (fun r_3 hw => ?_)
  subst hQ0
  exact W.iret (v := r_3) hx hb hr (fun t ht hW => ⟨_, rfl, hw, ht⟩) (fun q h => by cases h) d_O_valueOfGreatestRank_15
def wl_O_mostFrequentValue_55 (O_tally : Nat → Int32) (post : Int32 → (Nat → Int32) → Prop) : Nat → Int32 → Int32 → Int32 → Prop
  | 0, _, _, _ => False
  | n + 1, x1, x2, x3 => (((100 : Int32) ≤ x3 → (post x2 O_tally)) ∧ (¬ ((100 : Int32) ≤ x3) → (vp_in x3 100 ∧ (((O_tally x3.toNatClampNeg) ≤ x1 → (vp_in x3 100 ∧ (((O_tally x3.toNatClampNeg) = x1 → ((x1 ≤ 0 → wl_O_mostFrequentValue_55 O_tally post n x1 x2 (x3 + 1)) ∧ (¬ (x1 ≤ 0) → wl_O_mostFrequentValue_55 O_tally post n x1 (-2 : Int32) (x3 + 1)))) ∧ (¬ ((O_tally x3.toNatClampNeg) = x1) → wl_O_mostFrequentValue_55 O_tally post n x1 x2 (x3 + 1))))) ∧ (¬ ((O_tally x3.toNatClampNeg) ≤ x1) → (vp_in x3 100 ∧ wl_O_mostFrequentValue_55 O_tally post n (O_tally x3.toNatClampNeg) x3 (x3 + 1)))))))
def wl_O_mostFrequentValue_10 (O_values : Nat → Int32) (O_known : Nat → Int32) (post : Int32 → (Nat → Int32) → Prop) : Nat → Int32 → (Nat → Int32) → Prop
  | 0, _, _ => False
  | n + 1, x1, O_tally => (((32 : Int32) ≤ x1 → (∃ n9, wl_O_mostFrequentValue_55 O_tally post n9 (0 : Int32) (-1 : Int32) (0 : Int32))) ∧ (¬ ((32 : Int32) ≤ x1) → (vp_in x1 32 ∧ (((O_known x1.toNatClampNeg) = (-1 : Int32) → wl_O_mostFrequentValue_10 O_values O_known post n (x1 + 1) O_tally) ∧ (¬ ((O_known x1.toNatClampNeg) = (-1 : Int32)) → (vp_in (O_known x1.toNatClampNeg) 300 ∧ (vp_in (O_values (O_known x1.toNatClampNeg).toNatClampNeg) 100 ∧ (vp_in (O_values (O_known x1.toNatClampNeg).toNatClampNeg) 100 ∧ wl_O_mostFrequentValue_10 O_values O_known post n (x1 + 1) (upd O_tally (O_values (O_known x1.toNatClampNeg).toNatClampNeg).toNatClampNeg ((O_tally (O_values (O_known x1.toNatClampNeg).toNatClampNeg).toNatClampNeg) + (1 : Int32)))))))))))
def wp_O_mostFrequentValue (O_persons : Nat → Int32) (O_claimNumbers : Nat → Int32) (O_days : Nat → Int32) (O_values : Nat → Int32) (O_ranks : Nat → Int32) (O_known : Nat → Int32) (O_tally : Nat → Int32) (O_made : Int32) (post : Int32 → (Nat → Int32) → Prop) : Prop := (wp_J_fill 100 O_tally (0 : Int32) (fun u_15 => (∃ n9, wl_O_mostFrequentValue_10 O_values O_known post n9 (0 : Int32) u_15)))
set_option maxHeartbeats 4000000 in
set_option maxRecDepth 100000 in
theorem mt_O_mostFrequentValue (l : Launch) (dC : Nat → ClassId) (dI : Nat → Nat → Nat) (cI : ClassId) (aO : Nat) (aO_persons : Nat) (aO_claimNumbers : Nat) (aO_days : Nat) (aO_values : Nat) (aO_ranks : Nat) (aO_known : Nat) (aO_tally : Nat) (sz : Nat) (post : Int32 → (Nat → Int32) → Prop) (O_persons : Nat → Int32) (O_claimNumbers : Nat → Int32) (O_days : Nat → Int32) (O_values : Nat → Int32) (O_ranks : Nat → Int32) (O_known : Nat → Int32) (O_tally : Nat → Int32) (O_made : Int32) (hw : wp_O_mostFrequentValue O_persons O_claimNumbers O_days O_values O_ranks O_known O_tally O_made post) : Met l y_O_mostFrequentValue w_O_mostFrequentValue ({ frames := 1, cells := 0, slots := 0, locals := 23 }) (va_Pc [.ref aO] (fun U => U.heap.size = sz ∧ va_P (dC, dI) vwCl [(aO, .inr (1, [.ref aO_persons, .ref aO_claimNumbers, .ref aO_days, .ref aO_values, .ref aO_ranks, .ref aO_known, .ref aO_tally, .int O_made])), (aO_persons, .inl (cI, 300, .inl O_persons)), (aO_claimNumbers, .inl (cI, 300, .inl O_claimNumbers)), (aO_days, .inl (cI, 300, .inl O_days)), (aO_values, .inl (cI, 300, .inl O_values)), (aO_ranks, .inl (cI, 300, .inl O_ranks)), (aO_known, .inl (cI, 32, .inl O_known)), (aO_tally, .inl (cI, 100, .inl O_tally))] U.heap ∧ va_K (dC, dI) vwCl [(cI, .int)] U ∧ va_D (fun _ => True) [(aO, .inr (1, [.ref aO_persons, .ref aO_claimNumbers, .ref aO_days, .ref aO_values, .ref aO_ranks, .ref aO_known, .ref aO_tally, .int O_made])), (aO_persons, .inl (cI, 300, .inl O_persons)), (aO_claimNumbers, .inl (cI, 300, .inl O_claimNumbers)), (aO_days, .inl (cI, 300, .inl O_days)), (aO_values, .inl (cI, 300, .inl O_values)), (aO_ranks, .inl (cI, 300, .inl O_ranks)), (aO_known, .inl (cI, 32, .inl O_known)), (aO_tally, .inl (cI, 100, .inl O_tally))] ∧ en_ok U)) (va_Qi (fun r (u : (Nat → Int32)) => post r u) (fun (u : (Nat → Int32)) t => va_P (dC, dI) vwCl [(aO, .inr (1, [.ref aO_persons, .ref aO_claimNumbers, .ref aO_days, .ref aO_values, .ref aO_ranks, .ref aO_known, .ref aO_tally, .int O_made])), (aO_persons, .inl (cI, 300, .inl O_persons)), (aO_claimNumbers, .inl (cI, 300, .inl O_claimNumbers)), (aO_days, .inl (cI, 300, .inl O_days)), (aO_values, .inl (cI, 300, .inl O_values)), (aO_ranks, .inl (cI, 300, .inl O_ranks)), (aO_known, .inl (cI, 32, .inl O_known)), (aO_tally, .inl (cI, 100, .inl u))] t.heap ∧ va_D (va_A [(aO, .inr (1, [.ref aO_persons, .ref aO_claimNumbers, .ref aO_days, .ref aO_values, .ref aO_ranks, .ref aO_known, .ref aO_tally, .int O_made])), (aO_persons, .inl (cI, 300, .inl O_persons)), (aO_claimNumbers, .inl (cI, 300, .inl O_claimNumbers)), (aO_days, .inl (cI, 300, .inl O_days)), (aO_values, .inl (cI, 300, .inl O_values)), (aO_ranks, .inl (cI, 300, .inl O_ranks)), (aO_known, .inl (cI, 32, .inl O_known)), (aO_tally, .inl (cI, 100, .inl O_tally))] sz) [(aO, .inr (1, [.ref aO_persons, .ref aO_claimNumbers, .ref aO_days, .ref aO_values, .ref aO_ranks, .ref aO_known, .ref aO_tally, .int O_made])), (aO_persons, .inl (cI, 300, .inl O_persons)), (aO_claimNumbers, .inl (cI, 300, .inl O_claimNumbers)), (aO_days, .inl (cI, 300, .inl O_days)), (aO_values, .inl (cI, 300, .inl O_values)), (aO_ranks, .inl (cI, 300, .inl O_ranks)), (aO_known, .inl (cI, 32, .inl O_known)), (aO_tally, .inl (cI, 100, .inl u))]) (va_A [(aO, .inr (1, [.ref aO_persons, .ref aO_claimNumbers, .ref aO_days, .ref aO_values, .ref aO_ranks, .ref aO_known, .ref aO_tally, .int O_made])), (aO_persons, .inl (cI, 300, .inl O_persons)), (aO_claimNumbers, .inl (cI, 300, .inl O_claimNumbers)), (aO_days, .inl (cI, 300, .inl O_days)), (aO_values, .inl (cI, 300, .inl O_values)), (aO_ranks, .inl (cI, 300, .inl O_ranks)), (aO_known, .inl (cI, 32, .inl O_known)), (aO_tally, .inl (cI, 100, .inl O_tally))] sz)) 0 0 (va_A [(aO, .inr (1, [.ref aO_persons, .ref aO_claimNumbers, .ref aO_days, .ref aO_values, .ref aO_ranks, .ref aO_known, .ref aO_tally, .int O_made])), (aO_persons, .inl (cI, 300, .inl O_persons)), (aO_claimNumbers, .inl (cI, 300, .inl O_claimNumbers)), (aO_days, .inl (cI, 300, .inl O_days)), (aO_values, .inl (cI, 300, .inl O_values)), (aO_ranks, .inl (cI, 300, .inl O_ranks)), (aO_known, .inl (cI, 32, .inl O_known)), (aO_tally, .inl (cI, 100, .inl O_tally))] sz) := by
  refine Met.ofW (cc := prog_3_method_10_code) (maxL := 4) (ret := (some .int)) (by decide) rfl ?_
  intro p e s m args below meth c s₁ B hml hv
  obtain ⟨rfl, hsz, hP, hK, hD0, hE⟩ := hv
  have hx := B.exec
  have hb := B.bytes
  have hr := B.returns
  have hts := atoms_spec (ws := w_O_mostFrequentValue) B.pre
  have hown : s.vm.findClass "ClaimSources$Opinions" = some m.cls := findClass_of_methodNamed B.named
  have hlocks := B.notSynchronized
  subst hsz
  have hD := hD0.self (sz := s.heap.size)
  generalize hAe : va_A [(aO, .inr (1, [.ref aO_persons, .ref aO_claimNumbers, .ref aO_days, .ref aO_values, .ref aO_ranks, .ref aO_known, .ref aO_tally, .int O_made])), (aO_persons, .inl (cI, 300, .inl O_persons)), (aO_claimNumbers, .inl (cI, 300, .inl O_claimNumbers)), (aO_days, .inl (cI, 300, .inl O_days)), (aO_values, .inl (cI, 300, .inl O_values)), (aO_ranks, .inl (cI, 300, .inl O_ranks)), (aO_known, .inl (cI, 32, .inl O_known)), (aO_tally, .inl (cI, 100, .inl O_tally))] s.heap.size = A at hD ⊢
  have hA : ∀ q : Nat, s.heap.size ≤ q → A q := fun q h => by rw [← hAe]; exact Or.inr h
  have hS : va_S A s.heap s.heap [] := va_S.rf
  have hl := lv_entry ([.ref aO]) (n := 4) (Nat.le_of_ble_eq_true rfl)
  rw [lg_entry_eq]
  generalize (lg_sl ([.ref aO]) ++ List.replicate (4 - (lg_sl ([.ref aO])).length) Slot.unset).toArray = ls at hl ⊢
  have hl : lv_has ls 4 [(0, .ref aO)] := hl
  obtain ⟨Q0, hQ0⟩ : ∃ Q0, Q0 = MQ below (va_Qi (fun r (u : (Nat → Int32)) => post r u) (fun (u : (Nat → Int32)) t => va_P (dC, dI) vwCl [(aO, .inr (1, [.ref aO_persons, .ref aO_claimNumbers, .ref aO_days, .ref aO_values, .ref aO_ranks, .ref aO_known, .ref aO_tally, .int O_made])), (aO_persons, .inl (cI, 300, .inl O_persons)), (aO_claimNumbers, .inl (cI, 300, .inl O_claimNumbers)), (aO_days, .inl (cI, 300, .inl O_days)), (aO_values, .inl (cI, 300, .inl O_values)), (aO_ranks, .inl (cI, 300, .inl O_ranks)), (aO_known, .inl (cI, 32, .inl O_known)), (aO_tally, .inl (cI, 100, .inl u))] t.heap ∧ va_D A [(aO, .inr (1, [.ref aO_persons, .ref aO_claimNumbers, .ref aO_days, .ref aO_values, .ref aO_ranks, .ref aO_known, .ref aO_tally, .int O_made])), (aO_persons, .inl (cI, 300, .inl O_persons)), (aO_claimNumbers, .inl (cI, 300, .inl O_claimNumbers)), (aO_days, .inl (cI, 300, .inl O_days)), (aO_values, .inl (cI, 300, .inl O_values)), (aO_ranks, .inl (cI, 300, .inl O_ranks)), (aO_known, .inl (cI, 32, .inl O_known)), (aO_tally, .inl (cI, 100, .inl u))]) A) ([.ref aO]).toArray s 0 0 A := ⟨_, rfl⟩
  rw [← hQ0]
  clear B
  generalize hag : ([.ref aO] : List Value).toArray = args at hts hQ0 ⊢
  have hi_1 : ∀ w ∈ u_ws "ClaimSources$Opinions" TT_1 8, w ∈ w_O_mostFrequentValue := fun w h => List.mem_cons_of_mem _ (ia_1 w h)
  have hf_30 := hts _ (List.mem_cons_of_mem _ m_98)
  have hf_27 := hts _ (List.mem_cons_of_mem _ m_97)
  have hf_21 := hts _ (List.mem_cons_of_mem _ m_95)
  have L55 : ∀ (O_tally : Nat → Int32) (n : Nat) (x1 : Int32) (x2 : Int32) (x3 : Int32), wl_O_mostFrequentValue_55 O_tally post n x1 x2 x3 → ∀ (H : Heap) (locs : List Loc), va_P (dC, dI) vwCl [(aO, .inr (1, [.ref aO_persons, .ref aO_claimNumbers, .ref aO_days, .ref aO_values, .ref aO_ranks, .ref aO_known, .ref aO_tally, .int O_made])), (aO_persons, .inl (cI, 300, .inl O_persons)), (aO_claimNumbers, .inl (cI, 300, .inl O_claimNumbers)), (aO_days, .inl (cI, 300, .inl O_days)), (aO_values, .inl (cI, 300, .inl O_values)), (aO_ranks, .inl (cI, 300, .inl O_ranks)), (aO_known, .inl (cI, 32, .inl O_known)), (aO_tally, .inl (cI, 100, .inl O_tally))] H → va_D A [(aO, .inr (1, [.ref aO_persons, .ref aO_claimNumbers, .ref aO_days, .ref aO_values, .ref aO_ranks, .ref aO_known, .ref aO_tally, .int O_made])), (aO_persons, .inl (cI, 300, .inl O_persons)), (aO_claimNumbers, .inl (cI, 300, .inl O_claimNumbers)), (aO_days, .inl (cI, 300, .inl O_days)), (aO_values, .inl (cI, 300, .inl O_values)), (aO_ranks, .inl (cI, 300, .inl O_ranks)), (aO_known, .inl (cI, 32, .inl O_known)), (aO_tally, .inl (cI, 100, .inl O_tally))] → va_S A s.heap H locs → ∀ (ls : Array Slot), lv_has ls 4 [(0, .ref aO), (1, .int x1), (2, .int x2), (3, .int x3)] → W p l e (headSpec w_O_mostFrequentValue ({ frames := 1, cells := 0, slots := 0, locals := 23 })).room s m args below meth c H locs 0 0 Q0 (F0 m 55 ls []) := by
    intro O_tally
    intro n
    induction n with
    | zero =>
      intro x1 x2 x3 hw
      exact False.elim hw
    | succ n ih =>
      intro x1 x2 x3 hw H locs hP hD hS ls hl
      unfold wl_O_mostFrequentValue_55 at hw
      refine lv_iload_n hx hb d_O_mostFrequentValue_55 rfl (lv_at hl 3 rfl) ?_
      refine lv_bipush (v := 100) hx hb d_O_mostFrequentValue_56 (by decide) ?_
      refine lv_icmp_ge (tgt := 106) hx hb d_O_mostFrequentValue_58 (by decide) (fun c_1 => ?_) (fun c_1 => ?_)
      · have hw := hw.1 c_1
        refine lv_iload_n hx hb d_O_mostFrequentValue_106 rfl (lv_at hl 2 rfl) ?_
        subst hQ0
        have hP9 := hP.sub (ws' := [(aO, .inr (1, [.ref aO_persons, .ref aO_claimNumbers, .ref aO_days, .ref aO_values, .ref aO_ranks, .ref aO_known, .ref aO_tally, .int O_made])), (aO_persons, .inl (cI, 300, .inl O_persons)), (aO_claimNumbers, .inl (cI, 300, .inl O_claimNumbers)), (aO_days, .inl (cI, 300, .inl O_days)), (aO_values, .inl (cI, 300, .inl O_values)), (aO_ranks, .inl (cI, 300, .inl O_ranks)), (aO_known, .inl (cI, 32, .inl O_known)), (aO_tally, .inl (cI, 100, .inl O_tally))]) [0, 1, 2, 3, 4, 5, 6, 7] rfl
        have hD9 := hD.sub (ws' := [(aO, .inr (1, [.ref aO_persons, .ref aO_claimNumbers, .ref aO_days, .ref aO_values, .ref aO_ranks, .ref aO_known, .ref aO_tally, .int O_made])), (aO_persons, .inl (cI, 300, .inl O_persons)), (aO_claimNumbers, .inl (cI, 300, .inl O_claimNumbers)), (aO_days, .inl (cI, 300, .inl O_days)), (aO_values, .inl (cI, 300, .inl O_values)), (aO_ranks, .inl (cI, 300, .inl O_ranks)), (aO_known, .inl (cI, 32, .inl O_known)), (aO_tally, .inl (cI, 100, .inl O_tally))]) [0, 1, 2, 3, 4, 5, 6, 7] (by decide) rfl
        exact W.iret (v := x2) hx hb hr (fun t ht hW => ⟨⟨_, (O_tally), rfl, hw, by rw [ht]; exact hP9, hD9⟩, hS.F ht⟩) hS.2.2 d_O_mostFrequentValue_107
      · have hw := hw.2 c_1
        refine lv_aload_n hx hb d_O_mostFrequentValue_61 rfl (lv_at hl 0 rfl) ?_
        refine va_get (D := (dC, dI)) (ci := 1) (v := .ref aO_tally) (C := "ClaimSources$Opinions") (T := TT_1) (N := 8) hx hb hts hi_1 hown hK hP 0 rfl rfl 6 (by decide) hf_30 (fun _ h9 => h9) rfl d_O_mostFrequentValue_62 ?_
        refine lv_iload_n hx hb d_O_mostFrequentValue_65 rfl (lv_at hl 3 rfl) ?_
        obtain ⟨h_2, hw⟩ := hw
        refine va_iald hx hb hK hP 7 0 rfl rfl h_2 d_O_mostFrequentValue_66 ?_
        refine lv_iload_n hx hb d_O_mostFrequentValue_67 rfl (lv_at hl 1 rfl) ?_
        refine lv_icmp_le (tgt := 83) hx hb d_O_mostFrequentValue_68 (by decide) (fun c_3 => ?_) (fun c_3 => ?_)
        · have hw := hw.1 c_3
          refine lv_aload_n hx hb d_O_mostFrequentValue_83 rfl (lv_at hl 0 rfl) ?_
          refine va_get (D := (dC, dI)) (ci := 1) (v := .ref aO_tally) (C := "ClaimSources$Opinions") (T := TT_1) (N := 8) hx hb hts hi_1 hown hK hP 0 rfl rfl 6 (by decide) hf_30 (fun _ h9 => h9) rfl d_O_mostFrequentValue_84 ?_
          refine lv_iload_n hx hb d_O_mostFrequentValue_87 rfl (lv_at hl 3 rfl) ?_
          obtain ⟨h_4, hw⟩ := hw
          refine va_iald hx hb hK hP 7 0 rfl rfl h_4 d_O_mostFrequentValue_88 ?_
          refine lv_iload_n hx hb d_O_mostFrequentValue_89 rfl (lv_at hl 1 rfl) ?_
          refine lv_icmp_ne (tgt := 100) hx hb d_O_mostFrequentValue_90 (by decide) (fun c_5 => ?_) (fun c_5 => ?_)
          · have hw := hw.2 c_5
            refine lv_iinc (v := x3 + 1) (lv' := [(3, .int (x3 + 1)), (0, .ref aO), (1, .int x1), (2, .int x2)]) hx hb d_O_mostFrequentValue_100 hl (k := 3) rfl rfl (by decide) rfl (fun ls hl => ?_)
            refine lv_goto (tgt := 55) hx hb d_O_mostFrequentValue_103 (by decide) ?_
            exact ih x1 x2 (x3 + 1) hw _ _ (hP.sub [0, 1, 2, 3, 4, 5, 6, 7] rfl) (hD.sub [0, 1, 2, 3, 4, 5, 6, 7] (by decide) rfl) hS ls (lv_sub hl [1, 2, 3, 0] rfl)
          · have hw := hw.1 c_5
            refine lv_iload_n hx hb d_O_mostFrequentValue_93 rfl (lv_at hl 1 rfl) ?_
            refine lv_if_le (tgt := 100) hx hb d_O_mostFrequentValue_94 (by decide) (fun c_6 => ?_) (fun c_6 => ?_)
            · have hw := hw.1 c_6
              refine lv_iinc (v := x3 + 1) (lv' := [(3, .int (x3 + 1)), (0, .ref aO), (1, .int x1), (2, .int x2)]) hx hb d_O_mostFrequentValue_100 hl (k := 3) rfl rfl (by decide) rfl (fun ls hl => ?_)
              refine lv_goto (tgt := 55) hx hb d_O_mostFrequentValue_103 (by decide) ?_
              exact ih x1 x2 (x3 + 1) hw _ _ (hP.sub [0, 1, 2, 3, 4, 5, 6, 7] rfl) (hD.sub [0, 1, 2, 3, 4, 5, 6, 7] (by decide) rfl) hS ls (lv_sub hl [1, 2, 3, 0] rfl)
            · have hw := hw.2 c_6
              refine lv_bipush (v := -2) hx hb d_O_mostFrequentValue_97 (by decide) ?_
              refine lv_istore_n (lv' := [(2, .int (-2 : Int32)), (0, .ref aO), (1, .int x1), (3, .int x3)]) hx hb d_O_mostFrequentValue_99 rfl hl (by decide) rfl (fun ls hl => ?_)
              refine lv_iinc (v := x3 + 1) (lv' := [(3, .int (x3 + 1)), (2, .int (-2 : Int32)), (0, .ref aO), (1, .int x1)]) hx hb d_O_mostFrequentValue_100 hl (k := 3) rfl rfl (by decide) rfl (fun ls hl => ?_)
              refine lv_goto (tgt := 55) hx hb d_O_mostFrequentValue_103 (by decide) ?_
              exact ih x1 (-2 : Int32) (x3 + 1) hw _ _ (hP.sub [0, 1, 2, 3, 4, 5, 6, 7] rfl) (hD.sub [0, 1, 2, 3, 4, 5, 6, 7] (by decide) rfl) hS ls (lv_sub hl [2, 3, 1, 0] rfl)
        · have hw := hw.2 c_3
          refine lv_aload_n hx hb d_O_mostFrequentValue_71 rfl (lv_at hl 0 rfl) ?_
          refine va_get (D := (dC, dI)) (ci := 1) (v := .ref aO_tally) (C := "ClaimSources$Opinions") (T := TT_1) (N := 8) hx hb hts hi_1 hown hK hP 0 rfl rfl 6 (by decide) hf_30 (fun _ h9 => h9) rfl d_O_mostFrequentValue_72 ?_
          refine lv_iload_n hx hb d_O_mostFrequentValue_75 rfl (lv_at hl 3 rfl) ?_
          obtain ⟨h_7, hw⟩ := hw
          refine va_iald hx hb hK hP 7 0 rfl rfl h_7 d_O_mostFrequentValue_76 ?_
          refine lv_istore_n (lv' := [(1, .int (O_tally x3.toNatClampNeg)), (0, .ref aO), (2, .int x2), (3, .int x3)]) hx hb d_O_mostFrequentValue_77 rfl hl (by decide) rfl (fun ls hl => ?_)
          refine lv_iload_n hx hb d_O_mostFrequentValue_78 rfl (lv_at hl 3 rfl) ?_
          refine lv_istore_n (lv' := [(2, .int x3), (1, .int (O_tally x3.toNatClampNeg)), (0, .ref aO), (3, .int x3)]) hx hb d_O_mostFrequentValue_79 rfl hl (by decide) rfl (fun ls hl => ?_)
          refine lv_goto (tgt := 100) hx hb d_O_mostFrequentValue_80 (by decide) ?_
          refine lv_iinc (v := x3 + 1) (lv' := [(3, .int (x3 + 1)), (2, .int x3), (1, .int (O_tally x3.toNatClampNeg)), (0, .ref aO)]) hx hb d_O_mostFrequentValue_100 hl (k := 3) rfl rfl (by decide) rfl (fun ls hl => ?_)
          refine lv_goto (tgt := 55) hx hb d_O_mostFrequentValue_103 (by decide) ?_
          exact ih (O_tally x3.toNatClampNeg) x3 (x3 + 1) hw _ _ (hP.sub [0, 1, 2, 3, 4, 5, 6, 7] rfl) (hD.sub [0, 1, 2, 3, 4, 5, 6, 7] (by decide) rfl) hS ls (lv_sub hl [3, 2, 1, 0] rfl)
  have L10 : ∀ (n : Nat) (x1 : Int32) (O_tally : Nat → Int32), wl_O_mostFrequentValue_10 O_values O_known post n x1 O_tally → ∀ (H : Heap) (locs : List Loc), va_P (dC, dI) vwCl [(aO, .inr (1, [.ref aO_persons, .ref aO_claimNumbers, .ref aO_days, .ref aO_values, .ref aO_ranks, .ref aO_known, .ref aO_tally, .int O_made])), (aO_persons, .inl (cI, 300, .inl O_persons)), (aO_claimNumbers, .inl (cI, 300, .inl O_claimNumbers)), (aO_days, .inl (cI, 300, .inl O_days)), (aO_values, .inl (cI, 300, .inl O_values)), (aO_ranks, .inl (cI, 300, .inl O_ranks)), (aO_known, .inl (cI, 32, .inl O_known)), (aO_tally, .inl (cI, 100, .inl O_tally))] H → va_D A [(aO, .inr (1, [.ref aO_persons, .ref aO_claimNumbers, .ref aO_days, .ref aO_values, .ref aO_ranks, .ref aO_known, .ref aO_tally, .int O_made])), (aO_persons, .inl (cI, 300, .inl O_persons)), (aO_claimNumbers, .inl (cI, 300, .inl O_claimNumbers)), (aO_days, .inl (cI, 300, .inl O_days)), (aO_values, .inl (cI, 300, .inl O_values)), (aO_ranks, .inl (cI, 300, .inl O_ranks)), (aO_known, .inl (cI, 32, .inl O_known)), (aO_tally, .inl (cI, 100, .inl O_tally))] → va_S A s.heap H locs → ∀ (ls : Array Slot), lv_has ls 4 [(0, .ref aO), (1, .int x1)] → W p l e (headSpec w_O_mostFrequentValue ({ frames := 1, cells := 0, slots := 0, locals := 23 })).room s m args below meth c H locs 0 0 Q0 (F0 m 10 ls []) := by
    intro n
    induction n with
    | zero =>
      intro x1 O_tally hw
      exact False.elim hw
    | succ n ih =>
      intro x1 O_tally hw H locs hP hD hS ls hl
      unfold wl_O_mostFrequentValue_10 at hw
      refine lv_iload_n hx hb d_O_mostFrequentValue_10 rfl (lv_at hl 1 rfl) ?_
      refine lv_bipush (v := 32) hx hb d_O_mostFrequentValue_11 (by decide) ?_
      refine lv_icmp_ge (tgt := 49) hx hb d_O_mostFrequentValue_13 (by decide) (fun c_8 => ?_) (fun c_8 => ?_)
      · have hw := hw.1 c_8
        refine lv_iconst (v := 0) hx hb d_O_mostFrequentValue_49 (by decide) ?_
        refine lv_istore_n (lv' := [(1, .int (0 : Int32)), (0, .ref aO)]) hx hb d_O_mostFrequentValue_50 rfl hl (by decide) rfl (fun ls hl => ?_)
        refine lv_iconst (v := -1) hx hb d_O_mostFrequentValue_51 (by decide) ?_
        refine lv_istore_n (lv' := [(2, .int (-1 : Int32)), (1, .int (0 : Int32)), (0, .ref aO)]) hx hb d_O_mostFrequentValue_52 rfl hl (by decide) rfl (fun ls hl => ?_)
        refine lv_iconst (v := 0) hx hb d_O_mostFrequentValue_53 (by decide) ?_
        refine lv_istore_n (lv' := [(3, .int (0 : Int32)), (2, .int (-1 : Int32)), (1, .int (0 : Int32)), (0, .ref aO)]) hx hb d_O_mostFrequentValue_54 rfl hl (by decide) rfl (fun ls hl => ?_)
        obtain ⟨n_9, hw⟩ := hw
        exact L55 O_tally n_9 (0 : Int32) (-1 : Int32) (0 : Int32) hw _ _ (hP.sub [0, 1, 2, 3, 4, 5, 6, 7] rfl) (hD.sub [0, 1, 2, 3, 4, 5, 6, 7] (by decide) rfl) hS ls (lv_sub hl [3, 2, 1, 0] rfl)
      · have hw := hw.2 c_8
        refine lv_aload_n hx hb d_O_mostFrequentValue_16 rfl (lv_at hl 0 rfl) ?_
        refine va_get (D := (dC, dI)) (ci := 1) (v := .ref aO_known) (C := "ClaimSources$Opinions") (T := TT_1) (N := 8) hx hb hts hi_1 hown hK hP 0 rfl rfl 5 (by decide) hf_27 (fun _ h9 => h9) rfl d_O_mostFrequentValue_17 ?_
        refine lv_iload_n hx hb d_O_mostFrequentValue_20 rfl (lv_at hl 1 rfl) ?_
        obtain ⟨h_10, hw⟩ := hw
        refine va_iald hx hb hK hP 6 0 rfl rfl h_10 d_O_mostFrequentValue_21 ?_
        refine lv_istore_n (lv' := [(2, .int (O_known x1.toNatClampNeg)), (0, .ref aO), (1, .int x1)]) hx hb d_O_mostFrequentValue_22 rfl hl (by decide) rfl (fun ls hl => ?_)
        refine lv_iload_n hx hb d_O_mostFrequentValue_23 rfl (lv_at hl 0 rfl) ?_
        refine lv_iconst (v := -1) hx hb d_O_mostFrequentValue_24 (by decide) ?_
        refine lv_icmp_eq (tgt := 43) hx hb d_O_mostFrequentValue_25 (by decide) (fun c_11 => ?_) (fun c_11 => ?_)
        · have hw := hw.1 c_11
          refine lv_iinc (v := x1 + 1) (lv' := [(1, .int (x1 + 1)), (2, .int (O_known x1.toNatClampNeg)), (0, .ref aO)]) hx hb d_O_mostFrequentValue_43 hl (k := 2) rfl rfl (by decide) rfl (fun ls hl => ?_)
          refine lv_goto (tgt := 10) hx hb d_O_mostFrequentValue_46 (by decide) ?_
          exact ih (x1 + 1) O_tally hw _ _ (hP.sub [0, 1, 2, 3, 4, 5, 6, 7] rfl) (hD.sub [0, 1, 2, 3, 4, 5, 6, 7] (by decide) rfl) hS ls (lv_sub hl [2, 0] rfl)
        · have hw := hw.2 c_11
          refine lv_aload_n hx hb d_O_mostFrequentValue_28 rfl (lv_at hl 1 rfl) ?_
          refine va_get (D := (dC, dI)) (ci := 1) (v := .ref aO_tally) (C := "ClaimSources$Opinions") (T := TT_1) (N := 8) hx hb hts hi_1 hown hK hP 0 rfl rfl 6 (by decide) hf_30 (fun _ h9 => h9) rfl d_O_mostFrequentValue_29 ?_
          refine lv_aload_n hx hb d_O_mostFrequentValue_32 rfl (lv_at hl 1 rfl) ?_
          refine va_get (D := (dC, dI)) (ci := 1) (v := .ref aO_values) (C := "ClaimSources$Opinions") (T := TT_1) (N := 8) hx hb hts hi_1 hown hK hP 0 rfl rfl 3 (by decide) hf_21 (fun _ h9 => h9) rfl d_O_mostFrequentValue_33 ?_
          refine lv_iload_n hx hb d_O_mostFrequentValue_36 rfl (lv_at hl 0 rfl) ?_
          obtain ⟨h_12, hw⟩ := hw
          refine va_iald hx hb hK hP 4 0 rfl rfl h_12 d_O_mostFrequentValue_37 ?_
          refine lv_dup2_11 hx hb d_O_mostFrequentValue_38 rfl rfl ?_
          obtain ⟨h_13, hw⟩ := hw
          refine va_iald hx hb hK hP 7 0 rfl rfl h_13 d_O_mostFrequentValue_39 ?_
          refine lv_iconst (v := 1) hx hb d_O_mostFrequentValue_40 (by decide) ?_
          refine lv_iadd hx hb d_O_mostFrequentValue_41 ?_
          obtain ⟨h_14, hw⟩ := hw
          refine va_iast hx hb hK hP hD hS 7 0 rfl rfl h_14 d_O_mostFrequentValue_42 (fun H locs hP hD hS => ?_)
          have hP : va_P (dC, dI) vwCl [(aO, .inr (1, [.ref aO_persons, .ref aO_claimNumbers, .ref aO_days, .ref aO_values, .ref aO_ranks, .ref aO_known, .ref aO_tally, .int O_made])), (aO_persons, .inl (cI, 300, .inl O_persons)), (aO_claimNumbers, .inl (cI, 300, .inl O_claimNumbers)), (aO_days, .inl (cI, 300, .inl O_days)), (aO_values, .inl (cI, 300, .inl O_values)), (aO_ranks, .inl (cI, 300, .inl O_ranks)), (aO_known, .inl (cI, 32, .inl O_known)), (aO_tally, .inl (cI, 100, .inl (upd O_tally (O_values (O_known x1.toNatClampNeg).toNatClampNeg).toNatClampNeg ((O_tally (O_values (O_known x1.toNatClampNeg).toNatClampNeg).toNatClampNeg) + (1 : Int32)))))] H := hP
          have hD : va_D A [(aO, .inr (1, [.ref aO_persons, .ref aO_claimNumbers, .ref aO_days, .ref aO_values, .ref aO_ranks, .ref aO_known, .ref aO_tally, .int O_made])), (aO_persons, .inl (cI, 300, .inl O_persons)), (aO_claimNumbers, .inl (cI, 300, .inl O_claimNumbers)), (aO_days, .inl (cI, 300, .inl O_days)), (aO_values, .inl (cI, 300, .inl O_values)), (aO_ranks, .inl (cI, 300, .inl O_ranks)), (aO_known, .inl (cI, 32, .inl O_known)), (aO_tally, .inl (cI, 100, .inl (upd O_tally (O_values (O_known x1.toNatClampNeg).toNatClampNeg).toNatClampNeg ((O_tally (O_values (O_known x1.toNatClampNeg).toNatClampNeg).toNatClampNeg) + (1 : Int32)))))] := hD
          refine lv_iinc (v := x1 + 1) (lv' := [(1, .int (x1 + 1)), (2, .int (O_known x1.toNatClampNeg)), (0, .ref aO)]) hx hb d_O_mostFrequentValue_43 hl (k := 2) rfl rfl (by decide) rfl (fun ls hl => ?_)
          refine lv_goto (tgt := 10) hx hb d_O_mostFrequentValue_46 (by decide) ?_
          exact ih (x1 + 1) (upd O_tally (O_values (O_known x1.toNatClampNeg).toNatClampNeg).toNatClampNeg ((O_tally (O_values (O_known x1.toNatClampNeg).toNatClampNeg).toNatClampNeg) + (1 : Int32))) hw _ _ (hP.sub [0, 1, 2, 3, 4, 5, 6, 7] rfl) (hD.sub [0, 1, 2, 3, 4, 5, 6, 7] (by decide) rfl) hS ls (lv_sub hl [2, 0] rfl)
  unfold wp_O_mostFrequentValue at hw
  refine lv_aload_n hx hb d_O_mostFrequentValue_0 rfl (lv_at hl 0 rfl) ?_
  refine va_get (D := (dC, dI)) (ci := 1) (v := .ref aO_tally) (C := "ClaimSources$Opinions") (T := TT_1) (N := 8) hx hb hts hi_1 hown hK hP 0 rfl rfl 6 (by decide) hf_30 (fun _ h9 => h9) rfl d_O_mostFrequentValue_1 ?_
  refine lv_iconst (v := 0) hx hb d_O_mostFrequentValue_4 (by decide) ?_
  have hPc := hP.sub (ws' := [(aO_tally, .inl (cI, 100, .inl O_tally))]) [7] rfl
  have hDc := hD.sub (ws' := [(aO_tally, .inl (cI, 100, .inl O_tally))]) [7] (by decide) rfl
  have hFc := va_free (wc := [(aO_tally, .inl (cI, 100, .inl O_tally))]) hD hS hA [7] rfl
  refine va_callv (va_runS (As := [.ref aO_tally, .int (0 : Int32)]) (rest := []) ⟨hx, hb, hml, hown, hts⟩ (mt_J_fill l dC dI cI aO_tally s.heap.size _ 100 O_tally (0 : Int32) hw) (va_cwS 2 hts (gdS m_462 m_353 m_14 m_354) rfl rfl rfl (by decide +kernel) ⟨Nat.le_of_ble_eq_true rfl, Nat.le_of_ble_eq_true rfl⟩) ⟨fb_w, fun U hU hW => ⟨rfl, by rw [hU], by rw [hU]; exact hPc, va_K.moved hW.alike hK, hDc.weaken (fun _ _ _ _ => trivial), hE.warm hW⟩⟩ rfl rfl hl.1 rfl (lv_room (Nat.le_of_ble_eq_true rfl)) d_O_mostFrequentValue_5 ⟨Nat.le_of_ble_eq_true rfl, Nat.le_of_ble_eq_true rfl⟩) hS (fun q _ h => hFc q h) hFc (fun u t H1 locs ht hvm hw hB hz1 hk1 hS => ?_)
  obtain ⟨u_15, rfl⟩ : ∃ z, z = u := ⟨_, rfl⟩
  obtain ⟨hP1, hD1⟩ := hB
  rw [ht] at hP1
  try dsimp only at hw hP1 hD1
  obtain ⟨hP, hD⟩ := va_join (wr := [(aO, .inr (1, [.ref aO_persons, .ref aO_claimNumbers, .ref aO_days, .ref aO_values, .ref aO_ranks, .ref aO_known, .ref aO_tally, .int O_made])), (aO_persons, .inl (cI, 300, .inl O_persons)), (aO_claimNumbers, .inl (cI, 300, .inl O_claimNumbers)), (aO_days, .inl (cI, 300, .inl O_days)), (aO_values, .inl (cI, 300, .inl O_values)), (aO_ranks, .inl (cI, 300, .inl O_ranks)), (aO_known, .inl (cI, 32, .inl O_known))]) (w1 := [(aO_tally, .inl (cI, 100, .inl u_15))]) hP hD [7] [0, 1, 2, 3, 4, 5, 6] rfl rfl (by decide) (by decide) hk1 hFc hP1 hD1
  generalize H1 = H at hP hS ⊢
  have hP : va_P (dC, dI) vwCl [(aO, .inr (1, [.ref aO_persons, .ref aO_claimNumbers, .ref aO_days, .ref aO_values, .ref aO_ranks, .ref aO_known, .ref aO_tally, .int O_made])), (aO_persons, .inl (cI, 300, .inl O_persons)), (aO_claimNumbers, .inl (cI, 300, .inl O_claimNumbers)), (aO_days, .inl (cI, 300, .inl O_days)), (aO_values, .inl (cI, 300, .inl O_values)), (aO_ranks, .inl (cI, 300, .inl O_ranks)), (aO_known, .inl (cI, 32, .inl O_known)), (aO_tally, .inl (cI, 100, .inl u_15))] H := hP
  have hD : va_D A [(aO, .inr (1, [.ref aO_persons, .ref aO_claimNumbers, .ref aO_days, .ref aO_values, .ref aO_ranks, .ref aO_known, .ref aO_tally, .int O_made])), (aO_persons, .inl (cI, 300, .inl O_persons)), (aO_claimNumbers, .inl (cI, 300, .inl O_claimNumbers)), (aO_days, .inl (cI, 300, .inl O_days)), (aO_values, .inl (cI, 300, .inl O_values)), (aO_ranks, .inl (cI, 300, .inl O_ranks)), (aO_known, .inl (cI, 32, .inl O_known)), (aO_tally, .inl (cI, 100, .inl u_15))] := hD
  refine lv_iconst (v := 0) hx hb d_O_mostFrequentValue_8 (by decide) ?_
  refine lv_istore_n (lv' := [(1, .int (0 : Int32)), (0, .ref aO)]) hx hb d_O_mostFrequentValue_9 rfl hl (by decide) rfl (fun ls hl => ?_)
  obtain ⟨n_16, hw⟩ := hw
  exact L10 n_16 (0 : Int32) u_15 hw _ _ (hP.sub [0, 1, 2, 3, 4, 5, 6, 7] rfl) (hD.sub [0, 1, 2, 3, 4, 5, 6, 7] (by decide) rfl) hS ls (lv_sub hl [1, 0] rfl)
def wp_O_valueBy (O_persons : Nat → Int32) (O_claimNumbers : Nat → Int32) (O_days : Nat → Int32) (O_values : Nat → Int32) (O_ranks : Nat → Int32) (O_known : Nat → Int32) (O_tally : Nat → Int32) (O_made : Int32) (x1 : Int32) (post : Int32 → (Nat → Int32) → Prop) : Prop := ((x1 = 1 → (wp_O_valueOfGreatestRank O_persons O_claimNumbers O_days O_values O_ranks O_known O_tally O_made (fun r_2 => (post r_2 O_tally)))) ∧ (¬ x1 = 1 → ((x1 = 2 → (wp_O_commonValue O_persons O_claimNumbers O_days O_values O_ranks O_known O_tally O_made (-1 : Int32) (-1 : Int32) (fun r_4 => (post r_4 O_tally)))) ∧ (¬ x1 = 2 → (wp_O_mostFrequentValue O_persons O_claimNumbers O_days O_values O_ranks O_known O_tally O_made (fun r_5 u_6 => (post r_5 u_6)))))))
set_option maxHeartbeats 4000000 in
set_option maxRecDepth 100000 in
theorem mt_O_valueBy (l : Launch) (dC : Nat → ClassId) (dI : Nat → Nat → Nat) (cI : ClassId) (aO : Nat) (aO_persons : Nat) (aO_claimNumbers : Nat) (aO_days : Nat) (aO_values : Nat) (aO_ranks : Nat) (aO_known : Nat) (aO_tally : Nat) (sz : Nat) (post : Int32 → (Nat → Int32) → Prop) (O_persons : Nat → Int32) (O_claimNumbers : Nat → Int32) (O_days : Nat → Int32) (O_values : Nat → Int32) (O_ranks : Nat → Int32) (O_known : Nat → Int32) (O_tally : Nat → Int32) (O_made : Int32) (x1 : Int32) (hw : wp_O_valueBy O_persons O_claimNumbers O_days O_values O_ranks O_known O_tally O_made x1 post) : Met l y_O_valueBy w_O_valueBy ({ frames := 3, cells := 0, slots := 0, locals := 66 }) (va_Pc [.ref aO, .int x1] (fun U => U.heap.size = sz ∧ va_P (dC, dI) vwCl [(aO, .inr (1, [.ref aO_persons, .ref aO_claimNumbers, .ref aO_days, .ref aO_values, .ref aO_ranks, .ref aO_known, .ref aO_tally, .int O_made])), (aO_persons, .inl (cI, 300, .inl O_persons)), (aO_claimNumbers, .inl (cI, 300, .inl O_claimNumbers)), (aO_days, .inl (cI, 300, .inl O_days)), (aO_values, .inl (cI, 300, .inl O_values)), (aO_ranks, .inl (cI, 300, .inl O_ranks)), (aO_known, .inl (cI, 32, .inl O_known)), (aO_tally, .inl (cI, 100, .inl O_tally))] U.heap ∧ va_K (dC, dI) vwCl [(cI, .int)] U ∧ va_D (fun _ => True) [(aO, .inr (1, [.ref aO_persons, .ref aO_claimNumbers, .ref aO_days, .ref aO_values, .ref aO_ranks, .ref aO_known, .ref aO_tally, .int O_made])), (aO_persons, .inl (cI, 300, .inl O_persons)), (aO_claimNumbers, .inl (cI, 300, .inl O_claimNumbers)), (aO_days, .inl (cI, 300, .inl O_days)), (aO_values, .inl (cI, 300, .inl O_values)), (aO_ranks, .inl (cI, 300, .inl O_ranks)), (aO_known, .inl (cI, 32, .inl O_known)), (aO_tally, .inl (cI, 100, .inl O_tally))] ∧ en_ok U)) (va_Qi (fun r (u : (Nat → Int32)) => post r u) (fun (u : (Nat → Int32)) t => va_P (dC, dI) vwCl [(aO, .inr (1, [.ref aO_persons, .ref aO_claimNumbers, .ref aO_days, .ref aO_values, .ref aO_ranks, .ref aO_known, .ref aO_tally, .int O_made])), (aO_persons, .inl (cI, 300, .inl O_persons)), (aO_claimNumbers, .inl (cI, 300, .inl O_claimNumbers)), (aO_days, .inl (cI, 300, .inl O_days)), (aO_values, .inl (cI, 300, .inl O_values)), (aO_ranks, .inl (cI, 300, .inl O_ranks)), (aO_known, .inl (cI, 32, .inl O_known)), (aO_tally, .inl (cI, 100, .inl u))] t.heap ∧ va_D (va_A [(aO, .inr (1, [.ref aO_persons, .ref aO_claimNumbers, .ref aO_days, .ref aO_values, .ref aO_ranks, .ref aO_known, .ref aO_tally, .int O_made])), (aO_persons, .inl (cI, 300, .inl O_persons)), (aO_claimNumbers, .inl (cI, 300, .inl O_claimNumbers)), (aO_days, .inl (cI, 300, .inl O_days)), (aO_values, .inl (cI, 300, .inl O_values)), (aO_ranks, .inl (cI, 300, .inl O_ranks)), (aO_known, .inl (cI, 32, .inl O_known)), (aO_tally, .inl (cI, 100, .inl O_tally))] sz) [(aO, .inr (1, [.ref aO_persons, .ref aO_claimNumbers, .ref aO_days, .ref aO_values, .ref aO_ranks, .ref aO_known, .ref aO_tally, .int O_made])), (aO_persons, .inl (cI, 300, .inl O_persons)), (aO_claimNumbers, .inl (cI, 300, .inl O_claimNumbers)), (aO_days, .inl (cI, 300, .inl O_days)), (aO_values, .inl (cI, 300, .inl O_values)), (aO_ranks, .inl (cI, 300, .inl O_ranks)), (aO_known, .inl (cI, 32, .inl O_known)), (aO_tally, .inl (cI, 100, .inl u))]) (va_A [(aO, .inr (1, [.ref aO_persons, .ref aO_claimNumbers, .ref aO_days, .ref aO_values, .ref aO_ranks, .ref aO_known, .ref aO_tally, .int O_made])), (aO_persons, .inl (cI, 300, .inl O_persons)), (aO_claimNumbers, .inl (cI, 300, .inl O_claimNumbers)), (aO_days, .inl (cI, 300, .inl O_days)), (aO_values, .inl (cI, 300, .inl O_values)), (aO_ranks, .inl (cI, 300, .inl O_ranks)), (aO_known, .inl (cI, 32, .inl O_known)), (aO_tally, .inl (cI, 100, .inl O_tally))] sz)) 0 0 (va_A [(aO, .inr (1, [.ref aO_persons, .ref aO_claimNumbers, .ref aO_days, .ref aO_values, .ref aO_ranks, .ref aO_known, .ref aO_tally, .int O_made])), (aO_persons, .inl (cI, 300, .inl O_persons)), (aO_claimNumbers, .inl (cI, 300, .inl O_claimNumbers)), (aO_days, .inl (cI, 300, .inl O_days)), (aO_values, .inl (cI, 300, .inl O_values)), (aO_ranks, .inl (cI, 300, .inl O_ranks)), (aO_known, .inl (cI, 32, .inl O_known)), (aO_tally, .inl (cI, 100, .inl O_tally))] sz) := by
  refine Met.ofW (cc := prog_3_method_8_code) (maxL := 2) (ret := (some .int)) (by decide) rfl ?_
  intro p e s m args below meth c s₁ B hml hv
  obtain ⟨rfl, hsz, hP, hK, hD0, hE⟩ := hv
  have hx := B.exec
  have hb := B.bytes
  have hr := B.returns
  have hts := atoms_spec (ws := w_O_valueBy) B.pre
  have hown : s.vm.findClass "ClaimSources$Opinions" = some m.cls := findClass_of_methodNamed B.named
  have hlocks := B.notSynchronized
  subst hsz
  have hD := hD0.self (sz := s.heap.size)
  generalize hAe : va_A [(aO, .inr (1, [.ref aO_persons, .ref aO_claimNumbers, .ref aO_days, .ref aO_values, .ref aO_ranks, .ref aO_known, .ref aO_tally, .int O_made])), (aO_persons, .inl (cI, 300, .inl O_persons)), (aO_claimNumbers, .inl (cI, 300, .inl O_claimNumbers)), (aO_days, .inl (cI, 300, .inl O_days)), (aO_values, .inl (cI, 300, .inl O_values)), (aO_ranks, .inl (cI, 300, .inl O_ranks)), (aO_known, .inl (cI, 32, .inl O_known)), (aO_tally, .inl (cI, 100, .inl O_tally))] s.heap.size = A at hD ⊢
  have hA : ∀ q : Nat, s.heap.size ≤ q → A q := fun q h => by rw [← hAe]; exact Or.inr h
  have hS : va_S A s.heap s.heap [] := va_S.rf
  have hl := lv_entry ([.ref aO, .int x1]) (n := 2) (Nat.le_of_ble_eq_true rfl)
  rw [lg_entry_eq]
  generalize (lg_sl ([.ref aO, .int x1]) ++ List.replicate (2 - (lg_sl ([.ref aO, .int x1])).length) Slot.unset).toArray = ls at hl ⊢
  have hl : lv_has ls 2 [(0, .ref aO), (1, .int x1)] := hl
  obtain ⟨Q0, hQ0⟩ : ∃ Q0, Q0 = MQ below (va_Qi (fun r (u : (Nat → Int32)) => post r u) (fun (u : (Nat → Int32)) t => va_P (dC, dI) vwCl [(aO, .inr (1, [.ref aO_persons, .ref aO_claimNumbers, .ref aO_days, .ref aO_values, .ref aO_ranks, .ref aO_known, .ref aO_tally, .int O_made])), (aO_persons, .inl (cI, 300, .inl O_persons)), (aO_claimNumbers, .inl (cI, 300, .inl O_claimNumbers)), (aO_days, .inl (cI, 300, .inl O_days)), (aO_values, .inl (cI, 300, .inl O_values)), (aO_ranks, .inl (cI, 300, .inl O_ranks)), (aO_known, .inl (cI, 32, .inl O_known)), (aO_tally, .inl (cI, 100, .inl u))] t.heap ∧ va_D A [(aO, .inr (1, [.ref aO_persons, .ref aO_claimNumbers, .ref aO_days, .ref aO_values, .ref aO_ranks, .ref aO_known, .ref aO_tally, .int O_made])), (aO_persons, .inl (cI, 300, .inl O_persons)), (aO_claimNumbers, .inl (cI, 300, .inl O_claimNumbers)), (aO_days, .inl (cI, 300, .inl O_days)), (aO_values, .inl (cI, 300, .inl O_values)), (aO_ranks, .inl (cI, 300, .inl O_ranks)), (aO_known, .inl (cI, 32, .inl O_known)), (aO_tally, .inl (cI, 100, .inl u))]) A) ([.ref aO, .int x1]).toArray s 0 0 A := ⟨_, rfl⟩
  rw [← hQ0]
  clear B
  generalize hag : ([.ref aO, .int x1] : List Value).toArray = args at hts hQ0 ⊢
  unfold wp_O_valueBy at hw
  refine lv_iload_n hx hb d_O_valueBy_0 rfl (lv_at hl 1 rfl) ?_
  by_cases c_1 : x1 = 1
  · have hw := hw.1 c_1
    refine lv_lookup (x := x1) (off := 27) (tgt := 28) hx hb d_O_valueBy_1 (by decide) (by rw [c_1]; try rfl) (by decide) ?_
    refine lv_aload_n hx hb d_O_valueBy_28 rfl (lv_at hl 0 rfl) ?_
    have hPc := hP.sub (ws' := [(aO, .inr (1, [.ref aO_persons, .ref aO_claimNumbers, .ref aO_days, .ref aO_values, .ref aO_ranks, .ref aO_known, .ref aO_tally, .int O_made])), (aO_persons, .inl (cI, 300, .inl O_persons)), (aO_claimNumbers, .inl (cI, 300, .inl O_claimNumbers)), (aO_days, .inl (cI, 300, .inl O_days)), (aO_values, .inl (cI, 300, .inl O_values)), (aO_ranks, .inl (cI, 300, .inl O_ranks)), (aO_known, .inl (cI, 32, .inl O_known)), (aO_tally, .inl (cI, 100, .inl O_tally))]) [0, 1, 2, 3, 4, 5, 6, 7] rfl
    refine vp_callSi (W.runV (As := []) (rest := []) ⟨hx, hb, hml, hown, hts⟩ (mt_O_valueOfGreatestRank l dC dI cI aO aO_persons aO_claimNumbers aO_days aO_values aO_ranks aO_known aO_tally _ O_persons O_claimNumbers O_days O_values O_ranks O_known O_tally O_made hw) (cwV 0 hts (gdV m_489 m_491 ms_9 m_5 m_492) rfl rfl rfl (by decide +kernel) ⟨Nat.le_of_ble_eq_true rfl, Nat.le_of_ble_eq_true rfl⟩) ⟨fb_r, va_recv hK hPc (ci := 1) (q0 := 0) rfl rfl, fun U hU hW => ⟨rfl, by rw [hU]; exact hPc, va_K.moved hW.alike hK, hE.warm hW⟩⟩ rfl rfl hl.1 rfl (lv_room (Nat.le_of_ble_eq_true rfl)) d_O_valueBy_29 ⟨Nat.le_of_ble_eq_true rfl, Nat.le_of_ble_eq_true rfl⟩) (fun r_2 hw => ?_)
    subst hQ0
    have hP9 := hP.sub (ws' := [(aO, .inr (1, [.ref aO_persons, .ref aO_claimNumbers, .ref aO_days, .ref aO_values, .ref aO_ranks, .ref aO_known, .ref aO_tally, .int O_made])), (aO_persons, .inl (cI, 300, .inl O_persons)), (aO_claimNumbers, .inl (cI, 300, .inl O_claimNumbers)), (aO_days, .inl (cI, 300, .inl O_days)), (aO_values, .inl (cI, 300, .inl O_values)), (aO_ranks, .inl (cI, 300, .inl O_ranks)), (aO_known, .inl (cI, 32, .inl O_known)), (aO_tally, .inl (cI, 100, .inl O_tally))]) [0, 1, 2, 3, 4, 5, 6, 7] rfl
    have hD9 := hD.sub (ws' := [(aO, .inr (1, [.ref aO_persons, .ref aO_claimNumbers, .ref aO_days, .ref aO_values, .ref aO_ranks, .ref aO_known, .ref aO_tally, .int O_made])), (aO_persons, .inl (cI, 300, .inl O_persons)), (aO_claimNumbers, .inl (cI, 300, .inl O_claimNumbers)), (aO_days, .inl (cI, 300, .inl O_days)), (aO_values, .inl (cI, 300, .inl O_values)), (aO_ranks, .inl (cI, 300, .inl O_ranks)), (aO_known, .inl (cI, 32, .inl O_known)), (aO_tally, .inl (cI, 100, .inl O_tally))]) [0, 1, 2, 3, 4, 5, 6, 7] (by decide) rfl
    exact W.iret (v := r_2) hx hb hr (fun t ht hW => ⟨⟨_, (O_tally), rfl, hw, by rw [ht]; exact hP9, hD9⟩, hS.F ht⟩) hS.2.2 d_O_valueBy_32
  · have hw := hw.2 c_1
    by_cases c_3 : x1 = 2
    · have hw := hw.1 c_3
      refine lv_lookup (x := x1) (off := 32) (tgt := 33) hx hb d_O_valueBy_1 (by decide) (by rw [c_3]; try rfl) (by decide) ?_
      refine lv_aload_n hx hb d_O_valueBy_33 rfl (lv_at hl 0 rfl) ?_
      refine lv_iconst (v := -1) hx hb d_O_valueBy_34 (by decide) ?_
      refine lv_iconst (v := -1) hx hb d_O_valueBy_35 (by decide) ?_
      have hPc := hP.sub (ws' := [(aO, .inr (1, [.ref aO_persons, .ref aO_claimNumbers, .ref aO_days, .ref aO_values, .ref aO_ranks, .ref aO_known, .ref aO_tally, .int O_made])), (aO_persons, .inl (cI, 300, .inl O_persons)), (aO_claimNumbers, .inl (cI, 300, .inl O_claimNumbers)), (aO_days, .inl (cI, 300, .inl O_days)), (aO_values, .inl (cI, 300, .inl O_values)), (aO_ranks, .inl (cI, 300, .inl O_ranks)), (aO_known, .inl (cI, 32, .inl O_known)), (aO_tally, .inl (cI, 100, .inl O_tally))]) [0, 1, 2, 3, 4, 5, 6, 7] rfl
      refine vp_callSi (W.runV (As := [.int (-1 : Int32), .int (-1 : Int32)]) (rest := []) ⟨hx, hb, hml, hown, hts⟩ (mt_O_commonValue l dC dI cI aO aO_persons aO_claimNumbers aO_days aO_values aO_ranks aO_known aO_tally _ O_persons O_claimNumbers O_days O_values O_ranks O_known O_tally O_made (-1 : Int32) (-1 : Int32) hw) (cwV 2 hts (gdV m_504 m_506 ms_12 m_5 m_507) rfl rfl rfl (by decide +kernel) ⟨Nat.le_of_ble_eq_true rfl, Nat.le_of_ble_eq_true rfl⟩) ⟨fb_r, va_recv hK hPc (ci := 1) (q0 := 0) rfl rfl, fun U hU hW => ⟨rfl, by rw [hU]; exact hPc, va_K.moved hW.alike hK, hE.warm hW⟩⟩ rfl rfl hl.1 rfl (lv_room (Nat.le_of_ble_eq_true rfl)) d_O_valueBy_36 ⟨Nat.le_of_ble_eq_true rfl, Nat.le_of_ble_eq_true rfl⟩) (fun r_4 hw => ?_)
      subst hQ0
      have hP9 := hP.sub (ws' := [(aO, .inr (1, [.ref aO_persons, .ref aO_claimNumbers, .ref aO_days, .ref aO_values, .ref aO_ranks, .ref aO_known, .ref aO_tally, .int O_made])), (aO_persons, .inl (cI, 300, .inl O_persons)), (aO_claimNumbers, .inl (cI, 300, .inl O_claimNumbers)), (aO_days, .inl (cI, 300, .inl O_days)), (aO_values, .inl (cI, 300, .inl O_values)), (aO_ranks, .inl (cI, 300, .inl O_ranks)), (aO_known, .inl (cI, 32, .inl O_known)), (aO_tally, .inl (cI, 100, .inl O_tally))]) [0, 1, 2, 3, 4, 5, 6, 7] rfl
      have hD9 := hD.sub (ws' := [(aO, .inr (1, [.ref aO_persons, .ref aO_claimNumbers, .ref aO_days, .ref aO_values, .ref aO_ranks, .ref aO_known, .ref aO_tally, .int O_made])), (aO_persons, .inl (cI, 300, .inl O_persons)), (aO_claimNumbers, .inl (cI, 300, .inl O_claimNumbers)), (aO_days, .inl (cI, 300, .inl O_days)), (aO_values, .inl (cI, 300, .inl O_values)), (aO_ranks, .inl (cI, 300, .inl O_ranks)), (aO_known, .inl (cI, 32, .inl O_known)), (aO_tally, .inl (cI, 100, .inl O_tally))]) [0, 1, 2, 3, 4, 5, 6, 7] (by decide) rfl
      exact W.iret (v := r_4) hx hb hr (fun t ht hW => ⟨⟨_, (O_tally), rfl, hw, by rw [ht]; exact hP9, hD9⟩, hS.F ht⟩) hS.2.2 d_O_valueBy_39
    · have hw := hw.2 c_3
      refine lv_lookup (x := x1) (off := 39) (tgt := 40) hx hb d_O_valueBy_1 (by decide) ((lv_osw c_1 (by decide)).trans <| (lv_osw c_3 (by decide)).trans <| rfl) (by decide) ?_
      refine lv_aload_n hx hb d_O_valueBy_40 rfl (lv_at hl 0 rfl) ?_
      have hPc := hP.sub (ws' := [(aO, .inr (1, [.ref aO_persons, .ref aO_claimNumbers, .ref aO_days, .ref aO_values, .ref aO_ranks, .ref aO_known, .ref aO_tally, .int O_made])), (aO_persons, .inl (cI, 300, .inl O_persons)), (aO_claimNumbers, .inl (cI, 300, .inl O_claimNumbers)), (aO_days, .inl (cI, 300, .inl O_days)), (aO_values, .inl (cI, 300, .inl O_values)), (aO_ranks, .inl (cI, 300, .inl O_ranks)), (aO_known, .inl (cI, 32, .inl O_known)), (aO_tally, .inl (cI, 100, .inl O_tally))]) [0, 1, 2, 3, 4, 5, 6, 7] rfl
      have hDc := hD.sub (ws' := [(aO, .inr (1, [.ref aO_persons, .ref aO_claimNumbers, .ref aO_days, .ref aO_values, .ref aO_ranks, .ref aO_known, .ref aO_tally, .int O_made])), (aO_persons, .inl (cI, 300, .inl O_persons)), (aO_claimNumbers, .inl (cI, 300, .inl O_claimNumbers)), (aO_days, .inl (cI, 300, .inl O_days)), (aO_values, .inl (cI, 300, .inl O_values)), (aO_ranks, .inl (cI, 300, .inl O_ranks)), (aO_known, .inl (cI, 32, .inl O_known)), (aO_tally, .inl (cI, 100, .inl O_tally))]) [0, 1, 2, 3, 4, 5, 6, 7] (by decide) rfl
      have hFc := va_free (wc := [(aO, .inr (1, [.ref aO_persons, .ref aO_claimNumbers, .ref aO_days, .ref aO_values, .ref aO_ranks, .ref aO_known, .ref aO_tally, .int O_made])), (aO_persons, .inl (cI, 300, .inl O_persons)), (aO_claimNumbers, .inl (cI, 300, .inl O_claimNumbers)), (aO_days, .inl (cI, 300, .inl O_days)), (aO_values, .inl (cI, 300, .inl O_values)), (aO_ranks, .inl (cI, 300, .inl O_ranks)), (aO_known, .inl (cI, 32, .inl O_known)), (aO_tally, .inl (cI, 100, .inl O_tally))]) hD hS hA [0, 1, 2, 3, 4, 5, 6, 7] rfl
      refine va_calli (va_runV (As := []) (rest := []) ⟨hx, hb, hml, hown, hts⟩ (mt_O_mostFrequentValue l dC dI cI aO aO_persons aO_claimNumbers aO_days aO_values aO_ranks aO_known aO_tally s.heap.size _ O_persons O_claimNumbers O_days O_values O_ranks O_known O_tally O_made hw) (cwV 0 hts (gdV m_508 m_510 ms_13 m_5 m_511) rfl rfl rfl (by decide +kernel) ⟨Nat.le_of_ble_eq_true rfl, Nat.le_of_ble_eq_true rfl⟩) ⟨fb_w, va_recv hK hPc (ci := 1) (q0 := 0) rfl rfl, fun U hU hW => ⟨rfl, by rw [hU], by rw [hU]; exact hPc, va_K.moved hW.alike hK, hDc.weaken (fun _ _ _ _ => trivial), hE.warm hW⟩⟩ rfl rfl hl.1 rfl (lv_room (Nat.le_of_ble_eq_true rfl)) d_O_valueBy_41 ⟨Nat.le_of_ble_eq_true rfl, Nat.le_of_ble_eq_true rfl⟩) hS (fun q _ h => hFc q h) hFc (fun r_5 u t H1 locs ht hvm hw hB hz1 hk1 hS => ?_)
      obtain ⟨u_6, rfl⟩ : ∃ z, z = u := ⟨_, rfl⟩
      obtain ⟨hP1, hD1⟩ := hB
      rw [ht] at hP1
      try dsimp only at hw hP1 hD1
      obtain ⟨hP, hD⟩ := va_join (wr := []) (w1 := [(aO, .inr (1, [.ref aO_persons, .ref aO_claimNumbers, .ref aO_days, .ref aO_values, .ref aO_ranks, .ref aO_known, .ref aO_tally, .int O_made])), (aO_persons, .inl (cI, 300, .inl O_persons)), (aO_claimNumbers, .inl (cI, 300, .inl O_claimNumbers)), (aO_days, .inl (cI, 300, .inl O_days)), (aO_values, .inl (cI, 300, .inl O_values)), (aO_ranks, .inl (cI, 300, .inl O_ranks)), (aO_known, .inl (cI, 32, .inl O_known)), (aO_tally, .inl (cI, 100, .inl u_6))]) hP hD [0, 1, 2, 3, 4, 5, 6, 7] [] rfl rfl (by decide) (by decide) hk1 hFc hP1 hD1
      generalize H1 = H at hP hS ⊢
      have hP : va_P (dC, dI) vwCl [(aO, .inr (1, [.ref aO_persons, .ref aO_claimNumbers, .ref aO_days, .ref aO_values, .ref aO_ranks, .ref aO_known, .ref aO_tally, .int O_made])), (aO_persons, .inl (cI, 300, .inl O_persons)), (aO_claimNumbers, .inl (cI, 300, .inl O_claimNumbers)), (aO_days, .inl (cI, 300, .inl O_days)), (aO_values, .inl (cI, 300, .inl O_values)), (aO_ranks, .inl (cI, 300, .inl O_ranks)), (aO_known, .inl (cI, 32, .inl O_known)), (aO_tally, .inl (cI, 100, .inl u_6))] H := hP
      have hD : va_D A [(aO, .inr (1, [.ref aO_persons, .ref aO_claimNumbers, .ref aO_days, .ref aO_values, .ref aO_ranks, .ref aO_known, .ref aO_tally, .int O_made])), (aO_persons, .inl (cI, 300, .inl O_persons)), (aO_claimNumbers, .inl (cI, 300, .inl O_claimNumbers)), (aO_days, .inl (cI, 300, .inl O_days)), (aO_values, .inl (cI, 300, .inl O_values)), (aO_ranks, .inl (cI, 300, .inl O_ranks)), (aO_known, .inl (cI, 32, .inl O_known)), (aO_tally, .inl (cI, 100, .inl u_6))] := hD
      subst hQ0
      have hP9 := hP.sub (ws' := [(aO, .inr (1, [.ref aO_persons, .ref aO_claimNumbers, .ref aO_days, .ref aO_values, .ref aO_ranks, .ref aO_known, .ref aO_tally, .int O_made])), (aO_persons, .inl (cI, 300, .inl O_persons)), (aO_claimNumbers, .inl (cI, 300, .inl O_claimNumbers)), (aO_days, .inl (cI, 300, .inl O_days)), (aO_values, .inl (cI, 300, .inl O_values)), (aO_ranks, .inl (cI, 300, .inl O_ranks)), (aO_known, .inl (cI, 32, .inl O_known)), (aO_tally, .inl (cI, 100, .inl u_6))]) [0, 1, 2, 3, 4, 5, 6, 7] rfl
      have hD9 := hD.sub (ws' := [(aO, .inr (1, [.ref aO_persons, .ref aO_claimNumbers, .ref aO_days, .ref aO_values, .ref aO_ranks, .ref aO_known, .ref aO_tally, .int O_made])), (aO_persons, .inl (cI, 300, .inl O_persons)), (aO_claimNumbers, .inl (cI, 300, .inl O_claimNumbers)), (aO_days, .inl (cI, 300, .inl O_days)), (aO_values, .inl (cI, 300, .inl O_values)), (aO_ranks, .inl (cI, 300, .inl O_ranks)), (aO_known, .inl (cI, 32, .inl O_known)), (aO_tally, .inl (cI, 100, .inl u_6))]) [0, 1, 2, 3, 4, 5, 6, 7] (by decide) rfl
      exact W.iret (v := r_5) hx hb hr (fun t ht hW => ⟨⟨_, (u_6), rfl, hw, by rw [ht]; exact hP9, hD9⟩, hS.F ht⟩) hS.2.2 d_O_valueBy_44
def wl_O_dissenter_5 (O_values : Nat → Int32) (O_known : Nat → Int32) (x1 : Int32) (post : Int32 → Prop) : Nat → Int32 → Int32 → Prop
  | 0, _, _ => False
  | n + 1, x3, x4 => (((32 : Int32) ≤ x4 → (post (-1 : Int32))) ∧ (¬ ((32 : Int32) ≤ x4) → (vp_in x4 32 ∧ (((O_known x4.toNatClampNeg) = (-1 : Int32) → wl_O_dissenter_5 O_values O_known x1 post n x3 (x4 + 1)) ∧ (¬ ((O_known x4.toNatClampNeg) = (-1 : Int32)) → (vp_in (O_known x4.toNatClampNeg) 300 ∧ (((O_values (O_known x4.toNatClampNeg).toNatClampNeg) = x1 → wl_O_dissenter_5 O_values O_known x1 post n x3 (x4 + 1)) ∧ (¬ ((O_values (O_known x4.toNatClampNeg).toNatClampNeg) = x1) → ((x3 = 0 → (post x4)) ∧ (¬ (x3 = 0) → wl_O_dissenter_5 O_values O_known x1 post n (x3 + (-1)) (x4 + 1)))))))))))
def wp_O_dissenter (O_persons : Nat → Int32) (O_claimNumbers : Nat → Int32) (O_days : Nat → Int32) (O_values : Nat → Int32) (O_ranks : Nat → Int32) (O_known : Nat → Int32) (O_tally : Nat → Int32) (O_made : Int32) (x1 : Int32) (x2 : Int32) (post : Int32 → Prop) : Prop := (∃ n9, wl_O_dissenter_5 O_values O_known x1 post n9 x2 (0 : Int32))
set_option maxHeartbeats 4000000 in
set_option maxRecDepth 100000 in
theorem mt_O_dissenter (l : Launch) (dC : Nat → ClassId) (dI : Nat → Nat → Nat) (cI : ClassId) (aO : Nat) (aO_persons : Nat) (aO_claimNumbers : Nat) (aO_days : Nat) (aO_values : Nat) (aO_ranks : Nat) (aO_known : Nat) (aO_tally : Nat) (post : Int32 → Prop) (O_persons : Nat → Int32) (O_claimNumbers : Nat → Int32) (O_days : Nat → Int32) (O_values : Nat → Int32) (O_ranks : Nat → Int32) (O_known : Nat → Int32) (O_tally : Nat → Int32) (O_made : Int32) (x1 : Int32) (x2 : Int32) (hw : wp_O_dissenter O_persons O_claimNumbers O_days O_values O_ranks O_known O_tally O_made x1 x2 post) : Met l y_O_dissenter w_O_dissenter ({ frames := 0, cells := 0, slots := 0, locals := 0 }) (va_Pc [.ref aO, .int x1, .int x2] (fun U => va_P (dC, dI) vwCl [(aO, .inr (1, [.ref aO_persons, .ref aO_claimNumbers, .ref aO_days, .ref aO_values, .ref aO_ranks, .ref aO_known, .ref aO_tally, .int O_made])), (aO_persons, .inl (cI, 300, .inl O_persons)), (aO_claimNumbers, .inl (cI, 300, .inl O_claimNumbers)), (aO_days, .inl (cI, 300, .inl O_days)), (aO_values, .inl (cI, 300, .inl O_values)), (aO_ranks, .inl (cI, 300, .inl O_ranks)), (aO_known, .inl (cI, 32, .inl O_known)), (aO_tally, .inl (cI, 100, .inl O_tally))] U.heap ∧ va_K (dC, dI) vwCl [(cI, .int)] U ∧ en_ok U)) (vp_Si post) 0 0 (fun _ => False) := by
  refine Met.ofW (cc := prog_3_method_9_code) (maxL := 6) (ret := (some .int)) (by decide) rfl ?_
  intro p e s m args below meth c s₁ B hml hv
  obtain ⟨rfl, hP, hK, hE⟩ := hv
  have hx := B.exec
  have hb := B.bytes
  have hr := B.returns
  have hts := atoms_spec (ws := w_O_dissenter) B.pre
  have hown : s.vm.findClass "ClaimSources$Opinions" = some m.cls := findClass_of_methodNamed B.named
  have hlocks := B.notSynchronized
  have hl := lv_entry ([.ref aO, .int x1, .int x2]) (n := 6) (Nat.le_of_ble_eq_true rfl)
  rw [lg_entry_eq]
  generalize (lg_sl ([.ref aO, .int x1, .int x2]) ++ List.replicate (6 - (lg_sl ([.ref aO, .int x1, .int x2])).length) Slot.unset).toArray = ls at hl ⊢
  have hl : lv_has ls 6 [(0, .ref aO), (1, .int x1), (2, .int x2)] := hl
  obtain ⟨Q0, hQ0⟩ : ∃ Q0, Q0 = MQ below (vp_Si post) ([.ref aO, .int x1, .int x2]).toArray s 0 0 (fun _ => False) := ⟨_, rfl⟩
  rw [← hQ0]
  clear B
  generalize hag : ([.ref aO, .int x1, .int x2] : List Value).toArray = args at hts hQ0 ⊢
  have hi_1 : ∀ w ∈ u_ws "ClaimSources$Opinions" TT_1 8, w ∈ w_O_dissenter := fun w h => List.mem_cons_of_mem _ (ia_1 w h)
  have hf_27 := hts _ (List.mem_cons_of_mem _ m_97)
  have hf_21 := hts _ (List.mem_cons_of_mem _ m_95)
  have L5 : ∀ (x1 : Int32) (n : Nat) (x3 : Int32) (x4 : Int32), wl_O_dissenter_5 O_values O_known x1 post n x3 x4 → ∀ (ls : Array Slot), lv_has ls 6 [(0, .ref aO), (1, .int x1), (3, .int x3), (4, .int x4)] → W p l e (headSpec w_O_dissenter ({ frames := 0, cells := 0, slots := 0, locals := 0 })).room s m args below meth c s.heap [] 0 0 Q0 (F0 m 5 ls []) := by
    intro x1
    intro n
    induction n with
    | zero =>
      intro x3 x4 hw
      exact False.elim hw
    | succ n ih =>
      intro x3 x4 hw ls hl
      unfold wl_O_dissenter_5 at hw
      refine lv_iload hx hb d_O_dissenter_5 (lv_at hl 3 rfl) ?_
      refine lv_bipush (v := 32) hx hb d_O_dissenter_7 (by decide) ?_
      refine lv_icmp_ge (tgt := 54) hx hb d_O_dissenter_9 (by decide) (fun c_1 => ?_) (fun c_1 => ?_)
      · have hw := hw.1 c_1
        refine lv_iconst (v := -1) hx hb d_O_dissenter_54 (by decide) ?_
        subst hQ0
        exact W.iret (v := (-1 : Int32)) hx hb hr (fun t ht hW => ⟨_, rfl, hw, ht⟩) (fun q h => by cases h) d_O_dissenter_55
      · have hw := hw.2 c_1
        refine lv_aload_n hx hb d_O_dissenter_12 rfl (lv_at hl 0 rfl) ?_
        refine va_get (D := (dC, dI)) (ci := 1) (v := .ref aO_known) (C := "ClaimSources$Opinions") (T := TT_1) (N := 8) hx hb hts hi_1 hown hK hP 0 rfl rfl 5 (by decide) hf_27 (fun _ h9 => h9) rfl d_O_dissenter_13 ?_
        refine lv_iload hx hb d_O_dissenter_16 (lv_at hl 3 rfl) ?_
        obtain ⟨h_2, hw⟩ := hw
        refine va_iald hx hb hK hP 6 0 rfl rfl h_2 d_O_dissenter_18 ?_
        refine lv_istore (lv' := [(5, .int (O_known x4.toNatClampNeg)), (0, .ref aO), (1, .int x1), (3, .int x3), (4, .int x4)]) hx hb d_O_dissenter_19 hl (by decide) rfl (fun ls hl => ?_)
        refine lv_iload hx hb d_O_dissenter_21 (lv_at hl 0 rfl) ?_
        refine lv_iconst (v := -1) hx hb d_O_dissenter_23 (by decide) ?_
        refine lv_icmp_eq (tgt := 48) hx hb d_O_dissenter_24 (by decide) (fun c_3 => ?_) (fun c_3 => ?_)
        · have hw := hw.1 c_3
          refine lv_iinc (v := x4 + 1) (lv' := [(4, .int (x4 + 1)), (5, .int (O_known x4.toNatClampNeg)), (0, .ref aO), (1, .int x1), (3, .int x3)]) hx hb d_O_dissenter_48 hl (k := 4) rfl rfl (by decide) rfl (fun ls hl => ?_)
          refine lv_goto (tgt := 5) hx hb d_O_dissenter_51 (by decide) ?_
          exact ih x3 (x4 + 1) hw ls (lv_sub hl [2, 3, 4, 0] rfl)
        · have hw := hw.2 c_3
          refine lv_aload_n hx hb d_O_dissenter_27 rfl (lv_at hl 1 rfl) ?_
          refine va_get (D := (dC, dI)) (ci := 1) (v := .ref aO_values) (C := "ClaimSources$Opinions") (T := TT_1) (N := 8) hx hb hts hi_1 hown hK hP 0 rfl rfl 3 (by decide) hf_21 (fun _ h9 => h9) rfl d_O_dissenter_28 ?_
          refine lv_iload hx hb d_O_dissenter_31 (lv_at hl 0 rfl) ?_
          obtain ⟨h_4, hw⟩ := hw
          refine va_iald hx hb hK hP 4 0 rfl rfl h_4 d_O_dissenter_33 ?_
          refine lv_iload_n hx hb d_O_dissenter_34 rfl (lv_at hl 2 rfl) ?_
          refine lv_icmp_eq (tgt := 48) hx hb d_O_dissenter_35 (by decide) (fun c_5 => ?_) (fun c_5 => ?_)
          · have hw := hw.1 c_5
            refine lv_iinc (v := x4 + 1) (lv' := [(4, .int (x4 + 1)), (5, .int (O_known x4.toNatClampNeg)), (0, .ref aO), (1, .int x1), (3, .int x3)]) hx hb d_O_dissenter_48 hl (k := 4) rfl rfl (by decide) rfl (fun ls hl => ?_)
            refine lv_goto (tgt := 5) hx hb d_O_dissenter_51 (by decide) ?_
            exact ih x3 (x4 + 1) hw ls (lv_sub hl [2, 3, 4, 0] rfl)
          · have hw := hw.2 c_5
            refine lv_iload_n hx hb d_O_dissenter_38 rfl (lv_at hl 3 rfl) ?_
            refine lv_if_ne (tgt := 45) hx hb d_O_dissenter_39 (by decide) (fun c_6 => ?_) (fun c_6 => ?_)
            · have hw := hw.2 c_6
              refine lv_iinc (v := x3 + (-1)) (lv' := [(3, .int (x3 + (-1))), (5, .int (O_known x4.toNatClampNeg)), (0, .ref aO), (1, .int x1), (4, .int x4)]) hx hb d_O_dissenter_45 hl (k := 3) rfl rfl (by decide) rfl (fun ls hl => ?_)
              refine lv_iinc (v := x4 + 1) (lv' := [(4, .int (x4 + 1)), (3, .int (x3 + (-1))), (5, .int (O_known x4.toNatClampNeg)), (0, .ref aO), (1, .int x1)]) hx hb d_O_dissenter_48 hl (k := 4) rfl rfl (by decide) rfl (fun ls hl => ?_)
              refine lv_goto (tgt := 5) hx hb d_O_dissenter_51 (by decide) ?_
              exact ih (x3 + (-1)) (x4 + 1) hw ls (lv_sub hl [3, 4, 1, 0] rfl)
            · have hw := hw.1 c_6
              refine lv_iload hx hb d_O_dissenter_42 (lv_at hl 4 rfl) ?_
              subst hQ0
              exact W.iret (v := x4) hx hb hr (fun t ht hW => ⟨_, rfl, hw, ht⟩) (fun q h => by cases h) d_O_dissenter_44
  unfold wp_O_dissenter at hw
  refine lv_iload_n hx hb d_O_dissenter_0 rfl (lv_at hl 2 rfl) ?_
  refine lv_istore_n (lv' := [(3, .int x2), (0, .ref aO), (1, .int x1), (2, .int x2)]) hx hb d_O_dissenter_1 rfl hl (by decide) rfl (fun ls hl => ?_)
  refine lv_iconst (v := 0) hx hb d_O_dissenter_2 (by decide) ?_
  refine lv_istore (lv' := [(4, .int (0 : Int32)), (3, .int x2), (0, .ref aO), (1, .int x1), (2, .int x2)]) hx hb d_O_dissenter_3 hl (by decide) rfl (fun ls hl => ?_)
  obtain ⟨n_7, hw⟩ := hw
  exact L5 x1 n_7 x2 (0 : Int32) hw ls (lv_sub hl [2, 3, 1, 0] rfl)
