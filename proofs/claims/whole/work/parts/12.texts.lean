def wp_T_lengthOf (T_signs : Nat → Int32) (T_lengths : Nat → Int32) (x1 : Int32) (post : Int32 → Prop) : Prop := (vp_in x1 29 ∧ (post (T_lengths x1.toNatClampNeg)))
set_option maxHeartbeats 4000000 in
set_option maxRecDepth 100000 in
theorem mt_T_lengthOf (l : Launch) (dC : Nat → ClassId) (dI : Nat → Nat → Nat) (cI : ClassId) (aT : Nat) (aT_signs : Nat) (aT_lengths : Nat) (post : Int32 → Prop) (T_signs : Nat → Int32) (T_lengths : Nat → Int32) (x1 : Int32) (hw : wp_T_lengthOf T_signs T_lengths x1 post) : Met l y_T_lengthOf w_T_lengthOf ({ frames := 0, cells := 0, slots := 0, locals := 0 }) (va_Pc [.ref aT, .int x1] (fun U => va_P (dC, dI) vwCl [(aT, .inr (3, [.ref aT_signs, .ref aT_lengths])), (aT_signs, .inl (cI, 1740, .inl T_signs)), (aT_lengths, .inl (cI, 29, .inl T_lengths))] U.heap ∧ va_K (dC, dI) vwCl [(cI, .int)] U ∧ en_ok U)) (vp_Si post) 0 0 (fun _ => False) := by
  refine Met.ofW (cc := prog_5_method_2_code) (maxL := 2) (ret := (some .int)) (by decide) rfl ?_
  intro p e s m args below meth c s₁ B hml hv
  obtain ⟨rfl, hP, hK, hE⟩ := hv
  have hx := B.exec
  have hb := B.bytes
  have hr := B.returns
  have hts := atoms_spec (ws := w_T_lengthOf) B.pre
  have hown : s.vm.findClass "ClaimSources$Texts" = some m.cls := findClass_of_methodNamed B.named
  have hlocks := B.notSynchronized
  have hl := lv_entry ([.ref aT, .int x1]) (n := 2) (Nat.le_of_ble_eq_true rfl)
  rw [lg_entry_eq]
  generalize (lg_sl ([.ref aT, .int x1]) ++ List.replicate (2 - (lg_sl ([.ref aT, .int x1])).length) Slot.unset).toArray = ls at hl ⊢
  have hl : lv_has ls 2 [(0, .ref aT), (1, .int x1)] := hl
  obtain ⟨Q0, hQ0⟩ : ∃ Q0, Q0 = MQ below (vp_Si post) ([.ref aT, .int x1]).toArray s 0 0 (fun _ => False) := ⟨_, rfl⟩
  rw [← hQ0]
  clear B
  generalize hag : ([.ref aT, .int x1] : List Value).toArray = args at hts hQ0 ⊢
  have hi_3 : ∀ w ∈ u_ws "ClaimSources$Texts" TT_3 2, w ∈ w_T_lengthOf := fun w h => List.mem_cons_of_mem _ (ia_3 w h)
  have hf_15 := hts _ (List.mem_cons_of_mem _ m_32)
  unfold wp_T_lengthOf at hw
  refine lv_aload_n hx hb d_T_lengthOf_0 rfl (lv_at hl 0 rfl) ?_
  refine va_get (D := (dC, dI)) (ci := 3) (v := .ref aT_lengths) (C := "ClaimSources$Texts") (T := TT_3) (N := 2) hx hb hts hi_3 hown hK hP 0 rfl rfl 1 (by decide) hf_15 (fun _ h9 => h9) rfl d_T_lengthOf_1 ?_
  refine lv_iload_n hx hb d_T_lengthOf_4 rfl (lv_at hl 1 rfl) ?_
  obtain ⟨h_1, hw⟩ := hw
  refine va_iald hx hb hK hP 2 0 rfl rfl h_1 d_T_lengthOf_5 ?_
  subst hQ0
  exact W.iret (v := T_lengths x1.toNatClampNeg) hx hb hr (fun t ht hW => ⟨_, rfl, hw, ht⟩) (fun q h => by cases h) d_T_lengthOf_6
def wp_T_append (T_signs : Nat → Int32) (T_lengths : Nat → Int32) (x1 : Int32) (x2 : Int32) (post : Int32 → (Nat → Int32) → (Nat → Int32) → Prop) : Prop := (vp_in x1 29 ∧ (vp_in ((x1 * (60 : Int32)) + (T_lengths x1.toNatClampNeg)) 1740 ∧ (vp_in x1 29 ∧ (vp_in x1 29 ∧ (vp_in x1 29 ∧ (post ((upd T_lengths x1.toNatClampNeg ((T_lengths x1.toNatClampNeg) + (1 : Int32))) x1.toNatClampNeg) (upd T_signs ((x1 * (60 : Int32)) + (T_lengths x1.toNatClampNeg)).toNatClampNeg x2) (upd T_lengths x1.toNatClampNeg ((T_lengths x1.toNatClampNeg) + (1 : Int32)))))))))
set_option maxHeartbeats 4000000 in
set_option maxRecDepth 100000 in
theorem mt_T_append (l : Launch) (dC : Nat → ClassId) (dI : Nat → Nat → Nat) (cI : ClassId) (aT : Nat) (aT_signs : Nat) (aT_lengths : Nat) (sz : Nat) (post : Int32 → (Nat → Int32) → (Nat → Int32) → Prop) (T_signs : Nat → Int32) (T_lengths : Nat → Int32) (x1 : Int32) (x2 : Int32) (hw : wp_T_append T_signs T_lengths x1 x2 post) : Met l y_T_append w_T_append ({ frames := 0, cells := 0, slots := 0, locals := 0 }) (va_Pc [.ref aT, .int x1, .int x2] (fun U => U.heap.size = sz ∧ va_P (dC, dI) vwCl [(aT, .inr (3, [.ref aT_signs, .ref aT_lengths])), (aT_signs, .inl (cI, 1740, .inl T_signs)), (aT_lengths, .inl (cI, 29, .inl T_lengths))] U.heap ∧ va_K (dC, dI) vwCl [(cI, .int)] U ∧ va_D (fun _ => True) [(aT, .inr (3, [.ref aT_signs, .ref aT_lengths])), (aT_signs, .inl (cI, 1740, .inl T_signs)), (aT_lengths, .inl (cI, 29, .inl T_lengths))] ∧ en_ok U)) (va_Qi (fun r (u : (Nat → Int32) × (Nat → Int32)) => post r u.1 u.2) (fun (u : (Nat → Int32) × (Nat → Int32)) t => va_P (dC, dI) vwCl [(aT, .inr (3, [.ref aT_signs, .ref aT_lengths])), (aT_signs, .inl (cI, 1740, .inl u.1)), (aT_lengths, .inl (cI, 29, .inl u.2))] t.heap ∧ va_D (va_A [(aT, .inr (3, [.ref aT_signs, .ref aT_lengths])), (aT_signs, .inl (cI, 1740, .inl T_signs)), (aT_lengths, .inl (cI, 29, .inl T_lengths))] sz) [(aT, .inr (3, [.ref aT_signs, .ref aT_lengths])), (aT_signs, .inl (cI, 1740, .inl u.1)), (aT_lengths, .inl (cI, 29, .inl u.2))]) (va_A [(aT, .inr (3, [.ref aT_signs, .ref aT_lengths])), (aT_signs, .inl (cI, 1740, .inl T_signs)), (aT_lengths, .inl (cI, 29, .inl T_lengths))] sz)) 0 0 (va_A [(aT, .inr (3, [.ref aT_signs, .ref aT_lengths])), (aT_signs, .inl (cI, 1740, .inl T_signs)), (aT_lengths, .inl (cI, 29, .inl T_lengths))] sz) := by
  refine Met.ofW (cc := prog_5_method_4_code) (maxL := 3) (ret := (some .int)) (by decide) rfl ?_
  intro p e s m args below meth c s₁ B hml hv
  obtain ⟨rfl, hsz, hP, hK, hD0, hE⟩ := hv
  have hx := B.exec
  have hb := B.bytes
  have hr := B.returns
  have hts := atoms_spec (ws := w_T_append) B.pre
  have hown : s.vm.findClass "ClaimSources$Texts" = some m.cls := findClass_of_methodNamed B.named
  have hlocks := B.notSynchronized
  subst hsz
  have hD := hD0.self (sz := s.heap.size)
  generalize hAe : va_A [(aT, .inr (3, [.ref aT_signs, .ref aT_lengths])), (aT_signs, .inl (cI, 1740, .inl T_signs)), (aT_lengths, .inl (cI, 29, .inl T_lengths))] s.heap.size = A at hD ⊢
  have hA : ∀ q : Nat, s.heap.size ≤ q → A q := fun q h => by rw [← hAe]; exact Or.inr h
  have hS : va_S A s.heap s.heap [] := va_S.rf
  have hl := lv_entry ([.ref aT, .int x1, .int x2]) (n := 3) (Nat.le_of_ble_eq_true rfl)
  rw [lg_entry_eq]
  generalize (lg_sl ([.ref aT, .int x1, .int x2]) ++ List.replicate (3 - (lg_sl ([.ref aT, .int x1, .int x2])).length) Slot.unset).toArray = ls at hl ⊢
  have hl : lv_has ls 3 [(0, .ref aT), (1, .int x1), (2, .int x2)] := hl
  obtain ⟨Q0, hQ0⟩ : ∃ Q0, Q0 = MQ below (va_Qi (fun r (u : (Nat → Int32) × (Nat → Int32)) => post r u.1 u.2) (fun (u : (Nat → Int32) × (Nat → Int32)) t => va_P (dC, dI) vwCl [(aT, .inr (3, [.ref aT_signs, .ref aT_lengths])), (aT_signs, .inl (cI, 1740, .inl u.1)), (aT_lengths, .inl (cI, 29, .inl u.2))] t.heap ∧ va_D A [(aT, .inr (3, [.ref aT_signs, .ref aT_lengths])), (aT_signs, .inl (cI, 1740, .inl u.1)), (aT_lengths, .inl (cI, 29, .inl u.2))]) A) ([.ref aT, .int x1, .int x2]).toArray s 0 0 A := ⟨_, rfl⟩
  rw [← hQ0]
  clear B
  generalize hag : ([.ref aT, .int x1, .int x2] : List Value).toArray = args at hts hQ0 ⊢
  have hi_3 : ∀ w ∈ u_ws "ClaimSources$Texts" TT_3 2, w ∈ w_T_append := fun w h => List.mem_cons_of_mem _ (ia_3 w h)
  have hf_9 := hts _ (List.mem_cons_of_mem _ m_31)
  have hf_15 := hts _ (List.mem_cons_of_mem _ m_32)
  unfold wp_T_append at hw
  refine lv_aload_n hx hb d_T_append_0 rfl (lv_at hl 0 rfl) ?_
  refine va_get (D := (dC, dI)) (ci := 3) (v := .ref aT_signs) (C := "ClaimSources$Texts") (T := TT_3) (N := 2) hx hb hts hi_3 hown hK hP 0 rfl rfl 0 (by decide) hf_9 (fun _ h9 => h9) rfl d_T_append_1 ?_
  refine lv_iload_n hx hb d_T_append_4 rfl (lv_at hl 1 rfl) ?_
  refine lv_bipush (v := 60) hx hb d_T_append_5 (by decide) ?_
  refine lv_imul hx hb d_T_append_7 ?_
  refine lv_aload_n hx hb d_T_append_8 rfl (lv_at hl 0 rfl) ?_
  refine va_get (D := (dC, dI)) (ci := 3) (v := .ref aT_lengths) (C := "ClaimSources$Texts") (T := TT_3) (N := 2) hx hb hts hi_3 hown hK hP 0 rfl rfl 1 (by decide) hf_15 (fun _ h9 => h9) rfl d_T_append_9 ?_
  refine lv_iload_n hx hb d_T_append_12 rfl (lv_at hl 1 rfl) ?_
  obtain ⟨h_1, hw⟩ := hw
  refine va_iald hx hb hK hP 2 0 rfl rfl h_1 d_T_append_13 ?_
  refine lv_iadd hx hb d_T_append_14 ?_
  refine lv_iload_n hx hb d_T_append_15 rfl (lv_at hl 2 rfl) ?_
  obtain ⟨h_2, hw⟩ := hw
  refine va_iast hx hb hK hP hD hS 1 0 rfl rfl h_2 d_T_append_16 (fun H locs hP hD hS => ?_)
  have hP : va_P (dC, dI) vwCl [(aT, .inr (3, [.ref aT_signs, .ref aT_lengths])), (aT_signs, .inl (cI, 1740, .inl (upd T_signs ((x1 * (60 : Int32)) + (T_lengths x1.toNatClampNeg)).toNatClampNeg x2))), (aT_lengths, .inl (cI, 29, .inl T_lengths))] H := hP
  have hD : va_D A [(aT, .inr (3, [.ref aT_signs, .ref aT_lengths])), (aT_signs, .inl (cI, 1740, .inl (upd T_signs ((x1 * (60 : Int32)) + (T_lengths x1.toNatClampNeg)).toNatClampNeg x2))), (aT_lengths, .inl (cI, 29, .inl T_lengths))] := hD
  refine lv_aload_n hx hb d_T_append_17 rfl (lv_at hl 0 rfl) ?_
  refine va_get (D := (dC, dI)) (ci := 3) (v := .ref aT_lengths) (C := "ClaimSources$Texts") (T := TT_3) (N := 2) hx hb hts hi_3 hown hK hP 0 rfl rfl 1 (by decide) hf_15 (fun _ h9 => h9) rfl d_T_append_18 ?_
  refine lv_iload_n hx hb d_T_append_21 rfl (lv_at hl 1 rfl) ?_
  refine lv_dup2_11 hx hb d_T_append_22 rfl rfl ?_
  obtain ⟨h_3, hw⟩ := hw
  refine va_iald hx hb hK hP 2 0 rfl rfl h_3 d_T_append_23 ?_
  refine lv_iconst (v := 1) hx hb d_T_append_24 (by decide) ?_
  refine lv_iadd hx hb d_T_append_25 ?_
  obtain ⟨h_4, hw⟩ := hw
  refine va_iast hx hb hK hP hD hS 2 0 rfl rfl h_4 d_T_append_26 (fun H locs hP hD hS => ?_)
  have hP : va_P (dC, dI) vwCl [(aT, .inr (3, [.ref aT_signs, .ref aT_lengths])), (aT_signs, .inl (cI, 1740, .inl (upd T_signs ((x1 * (60 : Int32)) + (T_lengths x1.toNatClampNeg)).toNatClampNeg x2))), (aT_lengths, .inl (cI, 29, .inl (upd T_lengths x1.toNatClampNeg ((T_lengths x1.toNatClampNeg) + (1 : Int32)))))] H := hP
  have hD : va_D A [(aT, .inr (3, [.ref aT_signs, .ref aT_lengths])), (aT_signs, .inl (cI, 1740, .inl (upd T_signs ((x1 * (60 : Int32)) + (T_lengths x1.toNatClampNeg)).toNatClampNeg x2))), (aT_lengths, .inl (cI, 29, .inl (upd T_lengths x1.toNatClampNeg ((T_lengths x1.toNatClampNeg) + (1 : Int32)))))] := hD
  refine lv_aload_n hx hb d_T_append_27 rfl (lv_at hl 0 rfl) ?_
  refine va_get (D := (dC, dI)) (ci := 3) (v := .ref aT_lengths) (C := "ClaimSources$Texts") (T := TT_3) (N := 2) hx hb hts hi_3 hown hK hP 0 rfl rfl 1 (by decide) hf_15 (fun _ h9 => h9) rfl d_T_append_28 ?_
  refine lv_iload_n hx hb d_T_append_31 rfl (lv_at hl 1 rfl) ?_
  obtain ⟨h_5, hw⟩ := hw
  refine va_iald hx hb hK hP 2 0 rfl rfl h_5 d_T_append_32 ?_
  subst hQ0
  have hP9 := hP.sub (ws' := [(aT, .inr (3, [.ref aT_signs, .ref aT_lengths])), (aT_signs, .inl (cI, 1740, .inl (upd T_signs ((x1 * (60 : Int32)) + (T_lengths x1.toNatClampNeg)).toNatClampNeg x2))), (aT_lengths, .inl (cI, 29, .inl (upd T_lengths x1.toNatClampNeg ((T_lengths x1.toNatClampNeg) + (1 : Int32)))))]) [0, 1, 2] rfl
  have hD9 := hD.sub (ws' := [(aT, .inr (3, [.ref aT_signs, .ref aT_lengths])), (aT_signs, .inl (cI, 1740, .inl (upd T_signs ((x1 * (60 : Int32)) + (T_lengths x1.toNatClampNeg)).toNatClampNeg x2))), (aT_lengths, .inl (cI, 29, .inl (upd T_lengths x1.toNatClampNeg ((T_lengths x1.toNatClampNeg) + (1 : Int32)))))]) [0, 1, 2] (by decide) rfl
  exact W.iret (v := (upd T_lengths x1.toNatClampNeg ((T_lengths x1.toNatClampNeg) + (1 : Int32))) x1.toNatClampNeg) hx hb hr (fun t ht hW => ⟨⟨_, (upd T_signs ((x1 * (60 : Int32)) + (T_lengths x1.toNatClampNeg)).toNatClampNeg x2, upd T_lengths x1.toNatClampNeg ((T_lengths x1.toNatClampNeg) + (1 : Int32))), rfl, hw, by rw [ht]; exact hP9, hD9⟩, hS.F ht⟩) hS.2.2 d_T_append_33
def wp_T_makeEmpty (T_signs : Nat → Int32) (T_lengths : Nat → Int32) (x1 : Int32) (post : Int32 → (Nat → Int32) → Prop) : Prop := (vp_in x1 29 ∧ (vp_in x1 29 ∧ (post (T_lengths x1.toNatClampNeg) (upd T_lengths x1.toNatClampNeg (0 : Int32)))))
set_option maxHeartbeats 4000000 in
set_option maxRecDepth 100000 in
theorem mt_T_makeEmpty (l : Launch) (dC : Nat → ClassId) (dI : Nat → Nat → Nat) (cI : ClassId) (aT : Nat) (aT_signs : Nat) (aT_lengths : Nat) (sz : Nat) (post : Int32 → (Nat → Int32) → Prop) (T_signs : Nat → Int32) (T_lengths : Nat → Int32) (x1 : Int32) (hw : wp_T_makeEmpty T_signs T_lengths x1 post) : Met l y_T_makeEmpty w_T_makeEmpty ({ frames := 0, cells := 0, slots := 0, locals := 0 }) (va_Pc [.ref aT, .int x1] (fun U => U.heap.size = sz ∧ va_P (dC, dI) vwCl [(aT, .inr (3, [.ref aT_signs, .ref aT_lengths])), (aT_signs, .inl (cI, 1740, .inl T_signs)), (aT_lengths, .inl (cI, 29, .inl T_lengths))] U.heap ∧ va_K (dC, dI) vwCl [(cI, .int)] U ∧ va_D (fun _ => True) [(aT, .inr (3, [.ref aT_signs, .ref aT_lengths])), (aT_signs, .inl (cI, 1740, .inl T_signs)), (aT_lengths, .inl (cI, 29, .inl T_lengths))] ∧ en_ok U)) (va_Qi (fun r (u : (Nat → Int32)) => post r u) (fun (u : (Nat → Int32)) t => va_P (dC, dI) vwCl [(aT, .inr (3, [.ref aT_signs, .ref aT_lengths])), (aT_signs, .inl (cI, 1740, .inl T_signs)), (aT_lengths, .inl (cI, 29, .inl u))] t.heap ∧ va_D (va_A [(aT, .inr (3, [.ref aT_signs, .ref aT_lengths])), (aT_signs, .inl (cI, 1740, .inl T_signs)), (aT_lengths, .inl (cI, 29, .inl T_lengths))] sz) [(aT, .inr (3, [.ref aT_signs, .ref aT_lengths])), (aT_signs, .inl (cI, 1740, .inl T_signs)), (aT_lengths, .inl (cI, 29, .inl u))]) (va_A [(aT, .inr (3, [.ref aT_signs, .ref aT_lengths])), (aT_signs, .inl (cI, 1740, .inl T_signs)), (aT_lengths, .inl (cI, 29, .inl T_lengths))] sz)) 0 0 (va_A [(aT, .inr (3, [.ref aT_signs, .ref aT_lengths])), (aT_signs, .inl (cI, 1740, .inl T_signs)), (aT_lengths, .inl (cI, 29, .inl T_lengths))] sz) := by
  refine Met.ofW (cc := prog_5_method_5_code) (maxL := 3) (ret := (some .int)) (by decide) rfl ?_
  intro p e s m args below meth c s₁ B hml hv
  obtain ⟨rfl, hsz, hP, hK, hD0, hE⟩ := hv
  have hx := B.exec
  have hb := B.bytes
  have hr := B.returns
  have hts := atoms_spec (ws := w_T_makeEmpty) B.pre
  have hown : s.vm.findClass "ClaimSources$Texts" = some m.cls := findClass_of_methodNamed B.named
  have hlocks := B.notSynchronized
  subst hsz
  have hD := hD0.self (sz := s.heap.size)
  generalize hAe : va_A [(aT, .inr (3, [.ref aT_signs, .ref aT_lengths])), (aT_signs, .inl (cI, 1740, .inl T_signs)), (aT_lengths, .inl (cI, 29, .inl T_lengths))] s.heap.size = A at hD ⊢
  have hA : ∀ q : Nat, s.heap.size ≤ q → A q := fun q h => by rw [← hAe]; exact Or.inr h
  have hS : va_S A s.heap s.heap [] := va_S.rf
  have hl := lv_entry ([.ref aT, .int x1]) (n := 3) (Nat.le_of_ble_eq_true rfl)
  rw [lg_entry_eq]
  generalize (lg_sl ([.ref aT, .int x1]) ++ List.replicate (3 - (lg_sl ([.ref aT, .int x1])).length) Slot.unset).toArray = ls at hl ⊢
  have hl : lv_has ls 3 [(0, .ref aT), (1, .int x1)] := hl
  obtain ⟨Q0, hQ0⟩ : ∃ Q0, Q0 = MQ below (va_Qi (fun r (u : (Nat → Int32)) => post r u) (fun (u : (Nat → Int32)) t => va_P (dC, dI) vwCl [(aT, .inr (3, [.ref aT_signs, .ref aT_lengths])), (aT_signs, .inl (cI, 1740, .inl T_signs)), (aT_lengths, .inl (cI, 29, .inl u))] t.heap ∧ va_D A [(aT, .inr (3, [.ref aT_signs, .ref aT_lengths])), (aT_signs, .inl (cI, 1740, .inl T_signs)), (aT_lengths, .inl (cI, 29, .inl u))]) A) ([.ref aT, .int x1]).toArray s 0 0 A := ⟨_, rfl⟩
  rw [← hQ0]
  clear B
  generalize hag : ([.ref aT, .int x1] : List Value).toArray = args at hts hQ0 ⊢
  have hi_3 : ∀ w ∈ u_ws "ClaimSources$Texts" TT_3 2, w ∈ w_T_makeEmpty := fun w h => List.mem_cons_of_mem _ (ia_3 w h)
  have hf_15 := hts _ (List.mem_cons_of_mem _ m_32)
  unfold wp_T_makeEmpty at hw
  refine lv_aload_n hx hb d_T_makeEmpty_0 rfl (lv_at hl 0 rfl) ?_
  refine va_get (D := (dC, dI)) (ci := 3) (v := .ref aT_lengths) (C := "ClaimSources$Texts") (T := TT_3) (N := 2) hx hb hts hi_3 hown hK hP 0 rfl rfl 1 (by decide) hf_15 (fun _ h9 => h9) rfl d_T_makeEmpty_1 ?_
  refine lv_iload_n hx hb d_T_makeEmpty_4 rfl (lv_at hl 1 rfl) ?_
  obtain ⟨h_1, hw⟩ := hw
  refine va_iald hx hb hK hP 2 0 rfl rfl h_1 d_T_makeEmpty_5 ?_
  refine lv_istore_n (lv' := [(2, .int (T_lengths x1.toNatClampNeg)), (0, .ref aT), (1, .int x1)]) hx hb d_T_makeEmpty_6 rfl hl (by decide) rfl (fun ls hl => ?_)
  refine lv_aload_n hx hb d_T_makeEmpty_7 rfl (lv_at hl 1 rfl) ?_
  refine va_get (D := (dC, dI)) (ci := 3) (v := .ref aT_lengths) (C := "ClaimSources$Texts") (T := TT_3) (N := 2) hx hb hts hi_3 hown hK hP 0 rfl rfl 1 (by decide) hf_15 (fun _ h9 => h9) rfl d_T_makeEmpty_8 ?_
  refine lv_iload_n hx hb d_T_makeEmpty_11 rfl (lv_at hl 2 rfl) ?_
  refine lv_iconst (v := 0) hx hb d_T_makeEmpty_12 (by decide) ?_
  obtain ⟨h_2, hw⟩ := hw
  refine va_iast hx hb hK hP hD hS 2 0 rfl rfl h_2 d_T_makeEmpty_13 (fun H locs hP hD hS => ?_)
  have hP : va_P (dC, dI) vwCl [(aT, .inr (3, [.ref aT_signs, .ref aT_lengths])), (aT_signs, .inl (cI, 1740, .inl T_signs)), (aT_lengths, .inl (cI, 29, .inl (upd T_lengths x1.toNatClampNeg (0 : Int32))))] H := hP
  have hD : va_D A [(aT, .inr (3, [.ref aT_signs, .ref aT_lengths])), (aT_signs, .inl (cI, 1740, .inl T_signs)), (aT_lengths, .inl (cI, 29, .inl (upd T_lengths x1.toNatClampNeg (0 : Int32))))] := hD
  refine lv_iload_n hx hb d_T_makeEmpty_14 rfl (lv_at hl 0 rfl) ?_
  subst hQ0
  have hP9 := hP.sub (ws' := [(aT, .inr (3, [.ref aT_signs, .ref aT_lengths])), (aT_signs, .inl (cI, 1740, .inl T_signs)), (aT_lengths, .inl (cI, 29, .inl (upd T_lengths x1.toNatClampNeg (0 : Int32))))]) [0, 1, 2] rfl
  have hD9 := hD.sub (ws' := [(aT, .inr (3, [.ref aT_signs, .ref aT_lengths])), (aT_signs, .inl (cI, 1740, .inl T_signs)), (aT_lengths, .inl (cI, 29, .inl (upd T_lengths x1.toNatClampNeg (0 : Int32))))]) [0, 1, 2] (by decide) rfl
  exact W.iret (v := T_lengths x1.toNatClampNeg) hx hb hr (fun t ht hW => ⟨⟨_, (upd T_lengths x1.toNatClampNeg (0 : Int32)), rfl, hw, by rw [ht]; exact hP9, hD9⟩, hS.F ht⟩) hS.2.2 d_T_makeEmpty_15
def wp_T_move (T_signs : Nat → Int32) (T_lengths : Nat → Int32) (x1 : Int32) (x2 : Int32) (post : Int32 → (Nat → Int32) → (Nat → Int32) → Prop) : Prop := (vp_in x1 29 ∧ (¬ (x1 * (60 : Int32)) < 0 ∧ ¬ (x2 * (60 : Int32)) < 0 ∧ ¬ (T_lengths x1.toNatClampNeg) < 0 ∧ (x1 * (60 : Int32)).toNatClampNeg + (T_lengths x1.toNatClampNeg).toNatClampNeg ≤ 1740 ∧ (x2 * (60 : Int32)).toNatClampNeg + (T_lengths x1.toNatClampNeg).toNatClampNeg ≤ 1740 ∧ (vp_in x2 29 ∧ (vp_in x1 29 ∧ (post (T_lengths x1.toNatClampNeg) (va_cpy T_signs T_signs (x1 * (60 : Int32)).toNatClampNeg (x2 * (60 : Int32)).toNatClampNeg (T_lengths x1.toNatClampNeg).toNatClampNeg) (upd (upd T_lengths x2.toNatClampNeg (T_lengths x1.toNatClampNeg)) x1.toNatClampNeg (0 : Int32)))))))
set_option maxHeartbeats 4000000 in
set_option maxRecDepth 100000 in
theorem mt_T_move (l : Launch) (dC : Nat → ClassId) (dI : Nat → Nat → Nat) (cI : ClassId) (aT : Nat) (aT_signs : Nat) (aT_lengths : Nat) (sz : Nat) (post : Int32 → (Nat → Int32) → (Nat → Int32) → Prop) (T_signs : Nat → Int32) (T_lengths : Nat → Int32) (x1 : Int32) (x2 : Int32) (hw : wp_T_move T_signs T_lengths x1 x2 post) : Met l y_T_move w_T_move ({ frames := 1, cells := 0, slots := 0, locals := 60 }) (va_Pc [.ref aT, .int x1, .int x2] (fun U => U.heap.size = sz ∧ va_P (dC, dI) vwCl [(aT, .inr (3, [.ref aT_signs, .ref aT_lengths])), (aT_signs, .inl (cI, 1740, .inl T_signs)), (aT_lengths, .inl (cI, 29, .inl T_lengths))] U.heap ∧ va_K (dC, dI) vwCl [(cI, .int)] U ∧ va_D (fun _ => True) [(aT, .inr (3, [.ref aT_signs, .ref aT_lengths])), (aT_signs, .inl (cI, 1740, .inl T_signs)), (aT_lengths, .inl (cI, 29, .inl T_lengths))] ∧ en_ok U)) (va_Qi (fun r (u : (Nat → Int32) × (Nat → Int32)) => post r u.1 u.2) (fun (u : (Nat → Int32) × (Nat → Int32)) t => va_P (dC, dI) vwCl [(aT, .inr (3, [.ref aT_signs, .ref aT_lengths])), (aT_signs, .inl (cI, 1740, .inl u.1)), (aT_lengths, .inl (cI, 29, .inl u.2))] t.heap ∧ va_D (va_A [(aT, .inr (3, [.ref aT_signs, .ref aT_lengths])), (aT_signs, .inl (cI, 1740, .inl T_signs)), (aT_lengths, .inl (cI, 29, .inl T_lengths))] sz) [(aT, .inr (3, [.ref aT_signs, .ref aT_lengths])), (aT_signs, .inl (cI, 1740, .inl u.1)), (aT_lengths, .inl (cI, 29, .inl u.2))]) (va_A [(aT, .inr (3, [.ref aT_signs, .ref aT_lengths])), (aT_signs, .inl (cI, 1740, .inl T_signs)), (aT_lengths, .inl (cI, 29, .inl T_lengths))] sz)) 0 0 (va_A [(aT, .inr (3, [.ref aT_signs, .ref aT_lengths])), (aT_signs, .inl (cI, 1740, .inl T_signs)), (aT_lengths, .inl (cI, 29, .inl T_lengths))] sz) := by
  refine Met.ofW (cc := prog_5_method_6_code) (maxL := 4) (ret := (some .int)) (by decide) rfl ?_
  intro p e s m args below meth c s₁ B hml hv
  obtain ⟨rfl, hsz, hP, hK, hD0, hE⟩ := hv
  have hx := B.exec
  have hb := B.bytes
  have hr := B.returns
  have hts := atoms_spec (ws := w_T_move) B.pre
  have hown : s.vm.findClass "ClaimSources$Texts" = some m.cls := findClass_of_methodNamed B.named
  have hlocks := B.notSynchronized
  subst hsz
  have hD := hD0.self (sz := s.heap.size)
  generalize hAe : va_A [(aT, .inr (3, [.ref aT_signs, .ref aT_lengths])), (aT_signs, .inl (cI, 1740, .inl T_signs)), (aT_lengths, .inl (cI, 29, .inl T_lengths))] s.heap.size = A at hD ⊢
  have hA : ∀ q : Nat, s.heap.size ≤ q → A q := fun q h => by rw [← hAe]; exact Or.inr h
  have hS : va_S A s.heap s.heap [] := va_S.rf
  have hl := lv_entry ([.ref aT, .int x1, .int x2]) (n := 4) (Nat.le_of_ble_eq_true rfl)
  rw [lg_entry_eq]
  generalize (lg_sl ([.ref aT, .int x1, .int x2]) ++ List.replicate (4 - (lg_sl ([.ref aT, .int x1, .int x2])).length) Slot.unset).toArray = ls at hl ⊢
  have hl : lv_has ls 4 [(0, .ref aT), (1, .int x1), (2, .int x2)] := hl
  obtain ⟨Q0, hQ0⟩ : ∃ Q0, Q0 = MQ below (va_Qi (fun r (u : (Nat → Int32) × (Nat → Int32)) => post r u.1 u.2) (fun (u : (Nat → Int32) × (Nat → Int32)) t => va_P (dC, dI) vwCl [(aT, .inr (3, [.ref aT_signs, .ref aT_lengths])), (aT_signs, .inl (cI, 1740, .inl u.1)), (aT_lengths, .inl (cI, 29, .inl u.2))] t.heap ∧ va_D A [(aT, .inr (3, [.ref aT_signs, .ref aT_lengths])), (aT_signs, .inl (cI, 1740, .inl u.1)), (aT_lengths, .inl (cI, 29, .inl u.2))]) A) ([.ref aT, .int x1, .int x2]).toArray s 0 0 A := ⟨_, rfl⟩
  rw [← hQ0]
  clear B
  generalize hag : ([.ref aT, .int x1, .int x2] : List Value).toArray = args at hts hQ0 ⊢
  have hi_3 : ∀ w ∈ u_ws "ClaimSources$Texts" TT_3 2, w ∈ w_T_move := fun w h => List.mem_cons_of_mem _ (ia_3 w h)
  have hf_15 := hts _ (List.mem_cons_of_mem _ m_32)
  have hf_9 := hts _ (List.mem_cons_of_mem _ m_31)
  unfold wp_T_move at hw
  refine lv_aload_n hx hb d_T_move_0 rfl (lv_at hl 0 rfl) ?_
  refine va_get (D := (dC, dI)) (ci := 3) (v := .ref aT_lengths) (C := "ClaimSources$Texts") (T := TT_3) (N := 2) hx hb hts hi_3 hown hK hP 0 rfl rfl 1 (by decide) hf_15 (fun _ h9 => h9) rfl d_T_move_1 ?_
  refine lv_iload_n hx hb d_T_move_4 rfl (lv_at hl 1 rfl) ?_
  obtain ⟨h_1, hw⟩ := hw
  refine va_iald hx hb hK hP 2 0 rfl rfl h_1 d_T_move_5 ?_
  refine lv_istore_n (lv' := [(3, .int (T_lengths x1.toNatClampNeg)), (0, .ref aT), (1, .int x1), (2, .int x2)]) hx hb d_T_move_6 rfl hl (by decide) rfl (fun ls hl => ?_)
  refine lv_aload_n hx hb d_T_move_7 rfl (lv_at hl 1 rfl) ?_
  refine va_get (D := (dC, dI)) (ci := 3) (v := .ref aT_signs) (C := "ClaimSources$Texts") (T := TT_3) (N := 2) hx hb hts hi_3 hown hK hP 0 rfl rfl 0 (by decide) hf_9 (fun _ h9 => h9) rfl d_T_move_8 ?_
  refine lv_iload_n hx hb d_T_move_11 rfl (lv_at hl 2 rfl) ?_
  refine lv_bipush (v := 60) hx hb d_T_move_12 (by decide) ?_
  refine lv_imul hx hb d_T_move_14 ?_
  refine lv_aload_n hx hb d_T_move_15 rfl (lv_at hl 1 rfl) ?_
  refine va_get (D := (dC, dI)) (ci := 3) (v := .ref aT_signs) (C := "ClaimSources$Texts") (T := TT_3) (N := 2) hx hb hts hi_3 hown hK hP 0 rfl rfl 0 (by decide) hf_9 (fun _ h9 => h9) rfl d_T_move_16 ?_
  refine lv_iload_n hx hb d_T_move_19 rfl (lv_at hl 3 rfl) ?_
  refine lv_bipush (v := 60) hx hb d_T_move_20 (by decide) ?_
  refine lv_imul hx hb d_T_move_22 ?_
  refine lv_iload_n hx hb d_T_move_23 rfl (lv_at hl 0 rfl) ?_
  obtain ⟨h_2, h_3, h_4, h_5, h_6, hw⟩ := hw
  refine va_copyi hx hb (hml.trans hl.1.symm) hown (hts _ (List.mem_cons_of_mem _ m_268)) (hts _ (List.mem_cons_of_mem _ m_270)) (hts _ (List.mem_cons_of_mem _ m_269)) (hts _ (List.mem_cons_of_mem _ m_12)) hK hP hD hS 1 1 0 0 rfl rfl rfl rfl rfl h_2 h_3 h_4 h_5 h_6 (fun _ _ => rfl) (Nat.le_of_ble_eq_true rfl) (Nat.le_of_ble_eq_true rfl) d_T_move_24 (fun H locs hP hD hS => ?_)
  have hP : va_P (dC, dI) vwCl [(aT, .inr (3, [.ref aT_signs, .ref aT_lengths])), (aT_signs, .inl (cI, 1740, .inl (va_cpy T_signs T_signs (x1 * (60 : Int32)).toNatClampNeg (x2 * (60 : Int32)).toNatClampNeg (T_lengths x1.toNatClampNeg).toNatClampNeg))), (aT_lengths, .inl (cI, 29, .inl T_lengths))] H := hP
  have hD : va_D A [(aT, .inr (3, [.ref aT_signs, .ref aT_lengths])), (aT_signs, .inl (cI, 1740, .inl (va_cpy T_signs T_signs (x1 * (60 : Int32)).toNatClampNeg (x2 * (60 : Int32)).toNatClampNeg (T_lengths x1.toNatClampNeg).toNatClampNeg))), (aT_lengths, .inl (cI, 29, .inl T_lengths))] := hD
  refine lv_aload_n hx hb d_T_move_27 rfl (lv_at hl 1 rfl) ?_
  refine va_get (D := (dC, dI)) (ci := 3) (v := .ref aT_lengths) (C := "ClaimSources$Texts") (T := TT_3) (N := 2) hx hb hts hi_3 hown hK hP 0 rfl rfl 1 (by decide) hf_15 (fun _ h9 => h9) rfl d_T_move_28 ?_
  refine lv_iload_n hx hb d_T_move_31 rfl (lv_at hl 3 rfl) ?_
  refine lv_iload_n hx hb d_T_move_32 rfl (lv_at hl 0 rfl) ?_
  obtain ⟨h_7, hw⟩ := hw
  refine va_iast hx hb hK hP hD hS 2 0 rfl rfl h_7 d_T_move_33 (fun H locs hP hD hS => ?_)
  have hP : va_P (dC, dI) vwCl [(aT, .inr (3, [.ref aT_signs, .ref aT_lengths])), (aT_signs, .inl (cI, 1740, .inl (va_cpy T_signs T_signs (x1 * (60 : Int32)).toNatClampNeg (x2 * (60 : Int32)).toNatClampNeg (T_lengths x1.toNatClampNeg).toNatClampNeg))), (aT_lengths, .inl (cI, 29, .inl (upd T_lengths x2.toNatClampNeg (T_lengths x1.toNatClampNeg))))] H := hP
  have hD : va_D A [(aT, .inr (3, [.ref aT_signs, .ref aT_lengths])), (aT_signs, .inl (cI, 1740, .inl (va_cpy T_signs T_signs (x1 * (60 : Int32)).toNatClampNeg (x2 * (60 : Int32)).toNatClampNeg (T_lengths x1.toNatClampNeg).toNatClampNeg))), (aT_lengths, .inl (cI, 29, .inl (upd T_lengths x2.toNatClampNeg (T_lengths x1.toNatClampNeg))))] := hD
  refine lv_aload_n hx hb d_T_move_34 rfl (lv_at hl 1 rfl) ?_
  refine va_get (D := (dC, dI)) (ci := 3) (v := .ref aT_lengths) (C := "ClaimSources$Texts") (T := TT_3) (N := 2) hx hb hts hi_3 hown hK hP 0 rfl rfl 1 (by decide) hf_15 (fun _ h9 => h9) rfl d_T_move_35 ?_
  refine lv_iload_n hx hb d_T_move_38 rfl (lv_at hl 2 rfl) ?_
  refine lv_iconst (v := 0) hx hb d_T_move_39 (by decide) ?_
  obtain ⟨h_8, hw⟩ := hw
  refine va_iast hx hb hK hP hD hS 2 0 rfl rfl h_8 d_T_move_40 (fun H locs hP hD hS => ?_)
  have hP : va_P (dC, dI) vwCl [(aT, .inr (3, [.ref aT_signs, .ref aT_lengths])), (aT_signs, .inl (cI, 1740, .inl (va_cpy T_signs T_signs (x1 * (60 : Int32)).toNatClampNeg (x2 * (60 : Int32)).toNatClampNeg (T_lengths x1.toNatClampNeg).toNatClampNeg))), (aT_lengths, .inl (cI, 29, .inl (upd (upd T_lengths x2.toNatClampNeg (T_lengths x1.toNatClampNeg)) x1.toNatClampNeg (0 : Int32))))] H := hP
  have hD : va_D A [(aT, .inr (3, [.ref aT_signs, .ref aT_lengths])), (aT_signs, .inl (cI, 1740, .inl (va_cpy T_signs T_signs (x1 * (60 : Int32)).toNatClampNeg (x2 * (60 : Int32)).toNatClampNeg (T_lengths x1.toNatClampNeg).toNatClampNeg))), (aT_lengths, .inl (cI, 29, .inl (upd (upd T_lengths x2.toNatClampNeg (T_lengths x1.toNatClampNeg)) x1.toNatClampNeg (0 : Int32))))] := hD
  refine lv_iload_n hx hb d_T_move_41 rfl (lv_at hl 0 rfl) ?_
  subst hQ0
  have hP9 := hP.sub (ws' := [(aT, .inr (3, [.ref aT_signs, .ref aT_lengths])), (aT_signs, .inl (cI, 1740, .inl (va_cpy T_signs T_signs (x1 * (60 : Int32)).toNatClampNeg (x2 * (60 : Int32)).toNatClampNeg (T_lengths x1.toNatClampNeg).toNatClampNeg))), (aT_lengths, .inl (cI, 29, .inl (upd (upd T_lengths x2.toNatClampNeg (T_lengths x1.toNatClampNeg)) x1.toNatClampNeg (0 : Int32))))]) [0, 1, 2] rfl
  have hD9 := hD.sub (ws' := [(aT, .inr (3, [.ref aT_signs, .ref aT_lengths])), (aT_signs, .inl (cI, 1740, .inl (va_cpy T_signs T_signs (x1 * (60 : Int32)).toNatClampNeg (x2 * (60 : Int32)).toNatClampNeg (T_lengths x1.toNatClampNeg).toNatClampNeg))), (aT_lengths, .inl (cI, 29, .inl (upd (upd T_lengths x2.toNatClampNeg (T_lengths x1.toNatClampNeg)) x1.toNatClampNeg (0 : Int32))))]) [0, 1, 2] (by decide) rfl
  exact W.iret (v := T_lengths x1.toNatClampNeg) hx hb hr (fun t ht hW => ⟨⟨_, (va_cpy T_signs T_signs (x1 * (60 : Int32)).toNatClampNeg (x2 * (60 : Int32)).toNatClampNeg (T_lengths x1.toNatClampNeg).toNatClampNeg, upd (upd T_lengths x2.toNatClampNeg (T_lengths x1.toNatClampNeg)) x1.toNatClampNeg (0 : Int32)), rfl, hw, by rw [ht]; exact hP9, hD9⟩, hS.F ht⟩) hS.2.2 d_T_move_42
def wp_T_signAt (T_signs : Nat → Int32) (T_lengths : Nat → Int32) (x1 : Int32) (x2 : Int32) (post : Int32 → Prop) : Prop := (vp_in ((x1 * (60 : Int32)) + x2) 1740 ∧ (post (T_signs ((x1 * (60 : Int32)) + x2).toNatClampNeg)))
set_option maxHeartbeats 4000000 in
set_option maxRecDepth 100000 in
theorem mt_T_signAt (l : Launch) (dC : Nat → ClassId) (dI : Nat → Nat → Nat) (cI : ClassId) (aT : Nat) (aT_signs : Nat) (aT_lengths : Nat) (post : Int32 → Prop) (T_signs : Nat → Int32) (T_lengths : Nat → Int32) (x1 : Int32) (x2 : Int32) (hw : wp_T_signAt T_signs T_lengths x1 x2 post) : Met l y_T_signAt w_T_signAt ({ frames := 0, cells := 0, slots := 0, locals := 0 }) (va_Pc [.ref aT, .int x1, .int x2] (fun U => va_P (dC, dI) vwCl [(aT, .inr (3, [.ref aT_signs, .ref aT_lengths])), (aT_signs, .inl (cI, 1740, .inl T_signs)), (aT_lengths, .inl (cI, 29, .inl T_lengths))] U.heap ∧ va_K (dC, dI) vwCl [(cI, .int)] U ∧ en_ok U)) (vp_Si post) 0 0 (fun _ => False) := by
  refine Met.ofW (cc := prog_5_method_3_code) (maxL := 3) (ret := (some .int)) (by decide) rfl ?_
  intro p e s m args below meth c s₁ B hml hv
  obtain ⟨rfl, hP, hK, hE⟩ := hv
  have hx := B.exec
  have hb := B.bytes
  have hr := B.returns
  have hts := atoms_spec (ws := w_T_signAt) B.pre
  have hown : s.vm.findClass "ClaimSources$Texts" = some m.cls := findClass_of_methodNamed B.named
  have hlocks := B.notSynchronized
  have hl := lv_entry ([.ref aT, .int x1, .int x2]) (n := 3) (Nat.le_of_ble_eq_true rfl)
  rw [lg_entry_eq]
  generalize (lg_sl ([.ref aT, .int x1, .int x2]) ++ List.replicate (3 - (lg_sl ([.ref aT, .int x1, .int x2])).length) Slot.unset).toArray = ls at hl ⊢
  have hl : lv_has ls 3 [(0, .ref aT), (1, .int x1), (2, .int x2)] := hl
  obtain ⟨Q0, hQ0⟩ : ∃ Q0, Q0 = MQ below (vp_Si post) ([.ref aT, .int x1, .int x2]).toArray s 0 0 (fun _ => False) := ⟨_, rfl⟩
  rw [← hQ0]
  clear B
  generalize hag : ([.ref aT, .int x1, .int x2] : List Value).toArray = args at hts hQ0 ⊢
  have hi_3 : ∀ w ∈ u_ws "ClaimSources$Texts" TT_3 2, w ∈ w_T_signAt := fun w h => List.mem_cons_of_mem _ (ia_3 w h)
  have hf_9 := hts _ (List.mem_cons_of_mem _ m_31)
  unfold wp_T_signAt at hw
  refine lv_aload_n hx hb d_T_signAt_0 rfl (lv_at hl 0 rfl) ?_
  refine va_get (D := (dC, dI)) (ci := 3) (v := .ref aT_signs) (C := "ClaimSources$Texts") (T := TT_3) (N := 2) hx hb hts hi_3 hown hK hP 0 rfl rfl 0 (by decide) hf_9 (fun _ h9 => h9) rfl d_T_signAt_1 ?_
  refine lv_iload_n hx hb d_T_signAt_4 rfl (lv_at hl 1 rfl) ?_
  refine lv_bipush (v := 60) hx hb d_T_signAt_5 (by decide) ?_
  refine lv_imul hx hb d_T_signAt_7 ?_
  refine lv_iload_n hx hb d_T_signAt_8 rfl (lv_at hl 2 rfl) ?_
  refine lv_iadd hx hb d_T_signAt_9 ?_
  obtain ⟨h_1, hw⟩ := hw
  refine va_iald hx hb hK hP 1 0 rfl rfl h_1 d_T_signAt_10 ?_
  subst hQ0
  exact W.iret (v := T_signs ((x1 * (60 : Int32)) + x2).toNatClampNeg) hx hb hr (fun t ht hW => ⟨_, rfl, hw, ht⟩) (fun q h => by cases h) d_T_signAt_11
def wl_T_firstMismatch_3 (T_signs : Nat → Int32) (T_lengths : Nat → Int32) (x1 : Int32) (x2 : Int32) (x3 : Int32) (post : Int32 → Prop) : Nat → Int32 → Prop
  | 0, _ => False
  | n + 1, x4 => (vp_in x1 29 ∧ (((T_lengths x1.toNatClampNeg) ≤ x4 → (post (0 : Int32))) ∧ (¬ ((T_lengths x1.toNatClampNeg) ≤ x4) → (vp_in x2 29 ∧ (((x3 + x4) < (T_lengths x2.toNatClampNeg) → (wp_T_signAt T_signs T_lengths x2 (x3 + x4) (fun r_6 => (wp_T_signAt T_signs T_lengths x1 x4 (fun r_7 => ((r_6 = r_7 → wl_T_firstMismatch_3 T_signs T_lengths x1 x2 x3 post n (x4 + 1)) ∧ (¬ (r_6 = r_7) → (post (x4 + (1 : Int32)))))))))) ∧ (¬ ((x3 + x4) < (T_lengths x2.toNatClampNeg)) → (post (x4 + (1 : Int32)))))))))
def wp_T_firstMismatch (T_signs : Nat → Int32) (T_lengths : Nat → Int32) (x1 : Int32) (x2 : Int32) (x3 : Int32) (post : Int32 → Prop) : Prop := (∃ n9, wl_T_firstMismatch_3 T_signs T_lengths x1 x2 x3 post n9 (0 : Int32))
set_option maxHeartbeats 4000000 in
set_option maxRecDepth 100000 in
theorem mt_T_firstMismatch (l : Launch) (dC : Nat → ClassId) (dI : Nat → Nat → Nat) (cI : ClassId) (aT : Nat) (aT_signs : Nat) (aT_lengths : Nat) (post : Int32 → Prop) (T_signs : Nat → Int32) (T_lengths : Nat → Int32) (x1 : Int32) (x2 : Int32) (x3 : Int32) (hw : wp_T_firstMismatch T_signs T_lengths x1 x2 x3 post) : Met l y_T_firstMismatch w_T_firstMismatch ({ frames := 1, cells := 0, slots := 0, locals := 22 }) (va_Pc [.ref aT, .int x1, .int x2, .int x3] (fun U => va_P (dC, dI) vwCl [(aT, .inr (3, [.ref aT_signs, .ref aT_lengths])), (aT_signs, .inl (cI, 1740, .inl T_signs)), (aT_lengths, .inl (cI, 29, .inl T_lengths))] U.heap ∧ va_K (dC, dI) vwCl [(cI, .int)] U ∧ en_ok U)) (vp_Si post) 0 0 (fun _ => False) := by
  refine Met.ofW (cc := prog_5_method_7_code) (maxL := 6) (ret := (some .int)) (by decide) rfl ?_
  intro p e s m args below meth c s₁ B hml hv
  obtain ⟨rfl, hP, hK, hE⟩ := hv
  have hx := B.exec
  have hb := B.bytes
  have hr := B.returns
  have hts := atoms_spec (ws := w_T_firstMismatch) B.pre
  have hown : s.vm.findClass "ClaimSources$Texts" = some m.cls := findClass_of_methodNamed B.named
  have hlocks := B.notSynchronized
  have hl := lv_entry ([.ref aT, .int x1, .int x2, .int x3]) (n := 6) (Nat.le_of_ble_eq_true rfl)
  rw [lg_entry_eq]
  generalize (lg_sl ([.ref aT, .int x1, .int x2, .int x3]) ++ List.replicate (6 - (lg_sl ([.ref aT, .int x1, .int x2, .int x3])).length) Slot.unset).toArray = ls at hl ⊢
  have hl : lv_has ls 6 [(0, .ref aT), (1, .int x1), (2, .int x2), (3, .int x3)] := hl
  obtain ⟨Q0, hQ0⟩ : ∃ Q0, Q0 = MQ below (vp_Si post) ([.ref aT, .int x1, .int x2, .int x3]).toArray s 0 0 (fun _ => False) := ⟨_, rfl⟩
  rw [← hQ0]
  clear B
  generalize hag : ([.ref aT, .int x1, .int x2, .int x3] : List Value).toArray = args at hts hQ0 ⊢
  have hi_3 : ∀ w ∈ u_ws "ClaimSources$Texts" TT_3 2, w ∈ w_T_firstMismatch := fun w h => List.mem_cons_of_mem _ (ia_3 w h)
  have hf_15 := hts _ (List.mem_cons_of_mem _ m_32)
  have L3 : ∀ (x1 : Int32) (x2 : Int32) (x3 : Int32) (n : Nat) (x4 : Int32), wl_T_firstMismatch_3 T_signs T_lengths x1 x2 x3 post n x4 → ∀ (ls : Array Slot), lv_has ls 6 [(0, .ref aT), (1, .int x1), (2, .int x2), (3, .int x3), (4, .int x4)] → W p l e (headSpec w_T_firstMismatch ({ frames := 1, cells := 0, slots := 0, locals := 22 })).room s m args below meth c s.heap [] 0 0 Q0 (F0 m 3 ls []) := by
    intro x1 x2 x3
    intro n
    induction n with
    | zero =>
      intro x4 hw
      exact False.elim hw
    | succ n ih =>
      intro x4 hw ls hl
      unfold wl_T_firstMismatch_3 at hw
      refine lv_iload hx hb d_T_firstMismatch_3 (lv_at hl 4 rfl) ?_
      refine lv_aload_n hx hb d_T_firstMismatch_5 rfl (lv_at hl 0 rfl) ?_
      refine va_get (D := (dC, dI)) (ci := 3) (v := .ref aT_lengths) (C := "ClaimSources$Texts") (T := TT_3) (N := 2) hx hb hts hi_3 hown hK hP 0 rfl rfl 1 (by decide) hf_15 (fun _ h9 => h9) rfl d_T_firstMismatch_6 ?_
      refine lv_iload_n hx hb d_T_firstMismatch_9 rfl (lv_at hl 1 rfl) ?_
      obtain ⟨h_1, hw⟩ := hw
      refine va_iald hx hb hK hP 2 0 rfl rfl h_1 d_T_firstMismatch_10 ?_
      refine lv_icmp_ge (tgt := 69) hx hb d_T_firstMismatch_11 (by decide) (fun c_2 => ?_) (fun c_2 => ?_)
      · have hw := hw.1 c_2
        refine lv_iconst (v := 0) hx hb d_T_firstMismatch_69 (by decide) ?_
        subst hQ0
        exact W.iret (v := (0 : Int32)) hx hb hr (fun t ht hW => ⟨_, rfl, hw, ht⟩) (fun q h => by cases h) d_T_firstMismatch_70
      · have hw := hw.2 c_2
        refine lv_iload_n hx hb d_T_firstMismatch_14 rfl (lv_at hl 3 rfl) ?_
        refine lv_iload hx hb d_T_firstMismatch_15 (lv_at hl 4 rfl) ?_
        refine lv_iadd hx hb d_T_firstMismatch_17 ?_
        refine lv_aload_n hx hb d_T_firstMismatch_18 rfl (lv_at hl 0 rfl) ?_
        refine va_get (D := (dC, dI)) (ci := 3) (v := .ref aT_lengths) (C := "ClaimSources$Texts") (T := TT_3) (N := 2) hx hb hts hi_3 hown hK hP 0 rfl rfl 1 (by decide) hf_15 (fun _ h9 => h9) rfl d_T_firstMismatch_19 ?_
        refine lv_iload_n hx hb d_T_firstMismatch_22 rfl (lv_at hl 2 rfl) ?_
        obtain ⟨h_3, hw⟩ := hw
        refine va_iald hx hb hK hP 2 0 rfl rfl h_3 d_T_firstMismatch_23 ?_
        refine lv_icmp_lt (tgt := 31) hx hb d_T_firstMismatch_24 (by decide) (fun c_4 => ?_) (fun c_4 => ?_)
        · have hw := hw.1 c_4
          refine lv_iconst (v := 0) hx hb d_T_firstMismatch_31 (by decide) ?_
          refine lv_istore (lv' := [(5, .int (0 : Int32)), (0, .ref aT), (1, .int x1), (2, .int x2), (3, .int x3), (4, .int x4)]) hx hb d_T_firstMismatch_32 hl (by decide) rfl (fun ls hl => ?_)
          refine lv_iload hx hb d_T_firstMismatch_34 (lv_at hl 0 rfl) ?_
          refine lv_if_ne (tgt := 58) hx hb d_T_firstMismatch_36 (by decide) (fun h9 => absurd h9 (by decide)) (fun _ => ?_)
          refine lv_aload_n hx hb d_T_firstMismatch_39 rfl (lv_at hl 1 rfl) ?_
          refine lv_iload_n hx hb d_T_firstMismatch_40 rfl (lv_at hl 3 rfl) ?_
          refine lv_iload_n hx hb d_T_firstMismatch_41 rfl (lv_at hl 4 rfl) ?_
          refine lv_iload hx hb d_T_firstMismatch_42 (lv_at hl 5 rfl) ?_
          refine lv_iadd hx hb d_T_firstMismatch_44 ?_
          have hPc := hP.sub (ws' := [(aT, .inr (3, [.ref aT_signs, .ref aT_lengths])), (aT_signs, .inl (cI, 1740, .inl T_signs)), (aT_lengths, .inl (cI, 29, .inl T_lengths))]) [0, 1, 2] rfl
          refine vp_callSi (W.runV (As := [.int x2, .int (x3 + x4)]) (rest := []) ⟨hx, hb, hml, hown, hts⟩ (mt_T_signAt l dC dI cI aT aT_signs aT_lengths _ T_signs T_lengths x2 (x3 + x4) hw) (cwV 2 hts (gdV m_553 m_554 m_555 m_2 m_556) rfl rfl rfl (by decide +kernel) ⟨Nat.le_of_ble_eq_true rfl, Nat.le_of_ble_eq_true rfl⟩) ⟨fb_r, va_recv hK hPc (ci := 3) (q0 := 0) rfl rfl, fun U hU hW => ⟨rfl, by rw [hU]; exact hPc, va_K.moved hW.alike hK, hE.warm hW⟩⟩ rfl rfl hl.1 rfl (lv_room (Nat.le_of_ble_eq_true rfl)) d_T_firstMismatch_45 ⟨Nat.le_of_ble_eq_true rfl, Nat.le_of_ble_eq_true rfl⟩) (fun r_6 hw => ?_)
          refine lv_aload_n hx hb d_T_firstMismatch_48 rfl (lv_at hl 1 rfl) ?_
          refine lv_iload_n hx hb d_T_firstMismatch_49 rfl (lv_at hl 2 rfl) ?_
          refine lv_iload hx hb d_T_firstMismatch_50 (lv_at hl 5 rfl) ?_
          have hPc := hP.sub (ws' := [(aT, .inr (3, [.ref aT_signs, .ref aT_lengths])), (aT_signs, .inl (cI, 1740, .inl T_signs)), (aT_lengths, .inl (cI, 29, .inl T_lengths))]) [0, 1, 2] rfl
          refine vp_callSi (W.runV (As := [.int x1, .int x4]) (rest := [.int r_6]) ⟨hx, hb, hml, hown, hts⟩ (mt_T_signAt l dC dI cI aT aT_signs aT_lengths _ T_signs T_lengths x1 x4 hw) (cwV 2 hts (gdV m_553 m_554 m_555 m_2 m_556) rfl rfl rfl (by decide +kernel) ⟨Nat.le_of_ble_eq_true rfl, Nat.le_of_ble_eq_true rfl⟩) ⟨fb_r, va_recv hK hPc (ci := 3) (q0 := 0) rfl rfl, fun U hU hW => ⟨rfl, by rw [hU]; exact hPc, va_K.moved hW.alike hK, hE.warm hW⟩⟩ rfl rfl hl.1 rfl (lv_room (Nat.le_of_ble_eq_true rfl)) d_T_firstMismatch_52 ⟨Nat.le_of_ble_eq_true rfl, Nat.le_of_ble_eq_true rfl⟩) (fun r_7 hw => ?_)
          refine lv_icmp_eq (tgt := 63) hx hb d_T_firstMismatch_55 (by decide) (fun c_8 => ?_) (fun c_8 => ?_)
          · have hw := hw.1 c_8
            refine lv_iinc (v := x4 + 1) (lv' := [(4, .int (x4 + 1)), (5, .int (0 : Int32)), (0, .ref aT), (1, .int x1), (2, .int x2), (3, .int x3)]) hx hb d_T_firstMismatch_63 hl (k := 5) rfl rfl (by decide) rfl (fun ls hl => ?_)
            refine lv_goto (tgt := 3) hx hb d_T_firstMismatch_66 (by decide) ?_
            exact ih (x4 + 1) hw ls (lv_sub hl [2, 3, 4, 5, 0] rfl)
          · have hw := hw.2 c_8
            refine lv_iload hx hb d_T_firstMismatch_58 (lv_at hl 5 rfl) ?_
            refine lv_iconst (v := 1) hx hb d_T_firstMismatch_60 (by decide) ?_
            refine lv_iadd hx hb d_T_firstMismatch_61 ?_
            subst hQ0
            exact W.iret (v := x4 + (1 : Int32)) hx hb hr (fun t ht hW => ⟨_, rfl, hw, ht⟩) (fun q h => by cases h) d_T_firstMismatch_62
        · have hw := hw.2 c_4
          refine lv_iconst (v := 1) hx hb d_T_firstMismatch_27 (by decide) ?_
          refine lv_goto (tgt := 32) hx hb d_T_firstMismatch_28 (by decide) ?_
          refine lv_istore (lv' := [(5, .int (1 : Int32)), (0, .ref aT), (1, .int x1), (2, .int x2), (3, .int x3), (4, .int x4)]) hx hb d_T_firstMismatch_32 hl (by decide) rfl (fun ls hl => ?_)
          refine lv_iload hx hb d_T_firstMismatch_34 (lv_at hl 0 rfl) ?_
          refine lv_if_ne (tgt := 58) hx hb d_T_firstMismatch_36 (by decide) (fun _ => ?_) (fun h9 => absurd h9 (by decide))
          refine lv_iload hx hb d_T_firstMismatch_58 (lv_at hl 5 rfl) ?_
          refine lv_iconst (v := 1) hx hb d_T_firstMismatch_60 (by decide) ?_
          refine lv_iadd hx hb d_T_firstMismatch_61 ?_
          subst hQ0
          exact W.iret (v := x4 + (1 : Int32)) hx hb hr (fun t ht hW => ⟨_, rfl, hw, ht⟩) (fun q h => by cases h) d_T_firstMismatch_62
  unfold wp_T_firstMismatch at hw
  refine lv_iconst (v := 0) hx hb d_T_firstMismatch_0 (by decide) ?_
  refine lv_istore (lv' := [(4, .int (0 : Int32)), (0, .ref aT), (1, .int x1), (2, .int x2), (3, .int x3)]) hx hb d_T_firstMismatch_1 hl (by decide) rfl (fun ls hl => ?_)
  obtain ⟨n_10, hw⟩ := hw
  exact L3 x1 x2 x3 n_10 (0 : Int32) hw ls (lv_sub hl [1, 2, 3, 4, 0] rfl)
