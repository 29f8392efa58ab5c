def wp_C_made (C_sourceSets : Nat → Int32) (C_otherSets : Nat → Int32) (C_rules : Nat → Int32) (C_ringClaims : Nat → Int32) (C_steps : Nat → Int32) (C_made : Int32) (C_ringLength : Int32) (post : Int32 → Prop) : Prop := (post C_made)
set_option maxHeartbeats 4000000 in
set_option maxRecDepth 100000 in
theorem mt_C_made (l : Launch) (dC : Nat → ClassId) (dI : Nat → Nat → Nat) (cI : ClassId) (aC : Nat) (aC_sourceSets : Nat) (aC_otherSets : Nat) (aC_rules : Nat) (aC_ringClaims : Nat) (aC_steps : Nat) (post : Int32 → Prop) (C_sourceSets : Nat → Int32) (C_otherSets : Nat → Int32) (C_rules : Nat → Int32) (C_ringClaims : Nat → Int32) (C_steps : Nat → Int32) (C_made : Int32) (C_ringLength : Int32) (hw : wp_C_made C_sourceSets C_otherSets C_rules C_ringClaims C_steps C_made C_ringLength post) : Met l y_C_made w_C_made ({ frames := 0, cells := 0, slots := 0, locals := 0 }) (va_Pc [.ref aC] (fun U => va_P (dC, dI) vwCl [(aC, .inr (0, [.ref aC_sourceSets, .ref aC_otherSets, .ref aC_rules, .ref aC_ringClaims, .ref aC_steps, .int C_made, .int C_ringLength])), (aC_sourceSets, .inl (cI, 24, .inl C_sourceSets)), (aC_otherSets, .inl (cI, 24, .inl C_otherSets)), (aC_rules, .inl (cI, 24, .inl C_rules)), (aC_ringClaims, .inl (cI, 24, .inl C_ringClaims)), (aC_steps, .inl (cI, 24, .inl C_steps))] U.heap ∧ va_K (dC, dI) vwCl [(cI, .int)] U ∧ en_ok U)) (vp_Si post) 0 0 (fun _ => False) := by
  refine Met.ofW (cc := prog_2_method_2_code) (maxL := 1) (ret := (some .int)) (by decide) rfl ?_
  intro p e s m args below meth c s₁ B hml hv
  obtain ⟨rfl, hP, hK, hE⟩ := hv
  have hx := B.exec
  have hb := B.bytes
  have hr := B.returns
  have hts := atoms_spec (ws := w_C_made) B.pre
  have hown : s.vm.findClass "ClaimSources$Claims" = some m.cls := findClass_of_methodNamed B.named
  have hlocks := B.notSynchronized
  have hl := lv_entry ([.ref aC]) (n := 1) (Nat.le_of_ble_eq_true rfl)
  rw [lg_entry_eq]
  generalize (lg_sl ([.ref aC]) ++ List.replicate (1 - (lg_sl ([.ref aC])).length) Slot.unset).toArray = ls at hl ⊢
  have hl : lv_has ls 1 [(0, .ref aC)] := hl
  obtain ⟨Q0, hQ0⟩ : ∃ Q0, Q0 = MQ below (vp_Si post) ([.ref aC]).toArray s 0 0 (fun _ => False) := ⟨_, rfl⟩
  rw [← hQ0]
  clear B
  generalize hag : ([.ref aC] : List Value).toArray = args at hts hQ0 ⊢
  have hi_0 : ∀ w ∈ u_ws "ClaimSources$Claims" TT_0 7, w ∈ w_C_made := fun w h => List.mem_cons_of_mem _ (ia_0 w h)
  have hf_27 := hts _ (List.mem_cons_of_mem _ m_69)
  unfold wp_C_made at hw
  refine lv_aload_n hx hb d_C_made_0 rfl (lv_at hl 0 rfl) ?_
  refine va_get (D := (dC, dI)) (ci := 0) (v := .int C_made) (C := "ClaimSources$Claims") (T := TT_0) (N := 7) hx hb hts hi_0 hown hK hP 0 rfl rfl 5 (by decide) hf_27 (fun _ h9 => h9) rfl d_C_made_1 ?_
  subst hQ0
  exact W.iret (v := C_made) hx hb hr (fun t ht hW => ⟨_, rfl, hw, ht⟩) (fun q h => by cases h) d_C_made_4
def wp_C_add (C_sourceSets : Nat → Int32) (C_otherSets : Nat → Int32) (C_rules : Nat → Int32) (C_ringClaims : Nat → Int32) (C_steps : Nat → Int32) (C_made : Int32) (C_ringLength : Int32) (post : Int32 → Int32 → Prop) : Prop := (post C_made (C_made + (1 : Int32)))
set_option maxHeartbeats 4000000 in
set_option maxRecDepth 100000 in
theorem mt_C_add (l : Launch) (dC : Nat → ClassId) (dI : Nat → Nat → Nat) (cI : ClassId) (aC : Nat) (aC_sourceSets : Nat) (aC_otherSets : Nat) (aC_rules : Nat) (aC_ringClaims : Nat) (aC_steps : Nat) (sz : Nat) (post : Int32 → Int32 → Prop) (C_sourceSets : Nat → Int32) (C_otherSets : Nat → Int32) (C_rules : Nat → Int32) (C_ringClaims : Nat → Int32) (C_steps : Nat → Int32) (C_made : Int32) (C_ringLength : Int32) (hw : wp_C_add C_sourceSets C_otherSets C_rules C_ringClaims C_steps C_made C_ringLength post) : Met l y_C_add w_C_add ({ frames := 0, cells := 0, slots := 0, locals := 0 }) (va_Pc [.ref aC] (fun U => U.heap.size = sz ∧ va_P (dC, dI) vwCl [(aC, .inr (0, [.ref aC_sourceSets, .ref aC_otherSets, .ref aC_rules, .ref aC_ringClaims, .ref aC_steps, .int C_made, .int C_ringLength])), (aC_sourceSets, .inl (cI, 24, .inl C_sourceSets)), (aC_otherSets, .inl (cI, 24, .inl C_otherSets)), (aC_rules, .inl (cI, 24, .inl C_rules)), (aC_ringClaims, .inl (cI, 24, .inl C_ringClaims)), (aC_steps, .inl (cI, 24, .inl C_steps))] U.heap ∧ va_K (dC, dI) vwCl [(cI, .int)] U ∧ va_D (fun _ => True) [(aC, .inr (0, [.ref aC_sourceSets, .ref aC_otherSets, .ref aC_rules, .ref aC_ringClaims, .ref aC_steps, .int C_made, .int C_ringLength])), (aC_sourceSets, .inl (cI, 24, .inl C_sourceSets)), (aC_otherSets, .inl (cI, 24, .inl C_otherSets)), (aC_rules, .inl (cI, 24, .inl C_rules)), (aC_ringClaims, .inl (cI, 24, .inl C_ringClaims)), (aC_steps, .inl (cI, 24, .inl C_steps))] ∧ en_ok U)) (va_Qi (fun r (u : (Int32)) => post r u) (fun (u : (Int32)) t => va_P (dC, dI) vwCl [(aC, .inr (0, [.ref aC_sourceSets, .ref aC_otherSets, .ref aC_rules, .ref aC_ringClaims, .ref aC_steps, .int u, .int C_ringLength])), (aC_sourceSets, .inl (cI, 24, .inl C_sourceSets)), (aC_otherSets, .inl (cI, 24, .inl C_otherSets)), (aC_rules, .inl (cI, 24, .inl C_rules)), (aC_ringClaims, .inl (cI, 24, .inl C_ringClaims)), (aC_steps, .inl (cI, 24, .inl C_steps))] t.heap ∧ va_D (va_A [(aC, .inr (0, [.ref aC_sourceSets, .ref aC_otherSets, .ref aC_rules, .ref aC_ringClaims, .ref aC_steps, .int C_made, .int C_ringLength])), (aC_sourceSets, .inl (cI, 24, .inl C_sourceSets)), (aC_otherSets, .inl (cI, 24, .inl C_otherSets)), (aC_rules, .inl (cI, 24, .inl C_rules)), (aC_ringClaims, .inl (cI, 24, .inl C_ringClaims)), (aC_steps, .inl (cI, 24, .inl C_steps))] sz) [(aC, .inr (0, [.ref aC_sourceSets, .ref aC_otherSets, .ref aC_rules, .ref aC_ringClaims, .ref aC_steps, .int u, .int C_ringLength])), (aC_sourceSets, .inl (cI, 24, .inl C_sourceSets)), (aC_otherSets, .inl (cI, 24, .inl C_otherSets)), (aC_rules, .inl (cI, 24, .inl C_rules)), (aC_ringClaims, .inl (cI, 24, .inl C_ringClaims)), (aC_steps, .inl (cI, 24, .inl C_steps))]) (va_A [(aC, .inr (0, [.ref aC_sourceSets, .ref aC_otherSets, .ref aC_rules, .ref aC_ringClaims, .ref aC_steps, .int C_made, .int C_ringLength])), (aC_sourceSets, .inl (cI, 24, .inl C_sourceSets)), (aC_otherSets, .inl (cI, 24, .inl C_otherSets)), (aC_rules, .inl (cI, 24, .inl C_rules)), (aC_ringClaims, .inl (cI, 24, .inl C_ringClaims)), (aC_steps, .inl (cI, 24, .inl C_steps))] sz)) 0 0 (va_A [(aC, .inr (0, [.ref aC_sourceSets, .ref aC_otherSets, .ref aC_rules, .ref aC_ringClaims, .ref aC_steps, .int C_made, .int C_ringLength])), (aC_sourceSets, .inl (cI, 24, .inl C_sourceSets)), (aC_otherSets, .inl (cI, 24, .inl C_otherSets)), (aC_rules, .inl (cI, 24, .inl C_rules)), (aC_ringClaims, .inl (cI, 24, .inl C_ringClaims)), (aC_steps, .inl (cI, 24, .inl C_steps))] sz) := by
  refine Met.ofW (cc := prog_2_method_3_code) (maxL := 2) (ret := (some .int)) (by decide) rfl ?_
  intro p e s m args below meth c s₁ B hml hv
  obtain ⟨rfl, hsz, hP, hK, hD0, hE⟩ := hv
  have hx := B.exec
  have hb := B.bytes
  have hr := B.returns
  have hts := atoms_spec (ws := w_C_add) B.pre
  have hown : s.vm.findClass "ClaimSources$Claims" = some m.cls := findClass_of_methodNamed B.named
  have hlocks := B.notSynchronized
  subst hsz
  have hD := hD0.self (sz := s.heap.size)
  generalize hAe : va_A [(aC, .inr (0, [.ref aC_sourceSets, .ref aC_otherSets, .ref aC_rules, .ref aC_ringClaims, .ref aC_steps, .int C_made, .int C_ringLength])), (aC_sourceSets, .inl (cI, 24, .inl C_sourceSets)), (aC_otherSets, .inl (cI, 24, .inl C_otherSets)), (aC_rules, .inl (cI, 24, .inl C_rules)), (aC_ringClaims, .inl (cI, 24, .inl C_ringClaims)), (aC_steps, .inl (cI, 24, .inl C_steps))] s.heap.size = A at hD ⊢
  have hA : ∀ q : Nat, s.heap.size ≤ q → A q := fun q h => by rw [← hAe]; exact Or.inr h
  have hS : va_S A s.heap s.heap [] := va_S.rf
  have hl := lv_entry ([.ref aC]) (n := 2) (Nat.le_of_ble_eq_true rfl)
  rw [lg_entry_eq]
  generalize (lg_sl ([.ref aC]) ++ List.replicate (2 - (lg_sl ([.ref aC])).length) Slot.unset).toArray = ls at hl ⊢
  have hl : lv_has ls 2 [(0, .ref aC)] := hl
  obtain ⟨Q0, hQ0⟩ : ∃ Q0, Q0 = MQ below (va_Qi (fun r (u : (Int32)) => post r u) (fun (u : (Int32)) t => va_P (dC, dI) vwCl [(aC, .inr (0, [.ref aC_sourceSets, .ref aC_otherSets, .ref aC_rules, .ref aC_ringClaims, .ref aC_steps, .int u, .int C_ringLength])), (aC_sourceSets, .inl (cI, 24, .inl C_sourceSets)), (aC_otherSets, .inl (cI, 24, .inl C_otherSets)), (aC_rules, .inl (cI, 24, .inl C_rules)), (aC_ringClaims, .inl (cI, 24, .inl C_ringClaims)), (aC_steps, .inl (cI, 24, .inl C_steps))] t.heap ∧ va_D A [(aC, .inr (0, [.ref aC_sourceSets, .ref aC_otherSets, .ref aC_rules, .ref aC_ringClaims, .ref aC_steps, .int u, .int C_ringLength])), (aC_sourceSets, .inl (cI, 24, .inl C_sourceSets)), (aC_otherSets, .inl (cI, 24, .inl C_otherSets)), (aC_rules, .inl (cI, 24, .inl C_rules)), (aC_ringClaims, .inl (cI, 24, .inl C_ringClaims)), (aC_steps, .inl (cI, 24, .inl C_steps))]) A) ([.ref aC]).toArray s 0 0 A := ⟨_, rfl⟩
  rw [← hQ0]
  clear B
  generalize hag : ([.ref aC] : List Value).toArray = args at hts hQ0 ⊢
  have hi_0 : ∀ w ∈ u_ws "ClaimSources$Claims" TT_0 7, w ∈ w_C_add := fun w h => List.mem_cons_of_mem _ (ia_0 w h)
  have hf_27 := hts _ (List.mem_cons_of_mem _ m_69)
  unfold wp_C_add at hw
  refine lv_aload_n hx hb d_C_add_0 rfl (lv_at hl 0 rfl) ?_
  refine va_get (D := (dC, dI)) (ci := 0) (v := .int C_made) (C := "ClaimSources$Claims") (T := TT_0) (N := 7) hx hb hts hi_0 hown hK hP 0 rfl rfl 5 (by decide) hf_27 (fun _ h9 => h9) rfl d_C_add_1 ?_
  refine lv_istore_n (lv' := [(1, .int C_made), (0, .ref aC)]) hx hb d_C_add_4 rfl hl (by decide) rfl (fun ls hl => ?_)
  refine lv_aload_n hx hb d_C_add_5 rfl (lv_at hl 1 rfl) ?_
  refine lv_dup hx hb d_C_add_6 rfl ?_
  refine va_get (D := (dC, dI)) (ci := 0) (v := .int C_made) (C := "ClaimSources$Claims") (T := TT_0) (N := 7) hx hb hts hi_0 hown hK hP 0 rfl rfl 5 (by decide) hf_27 (fun _ h9 => h9) rfl d_C_add_7 ?_
  refine lv_iconst (v := 1) hx hb d_C_add_10 (by decide) ?_
  refine lv_iadd hx hb d_C_add_11 ?_
  refine va_put (D := (dC, dI)) (ci := 0) (v := .int (C_made + (1 : Int32))) (ty := .int) (C := "ClaimSources$Claims") (T := TT_0) (N := 7) hx hb hts hi_0 ty_0 tyok_0 nn_0 hown hK hP hD hS 0 rfl rfl 5 (by decide) hf_27 (fun _ h9 => h9) rfl (by decide +kernel) rfl rfl (Nat.le_of_ble_eq_true rfl) d_C_add_12 (fun H locs hP hD hS => ?_)
  have hP : va_P (dC, dI) vwCl [(aC, .inr (0, [.ref aC_sourceSets, .ref aC_otherSets, .ref aC_rules, .ref aC_ringClaims, .ref aC_steps, .int (C_made + (1 : Int32)), .int C_ringLength])), (aC_sourceSets, .inl (cI, 24, .inl C_sourceSets)), (aC_otherSets, .inl (cI, 24, .inl C_otherSets)), (aC_rules, .inl (cI, 24, .inl C_rules)), (aC_ringClaims, .inl (cI, 24, .inl C_ringClaims)), (aC_steps, .inl (cI, 24, .inl C_steps))] H := hP
  have hD : va_D A [(aC, .inr (0, [.ref aC_sourceSets, .ref aC_otherSets, .ref aC_rules, .ref aC_ringClaims, .ref aC_steps, .int (C_made + (1 : Int32)), .int C_ringLength])), (aC_sourceSets, .inl (cI, 24, .inl C_sourceSets)), (aC_otherSets, .inl (cI, 24, .inl C_otherSets)), (aC_rules, .inl (cI, 24, .inl C_rules)), (aC_ringClaims, .inl (cI, 24, .inl C_ringClaims)), (aC_steps, .inl (cI, 24, .inl C_steps))] := hD
  refine lv_iload_n hx hb d_C_add_15 rfl (lv_at hl 0 rfl) ?_
  subst hQ0
  have hP9 := hP.sub (ws' := [(aC, .inr (0, [.ref aC_sourceSets, .ref aC_otherSets, .ref aC_rules, .ref aC_ringClaims, .ref aC_steps, .int (C_made + (1 : Int32)), .int C_ringLength])), (aC_sourceSets, .inl (cI, 24, .inl C_sourceSets)), (aC_otherSets, .inl (cI, 24, .inl C_otherSets)), (aC_rules, .inl (cI, 24, .inl C_rules)), (aC_ringClaims, .inl (cI, 24, .inl C_ringClaims)), (aC_steps, .inl (cI, 24, .inl C_steps))]) [0, 1, 2, 3, 4, 5] rfl
  have hD9 := hD.sub (ws' := [(aC, .inr (0, [.ref aC_sourceSets, .ref aC_otherSets, .ref aC_rules, .ref aC_ringClaims, .ref aC_steps, .int (C_made + (1 : Int32)), .int C_ringLength])), (aC_sourceSets, .inl (cI, 24, .inl C_sourceSets)), (aC_otherSets, .inl (cI, 24, .inl C_otherSets)), (aC_rules, .inl (cI, 24, .inl C_rules)), (aC_ringClaims, .inl (cI, 24, .inl C_ringClaims)), (aC_steps, .inl (cI, 24, .inl C_steps))]) [0, 1, 2, 3, 4, 5] (by decide) rfl
  exact W.iret (v := C_made) hx hb hr (fun t ht hW => ⟨⟨_, (C_made + (1 : Int32)), rfl, hw, by rw [ht]; exact hP9, hD9⟩, hS.F ht⟩) hS.2.2 d_C_add_16
def wp_C_setSource (C_sourceSets : Nat → Int32) (C_otherSets : Nat → Int32) (C_rules : Nat → Int32) (C_ringClaims : Nat → Int32) (C_steps : Nat → Int32) (C_made : Int32) (C_ringLength : Int32) (x1 : Int32) (x2 : Int32) (x3 : Int32) (post : Int32 → (Nat → Int32) → Prop) : Prop := (vp_in x1 24 ∧ ((x3 = 0 → (wp_X_without (C_sourceSets x1.toNatClampNeg) x2 (fun r_3 => (vp_in x1 24 ∧ (vp_in x1 24 ∧ ((((upd C_sourceSets x1.toNatClampNeg r_3) x1.toNatClampNeg) = (C_sourceSets x1.toNatClampNeg) → (post (0 : Int32) (upd C_sourceSets x1.toNatClampNeg r_3))) ∧ (¬ (((upd C_sourceSets x1.toNatClampNeg r_3) x1.toNatClampNeg) = (C_sourceSets x1.toNatClampNeg)) → (post (1 : Int32) (upd C_sourceSets x1.toNatClampNeg r_3))))))))) ∧ (¬ (x3 = 0) → (wp_X_with (C_sourceSets x1.toNatClampNeg) x2 (fun r_7 => (vp_in x1 24 ∧ (vp_in x1 24 ∧ ((((upd C_sourceSets x1.toNatClampNeg r_7) x1.toNatClampNeg) = (C_sourceSets x1.toNatClampNeg) → (post (0 : Int32) (upd C_sourceSets x1.toNatClampNeg r_7))) ∧ (¬ (((upd C_sourceSets x1.toNatClampNeg r_7) x1.toNatClampNeg) = (C_sourceSets x1.toNatClampNeg)) → (post (1 : Int32) (upd C_sourceSets x1.toNatClampNeg r_7)))))))))))
set_option maxHeartbeats 4000000 in
set_option maxRecDepth 100000 in
theorem mt_C_setSource (l : Launch) (dC : Nat → ClassId) (dI : Nat → Nat → Nat) (cI : ClassId) (aC : Nat) (aC_sourceSets : Nat) (aC_otherSets : Nat) (aC_rules : Nat) (aC_ringClaims : Nat) (aC_steps : Nat) (sz : Nat) (post : Int32 → (Nat → Int32) → Prop) (C_sourceSets : Nat → Int32) (C_otherSets : Nat → Int32) (C_rules : Nat → Int32) (C_ringClaims : Nat → Int32) (C_steps : Nat → Int32) (C_made : Int32) (C_ringLength : Int32) (x1 : Int32) (x2 : Int32) (x3 : Int32) (hw : wp_C_setSource C_sourceSets C_otherSets C_rules C_ringClaims C_steps C_made C_ringLength x1 x2 x3 post) : Met l y_C_setSource w_C_setSource ({ frames := 1, cells := 0, slots := 0, locals := 21 }) (va_Pc [.ref aC, .int x1, .int x2, .int x3] (fun U => U.heap.size = sz ∧ va_P (dC, dI) vwCl [(aC, .inr (0, [.ref aC_sourceSets, .ref aC_otherSets, .ref aC_rules, .ref aC_ringClaims, .ref aC_steps, .int C_made, .int C_ringLength])), (aC_sourceSets, .inl (cI, 24, .inl C_sourceSets)), (aC_otherSets, .inl (cI, 24, .inl C_otherSets)), (aC_rules, .inl (cI, 24, .inl C_rules)), (aC_ringClaims, .inl (cI, 24, .inl C_ringClaims)), (aC_steps, .inl (cI, 24, .inl C_steps))] U.heap ∧ va_K (dC, dI) vwCl [(cI, .int)] U ∧ va_D (fun _ => True) [(aC, .inr (0, [.ref aC_sourceSets, .ref aC_otherSets, .ref aC_rules, .ref aC_ringClaims, .ref aC_steps, .int C_made, .int C_ringLength])), (aC_sourceSets, .inl (cI, 24, .inl C_sourceSets)), (aC_otherSets, .inl (cI, 24, .inl C_otherSets)), (aC_rules, .inl (cI, 24, .inl C_rules)), (aC_ringClaims, .inl (cI, 24, .inl C_ringClaims)), (aC_steps, .inl (cI, 24, .inl C_steps))] ∧ en_ok U)) (va_Qi (fun r (u : (Nat → Int32)) => post r u) (fun (u : (Nat → Int32)) t => va_P (dC, dI) vwCl [(aC, .inr (0, [.ref aC_sourceSets, .ref aC_otherSets, .ref aC_rules, .ref aC_ringClaims, .ref aC_steps, .int C_made, .int C_ringLength])), (aC_sourceSets, .inl (cI, 24, .inl u)), (aC_otherSets, .inl (cI, 24, .inl C_otherSets)), (aC_rules, .inl (cI, 24, .inl C_rules)), (aC_ringClaims, .inl (cI, 24, .inl C_ringClaims)), (aC_steps, .inl (cI, 24, .inl C_steps))] t.heap ∧ va_D (va_A [(aC, .inr (0, [.ref aC_sourceSets, .ref aC_otherSets, .ref aC_rules, .ref aC_ringClaims, .ref aC_steps, .int C_made, .int C_ringLength])), (aC_sourceSets, .inl (cI, 24, .inl C_sourceSets)), (aC_otherSets, .inl (cI, 24, .inl C_otherSets)), (aC_rules, .inl (cI, 24, .inl C_rules)), (aC_ringClaims, .inl (cI, 24, .inl C_ringClaims)), (aC_steps, .inl (cI, 24, .inl C_steps))] sz) [(aC, .inr (0, [.ref aC_sourceSets, .ref aC_otherSets, .ref aC_rules, .ref aC_ringClaims, .ref aC_steps, .int C_made, .int C_ringLength])), (aC_sourceSets, .inl (cI, 24, .inl u)), (aC_otherSets, .inl (cI, 24, .inl C_otherSets)), (aC_rules, .inl (cI, 24, .inl C_rules)), (aC_ringClaims, .inl (cI, 24, .inl C_ringClaims)), (aC_steps, .inl (cI, 24, .inl C_steps))]) (va_A [(aC, .inr (0, [.ref aC_sourceSets, .ref aC_otherSets, .ref aC_rules, .ref aC_ringClaims, .ref aC_steps, .int C_made, .int C_ringLength])), (aC_sourceSets, .inl (cI, 24, .inl C_sourceSets)), (aC_otherSets, .inl (cI, 24, .inl C_otherSets)), (aC_rules, .inl (cI, 24, .inl C_rules)), (aC_ringClaims, .inl (cI, 24, .inl C_ringClaims)), (aC_steps, .inl (cI, 24, .inl C_steps))] sz)) 0 0 (va_A [(aC, .inr (0, [.ref aC_sourceSets, .ref aC_otherSets, .ref aC_rules, .ref aC_ringClaims, .ref aC_steps, .int C_made, .int C_ringLength])), (aC_sourceSets, .inl (cI, 24, .inl C_sourceSets)), (aC_otherSets, .inl (cI, 24, .inl C_otherSets)), (aC_rules, .inl (cI, 24, .inl C_rules)), (aC_ringClaims, .inl (cI, 24, .inl C_ringClaims)), (aC_steps, .inl (cI, 24, .inl C_steps))] sz) := by
  refine Met.ofW (cc := prog_2_method_6_code) (maxL := 5) (ret := (some .boolean)) (by decide) rfl ?_
  intro p e s m args below meth c s₁ B hml hv
  obtain ⟨rfl, hsz, hP, hK, hD0, hE⟩ := hv
  have hx := B.exec
  have hb := B.bytes
  have hr := B.returns
  have hts := atoms_spec (ws := w_C_setSource) B.pre
  have hown : s.vm.findClass "ClaimSources$Claims" = some m.cls := findClass_of_methodNamed B.named
  have hlocks := B.notSynchronized
  subst hsz
  have hD := hD0.self (sz := s.heap.size)
  generalize hAe : va_A [(aC, .inr (0, [.ref aC_sourceSets, .ref aC_otherSets, .ref aC_rules, .ref aC_ringClaims, .ref aC_steps, .int C_made, .int C_ringLength])), (aC_sourceSets, .inl (cI, 24, .inl C_sourceSets)), (aC_otherSets, .inl (cI, 24, .inl C_otherSets)), (aC_rules, .inl (cI, 24, .inl C_rules)), (aC_ringClaims, .inl (cI, 24, .inl C_ringClaims)), (aC_steps, .inl (cI, 24, .inl C_steps))] s.heap.size = A at hD ⊢
  have hA : ∀ q : Nat, s.heap.size ≤ q → A q := fun q h => by rw [← hAe]; exact Or.inr h
  have hS : va_S A s.heap s.heap [] := va_S.rf
  have hl := lv_entry ([.ref aC, .int x1, .int x2, .int x3]) (n := 5) (Nat.le_of_ble_eq_true rfl)
  rw [lg_entry_eq]
  generalize (lg_sl ([.ref aC, .int x1, .int x2, .int x3]) ++ List.replicate (5 - (lg_sl ([.ref aC, .int x1, .int x2, .int x3])).length) Slot.unset).toArray = ls at hl ⊢
  have hl : lv_has ls 5 [(0, .ref aC), (1, .int x1), (2, .int x2), (3, .int x3)] := hl
  obtain ⟨Q0, hQ0⟩ : ∃ Q0, Q0 = MQ below (va_Qi (fun r (u : (Nat → Int32)) => post r u) (fun (u : (Nat → Int32)) t => va_P (dC, dI) vwCl [(aC, .inr (0, [.ref aC_sourceSets, .ref aC_otherSets, .ref aC_rules, .ref aC_ringClaims, .ref aC_steps, .int C_made, .int C_ringLength])), (aC_sourceSets, .inl (cI, 24, .inl u)), (aC_otherSets, .inl (cI, 24, .inl C_otherSets)), (aC_rules, .inl (cI, 24, .inl C_rules)), (aC_ringClaims, .inl (cI, 24, .inl C_ringClaims)), (aC_steps, .inl (cI, 24, .inl C_steps))] t.heap ∧ va_D A [(aC, .inr (0, [.ref aC_sourceSets, .ref aC_otherSets, .ref aC_rules, .ref aC_ringClaims, .ref aC_steps, .int C_made, .int C_ringLength])), (aC_sourceSets, .inl (cI, 24, .inl u)), (aC_otherSets, .inl (cI, 24, .inl C_otherSets)), (aC_rules, .inl (cI, 24, .inl C_rules)), (aC_ringClaims, .inl (cI, 24, .inl C_ringClaims)), (aC_steps, .inl (cI, 24, .inl C_steps))]) A) ([.ref aC, .int x1, .int x2, .int x3]).toArray s 0 0 A := ⟨_, rfl⟩
  rw [← hQ0]
  clear B
  generalize hag : ([.ref aC, .int x1, .int x2, .int x3] : List Value).toArray = args at hts hQ0 ⊢
  have hi_0 : ∀ w ∈ u_ws "ClaimSources$Claims" TT_0 7, w ∈ w_C_setSource := fun w h => List.mem_cons_of_mem _ (ia_0 w h)
  have hf_9 := hts _ (List.mem_cons_of_mem _ m_64)
  unfold wp_C_setSource at hw
  refine lv_aload_n hx hb d_C_setSource_0 rfl (lv_at hl 0 rfl) ?_
  refine va_get (D := (dC, dI)) (ci := 0) (v := .ref aC_sourceSets) (C := "ClaimSources$Claims") (T := TT_0) (N := 7) hx hb hts hi_0 hown hK hP 0 rfl rfl 0 (by decide) hf_9 (fun _ h9 => h9) rfl d_C_setSource_1 ?_
  refine lv_iload_n hx hb d_C_setSource_4 rfl (lv_at hl 1 rfl) ?_
  obtain ⟨h_1, hw⟩ := hw
  refine va_iald hx hb hK hP 1 0 rfl rfl h_1 d_C_setSource_5 ?_
  refine lv_istore (lv' := [(4, .int (C_sourceSets x1.toNatClampNeg)), (0, .ref aC), (1, .int x1), (2, .int x2), (3, .int x3)]) hx hb d_C_setSource_6 hl (by decide) rfl (fun ls hl => ?_)
  refine lv_aload_n hx hb d_C_setSource_8 rfl (lv_at hl 1 rfl) ?_
  refine va_get (D := (dC, dI)) (ci := 0) (v := .ref aC_sourceSets) (C := "ClaimSources$Claims") (T := TT_0) (N := 7) hx hb hts hi_0 hown hK hP 0 rfl rfl 0 (by decide) hf_9 (fun _ h9 => h9) rfl d_C_setSource_9 ?_
  refine lv_iload_n hx hb d_C_setSource_12 rfl (lv_at hl 2 rfl) ?_
  refine lv_iload_n hx hb d_C_setSource_13 rfl (lv_at hl 4 rfl) ?_
  refine lv_if_eq (tgt := 26) hx hb d_C_setSource_14 (by decide) (fun c_2 => ?_) (fun c_2 => ?_)
  · have hw := hw.1 c_2
    refine lv_iload hx hb d_C_setSource_26 (lv_at hl 0 rfl) ?_
    refine lv_iload_n hx hb d_C_setSource_28 rfl (lv_at hl 3 rfl) ?_
    have hPc := hP.sub (ws' := []) [] rfl
    refine vp_callSi ((va_runSN (As := [.int (C_sourceSets x1.toNatClampNeg), .int x2]) (rest := [.int x1, .ref aC_sourceSets]) ⟨hx, hb, hml, hown, hts⟩ (mt_X_without l dC dI cI _ (C_sourceSets x1.toNatClampNeg) x2 hw) ⟨va_cnB 2 hts (gd m_329) rfl rfl rfl (en_14 hE) (hts _ (List.mem_cons_of_mem _ m_1)) (by decide +kernel) ⟨Nat.le_of_ble_eq_true rfl, Nat.le_of_ble_eq_true rfl⟩, (hts _ (List.mem_cons_of_mem _ m_328)), trivial⟩ ⟨fb_r, fun U hU hW => ⟨rfl, by rw [hU]; exact hPc, va_K.moved hW.alike hK, hE.warm hW⟩⟩ rfl rfl hl.1 rfl (lv_room (Nat.le_of_ble_eq_true rfl)) d_C_setSource_29 ⟨Nat.le_of_ble_eq_true rfl, Nat.le_of_ble_eq_true rfl⟩).run) (fun r_3 hw => ?_)
    obtain ⟨h_4, hw⟩ := hw
    refine va_iast hx hb hK hP hD hS 1 0 rfl rfl h_4 d_C_setSource_32 (fun H locs hP hD hS => ?_)
    have hP : va_P (dC, dI) vwCl [(aC, .inr (0, [.ref aC_sourceSets, .ref aC_otherSets, .ref aC_rules, .ref aC_ringClaims, .ref aC_steps, .int C_made, .int C_ringLength])), (aC_sourceSets, .inl (cI, 24, .inl (upd C_sourceSets x1.toNatClampNeg r_3))), (aC_otherSets, .inl (cI, 24, .inl C_otherSets)), (aC_rules, .inl (cI, 24, .inl C_rules)), (aC_ringClaims, .inl (cI, 24, .inl C_ringClaims)), (aC_steps, .inl (cI, 24, .inl C_steps))] H := hP
    have hD : va_D A [(aC, .inr (0, [.ref aC_sourceSets, .ref aC_otherSets, .ref aC_rules, .ref aC_ringClaims, .ref aC_steps, .int C_made, .int C_ringLength])), (aC_sourceSets, .inl (cI, 24, .inl (upd C_sourceSets x1.toNatClampNeg r_3))), (aC_otherSets, .inl (cI, 24, .inl C_otherSets)), (aC_rules, .inl (cI, 24, .inl C_rules)), (aC_ringClaims, .inl (cI, 24, .inl C_ringClaims)), (aC_steps, .inl (cI, 24, .inl C_steps))] := hD
    refine lv_aload_n hx hb d_C_setSource_33 rfl (lv_at hl 1 rfl) ?_
    refine va_get (D := (dC, dI)) (ci := 0) (v := .ref aC_sourceSets) (C := "ClaimSources$Claims") (T := TT_0) (N := 7) hx hb hts hi_0 hown hK hP 0 rfl rfl 0 (by decide) hf_9 (fun _ h9 => h9) rfl d_C_setSource_34 ?_
    refine lv_iload_n hx hb d_C_setSource_37 rfl (lv_at hl 2 rfl) ?_
    obtain ⟨h_5, hw⟩ := hw
    refine va_iald hx hb hK hP 1 0 rfl rfl h_5 d_C_setSource_38 ?_
    refine lv_iload hx hb d_C_setSource_39 (lv_at hl 0 rfl) ?_
    refine lv_icmp_eq (tgt := 48) hx hb d_C_setSource_41 (by decide) (fun c_6 => ?_) (fun c_6 => ?_)
    · have hw := hw.1 c_6
      refine lv_iconst (v := 0) hx hb d_C_setSource_48 (by decide) ?_
      subst hQ0
      have hP9 := hP.sub (ws' := [(aC, .inr (0, [.ref aC_sourceSets, .ref aC_otherSets, .ref aC_rules, .ref aC_ringClaims, .ref aC_steps, .int C_made, .int C_ringLength])), (aC_sourceSets, .inl (cI, 24, .inl (upd C_sourceSets x1.toNatClampNeg r_3))), (aC_otherSets, .inl (cI, 24, .inl C_otherSets)), (aC_rules, .inl (cI, 24, .inl C_rules)), (aC_ringClaims, .inl (cI, 24, .inl C_ringClaims)), (aC_steps, .inl (cI, 24, .inl C_steps))]) [0, 1, 2, 3, 4, 5] rfl
      have hD9 := hD.sub (ws' := [(aC, .inr (0, [.ref aC_sourceSets, .ref aC_otherSets, .ref aC_rules, .ref aC_ringClaims, .ref aC_steps, .int C_made, .int C_ringLength])), (aC_sourceSets, .inl (cI, 24, .inl (upd C_sourceSets x1.toNatClampNeg r_3))), (aC_otherSets, .inl (cI, 24, .inl C_otherSets)), (aC_rules, .inl (cI, 24, .inl C_rules)), (aC_ringClaims, .inl (cI, 24, .inl C_ringClaims)), (aC_steps, .inl (cI, 24, .inl C_steps))]) [0, 1, 2, 3, 4, 5] (by decide) rfl
      exact W.zret (v := (0 : Int32)) hx hb hr (by decide) (fun t ht hW => ⟨⟨_, (upd C_sourceSets x1.toNatClampNeg r_3), rfl, hw, by rw [ht]; exact hP9, hD9⟩, hS.F ht⟩) hS.2.2 d_C_setSource_49
    · have hw := hw.2 c_6
      refine lv_iconst (v := 1) hx hb d_C_setSource_44 (by decide) ?_
      refine lv_goto (tgt := 49) hx hb d_C_setSource_45 (by decide) ?_
      subst hQ0
      have hP9 := hP.sub (ws' := [(aC, .inr (0, [.ref aC_sourceSets, .ref aC_otherSets, .ref aC_rules, .ref aC_ringClaims, .ref aC_steps, .int C_made, .int C_ringLength])), (aC_sourceSets, .inl (cI, 24, .inl (upd C_sourceSets x1.toNatClampNeg r_3))), (aC_otherSets, .inl (cI, 24, .inl C_otherSets)), (aC_rules, .inl (cI, 24, .inl C_rules)), (aC_ringClaims, .inl (cI, 24, .inl C_ringClaims)), (aC_steps, .inl (cI, 24, .inl C_steps))]) [0, 1, 2, 3, 4, 5] rfl
      have hD9 := hD.sub (ws' := [(aC, .inr (0, [.ref aC_sourceSets, .ref aC_otherSets, .ref aC_rules, .ref aC_ringClaims, .ref aC_steps, .int C_made, .int C_ringLength])), (aC_sourceSets, .inl (cI, 24, .inl (upd C_sourceSets x1.toNatClampNeg r_3))), (aC_otherSets, .inl (cI, 24, .inl C_otherSets)), (aC_rules, .inl (cI, 24, .inl C_rules)), (aC_ringClaims, .inl (cI, 24, .inl C_ringClaims)), (aC_steps, .inl (cI, 24, .inl C_steps))]) [0, 1, 2, 3, 4, 5] (by decide) rfl
      exact W.zret (v := (1 : Int32)) hx hb hr (by decide) (fun t ht hW => ⟨⟨_, (upd C_sourceSets x1.toNatClampNeg r_3), rfl, hw, by rw [ht]; exact hP9, hD9⟩, hS.F ht⟩) hS.2.2 d_C_setSource_49
  · have hw := hw.2 c_2
    refine lv_iload hx hb d_C_setSource_17 (lv_at hl 0 rfl) ?_
    refine lv_iload_n hx hb d_C_setSource_19 rfl (lv_at hl 3 rfl) ?_
    have hPc := hP.sub (ws' := []) [] rfl
    refine vp_callSi ((va_runSN (As := [.int (C_sourceSets x1.toNatClampNeg), .int x2]) (rest := [.int x1, .ref aC_sourceSets]) ⟨hx, hb, hml, hown, hts⟩ (mt_X_with l dC dI cI _ (C_sourceSets x1.toNatClampNeg) x2 hw) ⟨va_cnB 2 hts (gd m_326) rfl rfl rfl (en_15 hE) (hts _ (List.mem_cons_of_mem _ m_1)) (by decide +kernel) ⟨Nat.le_of_ble_eq_true rfl, Nat.le_of_ble_eq_true rfl⟩, (hts _ (List.mem_cons_of_mem _ m_325)), trivial⟩ ⟨fb_r, fun U hU hW => ⟨rfl, by rw [hU]; exact hPc, va_K.moved hW.alike hK, hE.warm hW⟩⟩ rfl rfl hl.1 rfl (lv_room (Nat.le_of_ble_eq_true rfl)) d_C_setSource_20 ⟨Nat.le_of_ble_eq_true rfl, Nat.le_of_ble_eq_true rfl⟩).run) (fun r_7 hw => ?_)
    refine lv_goto (tgt := 32) hx hb d_C_setSource_23 (by decide) ?_
    obtain ⟨h_8, hw⟩ := hw
    refine va_iast hx hb hK hP hD hS 1 0 rfl rfl h_8 d_C_setSource_32 (fun H locs hP hD hS => ?_)
    have hP : va_P (dC, dI) vwCl [(aC, .inr (0, [.ref aC_sourceSets, .ref aC_otherSets, .ref aC_rules, .ref aC_ringClaims, .ref aC_steps, .int C_made, .int C_ringLength])), (aC_sourceSets, .inl (cI, 24, .inl (upd C_sourceSets x1.toNatClampNeg r_7))), (aC_otherSets, .inl (cI, 24, .inl C_otherSets)), (aC_rules, .inl (cI, 24, .inl C_rules)), (aC_ringClaims, .inl (cI, 24, .inl C_ringClaims)), (aC_steps, .inl (cI, 24, .inl C_steps))] H := hP
    have hD : va_D A [(aC, .inr (0, [.ref aC_sourceSets, .ref aC_otherSets, .ref aC_rules, .ref aC_ringClaims, .ref aC_steps, .int C_made, .int C_ringLength])), (aC_sourceSets, .inl (cI, 24, .inl (upd C_sourceSets x1.toNatClampNeg r_7))), (aC_otherSets, .inl (cI, 24, .inl C_otherSets)), (aC_rules, .inl (cI, 24, .inl C_rules)), (aC_ringClaims, .inl (cI, 24, .inl C_ringClaims)), (aC_steps, .inl (cI, 24, .inl C_steps))] := hD
    refine lv_aload_n hx hb d_C_setSource_33 rfl (lv_at hl 1 rfl) ?_
    refine va_get (D := (dC, dI)) (ci := 0) (v := .ref aC_sourceSets) (C := "ClaimSources$Claims") (T := TT_0) (N := 7) hx hb hts hi_0 hown hK hP 0 rfl rfl 0 (by decide) hf_9 (fun _ h9 => h9) rfl d_C_setSource_34 ?_
    refine lv_iload_n hx hb d_C_setSource_37 rfl (lv_at hl 2 rfl) ?_
    obtain ⟨h_9, hw⟩ := hw
    refine va_iald hx hb hK hP 1 0 rfl rfl h_9 d_C_setSource_38 ?_
    refine lv_iload hx hb d_C_setSource_39 (lv_at hl 0 rfl) ?_
    refine lv_icmp_eq (tgt := 48) hx hb d_C_setSource_41 (by decide) (fun c_10 => ?_) (fun c_10 => ?_)
    · have hw := hw.1 c_10
      refine lv_iconst (v := 0) hx hb d_C_setSource_48 (by decide) ?_
      subst hQ0
      have hP9 := hP.sub (ws' := [(aC, .inr (0, [.ref aC_sourceSets, .ref aC_otherSets, .ref aC_rules, .ref aC_ringClaims, .ref aC_steps, .int C_made, .int C_ringLength])), (aC_sourceSets, .inl (cI, 24, .inl (upd C_sourceSets x1.toNatClampNeg r_7))), (aC_otherSets, .inl (cI, 24, .inl C_otherSets)), (aC_rules, .inl (cI, 24, .inl C_rules)), (aC_ringClaims, .inl (cI, 24, .inl C_ringClaims)), (aC_steps, .inl (cI, 24, .inl C_steps))]) [0, 1, 2, 3, 4, 5] rfl
      have hD9 := hD.sub (ws' := [(aC, .inr (0, [.ref aC_sourceSets, .ref aC_otherSets, .ref aC_rules, .ref aC_ringClaims, .ref aC_steps, .int C_made, .int C_ringLength])), (aC_sourceSets, .inl (cI, 24, .inl (upd C_sourceSets x1.toNatClampNeg r_7))), (aC_otherSets, .inl (cI, 24, .inl C_otherSets)), (aC_rules, .inl (cI, 24, .inl C_rules)), (aC_ringClaims, .inl (cI, 24, .inl C_ringClaims)), (aC_steps, .inl (cI, 24, .inl C_steps))]) [0, 1, 2, 3, 4, 5] (by decide) rfl
      exact W.zret (v := (0 : Int32)) hx hb hr (by decide) (fun t ht hW => ⟨⟨_, (upd C_sourceSets x1.toNatClampNeg r_7), rfl, hw, by rw [ht]; exact hP9, hD9⟩, hS.F ht⟩) hS.2.2 d_C_setSource_49
    · have hw := hw.2 c_10
      refine lv_iconst (v := 1) hx hb d_C_setSource_44 (by decide) ?_
      refine lv_goto (tgt := 49) hx hb d_C_setSource_45 (by decide) ?_
      subst hQ0
      have hP9 := hP.sub (ws' := [(aC, .inr (0, [.ref aC_sourceSets, .ref aC_otherSets, .ref aC_rules, .ref aC_ringClaims, .ref aC_steps, .int C_made, .int C_ringLength])), (aC_sourceSets, .inl (cI, 24, .inl (upd C_sourceSets x1.toNatClampNeg r_7))), (aC_otherSets, .inl (cI, 24, .inl C_otherSets)), (aC_rules, .inl (cI, 24, .inl C_rules)), (aC_ringClaims, .inl (cI, 24, .inl C_ringClaims)), (aC_steps, .inl (cI, 24, .inl C_steps))]) [0, 1, 2, 3, 4, 5] rfl
      have hD9 := hD.sub (ws' := [(aC, .inr (0, [.ref aC_sourceSets, .ref aC_otherSets, .ref aC_rules, .ref aC_ringClaims, .ref aC_steps, .int C_made, .int C_ringLength])), (aC_sourceSets, .inl (cI, 24, .inl (upd C_sourceSets x1.toNatClampNeg r_7))), (aC_otherSets, .inl (cI, 24, .inl C_otherSets)), (aC_rules, .inl (cI, 24, .inl C_rules)), (aC_ringClaims, .inl (cI, 24, .inl C_ringClaims)), (aC_steps, .inl (cI, 24, .inl C_steps))]) [0, 1, 2, 3, 4, 5] (by decide) rfl
      exact W.zret (v := (1 : Int32)) hx hb hr (by decide) (fun t ht hW => ⟨⟨_, (upd C_sourceSets x1.toNatClampNeg r_7), rfl, hw, by rw [ht]; exact hP9, hD9⟩, hS.F ht⟩) hS.2.2 d_C_setSource_49
def wp_C_isOn (C_sourceSets : Nat → Int32) (C_otherSets : Nat → Int32) (C_rules : Nat → Int32) (C_ringClaims : Nat → Int32) (C_steps : Nat → Int32) (C_made : Int32) (C_ringLength : Int32) (x1 : Int32) (x2 : Int32) (post : Int32 → Prop) : Prop := (vp_in x1 24 ∧ (wp_X_contains (C_otherSets x1.toNatClampNeg) x2 (fun r_2 => (narrow .boolean (.int r_2) = .int r_2 ∧ post r_2))))
set_option maxHeartbeats 4000000 in
set_option maxRecDepth 100000 in
theorem mt_C_isOn (l : Launch) (dC : Nat → ClassId) (dI : Nat → Nat → Nat) (cI : ClassId) (aC : Nat) (aC_sourceSets : Nat) (aC_otherSets : Nat) (aC_rules : Nat) (aC_ringClaims : Nat) (aC_steps : Nat) (post : Int32 → Prop) (C_sourceSets : Nat → Int32) (C_otherSets : Nat → Int32) (C_rules : Nat → Int32) (C_ringClaims : Nat → Int32) (C_steps : Nat → Int32) (C_made : Int32) (C_ringLength : Int32) (x1 : Int32) (x2 : Int32) (hw : wp_C_isOn C_sourceSets C_otherSets C_rules C_ringClaims C_steps C_made C_ringLength x1 x2 post) : Met l y_C_isOn w_C_isOn ({ frames := 1, cells := 0, slots := 0, locals := 21 }) (va_Pc [.ref aC, .int x1, .int x2] (fun U => va_P (dC, dI) vwCl [(aC, .inr (0, [.ref aC_sourceSets, .ref aC_otherSets, .ref aC_rules, .ref aC_ringClaims, .ref aC_steps, .int C_made, .int C_ringLength])), (aC_sourceSets, .inl (cI, 24, .inl C_sourceSets)), (aC_otherSets, .inl (cI, 24, .inl C_otherSets)), (aC_rules, .inl (cI, 24, .inl C_rules)), (aC_ringClaims, .inl (cI, 24, .inl C_ringClaims)), (aC_steps, .inl (cI, 24, .inl C_steps))] U.heap ∧ va_K (dC, dI) vwCl [(cI, .int)] U ∧ en_ok U)) (vp_Si post) 0 0 (fun _ => False) := by
  refine Met.ofW (cc := prog_2_method_7_code) (maxL := 3) (ret := (some .boolean)) (by decide) rfl ?_
  intro p e s m args below meth c s₁ B hml hv
  obtain ⟨rfl, hP, hK, hE⟩ := hv
  have hx := B.exec
  have hb := B.bytes
  have hr := B.returns
  have hts := atoms_spec (ws := w_C_isOn) B.pre
  have hown : s.vm.findClass "ClaimSources$Claims" = some m.cls := findClass_of_methodNamed B.named
  have hlocks := B.notSynchronized
  have hl := lv_entry ([.ref aC, .int x1, .int x2]) (n := 3) (Nat.le_of_ble_eq_true rfl)
  rw [lg_entry_eq]
  generalize (lg_sl ([.ref aC, .int x1, .int x2]) ++ List.replicate (3 - (lg_sl ([.ref aC, .int x1, .int x2])).length) Slot.unset).toArray = ls at hl ⊢
  have hl : lv_has ls 3 [(0, .ref aC), (1, .int x1), (2, .int x2)] := hl
  obtain ⟨Q0, hQ0⟩ : ∃ Q0, Q0 = MQ below (vp_Si post) ([.ref aC, .int x1, .int x2]).toArray s 0 0 (fun _ => False) := ⟨_, rfl⟩
  rw [← hQ0]
  clear B
  generalize hag : ([.ref aC, .int x1, .int x2] : List Value).toArray = args at hts hQ0 ⊢
  have hi_0 : ∀ w ∈ u_ws "ClaimSources$Claims" TT_0 7, w ∈ w_C_isOn := fun w h => List.mem_cons_of_mem _ (ia_0 w h)
  have hf_15 := hts _ (List.mem_cons_of_mem _ m_65)
  unfold wp_C_isOn at hw
  refine lv_aload_n hx hb d_C_isOn_0 rfl (lv_at hl 0 rfl) ?_
  refine va_get (D := (dC, dI)) (ci := 0) (v := .ref aC_otherSets) (C := "ClaimSources$Claims") (T := TT_0) (N := 7) hx hb hts hi_0 hown hK hP 0 rfl rfl 1 (by decide) hf_15 (fun _ h9 => h9) rfl d_C_isOn_1 ?_
  refine lv_iload_n hx hb d_C_isOn_4 rfl (lv_at hl 1 rfl) ?_
  obtain ⟨h_1, hw⟩ := hw
  refine va_iald hx hb hK hP 2 0 rfl rfl h_1 d_C_isOn_5 ?_
  refine lv_iload_n hx hb d_C_isOn_6 rfl (lv_at hl 2 rfl) ?_
  have hPc := hP.sub (ws' := []) [] rfl
  refine vp_callSi ((va_runSN (As := [.int (C_otherSets x1.toNatClampNeg), .int x2]) (rest := []) ⟨hx, hb, hml, hown, hts⟩ (mt_X_contains l dC dI cI _ (C_otherSets x1.toNatClampNeg) x2 hw) ⟨va_cnB 2 hts (gd m_343) rfl rfl rfl (en_16 hE) (hts _ (List.mem_cons_of_mem _ m_1)) (by decide +kernel) ⟨Nat.le_of_ble_eq_true rfl, Nat.le_of_ble_eq_true rfl⟩, (hts _ (List.mem_cons_of_mem _ m_342)), trivial⟩ ⟨fb_r, fun U hU hW => ⟨rfl, by rw [hU]; exact hPc, va_K.moved hW.alike hK, hE.warm hW⟩⟩ rfl rfl hl.1 rfl (lv_room (Nat.le_of_ble_eq_true rfl)) d_C_isOn_7 ⟨Nat.le_of_ble_eq_true rfl, Nat.le_of_ble_eq_true rfl⟩).run) (fun r_2 hw => ?_)
  obtain ⟨hn, hw⟩ := hw
  subst hQ0
  exact W.zret (v := r_2) hx hb hr hn (fun t ht hW => ⟨_, rfl, hw, ht⟩) (fun q h => by cases h) d_C_isOn_10
def wl_C_markThoseAbove_5 (C_otherSets : Nat → Int32) (C_made : Int32) (x1 : Int32) (x2 : Int32) (post : Int32 → (Nat → Int32) → Prop) : Nat → Int32 → Int32 → (Nat → Int32) → Prop
  | 0, _, _, _ => False
  | n + 1, x3, x4, C_steps => ((C_made ≤ x4 → (post x3 C_steps)) ∧ (¬ (C_made ≤ x4) → (vp_in x4 24 ∧ (((C_steps x4.toNatClampNeg) = (-1 : Int32) → (vp_in x4 24 ∧ ((((C_otherSets x4.toNatClampNeg) &&& x1) = 0 → wl_C_markThoseAbove_5 C_otherSets C_made x1 x2 post n x3 (x4 + 1) C_steps) ∧ (¬ (((C_otherSets x4.toNatClampNeg) &&& x1) = 0) → (vp_in x4 24 ∧ (wp_X_with x3 x4 (fun r_7 => wl_C_markThoseAbove_5 C_otherSets C_made x1 x2 post n r_7 (x4 + 1) (upd C_steps x4.toNatClampNeg x2)))))))) ∧ (¬ ((C_steps x4.toNatClampNeg) = (-1 : Int32)) → wl_C_markThoseAbove_5 C_otherSets C_made x1 x2 post n x3 (x4 + 1) C_steps)))))
def wp_C_markThoseAbove (C_sourceSets : Nat → Int32) (C_otherSets : Nat → Int32) (C_rules : Nat → Int32) (C_ringClaims : Nat → Int32) (C_steps : Nat → Int32) (C_made : Int32) (C_ringLength : Int32) (x1 : Int32) (x2 : Int32) (post : Int32 → (Nat → Int32) → Prop) : Prop := (∃ n9, wl_C_markThoseAbove_5 C_otherSets C_made x1 x2 post n9 (0 : Int32) (0 : Int32) C_steps)
set_option maxHeartbeats 4000000 in
set_option maxRecDepth 100000 in
theorem mt_C_markThoseAbove (l : Launch) (dC : Nat → ClassId) (dI : Nat → Nat → Nat) (cI : ClassId) (aC : Nat) (aC_sourceSets : Nat) (aC_otherSets : Nat) (aC_rules : Nat) (aC_ringClaims : Nat) (aC_steps : Nat) (sz : Nat) (post : Int32 → (Nat → Int32) → Prop) (C_sourceSets : Nat → Int32) (C_otherSets : Nat → Int32) (C_rules : Nat → Int32) (C_ringClaims : Nat → Int32) (C_steps : Nat → Int32) (C_made : Int32) (C_ringLength : Int32) (x1 : Int32) (x2 : Int32) (hw : wp_C_markThoseAbove C_sourceSets C_otherSets C_rules C_ringClaims C_steps C_made C_ringLength x1 x2 post) : Met l y_C_markThoseAbove w_C_markThoseAbove ({ frames := 1, cells := 0, slots := 0, locals := 21 }) (va_Pc [.ref aC, .int x1, .int x2] (fun U => U.heap.size = sz ∧ va_P (dC, dI) vwCl [(aC, .inr (0, [.ref aC_sourceSets, .ref aC_otherSets, .ref aC_rules, .ref aC_ringClaims, .ref aC_steps, .int C_made, .int C_ringLength])), (aC_sourceSets, .inl (cI, 24, .inl C_sourceSets)), (aC_otherSets, .inl (cI, 24, .inl C_otherSets)), (aC_rules, .inl (cI, 24, .inl C_rules)), (aC_ringClaims, .inl (cI, 24, .inl C_ringClaims)), (aC_steps, .inl (cI, 24, .inl C_steps))] U.heap ∧ va_K (dC, dI) vwCl [(cI, .int)] U ∧ va_D (fun _ => True) [(aC, .inr (0, [.ref aC_sourceSets, .ref aC_otherSets, .ref aC_rules, .ref aC_ringClaims, .ref aC_steps, .int C_made, .int C_ringLength])), (aC_sourceSets, .inl (cI, 24, .inl C_sourceSets)), (aC_otherSets, .inl (cI, 24, .inl C_otherSets)), (aC_rules, .inl (cI, 24, .inl C_rules)), (aC_ringClaims, .inl (cI, 24, .inl C_ringClaims)), (aC_steps, .inl (cI, 24, .inl C_steps))] ∧ en_ok U)) (va_Qi (fun r (u : (Nat → Int32)) => post r u) (fun (u : (Nat → Int32)) t => va_P (dC, dI) vwCl [(aC, .inr (0, [.ref aC_sourceSets, .ref aC_otherSets, .ref aC_rules, .ref aC_ringClaims, .ref aC_steps, .int C_made, .int C_ringLength])), (aC_sourceSets, .inl (cI, 24, .inl C_sourceSets)), (aC_otherSets, .inl (cI, 24, .inl C_otherSets)), (aC_rules, .inl (cI, 24, .inl C_rules)), (aC_ringClaims, .inl (cI, 24, .inl C_ringClaims)), (aC_steps, .inl (cI, 24, .inl u))] t.heap ∧ va_D (va_A [(aC, .inr (0, [.ref aC_sourceSets, .ref aC_otherSets, .ref aC_rules, .ref aC_ringClaims, .ref aC_steps, .int C_made, .int C_ringLength])), (aC_sourceSets, .inl (cI, 24, .inl C_sourceSets)), (aC_otherSets, .inl (cI, 24, .inl C_otherSets)), (aC_rules, .inl (cI, 24, .inl C_rules)), (aC_ringClaims, .inl (cI, 24, .inl C_ringClaims)), (aC_steps, .inl (cI, 24, .inl C_steps))] sz) [(aC, .inr (0, [.ref aC_sourceSets, .ref aC_otherSets, .ref aC_rules, .ref aC_ringClaims, .ref aC_steps, .int C_made, .int C_ringLength])), (aC_sourceSets, .inl (cI, 24, .inl C_sourceSets)), (aC_otherSets, .inl (cI, 24, .inl C_otherSets)), (aC_rules, .inl (cI, 24, .inl C_rules)), (aC_ringClaims, .inl (cI, 24, .inl C_ringClaims)), (aC_steps, .inl (cI, 24, .inl u))]) (va_A [(aC, .inr (0, [.ref aC_sourceSets, .ref aC_otherSets, .ref aC_rules, .ref aC_ringClaims, .ref aC_steps, .int C_made, .int C_ringLength])), (aC_sourceSets, .inl (cI, 24, .inl C_sourceSets)), (aC_otherSets, .inl (cI, 24, .inl C_otherSets)), (aC_rules, .inl (cI, 24, .inl C_rules)), (aC_ringClaims, .inl (cI, 24, .inl C_ringClaims)), (aC_steps, .inl (cI, 24, .inl C_steps))] sz)) 0 0 (va_A [(aC, .inr (0, [.ref aC_sourceSets, .ref aC_otherSets, .ref aC_rules, .ref aC_ringClaims, .ref aC_steps, .int C_made, .int C_ringLength])), (aC_sourceSets, .inl (cI, 24, .inl C_sourceSets)), (aC_otherSets, .inl (cI, 24, .inl C_otherSets)), (aC_rules, .inl (cI, 24, .inl C_rules)), (aC_ringClaims, .inl (cI, 24, .inl C_ringClaims)), (aC_steps, .inl (cI, 24, .inl C_steps))] sz) := by
  refine Met.ofW (cc := prog_2_method_14_code) (maxL := 5) (ret := (some .int)) (by decide) rfl ?_
  intro p e s m args below meth c s₁ B hml hv
  obtain ⟨rfl, hsz, hP, hK, hD0, hE⟩ := hv
  have hx := B.exec
  have hb := B.bytes
  have hr := B.returns
  have hts := atoms_spec (ws := w_C_markThoseAbove) B.pre
  have hown : s.vm.findClass "ClaimSources$Claims" = some m.cls := findClass_of_methodNamed B.named
  have hlocks := B.notSynchronized
  subst hsz
  have hD := hD0.self (sz := s.heap.size)
  generalize hAe : va_A [(aC, .inr (0, [.ref aC_sourceSets, .ref aC_otherSets, .ref aC_rules, .ref aC_ringClaims, .ref aC_steps, .int C_made, .int C_ringLength])), (aC_sourceSets, .inl (cI, 24, .inl C_sourceSets)), (aC_otherSets, .inl (cI, 24, .inl C_otherSets)), (aC_rules, .inl (cI, 24, .inl C_rules)), (aC_ringClaims, .inl (cI, 24, .inl C_ringClaims)), (aC_steps, .inl (cI, 24, .inl C_steps))] s.heap.size = A at hD ⊢
  have hA : ∀ q : Nat, s.heap.size ≤ q → A q := fun q h => by rw [← hAe]; exact Or.inr h
  have hS : va_S A s.heap s.heap [] := va_S.rf
  have hl := lv_entry ([.ref aC, .int x1, .int x2]) (n := 5) (Nat.le_of_ble_eq_true rfl)
  rw [lg_entry_eq]
  generalize (lg_sl ([.ref aC, .int x1, .int x2]) ++ List.replicate (5 - (lg_sl ([.ref aC, .int x1, .int x2])).length) Slot.unset).toArray = ls at hl ⊢
  have hl : lv_has ls 5 [(0, .ref aC), (1, .int x1), (2, .int x2)] := hl
  obtain ⟨Q0, hQ0⟩ : ∃ Q0, Q0 = MQ below (va_Qi (fun r (u : (Nat → Int32)) => post r u) (fun (u : (Nat → Int32)) t => va_P (dC, dI) vwCl [(aC, .inr (0, [.ref aC_sourceSets, .ref aC_otherSets, .ref aC_rules, .ref aC_ringClaims, .ref aC_steps, .int C_made, .int C_ringLength])), (aC_sourceSets, .inl (cI, 24, .inl C_sourceSets)), (aC_otherSets, .inl (cI, 24, .inl C_otherSets)), (aC_rules, .inl (cI, 24, .inl C_rules)), (aC_ringClaims, .inl (cI, 24, .inl C_ringClaims)), (aC_steps, .inl (cI, 24, .inl u))] t.heap ∧ va_D A [(aC, .inr (0, [.ref aC_sourceSets, .ref aC_otherSets, .ref aC_rules, .ref aC_ringClaims, .ref aC_steps, .int C_made, .int C_ringLength])), (aC_sourceSets, .inl (cI, 24, .inl C_sourceSets)), (aC_otherSets, .inl (cI, 24, .inl C_otherSets)), (aC_rules, .inl (cI, 24, .inl C_rules)), (aC_ringClaims, .inl (cI, 24, .inl C_ringClaims)), (aC_steps, .inl (cI, 24, .inl u))]) A) ([.ref aC, .int x1, .int x2]).toArray s 0 0 A := ⟨_, rfl⟩
  rw [← hQ0]
  clear B
  generalize hag : ([.ref aC, .int x1, .int x2] : List Value).toArray = args at hts hQ0 ⊢
  have hi_0 : ∀ w ∈ u_ws "ClaimSources$Claims" TT_0 7, w ∈ w_C_markThoseAbove := fun w h => List.mem_cons_of_mem _ (ia_0 w h)
  have hf_27 := hts _ (List.mem_cons_of_mem _ m_69)
  have hf_24 := hts _ (List.mem_cons_of_mem _ m_68)
  have hf_15 := hts _ (List.mem_cons_of_mem _ m_65)
  have L5 : ∀ (x1 : Int32) (x2 : Int32) (n : Nat) (x3 : Int32) (x4 : Int32) (C_steps : Nat → Int32), wl_C_markThoseAbove_5 C_otherSets C_made x1 x2 post n x3 x4 C_steps → ∀ (H : Heap) (locs : List Loc), va_P (dC, dI) vwCl [(aC, .inr (0, [.ref aC_sourceSets, .ref aC_otherSets, .ref aC_rules, .ref aC_ringClaims, .ref aC_steps, .int C_made, .int C_ringLength])), (aC_sourceSets, .inl (cI, 24, .inl C_sourceSets)), (aC_otherSets, .inl (cI, 24, .inl C_otherSets)), (aC_rules, .inl (cI, 24, .inl C_rules)), (aC_ringClaims, .inl (cI, 24, .inl C_ringClaims)), (aC_steps, .inl (cI, 24, .inl C_steps))] H → va_D A [(aC, .inr (0, [.ref aC_sourceSets, .ref aC_otherSets, .ref aC_rules, .ref aC_ringClaims, .ref aC_steps, .int C_made, .int C_ringLength])), (aC_sourceSets, .inl (cI, 24, .inl C_sourceSets)), (aC_otherSets, .inl (cI, 24, .inl C_otherSets)), (aC_rules, .inl (cI, 24, .inl C_rules)), (aC_ringClaims, .inl (cI, 24, .inl C_ringClaims)), (aC_steps, .inl (cI, 24, .inl C_steps))] → va_S A s.heap H locs → ∀ (ls : Array Slot), lv_has ls 5 [(0, .ref aC), (1, .int x1), (2, .int x2), (3, .int x3), (4, .int x4)] → W p l e (headSpec w_C_markThoseAbove ({ frames := 1, cells := 0, slots := 0, locals := 21 })).room s m args below meth c H locs 0 0 Q0 (F0 m 5 ls []) := by
    intro x1 x2
    intro n
    induction n with
    | zero =>
      intro x3 x4 C_steps hw
      exact False.elim hw
    | succ n ih =>
      intro x3 x4 C_steps hw H locs hP hD hS ls hl
      unfold wl_C_markThoseAbove_5 at hw
      refine lv_iload hx hb d_C_markThoseAbove_5 (lv_at hl 4 rfl) ?_
      refine lv_aload_n hx hb d_C_markThoseAbove_7 rfl (lv_at hl 0 rfl) ?_
      refine va_get (D := (dC, dI)) (ci := 0) (v := .int C_made) (C := "ClaimSources$Claims") (T := TT_0) (N := 7) hx hb hts hi_0 hown hK hP 0 rfl rfl 5 (by decide) hf_27 (fun _ h9 => h9) rfl d_C_markThoseAbove_8 ?_
      refine lv_icmp_ge (tgt := 58) hx hb d_C_markThoseAbove_11 (by decide) (fun c_1 => ?_) (fun c_1 => ?_)
      · have hw := hw.1 c_1
        refine lv_iload_n hx hb d_C_markThoseAbove_58 rfl (lv_at hl 3 rfl) ?_
        subst hQ0
        have hP9 := hP.sub (ws' := [(aC, .inr (0, [.ref aC_sourceSets, .ref aC_otherSets, .ref aC_rules, .ref aC_ringClaims, .ref aC_steps, .int C_made, .int C_ringLength])), (aC_sourceSets, .inl (cI, 24, .inl C_sourceSets)), (aC_otherSets, .inl (cI, 24, .inl C_otherSets)), (aC_rules, .inl (cI, 24, .inl C_rules)), (aC_ringClaims, .inl (cI, 24, .inl C_ringClaims)), (aC_steps, .inl (cI, 24, .inl C_steps))]) [0, 1, 2, 3, 4, 5] rfl
        have hD9 := hD.sub (ws' := [(aC, .inr (0, [.ref aC_sourceSets, .ref aC_otherSets, .ref aC_rules, .ref aC_ringClaims, .ref aC_steps, .int C_made, .int C_ringLength])), (aC_sourceSets, .inl (cI, 24, .inl C_sourceSets)), (aC_otherSets, .inl (cI, 24, .inl C_otherSets)), (aC_rules, .inl (cI, 24, .inl C_rules)), (aC_ringClaims, .inl (cI, 24, .inl C_ringClaims)), (aC_steps, .inl (cI, 24, .inl C_steps))]) [0, 1, 2, 3, 4, 5] (by decide) rfl
        exact W.iret (v := x3) hx hb hr (fun t ht hW => ⟨⟨_, (C_steps), rfl, hw, by rw [ht]; exact hP9, hD9⟩, hS.F ht⟩) hS.2.2 d_C_markThoseAbove_59
      · have hw := hw.2 c_1
        refine lv_aload_n hx hb d_C_markThoseAbove_14 rfl (lv_at hl 0 rfl) ?_
        refine va_get (D := (dC, dI)) (ci := 0) (v := .ref aC_steps) (C := "ClaimSources$Claims") (T := TT_0) (N := 7) hx hb hts hi_0 hown hK hP 0 rfl rfl 4 (by decide) hf_24 (fun _ h9 => h9) rfl d_C_markThoseAbove_15 ?_
        refine lv_iload hx hb d_C_markThoseAbove_18 (lv_at hl 4 rfl) ?_
        obtain ⟨h_2, hw⟩ := hw
        refine va_iald hx hb hK hP 5 0 rfl rfl h_2 d_C_markThoseAbove_20 ?_
        refine lv_iconst (v := -1) hx hb d_C_markThoseAbove_21 (by decide) ?_
        refine lv_icmp_ne (tgt := 52) hx hb d_C_markThoseAbove_22 (by decide) (fun c_3 => ?_) (fun c_3 => ?_)
        · have hw := hw.2 c_3
          refine lv_iinc (v := x4 + 1) (lv' := [(4, .int (x4 + 1)), (0, .ref aC), (1, .int x1), (2, .int x2), (3, .int x3)]) hx hb d_C_markThoseAbove_52 hl (k := 4) rfl rfl (by decide) rfl (fun ls hl => ?_)
          refine lv_goto (tgt := 5) hx hb d_C_markThoseAbove_55 (by decide) ?_
          exact ih x3 (x4 + 1) C_steps hw _ _ (hP.sub [0, 1, 2, 3, 4, 5] rfl) (hD.sub [0, 1, 2, 3, 4, 5] (by decide) rfl) hS ls (lv_sub hl [1, 2, 3, 4, 0] rfl)
        · have hw := hw.1 c_3
          refine lv_aload_n hx hb d_C_markThoseAbove_25 rfl (lv_at hl 0 rfl) ?_
          refine va_get (D := (dC, dI)) (ci := 0) (v := .ref aC_otherSets) (C := "ClaimSources$Claims") (T := TT_0) (N := 7) hx hb hts hi_0 hown hK hP 0 rfl rfl 1 (by decide) hf_15 (fun _ h9 => h9) rfl d_C_markThoseAbove_26 ?_
          refine lv_iload hx hb d_C_markThoseAbove_29 (lv_at hl 4 rfl) ?_
          obtain ⟨h_4, hw⟩ := hw
          refine va_iald hx hb hK hP 2 0 rfl rfl h_4 d_C_markThoseAbove_31 ?_
          refine lv_iload_n hx hb d_C_markThoseAbove_32 rfl (lv_at hl 1 rfl) ?_
          refine lv_iand hx hb d_C_markThoseAbove_33 ?_
          refine lv_if_eq (tgt := 52) hx hb d_C_markThoseAbove_34 (by decide) (fun c_5 => ?_) (fun c_5 => ?_)
          · have hw := hw.1 c_5
            refine lv_iinc (v := x4 + 1) (lv' := [(4, .int (x4 + 1)), (0, .ref aC), (1, .int x1), (2, .int x2), (3, .int x3)]) hx hb d_C_markThoseAbove_52 hl (k := 4) rfl rfl (by decide) rfl (fun ls hl => ?_)
            refine lv_goto (tgt := 5) hx hb d_C_markThoseAbove_55 (by decide) ?_
            exact ih x3 (x4 + 1) C_steps hw _ _ (hP.sub [0, 1, 2, 3, 4, 5] rfl) (hD.sub [0, 1, 2, 3, 4, 5] (by decide) rfl) hS ls (lv_sub hl [1, 2, 3, 4, 0] rfl)
          · have hw := hw.2 c_5
            refine lv_aload_n hx hb d_C_markThoseAbove_37 rfl (lv_at hl 0 rfl) ?_
            refine va_get (D := (dC, dI)) (ci := 0) (v := .ref aC_steps) (C := "ClaimSources$Claims") (T := TT_0) (N := 7) hx hb hts hi_0 hown hK hP 0 rfl rfl 4 (by decide) hf_24 (fun _ h9 => h9) rfl d_C_markThoseAbove_38 ?_
            refine lv_iload hx hb d_C_markThoseAbove_41 (lv_at hl 4 rfl) ?_
            refine lv_iload_n hx hb d_C_markThoseAbove_43 rfl (lv_at hl 2 rfl) ?_
            obtain ⟨h_6, hw⟩ := hw
            refine va_iast hx hb hK hP hD hS 5 0 rfl rfl h_6 d_C_markThoseAbove_44 (fun H locs hP hD hS => ?_)
            have hP : va_P (dC, dI) vwCl [(aC, .inr (0, [.ref aC_sourceSets, .ref aC_otherSets, .ref aC_rules, .ref aC_ringClaims, .ref aC_steps, .int C_made, .int C_ringLength])), (aC_sourceSets, .inl (cI, 24, .inl C_sourceSets)), (aC_otherSets, .inl (cI, 24, .inl C_otherSets)), (aC_rules, .inl (cI, 24, .inl C_rules)), (aC_ringClaims, .inl (cI, 24, .inl C_ringClaims)), (aC_steps, .inl (cI, 24, .inl (upd C_steps x4.toNatClampNeg x2)))] H := hP
            have hD : va_D A [(aC, .inr (0, [.ref aC_sourceSets, .ref aC_otherSets, .ref aC_rules, .ref aC_ringClaims, .ref aC_steps, .int C_made, .int C_ringLength])), (aC_sourceSets, .inl (cI, 24, .inl C_sourceSets)), (aC_otherSets, .inl (cI, 24, .inl C_otherSets)), (aC_rules, .inl (cI, 24, .inl C_rules)), (aC_ringClaims, .inl (cI, 24, .inl C_ringClaims)), (aC_steps, .inl (cI, 24, .inl (upd C_steps x4.toNatClampNeg x2)))] := hD
            refine lv_iload_n hx hb d_C_markThoseAbove_45 rfl (lv_at hl 3 rfl) ?_
            refine lv_iload hx hb d_C_markThoseAbove_46 (lv_at hl 4 rfl) ?_
            have hPc := hP.sub (ws' := []) [] rfl
            refine vp_callSi ((va_runSN (As := [.int x3, .int x4]) (rest := []) ⟨hx, hb, hml, hown, hts⟩ (mt_X_with l dC dI cI _ x3 x4 hw) ⟨va_cnB 2 hts (gd m_326) rfl rfl rfl (en_15 hE) (hts _ (List.mem_cons_of_mem _ m_1)) (by decide +kernel) ⟨Nat.le_of_ble_eq_true rfl, Nat.le_of_ble_eq_true rfl⟩, (hts _ (List.mem_cons_of_mem _ m_325)), trivial⟩ ⟨fb_r, fun U hU hW => ⟨rfl, by rw [hU]; exact hPc, va_K.moved hW.alike hK, hE.warm hW⟩⟩ rfl rfl hl.1 rfl (lv_room (Nat.le_of_ble_eq_true rfl)) d_C_markThoseAbove_48 ⟨Nat.le_of_ble_eq_true rfl, Nat.le_of_ble_eq_true rfl⟩).run) (fun r_7 hw => ?_)
            refine lv_istore_n (lv' := [(3, .int r_7), (0, .ref aC), (1, .int x1), (2, .int x2), (4, .int x4)]) hx hb d_C_markThoseAbove_51 rfl hl (by decide) rfl (fun ls hl => ?_)
            refine lv_iinc (v := x4 + 1) (lv' := [(4, .int (x4 + 1)), (3, .int r_7), (0, .ref aC), (1, .int x1), (2, .int x2)]) hx hb d_C_markThoseAbove_52 hl (k := 4) rfl rfl (by decide) rfl (fun ls hl => ?_)
            refine lv_goto (tgt := 5) hx hb d_C_markThoseAbove_55 (by decide) ?_
            exact ih r_7 (x4 + 1) (upd C_steps x4.toNatClampNeg x2) hw _ _ (hP.sub [0, 1, 2, 3, 4, 5] rfl) (hD.sub [0, 1, 2, 3, 4, 5] (by decide) rfl) hS ls (lv_sub hl [2, 3, 4, 1, 0] rfl)
  unfold wp_C_markThoseAbove at hw
  refine lv_iconst (v := 0) hx hb d_C_markThoseAbove_0 (by decide) ?_
  refine lv_istore_n (lv' := [(3, .int (0 : Int32)), (0, .ref aC), (1, .int x1), (2, .int x2)]) hx hb d_C_markThoseAbove_1 rfl hl (by decide) rfl (fun ls hl => ?_)
  refine lv_iconst (v := 0) hx hb d_C_markThoseAbove_2 (by decide) ?_
  refine lv_istore (lv' := [(4, .int (0 : Int32)), (3, .int (0 : Int32)), (0, .ref aC), (1, .int x1), (2, .int x2)]) hx hb d_C_markThoseAbove_3 hl (by decide) rfl (fun ls hl => ?_)
  obtain ⟨n_8, hw⟩ := hw
  exact L5 x1 x2 n_8 (0 : Int32) (0 : Int32) C_steps hw _ _ (hP.sub [0, 1, 2, 3, 4, 5] rfl) (hD.sub [0, 1, 2, 3, 4, 5] (by decide) rfl) hS ls (lv_sub hl [2, 3, 4, 1, 0] rfl)
def wl_C_measureStepsTo_23 (C_sourceSets : Nat → Int32) (C_otherSets : Nat → Int32) (C_rules : Nat → Int32) (C_ringClaims : Nat → Int32) (C_made : Int32) (C_ringLength : Int32) (post : (Nat → Int32) → Prop) : Nat → Int32 → Int32 → (Nat → Int32) → Prop
  | 0, _, _, _ => False
  | n + 1, x2, x3, C_steps => (((24 : Int32) ≤ x3 → (post C_steps)) ∧ (¬ ((24 : Int32) ≤ x3) → ((x2 = 0 → (post C_steps)) ∧ (¬ (x2 = 0) → (wp_C_markThoseAbove C_sourceSets C_otherSets C_rules C_ringClaims C_steps C_made C_ringLength x2 x3 (fun r_3 u_4 => wl_C_measureStepsTo_23 C_sourceSets C_otherSets C_rules C_ringClaims C_made C_ringLength post n r_3 (x3 + 1) u_4))))))
def wp_C_measureStepsTo (C_sourceSets : Nat → Int32) (C_otherSets : Nat → Int32) (C_rules : Nat → Int32) (C_ringClaims : Nat → Int32) (C_steps : Nat → Int32) (C_made : Int32) (C_ringLength : Int32) (x1 : Int32) (post : (Nat → Int32) → Prop) : Prop := (wp_J_fill 24 C_steps (-1 : Int32) (fun u_5 => (vp_in x1 24 ∧ (wp_X_with (0 : Int32) x1 (fun r_7 => (∃ n9, wl_C_measureStepsTo_23 C_sourceSets C_otherSets C_rules C_ringClaims C_made C_ringLength post n9 r_7 (1 : Int32) (upd u_5 x1.toNatClampNeg (0 : Int32))))))))
set_option maxHeartbeats 4000000 in
set_option maxRecDepth 100000 in
theorem mt_C_measureStepsTo (l : Launch) (dC : Nat → ClassId) (dI : Nat → Nat → Nat) (cI : ClassId) (aC : Nat) (aC_sourceSets : Nat) (aC_otherSets : Nat) (aC_rules : Nat) (aC_ringClaims : Nat) (aC_steps : Nat) (sz : Nat) (post : (Nat → Int32) → Prop) (C_sourceSets : Nat → Int32) (C_otherSets : Nat → Int32) (C_rules : Nat → Int32) (C_ringClaims : Nat → Int32) (C_steps : Nat → Int32) (C_made : Int32) (C_ringLength : Int32) (x1 : Int32) (hw : wp_C_measureStepsTo C_sourceSets C_otherSets C_rules C_ringClaims C_steps C_made C_ringLength x1 post) : Met l y_C_measureStepsTo w_C_measureStepsTo ({ frames := 2, cells := 0, slots := 0, locals := 45 }) (va_Pc [.ref aC, .int x1] (fun U => U.heap.size = sz ∧ va_P (dC, dI) vwCl [(aC, .inr (0, [.ref aC_sourceSets, .ref aC_otherSets, .ref aC_rules, .ref aC_ringClaims, .ref aC_steps, .int C_made, .int C_ringLength])), (aC_sourceSets, .inl (cI, 24, .inl C_sourceSets)), (aC_otherSets, .inl (cI, 24, .inl C_otherSets)), (aC_rules, .inl (cI, 24, .inl C_rules)), (aC_ringClaims, .inl (cI, 24, .inl C_ringClaims)), (aC_steps, .inl (cI, 24, .inl C_steps))] U.heap ∧ va_K (dC, dI) vwCl [(cI, .int)] U ∧ va_D (fun _ => True) [(aC, .inr (0, [.ref aC_sourceSets, .ref aC_otherSets, .ref aC_rules, .ref aC_ringClaims, .ref aC_steps, .int C_made, .int C_ringLength])), (aC_sourceSets, .inl (cI, 24, .inl C_sourceSets)), (aC_otherSets, .inl (cI, 24, .inl C_otherSets)), (aC_rules, .inl (cI, 24, .inl C_rules)), (aC_ringClaims, .inl (cI, 24, .inl C_ringClaims)), (aC_steps, .inl (cI, 24, .inl C_steps))] ∧ en_ok U)) (va_Qv (fun (u : (Nat → Int32)) => post u) (fun (u : (Nat → Int32)) t => va_P (dC, dI) vwCl [(aC, .inr (0, [.ref aC_sourceSets, .ref aC_otherSets, .ref aC_rules, .ref aC_ringClaims, .ref aC_steps, .int C_made, .int C_ringLength])), (aC_sourceSets, .inl (cI, 24, .inl C_sourceSets)), (aC_otherSets, .inl (cI, 24, .inl C_otherSets)), (aC_rules, .inl (cI, 24, .inl C_rules)), (aC_ringClaims, .inl (cI, 24, .inl C_ringClaims)), (aC_steps, .inl (cI, 24, .inl u))] t.heap ∧ va_D (va_A [(aC, .inr (0, [.ref aC_sourceSets, .ref aC_otherSets, .ref aC_rules, .ref aC_ringClaims, .ref aC_steps, .int C_made, .int C_ringLength])), (aC_sourceSets, .inl (cI, 24, .inl C_sourceSets)), (aC_otherSets, .inl (cI, 24, .inl C_otherSets)), (aC_rules, .inl (cI, 24, .inl C_rules)), (aC_ringClaims, .inl (cI, 24, .inl C_ringClaims)), (aC_steps, .inl (cI, 24, .inl C_steps))] sz) [(aC, .inr (0, [.ref aC_sourceSets, .ref aC_otherSets, .ref aC_rules, .ref aC_ringClaims, .ref aC_steps, .int C_made, .int C_ringLength])), (aC_sourceSets, .inl (cI, 24, .inl C_sourceSets)), (aC_otherSets, .inl (cI, 24, .inl C_otherSets)), (aC_rules, .inl (cI, 24, .inl C_rules)), (aC_ringClaims, .inl (cI, 24, .inl C_ringClaims)), (aC_steps, .inl (cI, 24, .inl u))]) (va_A [(aC, .inr (0, [.ref aC_sourceSets, .ref aC_otherSets, .ref aC_rules, .ref aC_ringClaims, .ref aC_steps, .int C_made, .int C_ringLength])), (aC_sourceSets, .inl (cI, 24, .inl C_sourceSets)), (aC_otherSets, .inl (cI, 24, .inl C_otherSets)), (aC_rules, .inl (cI, 24, .inl C_rules)), (aC_ringClaims, .inl (cI, 24, .inl C_ringClaims)), (aC_steps, .inl (cI, 24, .inl C_steps))] sz)) 0 0 (va_A [(aC, .inr (0, [.ref aC_sourceSets, .ref aC_otherSets, .ref aC_rules, .ref aC_ringClaims, .ref aC_steps, .int C_made, .int C_ringLength])), (aC_sourceSets, .inl (cI, 24, .inl C_sourceSets)), (aC_otherSets, .inl (cI, 24, .inl C_otherSets)), (aC_rules, .inl (cI, 24, .inl C_rules)), (aC_ringClaims, .inl (cI, 24, .inl C_ringClaims)), (aC_steps, .inl (cI, 24, .inl C_steps))] sz) := by
  refine Met.ofW (cc := prog_2_method_13_code) (maxL := 4) (ret := none) (by decide) rfl ?_
  intro p e s m args below meth c s₁ B hml hv
  obtain ⟨rfl, hsz, hP, hK, hD0, hE⟩ := hv
  have hx := B.exec
  have hb := B.bytes
  have hr := B.returns
  have hts := atoms_spec (ws := w_C_measureStepsTo) B.pre
  have hown : s.vm.findClass "ClaimSources$Claims" = some m.cls := findClass_of_methodNamed B.named
  have hlocks := B.notSynchronized
  subst hsz
  have hD := hD0.self (sz := s.heap.size)
  generalize hAe : va_A [(aC, .inr (0, [.ref aC_sourceSets, .ref aC_otherSets, .ref aC_rules, .ref aC_ringClaims, .ref aC_steps, .int C_made, .int C_ringLength])), (aC_sourceSets, .inl (cI, 24, .inl C_sourceSets)), (aC_otherSets, .inl (cI, 24, .inl C_otherSets)), (aC_rules, .inl (cI, 24, .inl C_rules)), (aC_ringClaims, .inl (cI, 24, .inl C_ringClaims)), (aC_steps, .inl (cI, 24, .inl C_steps))] s.heap.size = A at hD ⊢
  have hA : ∀ q : Nat, s.heap.size ≤ q → A q := fun q h => by rw [← hAe]; exact Or.inr h
  have hS : va_S A s.heap s.heap [] := va_S.rf
  have hl := lv_entry ([.ref aC, .int x1]) (n := 4) (Nat.le_of_ble_eq_true rfl)
  rw [lg_entry_eq]
  generalize (lg_sl ([.ref aC, .int x1]) ++ List.replicate (4 - (lg_sl ([.ref aC, .int x1])).length) Slot.unset).toArray = ls at hl ⊢
  have hl : lv_has ls 4 [(0, .ref aC), (1, .int x1)] := hl
  obtain ⟨Q0, hQ0⟩ : ∃ Q0, Q0 = MQ below (va_Qv (fun (u : (Nat → Int32)) => post u) (fun (u : (Nat → Int32)) t => va_P (dC, dI) vwCl [(aC, .inr (0, [.ref aC_sourceSets, .ref aC_otherSets, .ref aC_rules, .ref aC_ringClaims, .ref aC_steps, .int C_made, .int C_ringLength])), (aC_sourceSets, .inl (cI, 24, .inl C_sourceSets)), (aC_otherSets, .inl (cI, 24, .inl C_otherSets)), (aC_rules, .inl (cI, 24, .inl C_rules)), (aC_ringClaims, .inl (cI, 24, .inl C_ringClaims)), (aC_steps, .inl (cI, 24, .inl u))] t.heap ∧ va_D A [(aC, .inr (0, [.ref aC_sourceSets, .ref aC_otherSets, .ref aC_rules, .ref aC_ringClaims, .ref aC_steps, .int C_made, .int C_ringLength])), (aC_sourceSets, .inl (cI, 24, .inl C_sourceSets)), (aC_otherSets, .inl (cI, 24, .inl C_otherSets)), (aC_rules, .inl (cI, 24, .inl C_rules)), (aC_ringClaims, .inl (cI, 24, .inl C_ringClaims)), (aC_steps, .inl (cI, 24, .inl u))]) A) ([.ref aC, .int x1]).toArray s 0 0 A := ⟨_, rfl⟩
  rw [← hQ0]
  clear B
  generalize hag : ([.ref aC, .int x1] : List Value).toArray = args at hts hQ0 ⊢
  have hi_0 : ∀ w ∈ u_ws "ClaimSources$Claims" TT_0 7, w ∈ w_C_measureStepsTo := fun w h => List.mem_cons_of_mem _ (ia_0 w h)
  have hf_24 := hts _ (List.mem_cons_of_mem _ m_68)
  have L23 : ∀ (n : Nat) (x2 : Int32) (x3 : Int32) (C_steps : Nat → Int32), wl_C_measureStepsTo_23 C_sourceSets C_otherSets C_rules C_ringClaims C_made C_ringLength post n x2 x3 C_steps → ∀ (H : Heap) (locs : List Loc), va_P (dC, dI) vwCl [(aC, .inr (0, [.ref aC_sourceSets, .ref aC_otherSets, .ref aC_rules, .ref aC_ringClaims, .ref aC_steps, .int C_made, .int C_ringLength])), (aC_sourceSets, .inl (cI, 24, .inl C_sourceSets)), (aC_otherSets, .inl (cI, 24, .inl C_otherSets)), (aC_rules, .inl (cI, 24, .inl C_rules)), (aC_ringClaims, .inl (cI, 24, .inl C_ringClaims)), (aC_steps, .inl (cI, 24, .inl C_steps))] H → va_D A [(aC, .inr (0, [.ref aC_sourceSets, .ref aC_otherSets, .ref aC_rules, .ref aC_ringClaims, .ref aC_steps, .int C_made, .int C_ringLength])), (aC_sourceSets, .inl (cI, 24, .inl C_sourceSets)), (aC_otherSets, .inl (cI, 24, .inl C_otherSets)), (aC_rules, .inl (cI, 24, .inl C_rules)), (aC_ringClaims, .inl (cI, 24, .inl C_ringClaims)), (aC_steps, .inl (cI, 24, .inl C_steps))] → va_S A s.heap H locs → ∀ (ls : Array Slot), lv_has ls 4 [(0, .ref aC), (2, .int x2), (3, .int x3)] → W p l e (headSpec w_C_measureStepsTo ({ frames := 2, cells := 0, slots := 0, locals := 45 })).room s m args below meth c H locs 0 0 Q0 (F0 m 23 ls []) := by
    intro n
    induction n with
    | zero =>
      intro x2 x3 C_steps hw
      exact False.elim hw
    | succ n ih =>
      intro x2 x3 C_steps hw H locs hP hD hS ls hl
      unfold wl_C_measureStepsTo_23 at hw
      refine lv_iload_n hx hb d_C_measureStepsTo_23 rfl (lv_at hl 2 rfl) ?_
      refine lv_bipush (v := 24) hx hb d_C_measureStepsTo_24 (by decide) ?_
      refine lv_icmp_ge (tgt := 46) hx hb d_C_measureStepsTo_26 (by decide) (fun c_1 => ?_) (fun c_1 => ?_)
      · have hw := hw.1 c_1
        subst hQ0
        have hP9 := hP.sub (ws' := [(aC, .inr (0, [.ref aC_sourceSets, .ref aC_otherSets, .ref aC_rules, .ref aC_ringClaims, .ref aC_steps, .int C_made, .int C_ringLength])), (aC_sourceSets, .inl (cI, 24, .inl C_sourceSets)), (aC_otherSets, .inl (cI, 24, .inl C_otherSets)), (aC_rules, .inl (cI, 24, .inl C_rules)), (aC_ringClaims, .inl (cI, 24, .inl C_ringClaims)), (aC_steps, .inl (cI, 24, .inl C_steps))]) [0, 1, 2, 3, 4, 5] rfl
        have hD9 := hD.sub (ws' := [(aC, .inr (0, [.ref aC_sourceSets, .ref aC_otherSets, .ref aC_rules, .ref aC_ringClaims, .ref aC_steps, .int C_made, .int C_ringLength])), (aC_sourceSets, .inl (cI, 24, .inl C_sourceSets)), (aC_otherSets, .inl (cI, 24, .inl C_otherSets)), (aC_rules, .inl (cI, 24, .inl C_rules)), (aC_ringClaims, .inl (cI, 24, .inl C_ringClaims)), (aC_steps, .inl (cI, 24, .inl C_steps))]) [0, 1, 2, 3, 4, 5] (by decide) rfl
        exact W.vret hx hb hr (fun t ht hW => ⟨⟨(C_steps), rfl, hw, by rw [ht]; exact hP9, hD9⟩, hS.F ht⟩) hS.2.2 d_C_measureStepsTo_46
      · have hw := hw.2 c_1
        refine lv_iload_n hx hb d_C_measureStepsTo_29 rfl (lv_at hl 1 rfl) ?_
        refine lv_if_eq (tgt := 46) hx hb d_C_measureStepsTo_30 (by decide) (fun c_2 => ?_) (fun c_2 => ?_)
        · have hw := hw.1 c_2
          subst hQ0
          have hP9 := hP.sub (ws' := [(aC, .inr (0, [.ref aC_sourceSets, .ref aC_otherSets, .ref aC_rules, .ref aC_ringClaims, .ref aC_steps, .int C_made, .int C_ringLength])), (aC_sourceSets, .inl (cI, 24, .inl C_sourceSets)), (aC_otherSets, .inl (cI, 24, .inl C_otherSets)), (aC_rules, .inl (cI, 24, .inl C_rules)), (aC_ringClaims, .inl (cI, 24, .inl C_ringClaims)), (aC_steps, .inl (cI, 24, .inl C_steps))]) [0, 1, 2, 3, 4, 5] rfl
          have hD9 := hD.sub (ws' := [(aC, .inr (0, [.ref aC_sourceSets, .ref aC_otherSets, .ref aC_rules, .ref aC_ringClaims, .ref aC_steps, .int C_made, .int C_ringLength])), (aC_sourceSets, .inl (cI, 24, .inl C_sourceSets)), (aC_otherSets, .inl (cI, 24, .inl C_otherSets)), (aC_rules, .inl (cI, 24, .inl C_rules)), (aC_ringClaims, .inl (cI, 24, .inl C_ringClaims)), (aC_steps, .inl (cI, 24, .inl C_steps))]) [0, 1, 2, 3, 4, 5] (by decide) rfl
          exact W.vret hx hb hr (fun t ht hW => ⟨⟨(C_steps), rfl, hw, by rw [ht]; exact hP9, hD9⟩, hS.F ht⟩) hS.2.2 d_C_measureStepsTo_46
        · have hw := hw.2 c_2
          refine lv_aload_n hx hb d_C_measureStepsTo_33 rfl (lv_at hl 0 rfl) ?_
          refine lv_iload_n hx hb d_C_measureStepsTo_34 rfl (lv_at hl 1 rfl) ?_
          refine lv_iload_n hx hb d_C_measureStepsTo_35 rfl (lv_at hl 2 rfl) ?_
          have hPc := hP.sub (ws' := [(aC, .inr (0, [.ref aC_sourceSets, .ref aC_otherSets, .ref aC_rules, .ref aC_ringClaims, .ref aC_steps, .int C_made, .int C_ringLength])), (aC_sourceSets, .inl (cI, 24, .inl C_sourceSets)), (aC_otherSets, .inl (cI, 24, .inl C_otherSets)), (aC_rules, .inl (cI, 24, .inl C_rules)), (aC_ringClaims, .inl (cI, 24, .inl C_ringClaims)), (aC_steps, .inl (cI, 24, .inl C_steps))]) [0, 1, 2, 3, 4, 5] rfl
          have hDc := hD.sub (ws' := [(aC, .inr (0, [.ref aC_sourceSets, .ref aC_otherSets, .ref aC_rules, .ref aC_ringClaims, .ref aC_steps, .int C_made, .int C_ringLength])), (aC_sourceSets, .inl (cI, 24, .inl C_sourceSets)), (aC_otherSets, .inl (cI, 24, .inl C_otherSets)), (aC_rules, .inl (cI, 24, .inl C_rules)), (aC_ringClaims, .inl (cI, 24, .inl C_ringClaims)), (aC_steps, .inl (cI, 24, .inl C_steps))]) [0, 1, 2, 3, 4, 5] (by decide) rfl
          have hFc := va_free (wc := [(aC, .inr (0, [.ref aC_sourceSets, .ref aC_otherSets, .ref aC_rules, .ref aC_ringClaims, .ref aC_steps, .int C_made, .int C_ringLength])), (aC_sourceSets, .inl (cI, 24, .inl C_sourceSets)), (aC_otherSets, .inl (cI, 24, .inl C_otherSets)), (aC_rules, .inl (cI, 24, .inl C_rules)), (aC_ringClaims, .inl (cI, 24, .inl C_ringClaims)), (aC_steps, .inl (cI, 24, .inl C_steps))]) hD hS hA [0, 1, 2, 3, 4, 5] rfl
          refine va_calli (va_runV (As := [.int x2, .int x3]) (rest := []) ⟨hx, hb, hml, hown, hts⟩ (mt_C_markThoseAbove l dC dI cI aC aC_sourceSets aC_otherSets aC_rules aC_ringClaims aC_steps H.size _ C_sourceSets C_otherSets C_rules C_ringClaims C_steps C_made C_ringLength x2 x3 hw) (cwV 2 hts (gdV m_355 m_357 ms_4 m_4 m_358) rfl rfl rfl (by decide +kernel) ⟨Nat.le_of_ble_eq_true rfl, Nat.le_of_ble_eq_true rfl⟩) ⟨fb_w, va_recv hK hPc (ci := 0) (q0 := 0) rfl rfl, fun U hU hW => ⟨rfl, by rw [hU], by rw [hU]; exact hPc, va_K.moved hW.alike hK, hDc.weaken (fun _ _ _ _ => trivial), hE.warm hW⟩⟩ rfl rfl hl.1 rfl (lv_room (Nat.le_of_ble_eq_true rfl)) d_C_measureStepsTo_36 ⟨Nat.le_of_ble_eq_true rfl, Nat.le_of_ble_eq_true rfl⟩) hS (fun q _ h => hFc q h) hFc (fun r_3 u t H1 locs ht hvm hw hB hz1 hk1 hS => ?_)
          obtain ⟨u_4, rfl⟩ : ∃ z, z = u := ⟨_, rfl⟩
          obtain ⟨hP1, hD1⟩ := hB
          rw [ht] at hP1
          try dsimp only at hw hP1 hD1
          obtain ⟨hP, hD⟩ := va_join (wr := []) (w1 := [(aC, .inr (0, [.ref aC_sourceSets, .ref aC_otherSets, .ref aC_rules, .ref aC_ringClaims, .ref aC_steps, .int C_made, .int C_ringLength])), (aC_sourceSets, .inl (cI, 24, .inl C_sourceSets)), (aC_otherSets, .inl (cI, 24, .inl C_otherSets)), (aC_rules, .inl (cI, 24, .inl C_rules)), (aC_ringClaims, .inl (cI, 24, .inl C_ringClaims)), (aC_steps, .inl (cI, 24, .inl u_4))]) hP hD [0, 1, 2, 3, 4, 5] [] rfl rfl (by decide) (by decide) hk1 hFc hP1 hD1
          generalize H1 = H at hP hS ⊢
          have hP : va_P (dC, dI) vwCl [(aC, .inr (0, [.ref aC_sourceSets, .ref aC_otherSets, .ref aC_rules, .ref aC_ringClaims, .ref aC_steps, .int C_made, .int C_ringLength])), (aC_sourceSets, .inl (cI, 24, .inl C_sourceSets)), (aC_otherSets, .inl (cI, 24, .inl C_otherSets)), (aC_rules, .inl (cI, 24, .inl C_rules)), (aC_ringClaims, .inl (cI, 24, .inl C_ringClaims)), (aC_steps, .inl (cI, 24, .inl u_4))] H := hP
          have hD : va_D A [(aC, .inr (0, [.ref aC_sourceSets, .ref aC_otherSets, .ref aC_rules, .ref aC_ringClaims, .ref aC_steps, .int C_made, .int C_ringLength])), (aC_sourceSets, .inl (cI, 24, .inl C_sourceSets)), (aC_otherSets, .inl (cI, 24, .inl C_otherSets)), (aC_rules, .inl (cI, 24, .inl C_rules)), (aC_ringClaims, .inl (cI, 24, .inl C_ringClaims)), (aC_steps, .inl (cI, 24, .inl u_4))] := hD
          refine lv_istore_n (lv' := [(2, .int r_3), (0, .ref aC), (3, .int x3)]) hx hb d_C_measureStepsTo_39 rfl hl (by decide) rfl (fun ls hl => ?_)
          refine lv_iinc (v := x3 + 1) (lv' := [(3, .int (x3 + 1)), (2, .int r_3), (0, .ref aC)]) hx hb d_C_measureStepsTo_40 hl (k := 2) rfl rfl (by decide) rfl (fun ls hl => ?_)
          refine lv_goto (tgt := 23) hx hb d_C_measureStepsTo_43 (by decide) ?_
          exact ih r_3 (x3 + 1) u_4 hw _ _ (hP.sub [0, 1, 2, 3, 4, 5] rfl) (hD.sub [0, 1, 2, 3, 4, 5] (by decide) rfl) hS ls (lv_sub hl [2, 1, 0] rfl)
  unfold wp_C_measureStepsTo at hw
  refine lv_aload_n hx hb d_C_measureStepsTo_0 rfl (lv_at hl 0 rfl) ?_
  refine va_get (D := (dC, dI)) (ci := 0) (v := .ref aC_steps) (C := "ClaimSources$Claims") (T := TT_0) (N := 7) hx hb hts hi_0 hown hK hP 0 rfl rfl 4 (by decide) hf_24 (fun _ h9 => h9) rfl d_C_measureStepsTo_1 ?_
  refine lv_iconst (v := -1) hx hb d_C_measureStepsTo_4 (by decide) ?_
  have hPc := hP.sub (ws' := [(aC_steps, .inl (cI, 24, .inl C_steps))]) [5] rfl
  have hDc := hD.sub (ws' := [(aC_steps, .inl (cI, 24, .inl C_steps))]) [5] (by decide) rfl
  have hFc := va_free (wc := [(aC_steps, .inl (cI, 24, .inl C_steps))]) hD hS hA [5] rfl
  refine va_callv (va_runS (As := [.ref aC_steps, .int (-1 : Int32)]) (rest := []) ⟨hx, hb, hml, hown, hts⟩ (mt_J_fill l dC dI cI aC_steps s.heap.size _ 24 C_steps (-1 : Int32) hw) (va_cwS 2 hts (gdS m_352 m_353 m_14 m_354) rfl rfl rfl (by decide +kernel) ⟨Nat.le_of_ble_eq_true rfl, Nat.le_of_ble_eq_true rfl⟩) ⟨fb_w, fun U hU hW => ⟨rfl, by rw [hU], by rw [hU]; exact hPc, va_K.moved hW.alike hK, hDc.weaken (fun _ _ _ _ => trivial), hE.warm hW⟩⟩ rfl rfl hl.1 rfl (lv_room (Nat.le_of_ble_eq_true rfl)) d_C_measureStepsTo_5 ⟨Nat.le_of_ble_eq_true rfl, Nat.le_of_ble_eq_true rfl⟩) hS (fun q _ h => hFc q h) hFc (fun u t H1 locs ht hvm hw hB hz1 hk1 hS => ?_)
  obtain ⟨u_5, rfl⟩ : ∃ z, z = u := ⟨_, rfl⟩
  obtain ⟨hP1, hD1⟩ := hB
  rw [ht] at hP1
  try dsimp only at hw hP1 hD1
  obtain ⟨hP, hD⟩ := va_join (wr := [(aC, .inr (0, [.ref aC_sourceSets, .ref aC_otherSets, .ref aC_rules, .ref aC_ringClaims, .ref aC_steps, .int C_made, .int C_ringLength])), (aC_sourceSets, .inl (cI, 24, .inl C_sourceSets)), (aC_otherSets, .inl (cI, 24, .inl C_otherSets)), (aC_rules, .inl (cI, 24, .inl C_rules)), (aC_ringClaims, .inl (cI, 24, .inl C_ringClaims))]) (w1 := [(aC_steps, .inl (cI, 24, .inl u_5))]) hP hD [5] [0, 1, 2, 3, 4] rfl rfl (by decide) (by decide) hk1 hFc hP1 hD1
  generalize H1 = H at hP hS ⊢
  have hP : va_P (dC, dI) vwCl [(aC, .inr (0, [.ref aC_sourceSets, .ref aC_otherSets, .ref aC_rules, .ref aC_ringClaims, .ref aC_steps, .int C_made, .int C_ringLength])), (aC_sourceSets, .inl (cI, 24, .inl C_sourceSets)), (aC_otherSets, .inl (cI, 24, .inl C_otherSets)), (aC_rules, .inl (cI, 24, .inl C_rules)), (aC_ringClaims, .inl (cI, 24, .inl C_ringClaims)), (aC_steps, .inl (cI, 24, .inl u_5))] H := hP
  have hD : va_D A [(aC, .inr (0, [.ref aC_sourceSets, .ref aC_otherSets, .ref aC_rules, .ref aC_ringClaims, .ref aC_steps, .int C_made, .int C_ringLength])), (aC_sourceSets, .inl (cI, 24, .inl C_sourceSets)), (aC_otherSets, .inl (cI, 24, .inl C_otherSets)), (aC_rules, .inl (cI, 24, .inl C_rules)), (aC_ringClaims, .inl (cI, 24, .inl C_ringClaims)), (aC_steps, .inl (cI, 24, .inl u_5))] := hD
  refine lv_aload_n hx hb d_C_measureStepsTo_8 rfl (lv_at hl 0 rfl) ?_
  refine va_get (D := (dC, dI)) (ci := 0) (v := .ref aC_steps) (C := "ClaimSources$Claims") (T := TT_0) (N := 7) hx hb hts hi_0 hown hK hP 0 rfl rfl 4 (by decide) hf_24 (fun _ h9 => h9) rfl d_C_measureStepsTo_9 ?_
  refine lv_iload_n hx hb d_C_measureStepsTo_12 rfl (lv_at hl 1 rfl) ?_
  refine lv_iconst (v := 0) hx hb d_C_measureStepsTo_13 (by decide) ?_
  obtain ⟨h_6, hw⟩ := hw
  refine va_iast hx hb hK hP hD hS 5 0 rfl rfl h_6 d_C_measureStepsTo_14 (fun H locs hP hD hS => ?_)
  have hP : va_P (dC, dI) vwCl [(aC, .inr (0, [.ref aC_sourceSets, .ref aC_otherSets, .ref aC_rules, .ref aC_ringClaims, .ref aC_steps, .int C_made, .int C_ringLength])), (aC_sourceSets, .inl (cI, 24, .inl C_sourceSets)), (aC_otherSets, .inl (cI, 24, .inl C_otherSets)), (aC_rules, .inl (cI, 24, .inl C_rules)), (aC_ringClaims, .inl (cI, 24, .inl C_ringClaims)), (aC_steps, .inl (cI, 24, .inl (upd u_5 x1.toNatClampNeg (0 : Int32))))] H := hP
  have hD : va_D A [(aC, .inr (0, [.ref aC_sourceSets, .ref aC_otherSets, .ref aC_rules, .ref aC_ringClaims, .ref aC_steps, .int C_made, .int C_ringLength])), (aC_sourceSets, .inl (cI, 24, .inl C_sourceSets)), (aC_otherSets, .inl (cI, 24, .inl C_otherSets)), (aC_rules, .inl (cI, 24, .inl C_rules)), (aC_ringClaims, .inl (cI, 24, .inl C_ringClaims)), (aC_steps, .inl (cI, 24, .inl (upd u_5 x1.toNatClampNeg (0 : Int32))))] := hD
  refine lv_iconst (v := 0) hx hb d_C_measureStepsTo_15 (by decide) ?_
  refine lv_iload_n hx hb d_C_measureStepsTo_16 rfl (lv_at hl 1 rfl) ?_
  have hPc := hP.sub (ws' := []) [] rfl
  refine vp_callSi ((va_runSN (As := [.int (0 : Int32), .int x1]) (rest := []) ⟨hx, hb, hml, hown, hts⟩ (mt_X_with l dC dI cI _ (0 : Int32) x1 hw) ⟨va_cnB 2 hts (gd m_326) rfl rfl rfl (en_15 hE) (hts _ (List.mem_cons_of_mem _ m_1)) (by decide +kernel) ⟨Nat.le_of_ble_eq_true rfl, Nat.le_of_ble_eq_true rfl⟩, (hts _ (List.mem_cons_of_mem _ m_325)), trivial⟩ ⟨fb_r, fun U hU hW => ⟨rfl, by rw [hU]; exact hPc, va_K.moved hW.alike hK, hE.warm hW⟩⟩ rfl rfl hl.1 rfl (lv_room (Nat.le_of_ble_eq_true rfl)) d_C_measureStepsTo_17 ⟨Nat.le_of_ble_eq_true rfl, Nat.le_of_ble_eq_true rfl⟩).run) (fun r_7 hw => ?_)
  refine lv_istore_n (lv' := [(2, .int r_7), (0, .ref aC), (1, .int x1)]) hx hb d_C_measureStepsTo_20 rfl hl (by decide) rfl (fun ls hl => ?_)
  refine lv_iconst (v := 1) hx hb d_C_measureStepsTo_21 (by decide) ?_
  refine lv_istore_n (lv' := [(3, .int (1 : Int32)), (2, .int r_7), (0, .ref aC), (1, .int x1)]) hx hb d_C_measureStepsTo_22 rfl hl (by decide) rfl (fun ls hl => ?_)
  obtain ⟨n_8, hw⟩ := hw
  exact L23 n_8 r_7 (1 : Int32) (upd u_5 x1.toNatClampNeg (0 : Int32)) hw _ _ (hP.sub [0, 1, 2, 3, 4, 5] rfl) (hD.sub [0, 1, 2, 3, 4, 5] (by decide) rfl) hS ls (lv_sub hl [2, 1, 0] rfl)
def wl_C_lowestBelow_2 (C_sourceSets : Nat → Int32) (C_otherSets : Nat → Int32) (C_rules : Nat → Int32) (C_ringClaims : Nat → Int32) (C_steps : Nat → Int32) (C_made : Int32) (C_ringLength : Int32) (x1 : Int32) (x2 : Int32) (post : Int32 → Prop) : Nat → Int32 → Prop
  | 0, _ => False
  | n + 1, x3 => ((C_made ≤ x3 → (post (-1 : Int32))) ∧ (¬ (C_made ≤ x3) → (wp_C_isOn C_sourceSets C_otherSets C_rules C_ringClaims C_steps C_made C_ringLength x1 x3 (fun r_2 => ((r_2 = 0 → wl_C_lowestBelow_2 C_sourceSets C_otherSets C_rules C_ringClaims C_steps C_made C_ringLength x1 x2 post n (x3 + 1)) ∧ (¬ (r_2 = 0) → (vp_in x3 24 ∧ (((C_steps x3.toNatClampNeg) = x2 → (post x3)) ∧ (¬ ((C_steps x3.toNatClampNeg) = x2) → wl_C_lowestBelow_2 C_sourceSets C_otherSets C_rules C_ringClaims C_steps C_made C_ringLength x1 x2 post n (x3 + 1))))))))))
def wp_C_lowestBelow (C_sourceSets : Nat → Int32) (C_otherSets : Nat → Int32) (C_rules : Nat → Int32) (C_ringClaims : Nat → Int32) (C_steps : Nat → Int32) (C_made : Int32) (C_ringLength : Int32) (x1 : Int32) (x2 : Int32) (post : Int32 → Prop) : Prop := (∃ n9, wl_C_lowestBelow_2 C_sourceSets C_otherSets C_rules C_ringClaims C_steps C_made C_ringLength x1 x2 post n9 (0 : Int32))
set_option maxHeartbeats 4000000 in
set_option maxRecDepth 100000 in
theorem mt_C_lowestBelow (l : Launch) (dC : Nat → ClassId) (dI : Nat → Nat → Nat) (cI : ClassId) (aC : Nat) (aC_sourceSets : Nat) (aC_otherSets : Nat) (aC_rules : Nat) (aC_ringClaims : Nat) (aC_steps : Nat) (post : Int32 → Prop) (C_sourceSets : Nat → Int32) (C_otherSets : Nat → Int32) (C_rules : Nat → Int32) (C_ringClaims : Nat → Int32) (C_steps : Nat → Int32) (C_made : Int32) (C_ringLength : Int32) (x1 : Int32) (x2 : Int32) (hw : wp_C_lowestBelow C_sourceSets C_otherSets C_rules C_ringClaims C_steps C_made C_ringLength x1 x2 post) : Met l y_C_lowestBelow w_C_lowestBelow ({ frames := 2, cells := 0, slots := 0, locals := 43 }) (va_Pc [.ref aC, .int x1, .int x2] (fun U => va_P (dC, dI) vwCl [(aC, .inr (0, [.ref aC_sourceSets, .ref aC_otherSets, .ref aC_rules, .ref aC_ringClaims, .ref aC_steps, .int C_made, .int C_ringLength])), (aC_sourceSets, .inl (cI, 24, .inl C_sourceSets)), (aC_otherSets, .inl (cI, 24, .inl C_otherSets)), (aC_rules, .inl (cI, 24, .inl C_rules)), (aC_ringClaims, .inl (cI, 24, .inl C_ringClaims)), (aC_steps, .inl (cI, 24, .inl C_steps))] U.heap ∧ va_K (dC, dI) vwCl [(cI, .int)] U ∧ en_ok U)) (vp_Si post) 0 0 (fun _ => False) := by
  refine Met.ofW (cc := prog_2_method_15_code) (maxL := 4) (ret := (some .int)) (by decide) rfl ?_
  intro p e s m args below meth c s₁ B hml hv
  obtain ⟨rfl, hP, hK, hE⟩ := hv
  have hx := B.exec
  have hb := B.bytes
  have hr := B.returns
  have hts := atoms_spec (ws := w_C_lowestBelow) B.pre
  have hown : s.vm.findClass "ClaimSources$Claims" = some m.cls := findClass_of_methodNamed B.named
  have hlocks := B.notSynchronized
  have hl := lv_entry ([.ref aC, .int x1, .int x2]) (n := 4) (Nat.le_of_ble_eq_true rfl)
  rw [lg_entry_eq]
  generalize (lg_sl ([.ref aC, .int x1, .int x2]) ++ List.replicate (4 - (lg_sl ([.ref aC, .int x1, .int x2])).length) Slot.unset).toArray = ls at hl ⊢
  have hl : lv_has ls 4 [(0, .ref aC), (1, .int x1), (2, .int x2)] := hl
  obtain ⟨Q0, hQ0⟩ : ∃ Q0, Q0 = MQ below (vp_Si post) ([.ref aC, .int x1, .int x2]).toArray s 0 0 (fun _ => False) := ⟨_, rfl⟩
  rw [← hQ0]
  clear B
  generalize hag : ([.ref aC, .int x1, .int x2] : List Value).toArray = args at hts hQ0 ⊢
  have hi_0 : ∀ w ∈ u_ws "ClaimSources$Claims" TT_0 7, w ∈ w_C_lowestBelow := fun w h => List.mem_cons_of_mem _ (ia_0 w h)
  have hf_27 := hts _ (List.mem_cons_of_mem _ m_69)
  have hf_24 := hts _ (List.mem_cons_of_mem _ m_68)
  have L2 : ∀ (x1 : Int32) (x2 : Int32) (n : Nat) (x3 : Int32), wl_C_lowestBelow_2 C_sourceSets C_otherSets C_rules C_ringClaims C_steps C_made C_ringLength x1 x2 post n x3 → ∀ (ls : Array Slot), lv_has ls 4 [(0, .ref aC), (1, .int x1), (2, .int x2), (3, .int x3)] → W p l e (headSpec w_C_lowestBelow ({ frames := 2, cells := 0, slots := 0, locals := 43 })).room s m args below meth c s.heap [] 0 0 Q0 (F0 m 2 ls []) := by
    intro x1 x2
    intro n
    induction n with
    | zero =>
      intro x3 hw
      exact False.elim hw
    | succ n ih =>
      intro x3 hw ls hl
      unfold wl_C_lowestBelow_2 at hw
      refine lv_iload_n hx hb d_C_lowestBelow_2 rfl (lv_at hl 3 rfl) ?_
      refine lv_aload_n hx hb d_C_lowestBelow_3 rfl (lv_at hl 0 rfl) ?_
      refine va_get (D := (dC, dI)) (ci := 0) (v := .int C_made) (C := "ClaimSources$Claims") (T := TT_0) (N := 7) hx hb hts hi_0 hown hK hP 0 rfl rfl 5 (by decide) hf_27 (fun _ h9 => h9) rfl d_C_lowestBelow_4 ?_
      refine lv_icmp_ge (tgt := 37) hx hb d_C_lowestBelow_7 (by decide) (fun c_1 => ?_) (fun c_1 => ?_)
      · have hw := hw.1 c_1
        refine lv_iconst (v := -1) hx hb d_C_lowestBelow_37 (by decide) ?_
        subst hQ0
        exact W.iret (v := (-1 : Int32)) hx hb hr (fun t ht hW => ⟨_, rfl, hw, ht⟩) (fun q h => by cases h) d_C_lowestBelow_38
      · have hw := hw.2 c_1
        refine lv_aload_n hx hb d_C_lowestBelow_10 rfl (lv_at hl 0 rfl) ?_
        refine lv_iload_n hx hb d_C_lowestBelow_11 rfl (lv_at hl 1 rfl) ?_
        refine lv_iload_n hx hb d_C_lowestBelow_12 rfl (lv_at hl 3 rfl) ?_
        have hPc := hP.sub (ws' := [(aC, .inr (0, [.ref aC_sourceSets, .ref aC_otherSets, .ref aC_rules, .ref aC_ringClaims, .ref aC_steps, .int C_made, .int C_ringLength])), (aC_sourceSets, .inl (cI, 24, .inl C_sourceSets)), (aC_otherSets, .inl (cI, 24, .inl C_otherSets)), (aC_rules, .inl (cI, 24, .inl C_rules)), (aC_ringClaims, .inl (cI, 24, .inl C_ringClaims)), (aC_steps, .inl (cI, 24, .inl C_steps))]) [0, 1, 2, 3, 4, 5] rfl
        refine vp_callSi (W.runV (As := [.int x1, .int x3]) (rest := []) ⟨hx, hb, hml, hown, hts⟩ (mt_C_isOn l dC dI cI aC aC_sourceSets aC_otherSets aC_rules aC_ringClaims aC_steps _ C_sourceSets C_otherSets C_rules C_ringClaims C_steps C_made C_ringLength x1 x3 hw) (cwV 2 hts (gdV m_363 m_338 m_339 m_4 m_340) rfl rfl rfl (by decide +kernel) ⟨Nat.le_of_ble_eq_true rfl, Nat.le_of_ble_eq_true rfl⟩) ⟨fb_r, va_recv hK hPc (ci := 0) (q0 := 0) rfl rfl, fun U hU hW => ⟨rfl, by rw [hU]; exact hPc, va_K.moved hW.alike hK, hE.warm hW⟩⟩ rfl rfl hl.1 rfl (lv_room (Nat.le_of_ble_eq_true rfl)) d_C_lowestBelow_13 ⟨Nat.le_of_ble_eq_true rfl, Nat.le_of_ble_eq_true rfl⟩) (fun r_2 hw => ?_)
        refine lv_if_eq (tgt := 31) hx hb d_C_lowestBelow_16 (by decide) (fun c_3 => ?_) (fun c_3 => ?_)
        · have hw := hw.1 c_3
          refine lv_iinc (v := x3 + 1) (lv' := [(3, .int (x3 + 1)), (0, .ref aC), (1, .int x1), (2, .int x2)]) hx hb d_C_lowestBelow_31 hl (k := 3) rfl rfl (by decide) rfl (fun ls hl => ?_)
          refine lv_goto (tgt := 2) hx hb d_C_lowestBelow_34 (by decide) ?_
          exact ih (x3 + 1) hw ls (lv_sub hl [1, 2, 3, 0] rfl)
        · have hw := hw.2 c_3
          refine lv_aload_n hx hb d_C_lowestBelow_19 rfl (lv_at hl 0 rfl) ?_
          refine va_get (D := (dC, dI)) (ci := 0) (v := .ref aC_steps) (C := "ClaimSources$Claims") (T := TT_0) (N := 7) hx hb hts hi_0 hown hK hP 0 rfl rfl 4 (by decide) hf_24 (fun _ h9 => h9) rfl d_C_lowestBelow_20 ?_
          refine lv_iload_n hx hb d_C_lowestBelow_23 rfl (lv_at hl 3 rfl) ?_
          obtain ⟨h_4, hw⟩ := hw
          refine va_iald hx hb hK hP 5 0 rfl rfl h_4 d_C_lowestBelow_24 ?_
          refine lv_iload_n hx hb d_C_lowestBelow_25 rfl (lv_at hl 2 rfl) ?_
          refine lv_icmp_ne (tgt := 31) hx hb d_C_lowestBelow_26 (by decide) (fun c_5 => ?_) (fun c_5 => ?_)
          · have hw := hw.2 c_5
            refine lv_iinc (v := x3 + 1) (lv' := [(3, .int (x3 + 1)), (0, .ref aC), (1, .int x1), (2, .int x2)]) hx hb d_C_lowestBelow_31 hl (k := 3) rfl rfl (by decide) rfl (fun ls hl => ?_)
            refine lv_goto (tgt := 2) hx hb d_C_lowestBelow_34 (by decide) ?_
            exact ih (x3 + 1) hw ls (lv_sub hl [1, 2, 3, 0] rfl)
          · have hw := hw.1 c_5
            refine lv_iload_n hx hb d_C_lowestBelow_29 rfl (lv_at hl 3 rfl) ?_
            subst hQ0
            exact W.iret (v := x3) hx hb hr (fun t ht hW => ⟨_, rfl, hw, ht⟩) (fun q h => by cases h) d_C_lowestBelow_30
  unfold wp_C_lowestBelow at hw
  refine lv_iconst (v := 0) hx hb d_C_lowestBelow_0 (by decide) ?_
  refine lv_istore_n (lv' := [(3, .int (0 : Int32)), (0, .ref aC), (1, .int x1), (2, .int x2)]) hx hb d_C_lowestBelow_1 rfl hl (by decide) rfl (fun ls hl => ?_)
  obtain ⟨n_6, hw⟩ := hw
  exact L2 x1 x2 n_6 (0 : Int32) hw ls (lv_sub hl [1, 2, 3, 0] rfl)
def wl_C_tellRing_39 (C_sourceSets : Nat → Int32) (C_otherSets : Nat → Int32) (C_rules : Nat → Int32) (C_steps : Nat → Int32) (C_made : Int32) (post : Int32 → (Nat → Int32) → (Nat → Int32) → Int32 → Prop) : Nat → Int32 → Int32 → (Nat → Int32) → Int32 → Prop
  | 0, _, _, _, _ => False
  | n + 1, x3, x4, C_ringClaims, C_ringLength => ((x4 ≤ 0 → (post (1 : Int32) C_ringClaims C_steps C_ringLength)) ∧ (¬ (x4 ≤ 0) → ((x3 = (-1 : Int32) → (post (1 : Int32) C_ringClaims C_steps C_ringLength)) ∧ (¬ (x3 = (-1 : Int32)) → (vp_in C_ringLength 24 ∧ (wp_C_lowestBelow C_sourceSets C_otherSets C_rules (upd C_ringClaims C_ringLength.toNatClampNeg x3) C_steps C_made (C_ringLength + (1 : Int32)) x3 (x4 - (1 : Int32)) (fun r_4 => wl_C_tellRing_39 C_sourceSets C_otherSets C_rules C_steps C_made post n r_4 (x4 + (-1)) (upd C_ringClaims C_ringLength.toNatClampNeg x3) (C_ringLength + (1 : Int32)))))))))
def wp_C_tellRing (C_sourceSets : Nat → Int32) (C_otherSets : Nat → Int32) (C_rules : Nat → Int32) (C_ringClaims : Nat → Int32) (C_steps : Nat → Int32) (C_made : Int32) (C_ringLength : Int32) (x1 : Int32) (x2 : Int32) (post : Int32 → (Nat → Int32) → (Nat → Int32) → Int32 → Prop) : Prop := (wp_C_measureStepsTo C_sourceSets C_otherSets C_rules C_ringClaims C_steps C_made C_ringLength x1 (fun u_5 => (vp_in x2 24 ∧ (((u_5 x2.toNatClampNeg) = (-1 : Int32) → (post (0 : Int32) C_ringClaims u_5 C_ringLength)) ∧ (¬ ((u_5 x2.toNatClampNeg) = (-1 : Int32)) → (vp_in (0 : Int32) 24 ∧ (vp_in x2 24 ∧ (∃ n9, wl_C_tellRing_39 C_sourceSets C_otherSets C_rules u_5 C_made post n9 x2 (u_5 x2.toNatClampNeg) (upd C_ringClaims (0 : Int32).toNatClampNeg x1) (1 : Int32)))))))))
set_option maxHeartbeats 4000000 in
set_option maxRecDepth 100000 in
theorem mt_C_tellRing (l : Launch) (dC : Nat → ClassId) (dI : Nat → Nat → Nat) (cI : ClassId) (aC : Nat) (aC_sourceSets : Nat) (aC_otherSets : Nat) (aC_rules : Nat) (aC_ringClaims : Nat) (aC_steps : Nat) (sz : Nat) (post : Int32 → (Nat → Int32) → (Nat → Int32) → Int32 → Prop) (C_sourceSets : Nat → Int32) (C_otherSets : Nat → Int32) (C_rules : Nat → Int32) (C_ringClaims : Nat → Int32) (C_steps : Nat → Int32) (C_made : Int32) (C_ringLength : Int32) (x1 : Int32) (x2 : Int32) (hw : wp_C_tellRing C_sourceSets C_otherSets C_rules C_ringClaims C_steps C_made C_ringLength x1 x2 post) : Met l y_C_tellRing w_C_tellRing ({ frames := 3, cells := 0, slots := 0, locals := 68 }) (va_Pc [.ref aC, .int x1, .int x2] (fun U => U.heap.size = sz ∧ va_P (dC, dI) vwCl [(aC, .inr (0, [.ref aC_sourceSets, .ref aC_otherSets, .ref aC_rules, .ref aC_ringClaims, .ref aC_steps, .int C_made, .int C_ringLength])), (aC_sourceSets, .inl (cI, 24, .inl C_sourceSets)), (aC_otherSets, .inl (cI, 24, .inl C_otherSets)), (aC_rules, .inl (cI, 24, .inl C_rules)), (aC_ringClaims, .inl (cI, 24, .inl C_ringClaims)), (aC_steps, .inl (cI, 24, .inl C_steps))] U.heap ∧ va_K (dC, dI) vwCl [(cI, .int)] U ∧ va_D (fun _ => True) [(aC, .inr (0, [.ref aC_sourceSets, .ref aC_otherSets, .ref aC_rules, .ref aC_ringClaims, .ref aC_steps, .int C_made, .int C_ringLength])), (aC_sourceSets, .inl (cI, 24, .inl C_sourceSets)), (aC_otherSets, .inl (cI, 24, .inl C_otherSets)), (aC_rules, .inl (cI, 24, .inl C_rules)), (aC_ringClaims, .inl (cI, 24, .inl C_ringClaims)), (aC_steps, .inl (cI, 24, .inl C_steps))] ∧ en_ok U)) (va_Qi (fun r (u : (Nat → Int32) × (Nat → Int32) × (Int32)) => post r u.1 u.2.1 u.2.2) (fun (u : (Nat → Int32) × (Nat → Int32) × (Int32)) t => va_P (dC, dI) vwCl [(aC, .inr (0, [.ref aC_sourceSets, .ref aC_otherSets, .ref aC_rules, .ref aC_ringClaims, .ref aC_steps, .int C_made, .int u.2.2])), (aC_sourceSets, .inl (cI, 24, .inl C_sourceSets)), (aC_otherSets, .inl (cI, 24, .inl C_otherSets)), (aC_rules, .inl (cI, 24, .inl C_rules)), (aC_ringClaims, .inl (cI, 24, .inl u.1)), (aC_steps, .inl (cI, 24, .inl u.2.1))] t.heap ∧ va_D (va_A [(aC, .inr (0, [.ref aC_sourceSets, .ref aC_otherSets, .ref aC_rules, .ref aC_ringClaims, .ref aC_steps, .int C_made, .int C_ringLength])), (aC_sourceSets, .inl (cI, 24, .inl C_sourceSets)), (aC_otherSets, .inl (cI, 24, .inl C_otherSets)), (aC_rules, .inl (cI, 24, .inl C_rules)), (aC_ringClaims, .inl (cI, 24, .inl C_ringClaims)), (aC_steps, .inl (cI, 24, .inl C_steps))] sz) [(aC, .inr (0, [.ref aC_sourceSets, .ref aC_otherSets, .ref aC_rules, .ref aC_ringClaims, .ref aC_steps, .int C_made, .int u.2.2])), (aC_sourceSets, .inl (cI, 24, .inl C_sourceSets)), (aC_otherSets, .inl (cI, 24, .inl C_otherSets)), (aC_rules, .inl (cI, 24, .inl C_rules)), (aC_ringClaims, .inl (cI, 24, .inl u.1)), (aC_steps, .inl (cI, 24, .inl u.2.1))]) (va_A [(aC, .inr (0, [.ref aC_sourceSets, .ref aC_otherSets, .ref aC_rules, .ref aC_ringClaims, .ref aC_steps, .int C_made, .int C_ringLength])), (aC_sourceSets, .inl (cI, 24, .inl C_sourceSets)), (aC_otherSets, .inl (cI, 24, .inl C_otherSets)), (aC_rules, .inl (cI, 24, .inl C_rules)), (aC_ringClaims, .inl (cI, 24, .inl C_ringClaims)), (aC_steps, .inl (cI, 24, .inl C_steps))] sz)) 0 0 (va_A [(aC, .inr (0, [.ref aC_sourceSets, .ref aC_otherSets, .ref aC_rules, .ref aC_ringClaims, .ref aC_steps, .int C_made, .int C_ringLength])), (aC_sourceSets, .inl (cI, 24, .inl C_sourceSets)), (aC_otherSets, .inl (cI, 24, .inl C_otherSets)), (aC_rules, .inl (cI, 24, .inl C_rules)), (aC_ringClaims, .inl (cI, 24, .inl C_ringClaims)), (aC_steps, .inl (cI, 24, .inl C_steps))] sz) := by
  refine Met.ofW (cc := prog_2_method_12_code) (maxL := 5) (ret := (some .boolean)) (by decide) rfl ?_
  intro p e s m args below meth c s₁ B hml hv
  obtain ⟨rfl, hsz, hP, hK, hD0, hE⟩ := hv
  have hx := B.exec
  have hb := B.bytes
  have hr := B.returns
  have hts := atoms_spec (ws := w_C_tellRing) B.pre
  have hown : s.vm.findClass "ClaimSources$Claims" = some m.cls := findClass_of_methodNamed B.named
  have hlocks := B.notSynchronized
  subst hsz
  have hD := hD0.self (sz := s.heap.size)
  generalize hAe : va_A [(aC, .inr (0, [.ref aC_sourceSets, .ref aC_otherSets, .ref aC_rules, .ref aC_ringClaims, .ref aC_steps, .int C_made, .int C_ringLength])), (aC_sourceSets, .inl (cI, 24, .inl C_sourceSets)), (aC_otherSets, .inl (cI, 24, .inl C_otherSets)), (aC_rules, .inl (cI, 24, .inl C_rules)), (aC_ringClaims, .inl (cI, 24, .inl C_ringClaims)), (aC_steps, .inl (cI, 24, .inl C_steps))] s.heap.size = A at hD ⊢
  have hA : ∀ q : Nat, s.heap.size ≤ q → A q := fun q h => by rw [← hAe]; exact Or.inr h
  have hS : va_S A s.heap s.heap [] := va_S.rf
  have hl := lv_entry ([.ref aC, .int x1, .int x2]) (n := 5) (Nat.le_of_ble_eq_true rfl)
  rw [lg_entry_eq]
  generalize (lg_sl ([.ref aC, .int x1, .int x2]) ++ List.replicate (5 - (lg_sl ([.ref aC, .int x1, .int x2])).length) Slot.unset).toArray = ls at hl ⊢
  have hl : lv_has ls 5 [(0, .ref aC), (1, .int x1), (2, .int x2)] := hl
  obtain ⟨Q0, hQ0⟩ : ∃ Q0, Q0 = MQ below (va_Qi (fun r (u : (Nat → Int32) × (Nat → Int32) × (Int32)) => post r u.1 u.2.1 u.2.2) (fun (u : (Nat → Int32) × (Nat → Int32) × (Int32)) t => va_P (dC, dI) vwCl [(aC, .inr (0, [.ref aC_sourceSets, .ref aC_otherSets, .ref aC_rules, .ref aC_ringClaims, .ref aC_steps, .int C_made, .int u.2.2])), (aC_sourceSets, .inl (cI, 24, .inl C_sourceSets)), (aC_otherSets, .inl (cI, 24, .inl C_otherSets)), (aC_rules, .inl (cI, 24, .inl C_rules)), (aC_ringClaims, .inl (cI, 24, .inl u.1)), (aC_steps, .inl (cI, 24, .inl u.2.1))] t.heap ∧ va_D A [(aC, .inr (0, [.ref aC_sourceSets, .ref aC_otherSets, .ref aC_rules, .ref aC_ringClaims, .ref aC_steps, .int C_made, .int u.2.2])), (aC_sourceSets, .inl (cI, 24, .inl C_sourceSets)), (aC_otherSets, .inl (cI, 24, .inl C_otherSets)), (aC_rules, .inl (cI, 24, .inl C_rules)), (aC_ringClaims, .inl (cI, 24, .inl u.1)), (aC_steps, .inl (cI, 24, .inl u.2.1))]) A) ([.ref aC, .int x1, .int x2]).toArray s 0 0 A := ⟨_, rfl⟩
  rw [← hQ0]
  clear B
  generalize hag : ([.ref aC, .int x1, .int x2] : List Value).toArray = args at hts hQ0 ⊢
  have hi_0 : ∀ w ∈ u_ws "ClaimSources$Claims" TT_0 7, w ∈ w_C_tellRing := fun w h => List.mem_cons_of_mem _ (ia_0 w h)
  have hf_21 := hts _ (List.mem_cons_of_mem _ m_67)
  have hf_48 := hts _ (List.mem_cons_of_mem _ m_70)
  have hf_24 := hts _ (List.mem_cons_of_mem _ m_68)
  have L39 : ∀ (C_steps : Nat → Int32) (n : Nat) (x3 : Int32) (x4 : Int32) (C_ringClaims : Nat → Int32) (C_ringLength : Int32), wl_C_tellRing_39 C_sourceSets C_otherSets C_rules C_steps C_made post n x3 x4 C_ringClaims C_ringLength → ∀ (H : Heap) (locs : List Loc), va_P (dC, dI) vwCl [(aC, .inr (0, [.ref aC_sourceSets, .ref aC_otherSets, .ref aC_rules, .ref aC_ringClaims, .ref aC_steps, .int C_made, .int C_ringLength])), (aC_sourceSets, .inl (cI, 24, .inl C_sourceSets)), (aC_otherSets, .inl (cI, 24, .inl C_otherSets)), (aC_rules, .inl (cI, 24, .inl C_rules)), (aC_ringClaims, .inl (cI, 24, .inl C_ringClaims)), (aC_steps, .inl (cI, 24, .inl C_steps))] H → va_D A [(aC, .inr (0, [.ref aC_sourceSets, .ref aC_otherSets, .ref aC_rules, .ref aC_ringClaims, .ref aC_steps, .int C_made, .int C_ringLength])), (aC_sourceSets, .inl (cI, 24, .inl C_sourceSets)), (aC_otherSets, .inl (cI, 24, .inl C_otherSets)), (aC_rules, .inl (cI, 24, .inl C_rules)), (aC_ringClaims, .inl (cI, 24, .inl C_ringClaims)), (aC_steps, .inl (cI, 24, .inl C_steps))] → va_S A s.heap H locs → ∀ (ls : Array Slot), lv_has ls 5 [(0, .ref aC), (3, .int x3), (4, .int x4)] → W p l e (headSpec w_C_tellRing ({ frames := 3, cells := 0, slots := 0, locals := 68 })).room s m args below meth c H locs 0 0 Q0 (F0 m 39 ls []) := by
    intro C_steps
    intro n
    induction n with
    | zero =>
      intro x3 x4 C_ringClaims C_ringLength hw
      exact False.elim hw
    | succ n ih =>
      intro x3 x4 C_ringClaims C_ringLength hw H locs hP hD hS ls hl
      unfold wl_C_tellRing_39 at hw
      refine lv_iload hx hb d_C_tellRing_39 (lv_at hl 2 rfl) ?_
      refine lv_if_le (tgt := 85) hx hb d_C_tellRing_41 (by decide) (fun c_1 => ?_) (fun c_1 => ?_)
      · have hw := hw.1 c_1
        refine lv_iconst (v := 1) hx hb d_C_tellRing_85 (by decide) ?_
        subst hQ0
        have hP9 := hP.sub (ws' := [(aC, .inr (0, [.ref aC_sourceSets, .ref aC_otherSets, .ref aC_rules, .ref aC_ringClaims, .ref aC_steps, .int C_made, .int C_ringLength])), (aC_sourceSets, .inl (cI, 24, .inl C_sourceSets)), (aC_otherSets, .inl (cI, 24, .inl C_otherSets)), (aC_rules, .inl (cI, 24, .inl C_rules)), (aC_ringClaims, .inl (cI, 24, .inl C_ringClaims)), (aC_steps, .inl (cI, 24, .inl C_steps))]) [0, 1, 2, 3, 4, 5] rfl
        have hD9 := hD.sub (ws' := [(aC, .inr (0, [.ref aC_sourceSets, .ref aC_otherSets, .ref aC_rules, .ref aC_ringClaims, .ref aC_steps, .int C_made, .int C_ringLength])), (aC_sourceSets, .inl (cI, 24, .inl C_sourceSets)), (aC_otherSets, .inl (cI, 24, .inl C_otherSets)), (aC_rules, .inl (cI, 24, .inl C_rules)), (aC_ringClaims, .inl (cI, 24, .inl C_ringClaims)), (aC_steps, .inl (cI, 24, .inl C_steps))]) [0, 1, 2, 3, 4, 5] (by decide) rfl
        exact W.zret (v := (1 : Int32)) hx hb hr (by decide) (fun t ht hW => ⟨⟨_, (C_ringClaims, C_steps, C_ringLength), rfl, hw, by rw [ht]; exact hP9, hD9⟩, hS.F ht⟩) hS.2.2 d_C_tellRing_86
      · have hw := hw.2 c_1
        refine lv_iload_n hx hb d_C_tellRing_44 rfl (lv_at hl 1 rfl) ?_
        refine lv_iconst (v := -1) hx hb d_C_tellRing_45 (by decide) ?_
        refine lv_icmp_eq (tgt := 85) hx hb d_C_tellRing_46 (by decide) (fun c_2 => ?_) (fun c_2 => ?_)
        · have hw := hw.1 c_2
          refine lv_iconst (v := 1) hx hb d_C_tellRing_85 (by decide) ?_
          subst hQ0
          have hP9 := hP.sub (ws' := [(aC, .inr (0, [.ref aC_sourceSets, .ref aC_otherSets, .ref aC_rules, .ref aC_ringClaims, .ref aC_steps, .int C_made, .int C_ringLength])), (aC_sourceSets, .inl (cI, 24, .inl C_sourceSets)), (aC_otherSets, .inl (cI, 24, .inl C_otherSets)), (aC_rules, .inl (cI, 24, .inl C_rules)), (aC_ringClaims, .inl (cI, 24, .inl C_ringClaims)), (aC_steps, .inl (cI, 24, .inl C_steps))]) [0, 1, 2, 3, 4, 5] rfl
          have hD9 := hD.sub (ws' := [(aC, .inr (0, [.ref aC_sourceSets, .ref aC_otherSets, .ref aC_rules, .ref aC_ringClaims, .ref aC_steps, .int C_made, .int C_ringLength])), (aC_sourceSets, .inl (cI, 24, .inl C_sourceSets)), (aC_otherSets, .inl (cI, 24, .inl C_otherSets)), (aC_rules, .inl (cI, 24, .inl C_rules)), (aC_ringClaims, .inl (cI, 24, .inl C_ringClaims)), (aC_steps, .inl (cI, 24, .inl C_steps))]) [0, 1, 2, 3, 4, 5] (by decide) rfl
          exact W.zret (v := (1 : Int32)) hx hb hr (by decide) (fun t ht hW => ⟨⟨_, (C_ringClaims, C_steps, C_ringLength), rfl, hw, by rw [ht]; exact hP9, hD9⟩, hS.F ht⟩) hS.2.2 d_C_tellRing_86
        · have hw := hw.2 c_2
          refine lv_aload_n hx hb d_C_tellRing_49 rfl (lv_at hl 0 rfl) ?_
          refine va_get (D := (dC, dI)) (ci := 0) (v := .ref aC_ringClaims) (C := "ClaimSources$Claims") (T := TT_0) (N := 7) hx hb hts hi_0 hown hK hP 0 rfl rfl 3 (by decide) hf_21 (fun _ h9 => h9) rfl d_C_tellRing_50 ?_
          refine lv_aload_n hx hb d_C_tellRing_53 rfl (lv_at hl 0 rfl) ?_
          refine va_get (D := (dC, dI)) (ci := 0) (v := .int C_ringLength) (C := "ClaimSources$Claims") (T := TT_0) (N := 7) hx hb hts hi_0 hown hK hP 0 rfl rfl 6 (by decide) hf_48 (fun _ h9 => h9) rfl d_C_tellRing_54 ?_
          refine lv_iload_n hx hb d_C_tellRing_57 rfl (lv_at hl 1 rfl) ?_
          obtain ⟨h_3, hw⟩ := hw
          refine va_iast hx hb hK hP hD hS 4 0 rfl rfl h_3 d_C_tellRing_58 (fun H locs hP hD hS => ?_)
          have hP : va_P (dC, dI) vwCl [(aC, .inr (0, [.ref aC_sourceSets, .ref aC_otherSets, .ref aC_rules, .ref aC_ringClaims, .ref aC_steps, .int C_made, .int C_ringLength])), (aC_sourceSets, .inl (cI, 24, .inl C_sourceSets)), (aC_otherSets, .inl (cI, 24, .inl C_otherSets)), (aC_rules, .inl (cI, 24, .inl C_rules)), (aC_ringClaims, .inl (cI, 24, .inl (upd C_ringClaims C_ringLength.toNatClampNeg x3))), (aC_steps, .inl (cI, 24, .inl C_steps))] H := hP
          have hD : va_D A [(aC, .inr (0, [.ref aC_sourceSets, .ref aC_otherSets, .ref aC_rules, .ref aC_ringClaims, .ref aC_steps, .int C_made, .int C_ringLength])), (aC_sourceSets, .inl (cI, 24, .inl C_sourceSets)), (aC_otherSets, .inl (cI, 24, .inl C_otherSets)), (aC_rules, .inl (cI, 24, .inl C_rules)), (aC_ringClaims, .inl (cI, 24, .inl (upd C_ringClaims C_ringLength.toNatClampNeg x3))), (aC_steps, .inl (cI, 24, .inl C_steps))] := hD
          refine lv_aload_n hx hb d_C_tellRing_59 rfl (lv_at hl 0 rfl) ?_
          refine lv_dup hx hb d_C_tellRing_60 rfl ?_
          refine va_get (D := (dC, dI)) (ci := 0) (v := .int C_ringLength) (C := "ClaimSources$Claims") (T := TT_0) (N := 7) hx hb hts hi_0 hown hK hP 0 rfl rfl 6 (by decide) hf_48 (fun _ h9 => h9) rfl d_C_tellRing_61 ?_
          refine lv_iconst (v := 1) hx hb d_C_tellRing_64 (by decide) ?_
          refine lv_iadd hx hb d_C_tellRing_65 ?_
          refine va_put (D := (dC, dI)) (ci := 0) (v := .int (C_ringLength + (1 : Int32))) (ty := .int) (C := "ClaimSources$Claims") (T := TT_0) (N := 7) hx hb hts hi_0 ty_0 tyok_0 nn_0 hown hK hP hD hS 0 rfl rfl 6 (by decide) hf_48 (fun _ h9 => h9) rfl (by decide +kernel) rfl rfl (Nat.le_of_ble_eq_true rfl) d_C_tellRing_66 (fun H locs hP hD hS => ?_)
          have hP : va_P (dC, dI) vwCl [(aC, .inr (0, [.ref aC_sourceSets, .ref aC_otherSets, .ref aC_rules, .ref aC_ringClaims, .ref aC_steps, .int C_made, .int (C_ringLength + (1 : Int32))])), (aC_sourceSets, .inl (cI, 24, .inl C_sourceSets)), (aC_otherSets, .inl (cI, 24, .inl C_otherSets)), (aC_rules, .inl (cI, 24, .inl C_rules)), (aC_ringClaims, .inl (cI, 24, .inl (upd C_ringClaims C_ringLength.toNatClampNeg x3))), (aC_steps, .inl (cI, 24, .inl C_steps))] H := hP
          have hD : va_D A [(aC, .inr (0, [.ref aC_sourceSets, .ref aC_otherSets, .ref aC_rules, .ref aC_ringClaims, .ref aC_steps, .int C_made, .int (C_ringLength + (1 : Int32))])), (aC_sourceSets, .inl (cI, 24, .inl C_sourceSets)), (aC_otherSets, .inl (cI, 24, .inl C_otherSets)), (aC_rules, .inl (cI, 24, .inl C_rules)), (aC_ringClaims, .inl (cI, 24, .inl (upd C_ringClaims C_ringLength.toNatClampNeg x3))), (aC_steps, .inl (cI, 24, .inl C_steps))] := hD
          refine lv_aload_n hx hb d_C_tellRing_69 rfl (lv_at hl 0 rfl) ?_
          refine lv_iload_n hx hb d_C_tellRing_70 rfl (lv_at hl 1 rfl) ?_
          refine lv_iload hx hb d_C_tellRing_71 (lv_at hl 2 rfl) ?_
          refine lv_iconst (v := 1) hx hb d_C_tellRing_73 (by decide) ?_
          refine lv_isub hx hb d_C_tellRing_74 ?_
          have hPc := hP.sub (ws' := [(aC, .inr (0, [.ref aC_sourceSets, .ref aC_otherSets, .ref aC_rules, .ref aC_ringClaims, .ref aC_steps, .int C_made, .int (C_ringLength + (1 : Int32))])), (aC_sourceSets, .inl (cI, 24, .inl C_sourceSets)), (aC_otherSets, .inl (cI, 24, .inl C_otherSets)), (aC_rules, .inl (cI, 24, .inl C_rules)), (aC_ringClaims, .inl (cI, 24, .inl (upd C_ringClaims C_ringLength.toNatClampNeg x3))), (aC_steps, .inl (cI, 24, .inl C_steps))]) [0, 1, 2, 3, 4, 5] rfl
          refine vp_callSi (W.runV (As := [.int x3, .int (x4 - (1 : Int32))]) (rest := []) ⟨hx, hb, hml, hown, hts⟩ (mt_C_lowestBelow l dC dI cI aC aC_sourceSets aC_otherSets aC_rules aC_ringClaims aC_steps _ C_sourceSets C_otherSets C_rules (upd C_ringClaims C_ringLength.toNatClampNeg x3) C_steps C_made (C_ringLength + (1 : Int32)) x3 (x4 - (1 : Int32)) hw) (cwV 2 hts (gdV m_359 m_361 ms_5 m_4 m_362) rfl rfl rfl (by decide +kernel) ⟨Nat.le_of_ble_eq_true rfl, Nat.le_of_ble_eq_true rfl⟩) ⟨fb_r, va_recv hK hPc (ci := 0) (q0 := 0) rfl rfl, fun U hU hW => ⟨rfl, by rw [hU]; exact hPc, va_K.moved hW.alike hK, hE.warm hW⟩⟩ rfl rfl hl.1 rfl (lv_room (Nat.le_of_ble_eq_true rfl)) d_C_tellRing_75 ⟨Nat.le_of_ble_eq_true rfl, Nat.le_of_ble_eq_true rfl⟩) (fun r_4 hw => ?_)
          refine lv_istore_n (lv' := [(3, .int r_4), (0, .ref aC), (4, .int x4)]) hx hb d_C_tellRing_78 rfl hl (by decide) rfl (fun ls hl => ?_)
          refine lv_iinc (v := x4 + (-1)) (lv' := [(4, .int (x4 + (-1))), (3, .int r_4), (0, .ref aC)]) hx hb d_C_tellRing_79 hl (k := 2) rfl rfl (by decide) rfl (fun ls hl => ?_)
          refine lv_goto (tgt := 39) hx hb d_C_tellRing_82 (by decide) ?_
          exact ih r_4 (x4 + (-1)) (upd C_ringClaims C_ringLength.toNatClampNeg x3) (C_ringLength + (1 : Int32)) hw _ _ (hP.sub [0, 1, 2, 3, 4, 5] rfl) (hD.sub [0, 1, 2, 3, 4, 5] (by decide) rfl) hS ls (lv_sub hl [2, 1, 0] rfl)
  unfold wp_C_tellRing at hw
  refine lv_aload_n hx hb d_C_tellRing_0 rfl (lv_at hl 0 rfl) ?_
  refine lv_iload_n hx hb d_C_tellRing_1 rfl (lv_at hl 1 rfl) ?_
  have hPc := hP.sub (ws' := [(aC, .inr (0, [.ref aC_sourceSets, .ref aC_otherSets, .ref aC_rules, .ref aC_ringClaims, .ref aC_steps, .int C_made, .int C_ringLength])), (aC_sourceSets, .inl (cI, 24, .inl C_sourceSets)), (aC_otherSets, .inl (cI, 24, .inl C_otherSets)), (aC_rules, .inl (cI, 24, .inl C_rules)), (aC_ringClaims, .inl (cI, 24, .inl C_ringClaims)), (aC_steps, .inl (cI, 24, .inl C_steps))]) [0, 1, 2, 3, 4, 5] rfl
  have hDc := hD.sub (ws' := [(aC, .inr (0, [.ref aC_sourceSets, .ref aC_otherSets, .ref aC_rules, .ref aC_ringClaims, .ref aC_steps, .int C_made, .int C_ringLength])), (aC_sourceSets, .inl (cI, 24, .inl C_sourceSets)), (aC_otherSets, .inl (cI, 24, .inl C_otherSets)), (aC_rules, .inl (cI, 24, .inl C_rules)), (aC_ringClaims, .inl (cI, 24, .inl C_ringClaims)), (aC_steps, .inl (cI, 24, .inl C_steps))]) [0, 1, 2, 3, 4, 5] (by decide) rfl
  have hFc := va_free (wc := [(aC, .inr (0, [.ref aC_sourceSets, .ref aC_otherSets, .ref aC_rules, .ref aC_ringClaims, .ref aC_steps, .int C_made, .int C_ringLength])), (aC_sourceSets, .inl (cI, 24, .inl C_sourceSets)), (aC_otherSets, .inl (cI, 24, .inl C_otherSets)), (aC_rules, .inl (cI, 24, .inl C_rules)), (aC_ringClaims, .inl (cI, 24, .inl C_ringClaims)), (aC_steps, .inl (cI, 24, .inl C_steps))]) hD hS hA [0, 1, 2, 3, 4, 5] rfl
  refine va_callv (va_runV (As := [.int x1]) (rest := []) ⟨hx, hb, hml, hown, hts⟩ (mt_C_measureStepsTo l dC dI cI aC aC_sourceSets aC_otherSets aC_rules aC_ringClaims aC_steps s.heap.size _ C_sourceSets C_otherSets C_rules C_ringClaims C_steps C_made C_ringLength x1 hw) (cwV 1 hts (gdV m_348 m_350 ms_3 m_4 m_351) rfl rfl rfl (by decide +kernel) ⟨Nat.le_of_ble_eq_true rfl, Nat.le_of_ble_eq_true rfl⟩) ⟨fb_w, va_recv hK hPc (ci := 0) (q0 := 0) rfl rfl, fun U hU hW => ⟨rfl, by rw [hU], by rw [hU]; exact hPc, va_K.moved hW.alike hK, hDc.weaken (fun _ _ _ _ => trivial), hE.warm hW⟩⟩ rfl rfl hl.1 rfl (lv_room (Nat.le_of_ble_eq_true rfl)) d_C_tellRing_2 ⟨Nat.le_of_ble_eq_true rfl, Nat.le_of_ble_eq_true rfl⟩) hS (fun q _ h => hFc q h) hFc (fun u t H1 locs ht hvm hw hB hz1 hk1 hS => ?_)
  obtain ⟨u_5, rfl⟩ : ∃ z, z = u := ⟨_, rfl⟩
  obtain ⟨hP1, hD1⟩ := hB
  rw [ht] at hP1
  try dsimp only at hw hP1 hD1
  obtain ⟨hP, hD⟩ := va_join (wr := []) (w1 := [(aC, .inr (0, [.ref aC_sourceSets, .ref aC_otherSets, .ref aC_rules, .ref aC_ringClaims, .ref aC_steps, .int C_made, .int C_ringLength])), (aC_sourceSets, .inl (cI, 24, .inl C_sourceSets)), (aC_otherSets, .inl (cI, 24, .inl C_otherSets)), (aC_rules, .inl (cI, 24, .inl C_rules)), (aC_ringClaims, .inl (cI, 24, .inl C_ringClaims)), (aC_steps, .inl (cI, 24, .inl u_5))]) hP hD [0, 1, 2, 3, 4, 5] [] rfl rfl (by decide) (by decide) hk1 hFc hP1 hD1
  generalize H1 = H at hP hS ⊢
  have hP : va_P (dC, dI) vwCl [(aC, .inr (0, [.ref aC_sourceSets, .ref aC_otherSets, .ref aC_rules, .ref aC_ringClaims, .ref aC_steps, .int C_made, .int C_ringLength])), (aC_sourceSets, .inl (cI, 24, .inl C_sourceSets)), (aC_otherSets, .inl (cI, 24, .inl C_otherSets)), (aC_rules, .inl (cI, 24, .inl C_rules)), (aC_ringClaims, .inl (cI, 24, .inl C_ringClaims)), (aC_steps, .inl (cI, 24, .inl u_5))] H := hP
  have hD : va_D A [(aC, .inr (0, [.ref aC_sourceSets, .ref aC_otherSets, .ref aC_rules, .ref aC_ringClaims, .ref aC_steps, .int C_made, .int C_ringLength])), (aC_sourceSets, .inl (cI, 24, .inl C_sourceSets)), (aC_otherSets, .inl (cI, 24, .inl C_otherSets)), (aC_rules, .inl (cI, 24, .inl C_rules)), (aC_ringClaims, .inl (cI, 24, .inl C_ringClaims)), (aC_steps, .inl (cI, 24, .inl u_5))] := hD
  refine lv_aload_n hx hb d_C_tellRing_5 rfl (lv_at hl 0 rfl) ?_
  refine va_get (D := (dC, dI)) (ci := 0) (v := .ref aC_steps) (C := "ClaimSources$Claims") (T := TT_0) (N := 7) hx hb hts hi_0 hown hK hP 0 rfl rfl 4 (by decide) hf_24 (fun _ h9 => h9) rfl d_C_tellRing_6 ?_
  refine lv_iload_n hx hb d_C_tellRing_9 rfl (lv_at hl 2 rfl) ?_
  obtain ⟨h_6, hw⟩ := hw
  refine va_iald hx hb hK hP 5 0 rfl rfl h_6 d_C_tellRing_10 ?_
  refine lv_iconst (v := -1) hx hb d_C_tellRing_11 (by decide) ?_
  refine lv_icmp_ne (tgt := 17) hx hb d_C_tellRing_12 (by decide) (fun c_7 => ?_) (fun c_7 => ?_)
  · have hw := hw.2 c_7
    refine lv_aload_n hx hb d_C_tellRing_17 rfl (lv_at hl 0 rfl) ?_
    refine va_get (D := (dC, dI)) (ci := 0) (v := .ref aC_ringClaims) (C := "ClaimSources$Claims") (T := TT_0) (N := 7) hx hb hts hi_0 hown hK hP 0 rfl rfl 3 (by decide) hf_21 (fun _ h9 => h9) rfl d_C_tellRing_18 ?_
    refine lv_iconst (v := 0) hx hb d_C_tellRing_21 (by decide) ?_
    refine lv_iload_n hx hb d_C_tellRing_22 rfl (lv_at hl 1 rfl) ?_
    obtain ⟨h_8, hw⟩ := hw
    refine va_iast hx hb hK hP hD hS 4 0 rfl rfl h_8 d_C_tellRing_23 (fun H locs hP hD hS => ?_)
    have hP : va_P (dC, dI) vwCl [(aC, .inr (0, [.ref aC_sourceSets, .ref aC_otherSets, .ref aC_rules, .ref aC_ringClaims, .ref aC_steps, .int C_made, .int C_ringLength])), (aC_sourceSets, .inl (cI, 24, .inl C_sourceSets)), (aC_otherSets, .inl (cI, 24, .inl C_otherSets)), (aC_rules, .inl (cI, 24, .inl C_rules)), (aC_ringClaims, .inl (cI, 24, .inl (upd C_ringClaims (0 : Int32).toNatClampNeg x1))), (aC_steps, .inl (cI, 24, .inl u_5))] H := hP
    have hD : va_D A [(aC, .inr (0, [.ref aC_sourceSets, .ref aC_otherSets, .ref aC_rules, .ref aC_ringClaims, .ref aC_steps, .int C_made, .int C_ringLength])), (aC_sourceSets, .inl (cI, 24, .inl C_sourceSets)), (aC_otherSets, .inl (cI, 24, .inl C_otherSets)), (aC_rules, .inl (cI, 24, .inl C_rules)), (aC_ringClaims, .inl (cI, 24, .inl (upd C_ringClaims (0 : Int32).toNatClampNeg x1))), (aC_steps, .inl (cI, 24, .inl u_5))] := hD
    refine lv_aload_n hx hb d_C_tellRing_24 rfl (lv_at hl 0 rfl) ?_
    refine lv_iconst (v := 1) hx hb d_C_tellRing_25 (by decide) ?_
    refine va_put (D := (dC, dI)) (ci := 0) (v := .int (1 : Int32)) (ty := .int) (C := "ClaimSources$Claims") (T := TT_0) (N := 7) hx hb hts hi_0 ty_0 tyok_0 nn_0 hown hK hP hD hS 0 rfl rfl 6 (by decide) hf_48 (fun _ h9 => h9) rfl (by decide +kernel) rfl rfl (Nat.le_of_ble_eq_true rfl) d_C_tellRing_26 (fun H locs hP hD hS => ?_)
    have hP : va_P (dC, dI) vwCl [(aC, .inr (0, [.ref aC_sourceSets, .ref aC_otherSets, .ref aC_rules, .ref aC_ringClaims, .ref aC_steps, .int C_made, .int (1 : Int32)])), (aC_sourceSets, .inl (cI, 24, .inl C_sourceSets)), (aC_otherSets, .inl (cI, 24, .inl C_otherSets)), (aC_rules, .inl (cI, 24, .inl C_rules)), (aC_ringClaims, .inl (cI, 24, .inl (upd C_ringClaims (0 : Int32).toNatClampNeg x1))), (aC_steps, .inl (cI, 24, .inl u_5))] H := hP
    have hD : va_D A [(aC, .inr (0, [.ref aC_sourceSets, .ref aC_otherSets, .ref aC_rules, .ref aC_ringClaims, .ref aC_steps, .int C_made, .int (1 : Int32)])), (aC_sourceSets, .inl (cI, 24, .inl C_sourceSets)), (aC_otherSets, .inl (cI, 24, .inl C_otherSets)), (aC_rules, .inl (cI, 24, .inl C_rules)), (aC_ringClaims, .inl (cI, 24, .inl (upd C_ringClaims (0 : Int32).toNatClampNeg x1))), (aC_steps, .inl (cI, 24, .inl u_5))] := hD
    refine lv_iload_n hx hb d_C_tellRing_29 rfl (lv_at hl 2 rfl) ?_
    refine lv_istore_n (lv' := [(3, .int x2), (0, .ref aC), (1, .int x1), (2, .int x2)]) hx hb d_C_tellRing_30 rfl hl (by decide) rfl (fun ls hl => ?_)
    refine lv_aload_n hx hb d_C_tellRing_31 rfl (lv_at hl 1 rfl) ?_
    refine va_get (D := (dC, dI)) (ci := 0) (v := .ref aC_steps) (C := "ClaimSources$Claims") (T := TT_0) (N := 7) hx hb hts hi_0 hown hK hP 0 rfl rfl 4 (by decide) hf_24 (fun _ h9 => h9) rfl d_C_tellRing_32 ?_
    refine lv_iload_n hx hb d_C_tellRing_35 rfl (lv_at hl 3 rfl) ?_
    obtain ⟨h_9, hw⟩ := hw
    refine va_iald hx hb hK hP 5 0 rfl rfl h_9 d_C_tellRing_36 ?_
    refine lv_istore (lv' := [(4, .int (u_5 x2.toNatClampNeg)), (3, .int x2), (0, .ref aC), (1, .int x1), (2, .int x2)]) hx hb d_C_tellRing_37 hl (by decide) rfl (fun ls hl => ?_)
    obtain ⟨n_10, hw⟩ := hw
    exact L39 u_5 n_10 x2 (u_5 x2.toNatClampNeg) (upd C_ringClaims (0 : Int32).toNatClampNeg x1) (1 : Int32) hw _ _ (hP.sub [0, 1, 2, 3, 4, 5] rfl) (hD.sub [0, 1, 2, 3, 4, 5] (by decide) rfl) hS ls (lv_sub hl [2, 1, 0] rfl)
  · have hw := hw.1 c_7
    refine lv_iconst (v := 0) hx hb d_C_tellRing_15 (by decide) ?_
    subst hQ0
    have hP9 := hP.sub (ws' := [(aC, .inr (0, [.ref aC_sourceSets, .ref aC_otherSets, .ref aC_rules, .ref aC_ringClaims, .ref aC_steps, .int C_made, .int C_ringLength])), (aC_sourceSets, .inl (cI, 24, .inl C_sourceSets)), (aC_otherSets, .inl (cI, 24, .inl C_otherSets)), (aC_rules, .inl (cI, 24, .inl C_rules)), (aC_ringClaims, .inl (cI, 24, .inl C_ringClaims)), (aC_steps, .inl (cI, 24, .inl u_5))]) [0, 1, 2, 3, 4, 5] rfl
    have hD9 := hD.sub (ws' := [(aC, .inr (0, [.ref aC_sourceSets, .ref aC_otherSets, .ref aC_rules, .ref aC_ringClaims, .ref aC_steps, .int C_made, .int C_ringLength])), (aC_sourceSets, .inl (cI, 24, .inl C_sourceSets)), (aC_otherSets, .inl (cI, 24, .inl C_otherSets)), (aC_rules, .inl (cI, 24, .inl C_rules)), (aC_ringClaims, .inl (cI, 24, .inl C_ringClaims)), (aC_steps, .inl (cI, 24, .inl u_5))]) [0, 1, 2, 3, 4, 5] (by decide) rfl
    exact W.zret (v := (0 : Int32)) hx hb hr (by decide) (fun t ht hW => ⟨⟨_, (C_ringClaims, u_5, C_ringLength), rfl, hw, by rw [ht]; exact hP9, hD9⟩, hS.F ht⟩) hS.2.2 d_C_tellRing_16
def wp_C_setOther (C_sourceSets : Nat → Int32) (C_otherSets : Nat → Int32) (C_rules : Nat → Int32) (C_ringClaims : Nat → Int32) (C_steps : Nat → Int32) (C_made : Int32) (C_ringLength : Int32) (x1 : Int32) (x2 : Int32) (x3 : Int32) (post : Int32 → (Nat → Int32) → Prop) : Prop := (vp_in x1 24 ∧ ((x3 = 0 → (wp_X_without (C_otherSets x1.toNatClampNeg) x2 (fun r_3 => (vp_in x1 24 ∧ (vp_in x1 24 ∧ ((((upd C_otherSets x1.toNatClampNeg r_3) x1.toNatClampNeg) = (C_otherSets x1.toNatClampNeg) → (post (0 : Int32) (upd C_otherSets x1.toNatClampNeg r_3))) ∧ (¬ (((upd C_otherSets x1.toNatClampNeg r_3) x1.toNatClampNeg) = (C_otherSets x1.toNatClampNeg)) → (post (1 : Int32) (upd C_otherSets x1.toNatClampNeg r_3))))))))) ∧ (¬ (x3 = 0) → (wp_X_with (C_otherSets x1.toNatClampNeg) x2 (fun r_7 => (vp_in x1 24 ∧ (vp_in x1 24 ∧ ((((upd C_otherSets x1.toNatClampNeg r_7) x1.toNatClampNeg) = (C_otherSets x1.toNatClampNeg) → (post (0 : Int32) (upd C_otherSets x1.toNatClampNeg r_7))) ∧ (¬ (((upd C_otherSets x1.toNatClampNeg r_7) x1.toNatClampNeg) = (C_otherSets x1.toNatClampNeg)) → (post (1 : Int32) (upd C_otherSets x1.toNatClampNeg r_7)))))))))))
set_option maxHeartbeats 4000000 in
set_option maxRecDepth 100000 in
theorem mt_C_setOther (l : Launch) (dC : Nat → ClassId) (dI : Nat → Nat → Nat) (cI : ClassId) (aC : Nat) (aC_sourceSets : Nat) (aC_otherSets : Nat) (aC_rules : Nat) (aC_ringClaims : Nat) (aC_steps : Nat) (sz : Nat) (post : Int32 → (Nat → Int32) → Prop) (C_sourceSets : Nat → Int32) (C_otherSets : Nat → Int32) (C_rules : Nat → Int32) (C_ringClaims : Nat → Int32) (C_steps : Nat → Int32) (C_made : Int32) (C_ringLength : Int32) (x1 : Int32) (x2 : Int32) (x3 : Int32) (hw : wp_C_setOther C_sourceSets C_otherSets C_rules C_ringClaims C_steps C_made C_ringLength x1 x2 x3 post) : Met l y_C_setOther w_C_setOther ({ frames := 1, cells := 0, slots := 0, locals := 21 }) (va_Pc [.ref aC, .int x1, .int x2, .int x3] (fun U => U.heap.size = sz ∧ va_P (dC, dI) vwCl [(aC, .inr (0, [.ref aC_sourceSets, .ref aC_otherSets, .ref aC_rules, .ref aC_ringClaims, .ref aC_steps, .int C_made, .int C_ringLength])), (aC_sourceSets, .inl (cI, 24, .inl C_sourceSets)), (aC_otherSets, .inl (cI, 24, .inl C_otherSets)), (aC_rules, .inl (cI, 24, .inl C_rules)), (aC_ringClaims, .inl (cI, 24, .inl C_ringClaims)), (aC_steps, .inl (cI, 24, .inl C_steps))] U.heap ∧ va_K (dC, dI) vwCl [(cI, .int)] U ∧ va_D (fun _ => True) [(aC, .inr (0, [.ref aC_sourceSets, .ref aC_otherSets, .ref aC_rules, .ref aC_ringClaims, .ref aC_steps, .int C_made, .int C_ringLength])), (aC_sourceSets, .inl (cI, 24, .inl C_sourceSets)), (aC_otherSets, .inl (cI, 24, .inl C_otherSets)), (aC_rules, .inl (cI, 24, .inl C_rules)), (aC_ringClaims, .inl (cI, 24, .inl C_ringClaims)), (aC_steps, .inl (cI, 24, .inl C_steps))] ∧ en_ok U)) (va_Qi (fun r (u : (Nat → Int32)) => post r u) (fun (u : (Nat → Int32)) t => va_P (dC, dI) vwCl [(aC, .inr (0, [.ref aC_sourceSets, .ref aC_otherSets, .ref aC_rules, .ref aC_ringClaims, .ref aC_steps, .int C_made, .int C_ringLength])), (aC_sourceSets, .inl (cI, 24, .inl C_sourceSets)), (aC_otherSets, .inl (cI, 24, .inl u)), (aC_rules, .inl (cI, 24, .inl C_rules)), (aC_ringClaims, .inl (cI, 24, .inl C_ringClaims)), (aC_steps, .inl (cI, 24, .inl C_steps))] t.heap ∧ va_D (va_A [(aC, .inr (0, [.ref aC_sourceSets, .ref aC_otherSets, .ref aC_rules, .ref aC_ringClaims, .ref aC_steps, .int C_made, .int C_ringLength])), (aC_sourceSets, .inl (cI, 24, .inl C_sourceSets)), (aC_otherSets, .inl (cI, 24, .inl C_otherSets)), (aC_rules, .inl (cI, 24, .inl C_rules)), (aC_ringClaims, .inl (cI, 24, .inl C_ringClaims)), (aC_steps, .inl (cI, 24, .inl C_steps))] sz) [(aC, .inr (0, [.ref aC_sourceSets, .ref aC_otherSets, .ref aC_rules, .ref aC_ringClaims, .ref aC_steps, .int C_made, .int C_ringLength])), (aC_sourceSets, .inl (cI, 24, .inl C_sourceSets)), (aC_otherSets, .inl (cI, 24, .inl u)), (aC_rules, .inl (cI, 24, .inl C_rules)), (aC_ringClaims, .inl (cI, 24, .inl C_ringClaims)), (aC_steps, .inl (cI, 24, .inl C_steps))]) (va_A [(aC, .inr (0, [.ref aC_sourceSets, .ref aC_otherSets, .ref aC_rules, .ref aC_ringClaims, .ref aC_steps, .int C_made, .int C_ringLength])), (aC_sourceSets, .inl (cI, 24, .inl C_sourceSets)), (aC_otherSets, .inl (cI, 24, .inl C_otherSets)), (aC_rules, .inl (cI, 24, .inl C_rules)), (aC_ringClaims, .inl (cI, 24, .inl C_ringClaims)), (aC_steps, .inl (cI, 24, .inl C_steps))] sz)) 0 0 (va_A [(aC, .inr (0, [.ref aC_sourceSets, .ref aC_otherSets, .ref aC_rules, .ref aC_ringClaims, .ref aC_steps, .int C_made, .int C_ringLength])), (aC_sourceSets, .inl (cI, 24, .inl C_sourceSets)), (aC_otherSets, .inl (cI, 24, .inl C_otherSets)), (aC_rules, .inl (cI, 24, .inl C_rules)), (aC_ringClaims, .inl (cI, 24, .inl C_ringClaims)), (aC_steps, .inl (cI, 24, .inl C_steps))] sz) := by
  refine Met.ofW (cc := prog_2_method_8_code) (maxL := 5) (ret := (some .boolean)) (by decide) rfl ?_
  intro p e s m args below meth c s₁ B hml hv
  obtain ⟨rfl, hsz, hP, hK, hD0, hE⟩ := hv
  have hx := B.exec
  have hb := B.bytes
  have hr := B.returns
  have hts := atoms_spec (ws := w_C_setOther) B.pre
  have hown : s.vm.findClass "ClaimSources$Claims" = some m.cls := findClass_of_methodNamed B.named
  have hlocks := B.notSynchronized
  subst hsz
  have hD := hD0.self (sz := s.heap.size)
  generalize hAe : va_A [(aC, .inr (0, [.ref aC_sourceSets, .ref aC_otherSets, .ref aC_rules, .ref aC_ringClaims, .ref aC_steps, .int C_made, .int C_ringLength])), (aC_sourceSets, .inl (cI, 24, .inl C_sourceSets)), (aC_otherSets, .inl (cI, 24, .inl C_otherSets)), (aC_rules, .inl (cI, 24, .inl C_rules)), (aC_ringClaims, .inl (cI, 24, .inl C_ringClaims)), (aC_steps, .inl (cI, 24, .inl C_steps))] s.heap.size = A at hD ⊢
  have hA : ∀ q : Nat, s.heap.size ≤ q → A q := fun q h => by rw [← hAe]; exact Or.inr h
  have hS : va_S A s.heap s.heap [] := va_S.rf
  have hl := lv_entry ([.ref aC, .int x1, .int x2, .int x3]) (n := 5) (Nat.le_of_ble_eq_true rfl)
  rw [lg_entry_eq]
  generalize (lg_sl ([.ref aC, .int x1, .int x2, .int x3]) ++ List.replicate (5 - (lg_sl ([.ref aC, .int x1, .int x2, .int x3])).length) Slot.unset).toArray = ls at hl ⊢
  have hl : lv_has ls 5 [(0, .ref aC), (1, .int x1), (2, .int x2), (3, .int x3)] := hl
  obtain ⟨Q0, hQ0⟩ : ∃ Q0, Q0 = MQ below (va_Qi (fun r (u : (Nat → Int32)) => post r u) (fun (u : (Nat → Int32)) t => va_P (dC, dI) vwCl [(aC, .inr (0, [.ref aC_sourceSets, .ref aC_otherSets, .ref aC_rules, .ref aC_ringClaims, .ref aC_steps, .int C_made, .int C_ringLength])), (aC_sourceSets, .inl (cI, 24, .inl C_sourceSets)), (aC_otherSets, .inl (cI, 24, .inl u)), (aC_rules, .inl (cI, 24, .inl C_rules)), (aC_ringClaims, .inl (cI, 24, .inl C_ringClaims)), (aC_steps, .inl (cI, 24, .inl C_steps))] t.heap ∧ va_D A [(aC, .inr (0, [.ref aC_sourceSets, .ref aC_otherSets, .ref aC_rules, .ref aC_ringClaims, .ref aC_steps, .int C_made, .int C_ringLength])), (aC_sourceSets, .inl (cI, 24, .inl C_sourceSets)), (aC_otherSets, .inl (cI, 24, .inl u)), (aC_rules, .inl (cI, 24, .inl C_rules)), (aC_ringClaims, .inl (cI, 24, .inl C_ringClaims)), (aC_steps, .inl (cI, 24, .inl C_steps))]) A) ([.ref aC, .int x1, .int x2, .int x3]).toArray s 0 0 A := ⟨_, rfl⟩
  rw [← hQ0]
  clear B
  generalize hag : ([.ref aC, .int x1, .int x2, .int x3] : List Value).toArray = args at hts hQ0 ⊢
  have hi_0 : ∀ w ∈ u_ws "ClaimSources$Claims" TT_0 7, w ∈ w_C_setOther := fun w h => List.mem_cons_of_mem _ (ia_0 w h)
  have hf_15 := hts _ (List.mem_cons_of_mem _ m_65)
  unfold wp_C_setOther at hw
  refine lv_aload_n hx hb d_C_setOther_0 rfl (lv_at hl 0 rfl) ?_
  refine va_get (D := (dC, dI)) (ci := 0) (v := .ref aC_otherSets) (C := "ClaimSources$Claims") (T := TT_0) (N := 7) hx hb hts hi_0 hown hK hP 0 rfl rfl 1 (by decide) hf_15 (fun _ h9 => h9) rfl d_C_setOther_1 ?_
  refine lv_iload_n hx hb d_C_setOther_4 rfl (lv_at hl 1 rfl) ?_
  obtain ⟨h_1, hw⟩ := hw
  refine va_iald hx hb hK hP 2 0 rfl rfl h_1 d_C_setOther_5 ?_
  refine lv_istore (lv' := [(4, .int (C_otherSets x1.toNatClampNeg)), (0, .ref aC), (1, .int x1), (2, .int x2), (3, .int x3)]) hx hb d_C_setOther_6 hl (by decide) rfl (fun ls hl => ?_)
  refine lv_aload_n hx hb d_C_setOther_8 rfl (lv_at hl 1 rfl) ?_
  refine va_get (D := (dC, dI)) (ci := 0) (v := .ref aC_otherSets) (C := "ClaimSources$Claims") (T := TT_0) (N := 7) hx hb hts hi_0 hown hK hP 0 rfl rfl 1 (by decide) hf_15 (fun _ h9 => h9) rfl d_C_setOther_9 ?_
  refine lv_iload_n hx hb d_C_setOther_12 rfl (lv_at hl 2 rfl) ?_
  refine lv_iload_n hx hb d_C_setOther_13 rfl (lv_at hl 4 rfl) ?_
  refine lv_if_eq (tgt := 26) hx hb d_C_setOther_14 (by decide) (fun c_2 => ?_) (fun c_2 => ?_)
  · have hw := hw.1 c_2
    refine lv_iload hx hb d_C_setOther_26 (lv_at hl 0 rfl) ?_
    refine lv_iload_n hx hb d_C_setOther_28 rfl (lv_at hl 3 rfl) ?_
    have hPc := hP.sub (ws' := []) [] rfl
    refine vp_callSi ((va_runSN (As := [.int (C_otherSets x1.toNatClampNeg), .int x2]) (rest := [.int x1, .ref aC_otherSets]) ⟨hx, hb, hml, hown, hts⟩ (mt_X_without l dC dI cI _ (C_otherSets x1.toNatClampNeg) x2 hw) ⟨va_cnB 2 hts (gd m_329) rfl rfl rfl (en_14 hE) (hts _ (List.mem_cons_of_mem _ m_1)) (by decide +kernel) ⟨Nat.le_of_ble_eq_true rfl, Nat.le_of_ble_eq_true rfl⟩, (hts _ (List.mem_cons_of_mem _ m_328)), trivial⟩ ⟨fb_r, fun U hU hW => ⟨rfl, by rw [hU]; exact hPc, va_K.moved hW.alike hK, hE.warm hW⟩⟩ rfl rfl hl.1 rfl (lv_room (Nat.le_of_ble_eq_true rfl)) d_C_setOther_29 ⟨Nat.le_of_ble_eq_true rfl, Nat.le_of_ble_eq_true rfl⟩).run) (fun r_3 hw => ?_)
    obtain ⟨h_4, hw⟩ := hw
    refine va_iast hx hb hK hP hD hS 2 0 rfl rfl h_4 d_C_setOther_32 (fun H locs hP hD hS => ?_)
    have hP : va_P (dC, dI) vwCl [(aC, .inr (0, [.ref aC_sourceSets, .ref aC_otherSets, .ref aC_rules, .ref aC_ringClaims, .ref aC_steps, .int C_made, .int C_ringLength])), (aC_sourceSets, .inl (cI, 24, .inl C_sourceSets)), (aC_otherSets, .inl (cI, 24, .inl (upd C_otherSets x1.toNatClampNeg r_3))), (aC_rules, .inl (cI, 24, .inl C_rules)), (aC_ringClaims, .inl (cI, 24, .inl C_ringClaims)), (aC_steps, .inl (cI, 24, .inl C_steps))] H := hP
    have hD : va_D A [(aC, .inr (0, [.ref aC_sourceSets, .ref aC_otherSets, .ref aC_rules, .ref aC_ringClaims, .ref aC_steps, .int C_made, .int C_ringLength])), (aC_sourceSets, .inl (cI, 24, .inl C_sourceSets)), (aC_otherSets, .inl (cI, 24, .inl (upd C_otherSets x1.toNatClampNeg r_3))), (aC_rules, .inl (cI, 24, .inl C_rules)), (aC_ringClaims, .inl (cI, 24, .inl C_ringClaims)), (aC_steps, .inl (cI, 24, .inl C_steps))] := hD
    refine lv_aload_n hx hb d_C_setOther_33 rfl (lv_at hl 1 rfl) ?_
    refine va_get (D := (dC, dI)) (ci := 0) (v := .ref aC_otherSets) (C := "ClaimSources$Claims") (T := TT_0) (N := 7) hx hb hts hi_0 hown hK hP 0 rfl rfl 1 (by decide) hf_15 (fun _ h9 => h9) rfl d_C_setOther_34 ?_
    refine lv_iload_n hx hb d_C_setOther_37 rfl (lv_at hl 2 rfl) ?_
    obtain ⟨h_5, hw⟩ := hw
    refine va_iald hx hb hK hP 2 0 rfl rfl h_5 d_C_setOther_38 ?_
    refine lv_iload hx hb d_C_setOther_39 (lv_at hl 0 rfl) ?_
    refine lv_icmp_eq (tgt := 48) hx hb d_C_setOther_41 (by decide) (fun c_6 => ?_) (fun c_6 => ?_)
    · have hw := hw.1 c_6
      refine lv_iconst (v := 0) hx hb d_C_setOther_48 (by decide) ?_
      subst hQ0
      have hP9 := hP.sub (ws' := [(aC, .inr (0, [.ref aC_sourceSets, .ref aC_otherSets, .ref aC_rules, .ref aC_ringClaims, .ref aC_steps, .int C_made, .int C_ringLength])), (aC_sourceSets, .inl (cI, 24, .inl C_sourceSets)), (aC_otherSets, .inl (cI, 24, .inl (upd C_otherSets x1.toNatClampNeg r_3))), (aC_rules, .inl (cI, 24, .inl C_rules)), (aC_ringClaims, .inl (cI, 24, .inl C_ringClaims)), (aC_steps, .inl (cI, 24, .inl C_steps))]) [0, 1, 2, 3, 4, 5] rfl
      have hD9 := hD.sub (ws' := [(aC, .inr (0, [.ref aC_sourceSets, .ref aC_otherSets, .ref aC_rules, .ref aC_ringClaims, .ref aC_steps, .int C_made, .int C_ringLength])), (aC_sourceSets, .inl (cI, 24, .inl C_sourceSets)), (aC_otherSets, .inl (cI, 24, .inl (upd C_otherSets x1.toNatClampNeg r_3))), (aC_rules, .inl (cI, 24, .inl C_rules)), (aC_ringClaims, .inl (cI, 24, .inl C_ringClaims)), (aC_steps, .inl (cI, 24, .inl C_steps))]) [0, 1, 2, 3, 4, 5] (by decide) rfl
      exact W.zret (v := (0 : Int32)) hx hb hr (by decide) (fun t ht hW => ⟨⟨_, (upd C_otherSets x1.toNatClampNeg r_3), rfl, hw, by rw [ht]; exact hP9, hD9⟩, hS.F ht⟩) hS.2.2 d_C_setOther_49
    · have hw := hw.2 c_6
      refine lv_iconst (v := 1) hx hb d_C_setOther_44 (by decide) ?_
      refine lv_goto (tgt := 49) hx hb d_C_setOther_45 (by decide) ?_
      subst hQ0
      have hP9 := hP.sub (ws' := [(aC, .inr (0, [.ref aC_sourceSets, .ref aC_otherSets, .ref aC_rules, .ref aC_ringClaims, .ref aC_steps, .int C_made, .int C_ringLength])), (aC_sourceSets, .inl (cI, 24, .inl C_sourceSets)), (aC_otherSets, .inl (cI, 24, .inl (upd C_otherSets x1.toNatClampNeg r_3))), (aC_rules, .inl (cI, 24, .inl C_rules)), (aC_ringClaims, .inl (cI, 24, .inl C_ringClaims)), (aC_steps, .inl (cI, 24, .inl C_steps))]) [0, 1, 2, 3, 4, 5] rfl
      have hD9 := hD.sub (ws' := [(aC, .inr (0, [.ref aC_sourceSets, .ref aC_otherSets, .ref aC_rules, .ref aC_ringClaims, .ref aC_steps, .int C_made, .int C_ringLength])), (aC_sourceSets, .inl (cI, 24, .inl C_sourceSets)), (aC_otherSets, .inl (cI, 24, .inl (upd C_otherSets x1.toNatClampNeg r_3))), (aC_rules, .inl (cI, 24, .inl C_rules)), (aC_ringClaims, .inl (cI, 24, .inl C_ringClaims)), (aC_steps, .inl (cI, 24, .inl C_steps))]) [0, 1, 2, 3, 4, 5] (by decide) rfl
      exact W.zret (v := (1 : Int32)) hx hb hr (by decide) (fun t ht hW => ⟨⟨_, (upd C_otherSets x1.toNatClampNeg r_3), rfl, hw, by rw [ht]; exact hP9, hD9⟩, hS.F ht⟩) hS.2.2 d_C_setOther_49
  · have hw := hw.2 c_2
    refine lv_iload hx hb d_C_setOther_17 (lv_at hl 0 rfl) ?_
    refine lv_iload_n hx hb d_C_setOther_19 rfl (lv_at hl 3 rfl) ?_
    have hPc := hP.sub (ws' := []) [] rfl
    refine vp_callSi ((va_runSN (As := [.int (C_otherSets x1.toNatClampNeg), .int x2]) (rest := [.int x1, .ref aC_otherSets]) ⟨hx, hb, hml, hown, hts⟩ (mt_X_with l dC dI cI _ (C_otherSets x1.toNatClampNeg) x2 hw) ⟨va_cnB 2 hts (gd m_326) rfl rfl rfl (en_15 hE) (hts _ (List.mem_cons_of_mem _ m_1)) (by decide +kernel) ⟨Nat.le_of_ble_eq_true rfl, Nat.le_of_ble_eq_true rfl⟩, (hts _ (List.mem_cons_of_mem _ m_325)), trivial⟩ ⟨fb_r, fun U hU hW => ⟨rfl, by rw [hU]; exact hPc, va_K.moved hW.alike hK, hE.warm hW⟩⟩ rfl rfl hl.1 rfl (lv_room (Nat.le_of_ble_eq_true rfl)) d_C_setOther_20 ⟨Nat.le_of_ble_eq_true rfl, Nat.le_of_ble_eq_true rfl⟩).run) (fun r_7 hw => ?_)
    refine lv_goto (tgt := 32) hx hb d_C_setOther_23 (by decide) ?_
    obtain ⟨h_8, hw⟩ := hw
    refine va_iast hx hb hK hP hD hS 2 0 rfl rfl h_8 d_C_setOther_32 (fun H locs hP hD hS => ?_)
    have hP : va_P (dC, dI) vwCl [(aC, .inr (0, [.ref aC_sourceSets, .ref aC_otherSets, .ref aC_rules, .ref aC_ringClaims, .ref aC_steps, .int C_made, .int C_ringLength])), (aC_sourceSets, .inl (cI, 24, .inl C_sourceSets)), (aC_otherSets, .inl (cI, 24, .inl (upd C_otherSets x1.toNatClampNeg r_7))), (aC_rules, .inl (cI, 24, .inl C_rules)), (aC_ringClaims, .inl (cI, 24, .inl C_ringClaims)), (aC_steps, .inl (cI, 24, .inl C_steps))] H := hP
    have hD : va_D A [(aC, .inr (0, [.ref aC_sourceSets, .ref aC_otherSets, .ref aC_rules, .ref aC_ringClaims, .ref aC_steps, .int C_made, .int C_ringLength])), (aC_sourceSets, .inl (cI, 24, .inl C_sourceSets)), (aC_otherSets, .inl (cI, 24, .inl (upd C_otherSets x1.toNatClampNeg r_7))), (aC_rules, .inl (cI, 24, .inl C_rules)), (aC_ringClaims, .inl (cI, 24, .inl C_ringClaims)), (aC_steps, .inl (cI, 24, .inl C_steps))] := hD
    refine lv_aload_n hx hb d_C_setOther_33 rfl (lv_at hl 1 rfl) ?_
    refine va_get (D := (dC, dI)) (ci := 0) (v := .ref aC_otherSets) (C := "ClaimSources$Claims") (T := TT_0) (N := 7) hx hb hts hi_0 hown hK hP 0 rfl rfl 1 (by decide) hf_15 (fun _ h9 => h9) rfl d_C_setOther_34 ?_
    refine lv_iload_n hx hb d_C_setOther_37 rfl (lv_at hl 2 rfl) ?_
    obtain ⟨h_9, hw⟩ := hw
    refine va_iald hx hb hK hP 2 0 rfl rfl h_9 d_C_setOther_38 ?_
    refine lv_iload hx hb d_C_setOther_39 (lv_at hl 0 rfl) ?_
    refine lv_icmp_eq (tgt := 48) hx hb d_C_setOther_41 (by decide) (fun c_10 => ?_) (fun c_10 => ?_)
    · have hw := hw.1 c_10
      refine lv_iconst (v := 0) hx hb d_C_setOther_48 (by decide) ?_
      subst hQ0
      have hP9 := hP.sub (ws' := [(aC, .inr (0, [.ref aC_sourceSets, .ref aC_otherSets, .ref aC_rules, .ref aC_ringClaims, .ref aC_steps, .int C_made, .int C_ringLength])), (aC_sourceSets, .inl (cI, 24, .inl C_sourceSets)), (aC_otherSets, .inl (cI, 24, .inl (upd C_otherSets x1.toNatClampNeg r_7))), (aC_rules, .inl (cI, 24, .inl C_rules)), (aC_ringClaims, .inl (cI, 24, .inl C_ringClaims)), (aC_steps, .inl (cI, 24, .inl C_steps))]) [0, 1, 2, 3, 4, 5] rfl
      have hD9 := hD.sub (ws' := [(aC, .inr (0, [.ref aC_sourceSets, .ref aC_otherSets, .ref aC_rules, .ref aC_ringClaims, .ref aC_steps, .int C_made, .int C_ringLength])), (aC_sourceSets, .inl (cI, 24, .inl C_sourceSets)), (aC_otherSets, .inl (cI, 24, .inl (upd C_otherSets x1.toNatClampNeg r_7))), (aC_rules, .inl (cI, 24, .inl C_rules)), (aC_ringClaims, .inl (cI, 24, .inl C_ringClaims)), (aC_steps, .inl (cI, 24, .inl C_steps))]) [0, 1, 2, 3, 4, 5] (by decide) rfl
      exact W.zret (v := (0 : Int32)) hx hb hr (by decide) (fun t ht hW => ⟨⟨_, (upd C_otherSets x1.toNatClampNeg r_7), rfl, hw, by rw [ht]; exact hP9, hD9⟩, hS.F ht⟩) hS.2.2 d_C_setOther_49
    · have hw := hw.2 c_10
      refine lv_iconst (v := 1) hx hb d_C_setOther_44 (by decide) ?_
      refine lv_goto (tgt := 49) hx hb d_C_setOther_45 (by decide) ?_
      subst hQ0
      have hP9 := hP.sub (ws' := [(aC, .inr (0, [.ref aC_sourceSets, .ref aC_otherSets, .ref aC_rules, .ref aC_ringClaims, .ref aC_steps, .int C_made, .int C_ringLength])), (aC_sourceSets, .inl (cI, 24, .inl C_sourceSets)), (aC_otherSets, .inl (cI, 24, .inl (upd C_otherSets x1.toNatClampNeg r_7))), (aC_rules, .inl (cI, 24, .inl C_rules)), (aC_ringClaims, .inl (cI, 24, .inl C_ringClaims)), (aC_steps, .inl (cI, 24, .inl C_steps))]) [0, 1, 2, 3, 4, 5] rfl
      have hD9 := hD.sub (ws' := [(aC, .inr (0, [.ref aC_sourceSets, .ref aC_otherSets, .ref aC_rules, .ref aC_ringClaims, .ref aC_steps, .int C_made, .int C_ringLength])), (aC_sourceSets, .inl (cI, 24, .inl C_sourceSets)), (aC_otherSets, .inl (cI, 24, .inl (upd C_otherSets x1.toNatClampNeg r_7))), (aC_rules, .inl (cI, 24, .inl C_rules)), (aC_ringClaims, .inl (cI, 24, .inl C_ringClaims)), (aC_steps, .inl (cI, 24, .inl C_steps))]) [0, 1, 2, 3, 4, 5] (by decide) rfl
      exact W.zret (v := (1 : Int32)) hx hb hr (by decide) (fun t ht hW => ⟨⟨_, (upd C_otherSets x1.toNatClampNeg r_7), rfl, hw, by rw [ht]; exact hP9, hD9⟩, hS.F ht⟩) hS.2.2 d_C_setOther_49
def wp_C_ringPlace (C_sourceSets : Nat → Int32) (C_otherSets : Nat → Int32) (C_rules : Nat → Int32) (C_ringClaims : Nat → Int32) (C_steps : Nat → Int32) (C_made : Int32) (C_ringLength : Int32) (x1 : Int32) (post : Int32 → Prop) : Prop := ((x1 < 0 → (post (-1 : Int32))) ∧ (¬ (x1 < 0) → ((C_ringLength ≤ x1 → (post (-1 : Int32))) ∧ (¬ (C_ringLength ≤ x1) → (vp_in x1 24 ∧ (post (C_ringClaims x1.toNatClampNeg)))))))
set_option maxHeartbeats 4000000 in
set_option maxRecDepth 100000 in
theorem mt_C_ringPlace (l : Launch) (dC : Nat → ClassId) (dI : Nat → Nat → Nat) (cI : ClassId) (aC : Nat) (aC_sourceSets : Nat) (aC_otherSets : Nat) (aC_rules : Nat) (aC_ringClaims : Nat) (aC_steps : Nat) (post : Int32 → Prop) (C_sourceSets : Nat → Int32) (C_otherSets : Nat → Int32) (C_rules : Nat → Int32) (C_ringClaims : Nat → Int32) (C_steps : Nat → Int32) (C_made : Int32) (C_ringLength : Int32) (x1 : Int32) (hw : wp_C_ringPlace C_sourceSets C_otherSets C_rules C_ringClaims C_steps C_made C_ringLength x1 post) : Met l y_C_ringPlace w_C_ringPlace ({ frames := 0, cells := 0, slots := 0, locals := 0 }) (va_Pc [.ref aC, .int x1] (fun U => va_P (dC, dI) vwCl [(aC, .inr (0, [.ref aC_sourceSets, .ref aC_otherSets, .ref aC_rules, .ref aC_ringClaims, .ref aC_steps, .int C_made, .int C_ringLength])), (aC_sourceSets, .inl (cI, 24, .inl C_sourceSets)), (aC_otherSets, .inl (cI, 24, .inl C_otherSets)), (aC_rules, .inl (cI, 24, .inl C_rules)), (aC_ringClaims, .inl (cI, 24, .inl C_ringClaims)), (aC_steps, .inl (cI, 24, .inl C_steps))] U.heap ∧ va_K (dC, dI) vwCl [(cI, .int)] U ∧ en_ok U)) (vp_Si post) 0 0 (fun _ => False) := by
  refine Met.ofW (cc := prog_2_method_11_code) (maxL := 2) (ret := (some .int)) (by decide) rfl ?_
  intro p e s m args below meth c s₁ B hml hv
  obtain ⟨rfl, hP, hK, hE⟩ := hv
  have hx := B.exec
  have hb := B.bytes
  have hr := B.returns
  have hts := atoms_spec (ws := w_C_ringPlace) B.pre
  have hown : s.vm.findClass "ClaimSources$Claims" = some m.cls := findClass_of_methodNamed B.named
  have hlocks := B.notSynchronized
  have hl := lv_entry ([.ref aC, .int x1]) (n := 2) (Nat.le_of_ble_eq_true rfl)
  rw [lg_entry_eq]
  generalize (lg_sl ([.ref aC, .int x1]) ++ List.replicate (2 - (lg_sl ([.ref aC, .int x1])).length) Slot.unset).toArray = ls at hl ⊢
  have hl : lv_has ls 2 [(0, .ref aC), (1, .int x1)] := hl
  obtain ⟨Q0, hQ0⟩ : ∃ Q0, Q0 = MQ below (vp_Si post) ([.ref aC, .int x1]).toArray s 0 0 (fun _ => False) := ⟨_, rfl⟩
  rw [← hQ0]
  clear B
  generalize hag : ([.ref aC, .int x1] : List Value).toArray = args at hts hQ0 ⊢
  have hi_0 : ∀ w ∈ u_ws "ClaimSources$Claims" TT_0 7, w ∈ w_C_ringPlace := fun w h => List.mem_cons_of_mem _ (ia_0 w h)
  have hf_48 := hts _ (List.mem_cons_of_mem _ m_70)
  have hf_21 := hts _ (List.mem_cons_of_mem _ m_67)
  unfold wp_C_ringPlace at hw
  refine lv_iload_n hx hb d_C_ringPlace_0 rfl (lv_at hl 1 rfl) ?_
  refine lv_if_lt (tgt := 21) hx hb d_C_ringPlace_1 (by decide) (fun c_1 => ?_) (fun c_1 => ?_)
  · have hw := hw.1 c_1
    refine lv_iconst (v := -1) hx hb d_C_ringPlace_21 (by decide) ?_
    subst hQ0
    exact W.iret (v := (-1 : Int32)) hx hb hr (fun t ht hW => ⟨_, rfl, hw, ht⟩) (fun q h => by cases h) d_C_ringPlace_22
  · have hw := hw.2 c_1
    refine lv_iload_n hx hb d_C_ringPlace_4 rfl (lv_at hl 1 rfl) ?_
    refine lv_aload_n hx hb d_C_ringPlace_5 rfl (lv_at hl 0 rfl) ?_
    refine va_get (D := (dC, dI)) (ci := 0) (v := .int C_ringLength) (C := "ClaimSources$Claims") (T := TT_0) (N := 7) hx hb hts hi_0 hown hK hP 0 rfl rfl 6 (by decide) hf_48 (fun _ h9 => h9) rfl d_C_ringPlace_6 ?_
    refine lv_icmp_ge (tgt := 21) hx hb d_C_ringPlace_9 (by decide) (fun c_2 => ?_) (fun c_2 => ?_)
    · have hw := hw.1 c_2
      refine lv_iconst (v := -1) hx hb d_C_ringPlace_21 (by decide) ?_
      subst hQ0
      exact W.iret (v := (-1 : Int32)) hx hb hr (fun t ht hW => ⟨_, rfl, hw, ht⟩) (fun q h => by cases h) d_C_ringPlace_22
    · have hw := hw.2 c_2
      refine lv_aload_n hx hb d_C_ringPlace_12 rfl (lv_at hl 0 rfl) ?_
      refine va_get (D := (dC, dI)) (ci := 0) (v := .ref aC_ringClaims) (C := "ClaimSources$Claims") (T := TT_0) (N := 7) hx hb hts hi_0 hown hK hP 0 rfl rfl 3 (by decide) hf_21 (fun _ h9 => h9) rfl d_C_ringPlace_13 ?_
      refine lv_iload_n hx hb d_C_ringPlace_16 rfl (lv_at hl 1 rfl) ?_
      obtain ⟨h_3, hw⟩ := hw
      refine va_iald hx hb hK hP 4 0 rfl rfl h_3 d_C_ringPlace_17 ?_
      refine lv_goto (tgt := 22) hx hb d_C_ringPlace_18 (by decide) ?_
      subst hQ0
      exact W.iret (v := C_ringClaims x1.toNatClampNeg) hx hb hr (fun t ht hW => ⟨_, rfl, hw, ht⟩) (fun q h => by cases h) d_C_ringPlace_22
def wp_C_setRule (C_sourceSets : Nat → Int32) (C_otherSets : Nat → Int32) (C_rules : Nat → Int32) (C_ringClaims : Nat → Int32) (C_steps : Nat → Int32) (C_made : Int32) (C_ringLength : Int32) (x1 : Int32) (x2 : Int32) (post : Int32 → (Nat → Int32) → Prop) : Prop := (vp_in x1 24 ∧ (vp_in x1 24 ∧ (post (C_rules x1.toNatClampNeg) (upd C_rules x1.toNatClampNeg x2))))
set_option maxHeartbeats 4000000 in
set_option maxRecDepth 100000 in
theorem mt_C_setRule (l : Launch) (dC : Nat → ClassId) (dI : Nat → Nat → Nat) (cI : ClassId) (aC : Nat) (aC_sourceSets : Nat) (aC_otherSets : Nat) (aC_rules : Nat) (aC_ringClaims : Nat) (aC_steps : Nat) (sz : Nat) (post : Int32 → (Nat → Int32) → Prop) (C_sourceSets : Nat → Int32) (C_otherSets : Nat → Int32) (C_rules : Nat → Int32) (C_ringClaims : Nat → Int32) (C_steps : Nat → Int32) (C_made : Int32) (C_ringLength : Int32) (x1 : Int32) (x2 : Int32) (hw : wp_C_setRule C_sourceSets C_otherSets C_rules C_ringClaims C_steps C_made C_ringLength x1 x2 post) : Met l y_C_setRule w_C_setRule ({ frames := 0, cells := 0, slots := 0, locals := 0 }) (va_Pc [.ref aC, .int x1, .int x2] (fun U => U.heap.size = sz ∧ va_P (dC, dI) vwCl [(aC, .inr (0, [.ref aC_sourceSets, .ref aC_otherSets, .ref aC_rules, .ref aC_ringClaims, .ref aC_steps, .int C_made, .int C_ringLength])), (aC_sourceSets, .inl (cI, 24, .inl C_sourceSets)), (aC_otherSets, .inl (cI, 24, .inl C_otherSets)), (aC_rules, .inl (cI, 24, .inl C_rules)), (aC_ringClaims, .inl (cI, 24, .inl C_ringClaims)), (aC_steps, .inl (cI, 24, .inl C_steps))] U.heap ∧ va_K (dC, dI) vwCl [(cI, .int)] U ∧ va_D (fun _ => True) [(aC, .inr (0, [.ref aC_sourceSets, .ref aC_otherSets, .ref aC_rules, .ref aC_ringClaims, .ref aC_steps, .int C_made, .int C_ringLength])), (aC_sourceSets, .inl (cI, 24, .inl C_sourceSets)), (aC_otherSets, .inl (cI, 24, .inl C_otherSets)), (aC_rules, .inl (cI, 24, .inl C_rules)), (aC_ringClaims, .inl (cI, 24, .inl C_ringClaims)), (aC_steps, .inl (cI, 24, .inl C_steps))] ∧ en_ok U)) (va_Qi (fun r (u : (Nat → Int32)) => post r u) (fun (u : (Nat → Int32)) t => va_P (dC, dI) vwCl [(aC, .inr (0, [.ref aC_sourceSets, .ref aC_otherSets, .ref aC_rules, .ref aC_ringClaims, .ref aC_steps, .int C_made, .int C_ringLength])), (aC_sourceSets, .inl (cI, 24, .inl C_sourceSets)), (aC_otherSets, .inl (cI, 24, .inl C_otherSets)), (aC_rules, .inl (cI, 24, .inl u)), (aC_ringClaims, .inl (cI, 24, .inl C_ringClaims)), (aC_steps, .inl (cI, 24, .inl C_steps))] t.heap ∧ va_D (va_A [(aC, .inr (0, [.ref aC_sourceSets, .ref aC_otherSets, .ref aC_rules, .ref aC_ringClaims, .ref aC_steps, .int C_made, .int C_ringLength])), (aC_sourceSets, .inl (cI, 24, .inl C_sourceSets)), (aC_otherSets, .inl (cI, 24, .inl C_otherSets)), (aC_rules, .inl (cI, 24, .inl C_rules)), (aC_ringClaims, .inl (cI, 24, .inl C_ringClaims)), (aC_steps, .inl (cI, 24, .inl C_steps))] sz) [(aC, .inr (0, [.ref aC_sourceSets, .ref aC_otherSets, .ref aC_rules, .ref aC_ringClaims, .ref aC_steps, .int C_made, .int C_ringLength])), (aC_sourceSets, .inl (cI, 24, .inl C_sourceSets)), (aC_otherSets, .inl (cI, 24, .inl C_otherSets)), (aC_rules, .inl (cI, 24, .inl u)), (aC_ringClaims, .inl (cI, 24, .inl C_ringClaims)), (aC_steps, .inl (cI, 24, .inl C_steps))]) (va_A [(aC, .inr (0, [.ref aC_sourceSets, .ref aC_otherSets, .ref aC_rules, .ref aC_ringClaims, .ref aC_steps, .int C_made, .int C_ringLength])), (aC_sourceSets, .inl (cI, 24, .inl C_sourceSets)), (aC_otherSets, .inl (cI, 24, .inl C_otherSets)), (aC_rules, .inl (cI, 24, .inl C_rules)), (aC_ringClaims, .inl (cI, 24, .inl C_ringClaims)), (aC_steps, .inl (cI, 24, .inl C_steps))] sz)) 0 0 (va_A [(aC, .inr (0, [.ref aC_sourceSets, .ref aC_otherSets, .ref aC_rules, .ref aC_ringClaims, .ref aC_steps, .int C_made, .int C_ringLength])), (aC_sourceSets, .inl (cI, 24, .inl C_sourceSets)), (aC_otherSets, .inl (cI, 24, .inl C_otherSets)), (aC_rules, .inl (cI, 24, .inl C_rules)), (aC_ringClaims, .inl (cI, 24, .inl C_ringClaims)), (aC_steps, .inl (cI, 24, .inl C_steps))] sz) := by
  refine Met.ofW (cc := prog_2_method_5_code) (maxL := 4) (ret := (some .int)) (by decide) rfl ?_
  intro p e s m args below meth c s₁ B hml hv
  obtain ⟨rfl, hsz, hP, hK, hD0, hE⟩ := hv
  have hx := B.exec
  have hb := B.bytes
  have hr := B.returns
  have hts := atoms_spec (ws := w_C_setRule) B.pre
  have hown : s.vm.findClass "ClaimSources$Claims" = some m.cls := findClass_of_methodNamed B.named
  have hlocks := B.notSynchronized
  subst hsz
  have hD := hD0.self (sz := s.heap.size)
  generalize hAe : va_A [(aC, .inr (0, [.ref aC_sourceSets, .ref aC_otherSets, .ref aC_rules, .ref aC_ringClaims, .ref aC_steps, .int C_made, .int C_ringLength])), (aC_sourceSets, .inl (cI, 24, .inl C_sourceSets)), (aC_otherSets, .inl (cI, 24, .inl C_otherSets)), (aC_rules, .inl (cI, 24, .inl C_rules)), (aC_ringClaims, .inl (cI, 24, .inl C_ringClaims)), (aC_steps, .inl (cI, 24, .inl C_steps))] s.heap.size = A at hD ⊢
  have hA : ∀ q : Nat, s.heap.size ≤ q → A q := fun q h => by rw [← hAe]; exact Or.inr h
  have hS : va_S A s.heap s.heap [] := va_S.rf
  have hl := lv_entry ([.ref aC, .int x1, .int x2]) (n := 4) (Nat.le_of_ble_eq_true rfl)
  rw [lg_entry_eq]
  generalize (lg_sl ([.ref aC, .int x1, .int x2]) ++ List.replicate (4 - (lg_sl ([.ref aC, .int x1, .int x2])).length) Slot.unset).toArray = ls at hl ⊢
  have hl : lv_has ls 4 [(0, .ref aC), (1, .int x1), (2, .int x2)] := hl
  obtain ⟨Q0, hQ0⟩ : ∃ Q0, Q0 = MQ below (va_Qi (fun r (u : (Nat → Int32)) => post r u) (fun (u : (Nat → Int32)) t => va_P (dC, dI) vwCl [(aC, .inr (0, [.ref aC_sourceSets, .ref aC_otherSets, .ref aC_rules, .ref aC_ringClaims, .ref aC_steps, .int C_made, .int C_ringLength])), (aC_sourceSets, .inl (cI, 24, .inl C_sourceSets)), (aC_otherSets, .inl (cI, 24, .inl C_otherSets)), (aC_rules, .inl (cI, 24, .inl u)), (aC_ringClaims, .inl (cI, 24, .inl C_ringClaims)), (aC_steps, .inl (cI, 24, .inl C_steps))] t.heap ∧ va_D A [(aC, .inr (0, [.ref aC_sourceSets, .ref aC_otherSets, .ref aC_rules, .ref aC_ringClaims, .ref aC_steps, .int C_made, .int C_ringLength])), (aC_sourceSets, .inl (cI, 24, .inl C_sourceSets)), (aC_otherSets, .inl (cI, 24, .inl C_otherSets)), (aC_rules, .inl (cI, 24, .inl u)), (aC_ringClaims, .inl (cI, 24, .inl C_ringClaims)), (aC_steps, .inl (cI, 24, .inl C_steps))]) A) ([.ref aC, .int x1, .int x2]).toArray s 0 0 A := ⟨_, rfl⟩
  rw [← hQ0]
  clear B
  generalize hag : ([.ref aC, .int x1, .int x2] : List Value).toArray = args at hts hQ0 ⊢
  have hi_0 : ∀ w ∈ u_ws "ClaimSources$Claims" TT_0 7, w ∈ w_C_setRule := fun w h => List.mem_cons_of_mem _ (ia_0 w h)
  have hf_18 := hts _ (List.mem_cons_of_mem _ m_66)
  unfold wp_C_setRule at hw
  refine lv_aload_n hx hb d_C_setRule_0 rfl (lv_at hl 0 rfl) ?_
  refine va_get (D := (dC, dI)) (ci := 0) (v := .ref aC_rules) (C := "ClaimSources$Claims") (T := TT_0) (N := 7) hx hb hts hi_0 hown hK hP 0 rfl rfl 2 (by decide) hf_18 (fun _ h9 => h9) rfl d_C_setRule_1 ?_
  refine lv_iload_n hx hb d_C_setRule_4 rfl (lv_at hl 1 rfl) ?_
  obtain ⟨h_1, hw⟩ := hw
  refine va_iald hx hb hK hP 3 0 rfl rfl h_1 d_C_setRule_5 ?_
  refine lv_istore_n (lv' := [(3, .int (C_rules x1.toNatClampNeg)), (0, .ref aC), (1, .int x1), (2, .int x2)]) hx hb d_C_setRule_6 rfl hl (by decide) rfl (fun ls hl => ?_)
  refine lv_aload_n hx hb d_C_setRule_7 rfl (lv_at hl 1 rfl) ?_
  refine va_get (D := (dC, dI)) (ci := 0) (v := .ref aC_rules) (C := "ClaimSources$Claims") (T := TT_0) (N := 7) hx hb hts hi_0 hown hK hP 0 rfl rfl 2 (by decide) hf_18 (fun _ h9 => h9) rfl d_C_setRule_8 ?_
  refine lv_iload_n hx hb d_C_setRule_11 rfl (lv_at hl 2 rfl) ?_
  refine lv_iload_n hx hb d_C_setRule_12 rfl (lv_at hl 3 rfl) ?_
  obtain ⟨h_2, hw⟩ := hw
  refine va_iast hx hb hK hP hD hS 3 0 rfl rfl h_2 d_C_setRule_13 (fun H locs hP hD hS => ?_)
  have hP : va_P (dC, dI) vwCl [(aC, .inr (0, [.ref aC_sourceSets, .ref aC_otherSets, .ref aC_rules, .ref aC_ringClaims, .ref aC_steps, .int C_made, .int C_ringLength])), (aC_sourceSets, .inl (cI, 24, .inl C_sourceSets)), (aC_otherSets, .inl (cI, 24, .inl C_otherSets)), (aC_rules, .inl (cI, 24, .inl (upd C_rules x1.toNatClampNeg x2))), (aC_ringClaims, .inl (cI, 24, .inl C_ringClaims)), (aC_steps, .inl (cI, 24, .inl C_steps))] H := hP
  have hD : va_D A [(aC, .inr (0, [.ref aC_sourceSets, .ref aC_otherSets, .ref aC_rules, .ref aC_ringClaims, .ref aC_steps, .int C_made, .int C_ringLength])), (aC_sourceSets, .inl (cI, 24, .inl C_sourceSets)), (aC_otherSets, .inl (cI, 24, .inl C_otherSets)), (aC_rules, .inl (cI, 24, .inl (upd C_rules x1.toNatClampNeg x2))), (aC_ringClaims, .inl (cI, 24, .inl C_ringClaims)), (aC_steps, .inl (cI, 24, .inl C_steps))] := hD
  refine lv_iload_n hx hb d_C_setRule_14 rfl (lv_at hl 0 rfl) ?_
  subst hQ0
  have hP9 := hP.sub (ws' := [(aC, .inr (0, [.ref aC_sourceSets, .ref aC_otherSets, .ref aC_rules, .ref aC_ringClaims, .ref aC_steps, .int C_made, .int C_ringLength])), (aC_sourceSets, .inl (cI, 24, .inl C_sourceSets)), (aC_otherSets, .inl (cI, 24, .inl C_otherSets)), (aC_rules, .inl (cI, 24, .inl (upd C_rules x1.toNatClampNeg x2))), (aC_ringClaims, .inl (cI, 24, .inl C_ringClaims)), (aC_steps, .inl (cI, 24, .inl C_steps))]) [0, 1, 2, 3, 4, 5] rfl
  have hD9 := hD.sub (ws' := [(aC, .inr (0, [.ref aC_sourceSets, .ref aC_otherSets, .ref aC_rules, .ref aC_ringClaims, .ref aC_steps, .int C_made, .int C_ringLength])), (aC_sourceSets, .inl (cI, 24, .inl C_sourceSets)), (aC_otherSets, .inl (cI, 24, .inl C_otherSets)), (aC_rules, .inl (cI, 24, .inl (upd C_rules x1.toNatClampNeg x2))), (aC_ringClaims, .inl (cI, 24, .inl C_ringClaims)), (aC_steps, .inl (cI, 24, .inl C_steps))]) [0, 1, 2, 3, 4, 5] (by decide) rfl
  exact W.iret (v := C_rules x1.toNatClampNeg) hx hb hr (fun t ht hW => ⟨⟨_, (upd C_rules x1.toNatClampNeg x2), rfl, hw, by rw [ht]; exact hP9, hD9⟩, hS.F ht⟩) hS.2.2 d_C_setRule_15
def wl_C_heldBy_18 (C_sourceSets : Nat → Int32) (C_otherSets : Nat → Int32) (C_made : Int32) (x1 : Int32) (x3 : Int32) (x4 : Int32) (post : Int32 → Prop) (k4 : Int32 → Int32 → Prop) : Nat → Int32 → Int32 → Prop
  | 0, _, _ => False
  | n + 1, x2, x5 => ((C_made ≤ x5 → ((x2 = x4 → (post x2)) ∧ (¬ (x2 = x4) → (k4 x2 (x3 + 1))))) ∧ (¬ (C_made ≤ x5) → (vp_in x5 24 ∧ ((((C_sourceSets x5.toNatClampNeg) &&& x1) = 0 → (vp_in x5 24 ∧ ((((C_otherSets x5.toNatClampNeg) &&& x2) = 0 → wl_C_heldBy_18 C_sourceSets C_otherSets C_made x1 x3 x4 post k4 n x2 (x5 + 1)) ∧ (¬ (((C_otherSets x5.toNatClampNeg) &&& x2) = 0) → (wp_X_with x2 x5 (fun r_8 => wl_C_heldBy_18 C_sourceSets C_otherSets C_made x1 x3 x4 post k4 n r_8 (x5 + 1))))))) ∧ (¬ (((C_sourceSets x5.toNatClampNeg) &&& x1) = 0) → (wp_X_with x2 x5 (fun r_10 => wl_C_heldBy_18 C_sourceSets C_otherSets C_made x1 x3 x4 post k4 n r_10 (x5 + 1))))))))
def wl_C_heldBy_4 (C_sourceSets : Nat → Int32) (C_otherSets : Nat → Int32) (C_made : Int32) (x1 : Int32) (post : Int32 → Prop) : Nat → Int32 → Int32 → Prop
  | 0, _, _ => False
  | n + 1, x2, x3 => ((C_made ≤ x3 → (post x2)) ∧ (¬ (C_made ≤ x3) → (∃ n9, wl_C_heldBy_18 C_sourceSets C_otherSets C_made x1 x3 x2 post (fun y0 y1 => wl_C_heldBy_4 C_sourceSets C_otherSets C_made x1 post n y0 y1) n9 x2 (0 : Int32))))
def wp_C_heldBy (C_sourceSets : Nat → Int32) (C_otherSets : Nat → Int32) (C_rules : Nat → Int32) (C_ringClaims : Nat → Int32) (C_steps : Nat → Int32) (C_made : Int32) (C_ringLength : Int32) (x1 : Int32) (post : Int32 → Prop) : Prop := (∃ n9, wl_C_heldBy_4 C_sourceSets C_otherSets C_made x1 post n9 (0 : Int32) (0 : Int32))
set_option maxHeartbeats 4000000 in
set_option maxRecDepth 100000 in
theorem mt_C_heldBy (l : Launch) (dC : Nat → ClassId) (dI : Nat → Nat → Nat) (cI : ClassId) (aC : Nat) (aC_sourceSets : Nat) (aC_otherSets : Nat) (aC_rules : Nat) (aC_ringClaims : Nat) (aC_steps : Nat) (post : Int32 → Prop) (C_sourceSets : Nat → Int32) (C_otherSets : Nat → Int32) (C_rules : Nat → Int32) (C_ringClaims : Nat → Int32) (C_steps : Nat → Int32) (C_made : Int32) (C_ringLength : Int32) (x1 : Int32) (hw : wp_C_heldBy C_sourceSets C_otherSets C_rules C_ringClaims C_steps C_made C_ringLength x1 post) : Met l y_C_heldBy w_C_heldBy ({ frames := 1, cells := 0, slots := 0, locals := 21 }) (va_Pc [.ref aC, .int x1] (fun U => va_P (dC, dI) vwCl [(aC, .inr (0, [.ref aC_sourceSets, .ref aC_otherSets, .ref aC_rules, .ref aC_ringClaims, .ref aC_steps, .int C_made, .int C_ringLength])), (aC_sourceSets, .inl (cI, 24, .inl C_sourceSets)), (aC_otherSets, .inl (cI, 24, .inl C_otherSets)), (aC_rules, .inl (cI, 24, .inl C_rules)), (aC_ringClaims, .inl (cI, 24, .inl C_ringClaims)), (aC_steps, .inl (cI, 24, .inl C_steps))] U.heap ∧ va_K (dC, dI) vwCl [(cI, .int)] U ∧ en_ok U)) (vp_Si post) 0 0 (fun _ => False) := by
  refine Met.ofW (cc := prog_2_method_10_code) (maxL := 7) (ret := (some .int)) (by decide) rfl ?_
  intro p e s m args below meth c s₁ B hml hv
  obtain ⟨rfl, hP, hK, hE⟩ := hv
  have hx := B.exec
  have hb := B.bytes
  have hr := B.returns
  have hts := atoms_spec (ws := w_C_heldBy) B.pre
  have hown : s.vm.findClass "ClaimSources$Claims" = some m.cls := findClass_of_methodNamed B.named
  have hlocks := B.notSynchronized
  have hl := lv_entry ([.ref aC, .int x1]) (n := 7) (Nat.le_of_ble_eq_true rfl)
  rw [lg_entry_eq]
  generalize (lg_sl ([.ref aC, .int x1]) ++ List.replicate (7 - (lg_sl ([.ref aC, .int x1])).length) Slot.unset).toArray = ls at hl ⊢
  have hl : lv_has ls 7 [(0, .ref aC), (1, .int x1)] := hl
  obtain ⟨Q0, hQ0⟩ : ∃ Q0, Q0 = MQ below (vp_Si post) ([.ref aC, .int x1]).toArray s 0 0 (fun _ => False) := ⟨_, rfl⟩
  rw [← hQ0]
  clear B
  generalize hag : ([.ref aC, .int x1] : List Value).toArray = args at hts hQ0 ⊢
  have hi_0 : ∀ w ∈ u_ws "ClaimSources$Claims" TT_0 7, w ∈ w_C_heldBy := fun w h => List.mem_cons_of_mem _ (ia_0 w h)
  have hf_27 := hts _ (List.mem_cons_of_mem _ m_69)
  have hf_9 := hts _ (List.mem_cons_of_mem _ m_64)
  have hf_15 := hts _ (List.mem_cons_of_mem _ m_65)
  have L18 : ∀ (x1 : Int32) (x3 : Int32) (x4 : Int32) (k4 : Int32 → Int32 → Prop) (hk4 : ∀ (x2 : Int32) (x3 : Int32), k4 x2 x3 → ∀ (ls : Array Slot), lv_has ls 7 [(0, .ref aC), (1, .int x1), (2, .int x2), (3, .int x3)] → W p l e (headSpec w_C_heldBy ({ frames := 1, cells := 0, slots := 0, locals := 21 })).room s m args below meth c s.heap [] 0 0 Q0 (F0 m 4 ls [])) (n : Nat) (x2 : Int32) (x5 : Int32), wl_C_heldBy_18 C_sourceSets C_otherSets C_made x1 x3 x4 post k4 n x2 x5 → ∀ (ls : Array Slot), lv_has ls 7 [(0, .ref aC), (1, .int x1), (2, .int x2), (3, .int x3), (4, .int x4), (5, .int x5)] → W p l e (headSpec w_C_heldBy ({ frames := 1, cells := 0, slots := 0, locals := 21 })).room s m args below meth c s.heap [] 0 0 Q0 (F0 m 18 ls []) := by
    intro x1 x3 x4 k4 hk4
    intro n
    induction n with
    | zero =>
      intro x2 x5 hw
      exact False.elim hw
    | succ n ih =>
      intro x2 x5 hw ls hl
      unfold wl_C_heldBy_18 at hw
      refine lv_iload hx hb d_C_heldBy_18 (lv_at hl 5 rfl) ?_
      refine lv_aload_n hx hb d_C_heldBy_20 rfl (lv_at hl 0 rfl) ?_
      refine va_get (D := (dC, dI)) (ci := 0) (v := .int C_made) (C := "ClaimSources$Claims") (T := TT_0) (N := 7) hx hb hts hi_0 hown hK hP 0 rfl rfl 5 (by decide) hf_27 (fun _ h9 => h9) rfl d_C_heldBy_21 ?_
      refine lv_icmp_ge (tgt := 76) hx hb d_C_heldBy_24 (by decide) (fun c_1 => ?_) (fun c_1 => ?_)
      · have hw := hw.1 c_1
        refine lv_iload_n hx hb d_C_heldBy_76 rfl (lv_at hl 2 rfl) ?_
        refine lv_iload hx hb d_C_heldBy_77 (lv_at hl 4 rfl) ?_
        refine lv_icmp_ne (tgt := 85) hx hb d_C_heldBy_79 (by decide) (fun c_2 => ?_) (fun c_2 => ?_)
        · have hw := hw.2 c_2
          refine lv_iinc (v := x3 + 1) (lv' := [(3, .int (x3 + 1)), (0, .ref aC), (1, .int x1), (2, .int x2), (4, .int x4), (5, .int x5)]) hx hb d_C_heldBy_85 hl (k := 3) rfl rfl (by decide) rfl (fun ls hl => ?_)
          refine lv_goto (tgt := 4) hx hb d_C_heldBy_88 (by decide) ?_
          exact hk4 x2 (x3 + 1) hw ls (lv_sub hl [1, 2, 3, 0] rfl)
        · have hw := hw.1 c_2
          refine lv_goto (tgt := 91) hx hb d_C_heldBy_82 (by decide) ?_
          refine lv_iload_n hx hb d_C_heldBy_91 rfl (lv_at hl 2 rfl) ?_
          subst hQ0
          exact W.iret (v := x2) hx hb hr (fun t ht hW => ⟨_, rfl, hw, ht⟩) (fun q h => by cases h) d_C_heldBy_92
      · have hw := hw.2 c_1
        refine lv_aload_n hx hb d_C_heldBy_27 rfl (lv_at hl 0 rfl) ?_
        refine va_get (D := (dC, dI)) (ci := 0) (v := .ref aC_sourceSets) (C := "ClaimSources$Claims") (T := TT_0) (N := 7) hx hb hts hi_0 hown hK hP 0 rfl rfl 0 (by decide) hf_9 (fun _ h9 => h9) rfl d_C_heldBy_28 ?_
        refine lv_iload hx hb d_C_heldBy_31 (lv_at hl 5 rfl) ?_
        obtain ⟨h_3, hw⟩ := hw
        refine va_iald hx hb hK hP 1 0 rfl rfl h_3 d_C_heldBy_33 ?_
        refine lv_iload_n hx hb d_C_heldBy_34 rfl (lv_at hl 1 rfl) ?_
        refine lv_iand hx hb d_C_heldBy_35 ?_
        refine lv_if_eq (tgt := 43) hx hb d_C_heldBy_36 (by decide) (fun c_4 => ?_) (fun c_4 => ?_)
        · have hw := hw.1 c_4
          refine lv_iconst (v := 0) hx hb d_C_heldBy_43 (by decide) ?_
          refine lv_istore (lv' := [(6, .int (0 : Int32)), (0, .ref aC), (1, .int x1), (2, .int x2), (3, .int x3), (4, .int x4), (5, .int x5)]) hx hb d_C_heldBy_44 hl (by decide) rfl (fun ls hl => ?_)
          refine lv_iload hx hb d_C_heldBy_46 (lv_at hl 0 rfl) ?_
          refine lv_if_ne (tgt := 63) hx hb d_C_heldBy_48 (by decide) (fun h9 => absurd h9 (by decide)) (fun _ => ?_)
          refine lv_aload_n hx hb d_C_heldBy_51 rfl (lv_at hl 1 rfl) ?_
          refine va_get (D := (dC, dI)) (ci := 0) (v := .ref aC_otherSets) (C := "ClaimSources$Claims") (T := TT_0) (N := 7) hx hb hts hi_0 hown hK hP 0 rfl rfl 1 (by decide) hf_15 (fun _ h9 => h9) rfl d_C_heldBy_52 ?_
          refine lv_iload hx hb d_C_heldBy_55 (lv_at hl 6 rfl) ?_
          obtain ⟨h_6, hw⟩ := hw
          refine va_iald hx hb hK hP 2 0 rfl rfl h_6 d_C_heldBy_57 ?_
          refine lv_iload_n hx hb d_C_heldBy_58 rfl (lv_at hl 3 rfl) ?_
          refine lv_iand hx hb d_C_heldBy_59 ?_
          refine lv_if_eq (tgt := 70) hx hb d_C_heldBy_60 (by decide) (fun c_7 => ?_) (fun c_7 => ?_)
          · have hw := hw.1 c_7
            refine lv_iinc (v := x5 + 1) (lv' := [(5, .int (x5 + 1)), (6, .int (0 : Int32)), (0, .ref aC), (1, .int x1), (2, .int x2), (3, .int x3), (4, .int x4)]) hx hb d_C_heldBy_70 hl (k := 6) rfl rfl (by decide) rfl (fun ls hl => ?_)
            refine lv_goto (tgt := 18) hx hb d_C_heldBy_73 (by decide) ?_
            exact ih x2 (x5 + 1) hw ls (lv_sub hl [2, 3, 4, 5, 6, 0] rfl)
          · have hw := hw.2 c_7
            refine lv_iload_n hx hb d_C_heldBy_63 rfl (lv_at hl 3 rfl) ?_
            refine lv_iload hx hb d_C_heldBy_64 (lv_at hl 6 rfl) ?_
            have hPc := hP.sub (ws' := []) [] rfl
            refine vp_callSi ((va_runSN (As := [.int x2, .int x5]) (rest := []) ⟨hx, hb, hml, hown, hts⟩ (mt_X_with l dC dI cI _ x2 x5 hw) ⟨va_cnB 2 hts (gd m_326) rfl rfl rfl (en_15 hE) (hts _ (List.mem_cons_of_mem _ m_1)) (by decide +kernel) ⟨Nat.le_of_ble_eq_true rfl, Nat.le_of_ble_eq_true rfl⟩, (hts _ (List.mem_cons_of_mem _ m_325)), trivial⟩ ⟨fb_r, fun U hU hW => ⟨rfl, by rw [hU]; exact hPc, va_K.moved hW.alike hK, hE.warm hW⟩⟩ rfl rfl hl.1 rfl (lv_room (Nat.le_of_ble_eq_true rfl)) d_C_heldBy_66 ⟨Nat.le_of_ble_eq_true rfl, Nat.le_of_ble_eq_true rfl⟩).run) (fun r_8 hw => ?_)
            refine lv_istore_n (lv' := [(2, .int r_8), (6, .int (0 : Int32)), (0, .ref aC), (1, .int x1), (3, .int x3), (4, .int x4), (5, .int x5)]) hx hb d_C_heldBy_69 rfl hl (by decide) rfl (fun ls hl => ?_)
            refine lv_iinc (v := x5 + 1) (lv' := [(5, .int (x5 + 1)), (2, .int r_8), (6, .int (0 : Int32)), (0, .ref aC), (1, .int x1), (3, .int x3), (4, .int x4)]) hx hb d_C_heldBy_70 hl (k := 6) rfl rfl (by decide) rfl (fun ls hl => ?_)
            refine lv_goto (tgt := 18) hx hb d_C_heldBy_73 (by decide) ?_
            exact ih r_8 (x5 + 1) hw ls (lv_sub hl [3, 4, 1, 5, 6, 0] rfl)
        · have hw := hw.2 c_4
          refine lv_iconst (v := 1) hx hb d_C_heldBy_39 (by decide) ?_
          refine lv_goto (tgt := 44) hx hb d_C_heldBy_40 (by decide) ?_
          refine lv_istore (lv' := [(6, .int (1 : Int32)), (0, .ref aC), (1, .int x1), (2, .int x2), (3, .int x3), (4, .int x4), (5, .int x5)]) hx hb d_C_heldBy_44 hl (by decide) rfl (fun ls hl => ?_)
          refine lv_iload hx hb d_C_heldBy_46 (lv_at hl 0 rfl) ?_
          refine lv_if_ne (tgt := 63) hx hb d_C_heldBy_48 (by decide) (fun _ => ?_) (fun h9 => absurd h9 (by decide))
          refine lv_iload_n hx hb d_C_heldBy_63 rfl (lv_at hl 3 rfl) ?_
          refine lv_iload hx hb d_C_heldBy_64 (lv_at hl 6 rfl) ?_
          have hPc := hP.sub (ws' := []) [] rfl
          refine vp_callSi ((va_runSN (As := [.int x2, .int x5]) (rest := []) ⟨hx, hb, hml, hown, hts⟩ (mt_X_with l dC dI cI _ x2 x5 hw) ⟨va_cnB 2 hts (gd m_326) rfl rfl rfl (en_15 hE) (hts _ (List.mem_cons_of_mem _ m_1)) (by decide +kernel) ⟨Nat.le_of_ble_eq_true rfl, Nat.le_of_ble_eq_true rfl⟩, (hts _ (List.mem_cons_of_mem _ m_325)), trivial⟩ ⟨fb_r, fun U hU hW => ⟨rfl, by rw [hU]; exact hPc, va_K.moved hW.alike hK, hE.warm hW⟩⟩ rfl rfl hl.1 rfl (lv_room (Nat.le_of_ble_eq_true rfl)) d_C_heldBy_66 ⟨Nat.le_of_ble_eq_true rfl, Nat.le_of_ble_eq_true rfl⟩).run) (fun r_10 hw => ?_)
          refine lv_istore_n (lv' := [(2, .int r_10), (6, .int (1 : Int32)), (0, .ref aC), (1, .int x1), (3, .int x3), (4, .int x4), (5, .int x5)]) hx hb d_C_heldBy_69 rfl hl (by decide) rfl (fun ls hl => ?_)
          refine lv_iinc (v := x5 + 1) (lv' := [(5, .int (x5 + 1)), (2, .int r_10), (6, .int (1 : Int32)), (0, .ref aC), (1, .int x1), (3, .int x3), (4, .int x4)]) hx hb d_C_heldBy_70 hl (k := 6) rfl rfl (by decide) rfl (fun ls hl => ?_)
          refine lv_goto (tgt := 18) hx hb d_C_heldBy_73 (by decide) ?_
          exact ih r_10 (x5 + 1) hw ls (lv_sub hl [3, 4, 1, 5, 6, 0] rfl)
  have L4 : ∀ (x1 : Int32) (n : Nat) (x2 : Int32) (x3 : Int32), wl_C_heldBy_4 C_sourceSets C_otherSets C_made x1 post n x2 x3 → ∀ (ls : Array Slot), lv_has ls 7 [(0, .ref aC), (1, .int x1), (2, .int x2), (3, .int x3)] → W p l e (headSpec w_C_heldBy ({ frames := 1, cells := 0, slots := 0, locals := 21 })).room s m args below meth c s.heap [] 0 0 Q0 (F0 m 4 ls []) := by
    intro x1
    intro n
    induction n with
    | zero =>
      intro x2 x3 hw
      exact False.elim hw
    | succ n ih =>
      intro x2 x3 hw ls hl
      unfold wl_C_heldBy_4 at hw
      refine lv_iload_n hx hb d_C_heldBy_4 rfl (lv_at hl 3 rfl) ?_
      refine lv_aload_n hx hb d_C_heldBy_5 rfl (lv_at hl 0 rfl) ?_
      refine va_get (D := (dC, dI)) (ci := 0) (v := .int C_made) (C := "ClaimSources$Claims") (T := TT_0) (N := 7) hx hb hts hi_0 hown hK hP 0 rfl rfl 5 (by decide) hf_27 (fun _ h9 => h9) rfl d_C_heldBy_6 ?_
      refine lv_icmp_ge (tgt := 91) hx hb d_C_heldBy_9 (by decide) (fun c_11 => ?_) (fun c_11 => ?_)
      · have hw := hw.1 c_11
        refine lv_iload_n hx hb d_C_heldBy_91 rfl (lv_at hl 2 rfl) ?_
        subst hQ0
        exact W.iret (v := x2) hx hb hr (fun t ht hW => ⟨_, rfl, hw, ht⟩) (fun q h => by cases h) d_C_heldBy_92
      · have hw := hw.2 c_11
        refine lv_iload_n hx hb d_C_heldBy_12 rfl (lv_at hl 2 rfl) ?_
        refine lv_istore (lv' := [(4, .int x2), (0, .ref aC), (1, .int x1), (2, .int x2), (3, .int x3)]) hx hb d_C_heldBy_13 hl (by decide) rfl (fun ls hl => ?_)
        refine lv_iconst (v := 0) hx hb d_C_heldBy_15 (by decide) ?_
        refine lv_istore (lv' := [(5, .int (0 : Int32)), (4, .int x2), (0, .ref aC), (1, .int x1), (2, .int x2), (3, .int x3)]) hx hb d_C_heldBy_16 hl (by decide) rfl (fun ls hl => ?_)
        obtain ⟨n_12, hw⟩ := hw
        exact L18 x1 x3 x2 _ ih n_12 x2 (0 : Int32) hw ls (lv_sub hl [2, 3, 4, 5, 1, 0] rfl)
  unfold wp_C_heldBy at hw
  refine lv_iconst (v := 0) hx hb d_C_heldBy_0 (by decide) ?_
  refine lv_istore_n (lv' := [(2, .int (0 : Int32)), (0, .ref aC), (1, .int x1)]) hx hb d_C_heldBy_1 rfl hl (by decide) rfl (fun ls hl => ?_)
  refine lv_iconst (v := 0) hx hb d_C_heldBy_2 (by decide) ?_
  refine lv_istore_n (lv' := [(3, .int (0 : Int32)), (2, .int (0 : Int32)), (0, .ref aC), (1, .int x1)]) hx hb d_C_heldBy_3 rfl hl (by decide) rfl (fun ls hl => ?_)
  obtain ⟨n_13, hw⟩ := hw
  exact L4 x1 n_13 (0 : Int32) (0 : Int32) hw ls (lv_sub hl [2, 3, 1, 0] rfl)
def wp_C_ruleOf (C_sourceSets : Nat → Int32) (C_otherSets : Nat → Int32) (C_rules : Nat → Int32) (C_ringClaims : Nat → Int32) (C_steps : Nat → Int32) (C_made : Int32) (C_ringLength : Int32) (x1 : Int32) (post : Int32 → Prop) : Prop := (vp_in x1 24 ∧ (post (C_rules x1.toNatClampNeg)))
set_option maxHeartbeats 4000000 in
set_option maxRecDepth 100000 in
theorem mt_C_ruleOf (l : Launch) (dC : Nat → ClassId) (dI : Nat → Nat → Nat) (cI : ClassId) (aC : Nat) (aC_sourceSets : Nat) (aC_otherSets : Nat) (aC_rules : Nat) (aC_ringClaims : Nat) (aC_steps : Nat) (post : Int32 → Prop) (C_sourceSets : Nat → Int32) (C_otherSets : Nat → Int32) (C_rules : Nat → Int32) (C_ringClaims : Nat → Int32) (C_steps : Nat → Int32) (C_made : Int32) (C_ringLength : Int32) (x1 : Int32) (hw : wp_C_ruleOf C_sourceSets C_otherSets C_rules C_ringClaims C_steps C_made C_ringLength x1 post) : Met l y_C_ruleOf w_C_ruleOf ({ frames := 0, cells := 0, slots := 0, locals := 0 }) (va_Pc [.ref aC, .int x1] (fun U => va_P (dC, dI) vwCl [(aC, .inr (0, [.ref aC_sourceSets, .ref aC_otherSets, .ref aC_rules, .ref aC_ringClaims, .ref aC_steps, .int C_made, .int C_ringLength])), (aC_sourceSets, .inl (cI, 24, .inl C_sourceSets)), (aC_otherSets, .inl (cI, 24, .inl C_otherSets)), (aC_rules, .inl (cI, 24, .inl C_rules)), (aC_ringClaims, .inl (cI, 24, .inl C_ringClaims)), (aC_steps, .inl (cI, 24, .inl C_steps))] U.heap ∧ va_K (dC, dI) vwCl [(cI, .int)] U ∧ en_ok U)) (vp_Si post) 0 0 (fun _ => False) := by
  refine Met.ofW (cc := prog_2_method_4_code) (maxL := 2) (ret := (some .int)) (by decide) rfl ?_
  intro p e s m args below meth c s₁ B hml hv
  obtain ⟨rfl, hP, hK, hE⟩ := hv
  have hx := B.exec
  have hb := B.bytes
  have hr := B.returns
  have hts := atoms_spec (ws := w_C_ruleOf) B.pre
  have hown : s.vm.findClass "ClaimSources$Claims" = some m.cls := findClass_of_methodNamed B.named
  have hlocks := B.notSynchronized
  have hl := lv_entry ([.ref aC, .int x1]) (n := 2) (Nat.le_of_ble_eq_true rfl)
  rw [lg_entry_eq]
  generalize (lg_sl ([.ref aC, .int x1]) ++ List.replicate (2 - (lg_sl ([.ref aC, .int x1])).length) Slot.unset).toArray = ls at hl ⊢
  have hl : lv_has ls 2 [(0, .ref aC), (1, .int x1)] := hl
  obtain ⟨Q0, hQ0⟩ : ∃ Q0, Q0 = MQ below (vp_Si post) ([.ref aC, .int x1]).toArray s 0 0 (fun _ => False) := ⟨_, rfl⟩
  rw [← hQ0]
  clear B
  generalize hag : ([.ref aC, .int x1] : List Value).toArray = args at hts hQ0 ⊢
  have hi_0 : ∀ w ∈ u_ws "ClaimSources$Claims" TT_0 7, w ∈ w_C_ruleOf := fun w h => List.mem_cons_of_mem _ (ia_0 w h)
  have hf_18 := hts _ (List.mem_cons_of_mem _ m_66)
  unfold wp_C_ruleOf at hw
  refine lv_aload_n hx hb d_C_ruleOf_0 rfl (lv_at hl 0 rfl) ?_
  refine va_get (D := (dC, dI)) (ci := 0) (v := .ref aC_rules) (C := "ClaimSources$Claims") (T := TT_0) (N := 7) hx hb hts hi_0 hown hK hP 0 rfl rfl 2 (by decide) hf_18 (fun _ h9 => h9) rfl d_C_ruleOf_1 ?_
  refine lv_iload_n hx hb d_C_ruleOf_4 rfl (lv_at hl 1 rfl) ?_
  obtain ⟨h_1, hw⟩ := hw
  refine va_iald hx hb hK hP 3 0 rfl rfl h_1 d_C_ruleOf_5 ?_
  subst hQ0
  exact W.iret (v := C_rules x1.toNatClampNeg) hx hb hr (fun t ht hW => ⟨_, rfl, hw, ht⟩) (fun q h => by cases h) d_C_ruleOf_6
def wl_C_pairs_4 (C_otherSets : Nat → Int32) (C_made : Int32) (post : Int32 → Prop) : Nat → Int32 → Int32 → Prop
  | 0, _, _ => False
  | n + 1, x1, x2 => ((C_made ≤ x2 → (post x1)) ∧ (¬ (C_made ≤ x2) → (vp_in x2 24 ∧ (wp_J_bitCount (C_otherSets x2.toNatClampNeg) (fun r_3 => wl_C_pairs_4 C_otherSets C_made post n (x1 + r_3) (x2 + 1))))))
def wp_C_pairs (C_sourceSets : Nat → Int32) (C_otherSets : Nat → Int32) (C_rules : Nat → Int32) (C_ringClaims : Nat → Int32) (C_steps : Nat → Int32) (C_made : Int32) (C_ringLength : Int32) (post : Int32 → Prop) : Prop := (∃ n9, wl_C_pairs_4 C_otherSets C_made post n9 (0 : Int32) (0 : Int32))
set_option maxHeartbeats 4000000 in
set_option maxRecDepth 100000 in
theorem mt_C_pairs (l : Launch) (dC : Nat → ClassId) (dI : Nat → Nat → Nat) (cI : ClassId) (aC : Nat) (aC_sourceSets : Nat) (aC_otherSets : Nat) (aC_rules : Nat) (aC_ringClaims : Nat) (aC_steps : Nat) (post : Int32 → Prop) (C_sourceSets : Nat → Int32) (C_otherSets : Nat → Int32) (C_rules : Nat → Int32) (C_ringClaims : Nat → Int32) (C_steps : Nat → Int32) (C_made : Int32) (C_ringLength : Int32) (hw : wp_C_pairs C_sourceSets C_otherSets C_rules C_ringClaims C_steps C_made C_ringLength post) : Met l y_C_pairs w_C_pairs ({ frames := 1, cells := 0, slots := 0, locals := 20 }) (va_Pc [.ref aC] (fun U => va_P (dC, dI) vwCl [(aC, .inr (0, [.ref aC_sourceSets, .ref aC_otherSets, .ref aC_rules, .ref aC_ringClaims, .ref aC_steps, .int C_made, .int C_ringLength])), (aC_sourceSets, .inl (cI, 24, .inl C_sourceSets)), (aC_otherSets, .inl (cI, 24, .inl C_otherSets)), (aC_rules, .inl (cI, 24, .inl C_rules)), (aC_ringClaims, .inl (cI, 24, .inl C_ringClaims)), (aC_steps, .inl (cI, 24, .inl C_steps))] U.heap ∧ va_K (dC, dI) vwCl [(cI, .int)] U ∧ en_ok U)) (vp_Si post) 0 0 (fun _ => False) := by
  refine Met.ofW (cc := prog_2_method_9_code) (maxL := 3) (ret := (some .int)) (by decide) rfl ?_
  intro p e s m args below meth c s₁ B hml hv
  obtain ⟨rfl, hP, hK, hE⟩ := hv
  have hx := B.exec
  have hb := B.bytes
  have hr := B.returns
  have hts := atoms_spec (ws := w_C_pairs) B.pre
  have hown : s.vm.findClass "ClaimSources$Claims" = some m.cls := findClass_of_methodNamed B.named
  have hlocks := B.notSynchronized
  have hl := lv_entry ([.ref aC]) (n := 3) (Nat.le_of_ble_eq_true rfl)
  rw [lg_entry_eq]
  generalize (lg_sl ([.ref aC]) ++ List.replicate (3 - (lg_sl ([.ref aC])).length) Slot.unset).toArray = ls at hl ⊢
  have hl : lv_has ls 3 [(0, .ref aC)] := hl
  obtain ⟨Q0, hQ0⟩ : ∃ Q0, Q0 = MQ below (vp_Si post) ([.ref aC]).toArray s 0 0 (fun _ => False) := ⟨_, rfl⟩
  rw [← hQ0]
  clear B
  generalize hag : ([.ref aC] : List Value).toArray = args at hts hQ0 ⊢
  have hi_0 : ∀ w ∈ u_ws "ClaimSources$Claims" TT_0 7, w ∈ w_C_pairs := fun w h => List.mem_cons_of_mem _ (ia_0 w h)
  have hf_27 := hts _ (List.mem_cons_of_mem _ m_69)
  have hf_15 := hts _ (List.mem_cons_of_mem _ m_65)
  have L4 : ∀ (n : Nat) (x1 : Int32) (x2 : Int32), wl_C_pairs_4 C_otherSets C_made post n x1 x2 → ∀ (ls : Array Slot), lv_has ls 3 [(0, .ref aC), (1, .int x1), (2, .int x2)] → W p l e (headSpec w_C_pairs ({ frames := 1, cells := 0, slots := 0, locals := 20 })).room s m args below meth c s.heap [] 0 0 Q0 (F0 m 4 ls []) := by
    intro n
    induction n with
    | zero =>
      intro x1 x2 hw
      exact False.elim hw
    | succ n ih =>
      intro x1 x2 hw ls hl
      unfold wl_C_pairs_4 at hw
      refine lv_iload_n hx hb d_C_pairs_4 rfl (lv_at hl 2 rfl) ?_
      refine lv_aload_n hx hb d_C_pairs_5 rfl (lv_at hl 0 rfl) ?_
      refine va_get (D := (dC, dI)) (ci := 0) (v := .int C_made) (C := "ClaimSources$Claims") (T := TT_0) (N := 7) hx hb hts hi_0 hown hK hP 0 rfl rfl 5 (by decide) hf_27 (fun _ h9 => h9) rfl d_C_pairs_6 ?_
      refine lv_icmp_ge (tgt := 30) hx hb d_C_pairs_9 (by decide) (fun c_1 => ?_) (fun c_1 => ?_)
      · have hw := hw.1 c_1
        refine lv_iload_n hx hb d_C_pairs_30 rfl (lv_at hl 1 rfl) ?_
        subst hQ0
        exact W.iret (v := x1) hx hb hr (fun t ht hW => ⟨_, rfl, hw, ht⟩) (fun q h => by cases h) d_C_pairs_31
      · have hw := hw.2 c_1
        refine lv_iload_n hx hb d_C_pairs_12 rfl (lv_at hl 1 rfl) ?_
        refine lv_aload_n hx hb d_C_pairs_13 rfl (lv_at hl 0 rfl) ?_
        refine va_get (D := (dC, dI)) (ci := 0) (v := .ref aC_otherSets) (C := "ClaimSources$Claims") (T := TT_0) (N := 7) hx hb hts hi_0 hown hK hP 0 rfl rfl 1 (by decide) hf_15 (fun _ h9 => h9) rfl d_C_pairs_14 ?_
        refine lv_iload_n hx hb d_C_pairs_17 rfl (lv_at hl 2 rfl) ?_
        obtain ⟨h_2, hw⟩ := hw
        refine va_iald hx hb hK hP 2 0 rfl rfl h_2 d_C_pairs_18 ?_
        have hPc := hP.sub (ws' := []) [] rfl
        refine vp_callSi (W.runS (As := [.int (C_otherSets x2.toNatClampNeg)]) (rest := [.int x1]) ⟨hx, hb, hml, hown, hts⟩ (mt_J_bitCount l dC dI cI _ (C_otherSets x2.toNatClampNeg) hw) (va_cwS 1 hts (gdS m_618 m_619 m_16 m_620) rfl rfl rfl (by decide +kernel) ⟨Nat.le_of_ble_eq_true rfl, Nat.le_of_ble_eq_true rfl⟩) ⟨fb_r, fun U hU hW => ⟨rfl, by rw [hU]; exact hPc, va_K.moved hW.alike hK, hE.warm hW⟩⟩ rfl rfl hl.1 rfl (lv_room (Nat.le_of_ble_eq_true rfl)) d_C_pairs_19 ⟨Nat.le_of_ble_eq_true rfl, Nat.le_of_ble_eq_true rfl⟩) (fun r_3 hw => ?_)
        refine lv_iadd hx hb d_C_pairs_22 ?_
        refine lv_istore_n (lv' := [(1, .int (x1 + r_3)), (0, .ref aC), (2, .int x2)]) hx hb d_C_pairs_23 rfl hl (by decide) rfl (fun ls hl => ?_)
        refine lv_iinc (v := x2 + 1) (lv' := [(2, .int (x2 + 1)), (1, .int (x1 + r_3)), (0, .ref aC)]) hx hb d_C_pairs_24 hl (k := 2) rfl rfl (by decide) rfl (fun ls hl => ?_)
        refine lv_goto (tgt := 4) hx hb d_C_pairs_27 (by decide) ?_
        exact ih (x1 + r_3) (x2 + 1) hw ls (lv_sub hl [2, 1, 0] rfl)
  unfold wp_C_pairs at hw
  refine lv_iconst (v := 0) hx hb d_C_pairs_0 (by decide) ?_
  refine lv_istore_n (lv' := [(1, .int (0 : Int32)), (0, .ref aC)]) hx hb d_C_pairs_1 rfl hl (by decide) rfl (fun ls hl => ?_)
  refine lv_iconst (v := 0) hx hb d_C_pairs_2 (by decide) ?_
  refine lv_istore_n (lv' := [(2, .int (0 : Int32)), (1, .int (0 : Int32)), (0, .ref aC)]) hx hb d_C_pairs_3 rfl hl (by decide) rfl (fun ls hl => ?_)
  obtain ⟨n_4, hw⟩ := hw
  exact L4 n_4 (0 : Int32) (0 : Int32) hw ls (lv_sub hl [2, 1, 0] rfl)
