def wp_S_made (S_kinds : Nat → Int32) (S_days : Nat → Int32) (S_withdrawals : Nat → Int32) (S_made : Int32) (post : Int32 → Prop) : Prop := (post S_made)
set_option maxHeartbeats 4000000 in
set_option maxRecDepth 100000 in
theorem mt_S_made (l : Launch) (dC : Nat → ClassId) (dI : Nat → Nat → Nat) (cI : ClassId) (aS : Nat) (aS_kinds : Nat) (aS_days : Nat) (aS_withdrawals : Nat) (post : Int32 → Prop) (S_kinds : Nat → Int32) (S_days : Nat → Int32) (S_withdrawals : Nat → Int32) (S_made : Int32) (hw : wp_S_made S_kinds S_days S_withdrawals S_made post) : Met l y_S_made w_S_made ({ frames := 0, cells := 0, slots := 0, locals := 0 }) (va_Pc [.ref aS] (fun U => va_P (dC, dI) vwCl [(aS, .inr (2, [.ref aS_kinds, .ref aS_days, .ref aS_withdrawals, .int S_made])), (aS_kinds, .inl (cI, 24, .inl S_kinds)), (aS_days, .inl (cI, 24, .inl S_days)), (aS_withdrawals, .inl (cI, 24, .inl S_withdrawals))] U.heap ∧ va_K (dC, dI) vwCl [(cI, .int)] U ∧ en_ok U)) (vp_Si post) 0 0 (fun _ => False) := by
  refine Met.ofW (cc := prog_4_method_2_code) (maxL := 1) (ret := (some .int)) (by decide) rfl ?_
  intro p e s m args below meth c s₁ B hml hv
  obtain ⟨rfl, hP, hK, hE⟩ := hv
  have hx := B.exec
  have hb := B.bytes
  have hr := B.returns
  have hts := atoms_spec (ws := w_S_made) B.pre
  have hown : s.vm.findClass "ClaimSources$Sources" = some m.cls := findClass_of_methodNamed B.named
  have hlocks := B.notSynchronized
  have hl := lv_entry ([.ref aS]) (n := 1) (Nat.le_of_ble_eq_true rfl)
  rw [lg_entry_eq]
  generalize (lg_sl ([.ref aS]) ++ List.replicate (1 - (lg_sl ([.ref aS])).length) Slot.unset).toArray = ls at hl ⊢
  have hl : lv_has ls 1 [(0, .ref aS)] := hl
  obtain ⟨Q0, hQ0⟩ : ∃ Q0, Q0 = MQ below (vp_Si post) ([.ref aS]).toArray s 0 0 (fun _ => False) := ⟨_, rfl⟩
  rw [← hQ0]
  clear B
  generalize hag : ([.ref aS] : List Value).toArray = args at hts hQ0 ⊢
  have hi_2 : ∀ w ∈ u_ws "ClaimSources$Sources" TT_2 4, w ∈ w_S_made := fun w h => List.mem_cons_of_mem _ (ia_2 w h)
  have hf_21 := hts _ (List.mem_cons_of_mem _ m_48)
  unfold wp_S_made at hw
  refine lv_aload_n hx hb d_S_made_0 rfl (lv_at hl 0 rfl) ?_
  refine va_get (D := (dC, dI)) (ci := 2) (v := .int S_made) (C := "ClaimSources$Sources") (T := TT_2) (N := 4) hx hb hts hi_2 hown hK hP 0 rfl rfl 3 (by decide) hf_21 (fun _ h9 => h9) rfl d_S_made_1 ?_
  subst hQ0
  exact W.iret (v := S_made) hx hb hr (fun t ht hW => ⟨_, rfl, hw, ht⟩) (fun q h => by cases h) d_S_made_4
def wp_S_add (S_kinds : Nat → Int32) (S_days : Nat → Int32) (S_withdrawals : Nat → Int32) (S_made : Int32) (x1 : Int32) (x2 : Int32) (post : Int32 → (Nat → Int32) → (Nat → Int32) → (Nat → Int32) → Int32 → Prop) : Prop := (vp_in S_made 24 ∧ (vp_in S_made 24 ∧ (vp_in S_made 24 ∧ (post S_made (upd S_kinds S_made.toNatClampNeg x1) (upd S_days S_made.toNatClampNeg x2) (upd S_withdrawals S_made.toNatClampNeg (-1 : Int32)) (S_made + (1 : Int32))))))
set_option maxHeartbeats 4000000 in
set_option maxRecDepth 100000 in
theorem mt_S_add (l : Launch) (dC : Nat → ClassId) (dI : Nat → Nat → Nat) (cI : ClassId) (aS : Nat) (aS_kinds : Nat) (aS_days : Nat) (aS_withdrawals : Nat) (sz : Nat) (post : Int32 → (Nat → Int32) → (Nat → Int32) → (Nat → Int32) → Int32 → Prop) (S_kinds : Nat → Int32) (S_days : Nat → Int32) (S_withdrawals : Nat → Int32) (S_made : Int32) (x1 : Int32) (x2 : Int32) (hw : wp_S_add S_kinds S_days S_withdrawals S_made x1 x2 post) : Met l y_S_add w_S_add ({ frames := 0, cells := 0, slots := 0, locals := 0 }) (va_Pc [.ref aS, .int x1, .int x2] (fun U => U.heap.size = sz ∧ va_P (dC, dI) vwCl [(aS, .inr (2, [.ref aS_kinds, .ref aS_days, .ref aS_withdrawals, .int S_made])), (aS_kinds, .inl (cI, 24, .inl S_kinds)), (aS_days, .inl (cI, 24, .inl S_days)), (aS_withdrawals, .inl (cI, 24, .inl S_withdrawals))] U.heap ∧ va_K (dC, dI) vwCl [(cI, .int)] U ∧ va_D (fun _ => True) [(aS, .inr (2, [.ref aS_kinds, .ref aS_days, .ref aS_withdrawals, .int S_made])), (aS_kinds, .inl (cI, 24, .inl S_kinds)), (aS_days, .inl (cI, 24, .inl S_days)), (aS_withdrawals, .inl (cI, 24, .inl S_withdrawals))] ∧ en_ok U)) (va_Qi (fun r (u : (Nat → Int32) × (Nat → Int32) × (Nat → Int32) × (Int32)) => post r u.1 u.2.1 u.2.2.1 u.2.2.2) (fun (u : (Nat → Int32) × (Nat → Int32) × (Nat → Int32) × (Int32)) t => va_P (dC, dI) vwCl [(aS, .inr (2, [.ref aS_kinds, .ref aS_days, .ref aS_withdrawals, .int u.2.2.2])), (aS_kinds, .inl (cI, 24, .inl u.1)), (aS_days, .inl (cI, 24, .inl u.2.1)), (aS_withdrawals, .inl (cI, 24, .inl u.2.2.1))] t.heap ∧ va_D (va_A [(aS, .inr (2, [.ref aS_kinds, .ref aS_days, .ref aS_withdrawals, .int S_made])), (aS_kinds, .inl (cI, 24, .inl S_kinds)), (aS_days, .inl (cI, 24, .inl S_days)), (aS_withdrawals, .inl (cI, 24, .inl S_withdrawals))] sz) [(aS, .inr (2, [.ref aS_kinds, .ref aS_days, .ref aS_withdrawals, .int u.2.2.2])), (aS_kinds, .inl (cI, 24, .inl u.1)), (aS_days, .inl (cI, 24, .inl u.2.1)), (aS_withdrawals, .inl (cI, 24, .inl u.2.2.1))]) (va_A [(aS, .inr (2, [.ref aS_kinds, .ref aS_days, .ref aS_withdrawals, .int S_made])), (aS_kinds, .inl (cI, 24, .inl S_kinds)), (aS_days, .inl (cI, 24, .inl S_days)), (aS_withdrawals, .inl (cI, 24, .inl S_withdrawals))] sz)) 0 0 (va_A [(aS, .inr (2, [.ref aS_kinds, .ref aS_days, .ref aS_withdrawals, .int S_made])), (aS_kinds, .inl (cI, 24, .inl S_kinds)), (aS_days, .inl (cI, 24, .inl S_days)), (aS_withdrawals, .inl (cI, 24, .inl S_withdrawals))] sz) := by
  refine Met.ofW (cc := prog_4_method_3_code) (maxL := 4) (ret := (some .int)) (by decide) rfl ?_
  intro p e s m args below meth c s₁ B hml hv
  obtain ⟨rfl, hsz, hP, hK, hD0, hE⟩ := hv
  have hx := B.exec
  have hb := B.bytes
  have hr := B.returns
  have hts := atoms_spec (ws := w_S_add) B.pre
  have hown : s.vm.findClass "ClaimSources$Sources" = some m.cls := findClass_of_methodNamed B.named
  have hlocks := B.notSynchronized
  subst hsz
  have hD := hD0.self (sz := s.heap.size)
  generalize hAe : va_A [(aS, .inr (2, [.ref aS_kinds, .ref aS_days, .ref aS_withdrawals, .int S_made])), (aS_kinds, .inl (cI, 24, .inl S_kinds)), (aS_days, .inl (cI, 24, .inl S_days)), (aS_withdrawals, .inl (cI, 24, .inl S_withdrawals))] s.heap.size = A at hD ⊢
  have hA : ∀ q : Nat, s.heap.size ≤ q → A q := fun q h => by rw [← hAe]; exact Or.inr h
  have hS : va_S A s.heap s.heap [] := va_S.rf
  have hl := lv_entry ([.ref aS, .int x1, .int x2]) (n := 4) (Nat.le_of_ble_eq_true rfl)
  rw [lg_entry_eq]
  generalize (lg_sl ([.ref aS, .int x1, .int x2]) ++ List.replicate (4 - (lg_sl ([.ref aS, .int x1, .int x2])).length) Slot.unset).toArray = ls at hl ⊢
  have hl : lv_has ls 4 [(0, .ref aS), (1, .int x1), (2, .int x2)] := hl
  obtain ⟨Q0, hQ0⟩ : ∃ Q0, Q0 = MQ below (va_Qi (fun r (u : (Nat → Int32) × (Nat → Int32) × (Nat → Int32) × (Int32)) => post r u.1 u.2.1 u.2.2.1 u.2.2.2) (fun (u : (Nat → Int32) × (Nat → Int32) × (Nat → Int32) × (Int32)) t => va_P (dC, dI) vwCl [(aS, .inr (2, [.ref aS_kinds, .ref aS_days, .ref aS_withdrawals, .int u.2.2.2])), (aS_kinds, .inl (cI, 24, .inl u.1)), (aS_days, .inl (cI, 24, .inl u.2.1)), (aS_withdrawals, .inl (cI, 24, .inl u.2.2.1))] t.heap ∧ va_D A [(aS, .inr (2, [.ref aS_kinds, .ref aS_days, .ref aS_withdrawals, .int u.2.2.2])), (aS_kinds, .inl (cI, 24, .inl u.1)), (aS_days, .inl (cI, 24, .inl u.2.1)), (aS_withdrawals, .inl (cI, 24, .inl u.2.2.1))]) A) ([.ref aS, .int x1, .int x2]).toArray s 0 0 A := ⟨_, rfl⟩
  rw [← hQ0]
  clear B
  generalize hag : ([.ref aS, .int x1, .int x2] : List Value).toArray = args at hts hQ0 ⊢
  have hi_2 : ∀ w ∈ u_ws "ClaimSources$Sources" TT_2 4, w ∈ w_S_add := fun w h => List.mem_cons_of_mem _ (ia_2 w h)
  have hf_21 := hts _ (List.mem_cons_of_mem _ m_48)
  have hf_9 := hts _ (List.mem_cons_of_mem _ m_45)
  have hf_15 := hts _ (List.mem_cons_of_mem _ m_46)
  have hf_18 := hts _ (List.mem_cons_of_mem _ m_47)
  unfold wp_S_add at hw
  refine lv_aload_n hx hb d_S_add_0 rfl (lv_at hl 0 rfl) ?_
  refine va_get (D := (dC, dI)) (ci := 2) (v := .int S_made) (C := "ClaimSources$Sources") (T := TT_2) (N := 4) hx hb hts hi_2 hown hK hP 0 rfl rfl 3 (by decide) hf_21 (fun _ h9 => h9) rfl d_S_add_1 ?_
  refine lv_istore_n (lv' := [(3, .int S_made), (0, .ref aS), (1, .int x1), (2, .int x2)]) hx hb d_S_add_4 rfl hl (by decide) rfl (fun ls hl => ?_)
  refine lv_aload_n hx hb d_S_add_5 rfl (lv_at hl 1 rfl) ?_
  refine va_get (D := (dC, dI)) (ci := 2) (v := .ref aS_kinds) (C := "ClaimSources$Sources") (T := TT_2) (N := 4) hx hb hts hi_2 hown hK hP 0 rfl rfl 0 (by decide) hf_9 (fun _ h9 => h9) rfl d_S_add_6 ?_
  refine lv_iload_n hx hb d_S_add_9 rfl (lv_at hl 0 rfl) ?_
  refine lv_iload_n hx hb d_S_add_10 rfl (lv_at hl 2 rfl) ?_
  obtain ⟨h_1, hw⟩ := hw
  refine va_iast hx hb hK hP hD hS 1 0 rfl rfl h_1 d_S_add_11 (fun H locs hP hD hS => ?_)
  have hP : va_P (dC, dI) vwCl [(aS, .inr (2, [.ref aS_kinds, .ref aS_days, .ref aS_withdrawals, .int S_made])), (aS_kinds, .inl (cI, 24, .inl (upd S_kinds S_made.toNatClampNeg x1))), (aS_days, .inl (cI, 24, .inl S_days)), (aS_withdrawals, .inl (cI, 24, .inl S_withdrawals))] H := hP
  have hD : va_D A [(aS, .inr (2, [.ref aS_kinds, .ref aS_days, .ref aS_withdrawals, .int S_made])), (aS_kinds, .inl (cI, 24, .inl (upd S_kinds S_made.toNatClampNeg x1))), (aS_days, .inl (cI, 24, .inl S_days)), (aS_withdrawals, .inl (cI, 24, .inl S_withdrawals))] := hD
  refine lv_aload_n hx hb d_S_add_12 rfl (lv_at hl 1 rfl) ?_
  refine va_get (D := (dC, dI)) (ci := 2) (v := .ref aS_days) (C := "ClaimSources$Sources") (T := TT_2) (N := 4) hx hb hts hi_2 hown hK hP 0 rfl rfl 1 (by decide) hf_15 (fun _ h9 => h9) rfl d_S_add_13 ?_
  refine lv_iload_n hx hb d_S_add_16 rfl (lv_at hl 0 rfl) ?_
  refine lv_iload_n hx hb d_S_add_17 rfl (lv_at hl 3 rfl) ?_
  obtain ⟨h_2, hw⟩ := hw
  refine va_iast hx hb hK hP hD hS 2 0 rfl rfl h_2 d_S_add_18 (fun H locs hP hD hS => ?_)
  have hP : va_P (dC, dI) vwCl [(aS, .inr (2, [.ref aS_kinds, .ref aS_days, .ref aS_withdrawals, .int S_made])), (aS_kinds, .inl (cI, 24, .inl (upd S_kinds S_made.toNatClampNeg x1))), (aS_days, .inl (cI, 24, .inl (upd S_days S_made.toNatClampNeg x2))), (aS_withdrawals, .inl (cI, 24, .inl S_withdrawals))] H := hP
  have hD : va_D A [(aS, .inr (2, [.ref aS_kinds, .ref aS_days, .ref aS_withdrawals, .int S_made])), (aS_kinds, .inl (cI, 24, .inl (upd S_kinds S_made.toNatClampNeg x1))), (aS_days, .inl (cI, 24, .inl (upd S_days S_made.toNatClampNeg x2))), (aS_withdrawals, .inl (cI, 24, .inl S_withdrawals))] := hD
  refine lv_aload_n hx hb d_S_add_19 rfl (lv_at hl 1 rfl) ?_
  refine va_get (D := (dC, dI)) (ci := 2) (v := .ref aS_withdrawals) (C := "ClaimSources$Sources") (T := TT_2) (N := 4) hx hb hts hi_2 hown hK hP 0 rfl rfl 2 (by decide) hf_18 (fun _ h9 => h9) rfl d_S_add_20 ?_
  refine lv_iload_n hx hb d_S_add_23 rfl (lv_at hl 0 rfl) ?_
  refine lv_iconst (v := -1) hx hb d_S_add_24 (by decide) ?_
  obtain ⟨h_3, hw⟩ := hw
  refine va_iast hx hb hK hP hD hS 3 0 rfl rfl h_3 d_S_add_25 (fun H locs hP hD hS => ?_)
  have hP : va_P (dC, dI) vwCl [(aS, .inr (2, [.ref aS_kinds, .ref aS_days, .ref aS_withdrawals, .int S_made])), (aS_kinds, .inl (cI, 24, .inl (upd S_kinds S_made.toNatClampNeg x1))), (aS_days, .inl (cI, 24, .inl (upd S_days S_made.toNatClampNeg x2))), (aS_withdrawals, .inl (cI, 24, .inl (upd S_withdrawals S_made.toNatClampNeg (-1 : Int32))))] H := hP
  have hD : va_D A [(aS, .inr (2, [.ref aS_kinds, .ref aS_days, .ref aS_withdrawals, .int S_made])), (aS_kinds, .inl (cI, 24, .inl (upd S_kinds S_made.toNatClampNeg x1))), (aS_days, .inl (cI, 24, .inl (upd S_days S_made.toNatClampNeg x2))), (aS_withdrawals, .inl (cI, 24, .inl (upd S_withdrawals S_made.toNatClampNeg (-1 : Int32))))] := hD
  refine lv_aload_n hx hb d_S_add_26 rfl (lv_at hl 1 rfl) ?_
  refine lv_dup hx hb d_S_add_27 rfl ?_
  refine va_get (D := (dC, dI)) (ci := 2) (v := .int S_made) (C := "ClaimSources$Sources") (T := TT_2) (N := 4) hx hb hts hi_2 hown hK hP 0 rfl rfl 3 (by decide) hf_21 (fun _ h9 => h9) rfl d_S_add_28 ?_
  refine lv_iconst (v := 1) hx hb d_S_add_31 (by decide) ?_
  refine lv_iadd hx hb d_S_add_32 ?_
  refine va_put (D := (dC, dI)) (ci := 2) (v := .int (S_made + (1 : Int32))) (ty := .int) (C := "ClaimSources$Sources") (T := TT_2) (N := 4) hx hb hts hi_2 ty_2 tyok_2 nn_2 hown hK hP hD hS 0 rfl rfl 3 (by decide) hf_21 (fun _ h9 => h9) rfl (by decide +kernel) rfl rfl (Nat.le_of_ble_eq_true rfl) d_S_add_33 (fun H locs hP hD hS => ?_)
  have hP : va_P (dC, dI) vwCl [(aS, .inr (2, [.ref aS_kinds, .ref aS_days, .ref aS_withdrawals, .int (S_made + (1 : Int32))])), (aS_kinds, .inl (cI, 24, .inl (upd S_kinds S_made.toNatClampNeg x1))), (aS_days, .inl (cI, 24, .inl (upd S_days S_made.toNatClampNeg x2))), (aS_withdrawals, .inl (cI, 24, .inl (upd S_withdrawals S_made.toNatClampNeg (-1 : Int32))))] H := hP
  have hD : va_D A [(aS, .inr (2, [.ref aS_kinds, .ref aS_days, .ref aS_withdrawals, .int (S_made + (1 : Int32))])), (aS_kinds, .inl (cI, 24, .inl (upd S_kinds S_made.toNatClampNeg x1))), (aS_days, .inl (cI, 24, .inl (upd S_days S_made.toNatClampNeg x2))), (aS_withdrawals, .inl (cI, 24, .inl (upd S_withdrawals S_made.toNatClampNeg (-1 : Int32))))] := hD
  refine lv_iload_n hx hb d_S_add_36 rfl (lv_at hl 0 rfl) ?_
  subst hQ0
  have hP9 := hP.sub (ws' := [(aS, .inr (2, [.ref aS_kinds, .ref aS_days, .ref aS_withdrawals, .int (S_made + (1 : Int32))])), (aS_kinds, .inl (cI, 24, .inl (upd S_kinds S_made.toNatClampNeg x1))), (aS_days, .inl (cI, 24, .inl (upd S_days S_made.toNatClampNeg x2))), (aS_withdrawals, .inl (cI, 24, .inl (upd S_withdrawals S_made.toNatClampNeg (-1 : Int32))))]) [0, 1, 2, 3] rfl
  have hD9 := hD.sub (ws' := [(aS, .inr (2, [.ref aS_kinds, .ref aS_days, .ref aS_withdrawals, .int (S_made + (1 : Int32))])), (aS_kinds, .inl (cI, 24, .inl (upd S_kinds S_made.toNatClampNeg x1))), (aS_days, .inl (cI, 24, .inl (upd S_days S_made.toNatClampNeg x2))), (aS_withdrawals, .inl (cI, 24, .inl (upd S_withdrawals S_made.toNatClampNeg (-1 : Int32))))]) [0, 1, 2, 3] (by decide) rfl
  exact W.iret (v := S_made) hx hb hr (fun t ht hW => ⟨⟨_, (upd S_kinds S_made.toNatClampNeg x1, upd S_days S_made.toNatClampNeg x2, upd S_withdrawals S_made.toNatClampNeg (-1 : Int32), S_made + (1 : Int32)), rfl, hw, by rw [ht]; exact hP9, hD9⟩, hS.F ht⟩) hS.2.2 d_S_add_37
def wp_S_setWithdrawal (S_kinds : Nat → Int32) (S_days : Nat → Int32) (S_withdrawals : Nat → Int32) (S_made : Int32) (x1 : Int32) (x2 : Int32) (post : Int32 → (Nat → Int32) → Prop) : Prop := (vp_in x1 24 ∧ (vp_in x1 24 ∧ (post (S_withdrawals x1.toNatClampNeg) (upd S_withdrawals x1.toNatClampNeg x2))))
set_option maxHeartbeats 4000000 in
set_option maxRecDepth 100000 in
theorem mt_S_setWithdrawal (l : Launch) (dC : Nat → ClassId) (dI : Nat → Nat → Nat) (cI : ClassId) (aS : Nat) (aS_kinds : Nat) (aS_days : Nat) (aS_withdrawals : Nat) (sz : Nat) (post : Int32 → (Nat → Int32) → Prop) (S_kinds : Nat → Int32) (S_days : Nat → Int32) (S_withdrawals : Nat → Int32) (S_made : Int32) (x1 : Int32) (x2 : Int32) (hw : wp_S_setWithdrawal S_kinds S_days S_withdrawals S_made x1 x2 post) : Met l y_S_setWithdrawal w_S_setWithdrawal ({ frames := 0, cells := 0, slots := 0, locals := 0 }) (va_Pc [.ref aS, .int x1, .int x2] (fun U => U.heap.size = sz ∧ va_P (dC, dI) vwCl [(aS, .inr (2, [.ref aS_kinds, .ref aS_days, .ref aS_withdrawals, .int S_made])), (aS_kinds, .inl (cI, 24, .inl S_kinds)), (aS_days, .inl (cI, 24, .inl S_days)), (aS_withdrawals, .inl (cI, 24, .inl S_withdrawals))] U.heap ∧ va_K (dC, dI) vwCl [(cI, .int)] U ∧ va_D (fun _ => True) [(aS, .inr (2, [.ref aS_kinds, .ref aS_days, .ref aS_withdrawals, .int S_made])), (aS_kinds, .inl (cI, 24, .inl S_kinds)), (aS_days, .inl (cI, 24, .inl S_days)), (aS_withdrawals, .inl (cI, 24, .inl S_withdrawals))] ∧ en_ok U)) (va_Qi (fun r (u : (Nat → Int32)) => post r u) (fun (u : (Nat → Int32)) t => va_P (dC, dI) vwCl [(aS, .inr (2, [.ref aS_kinds, .ref aS_days, .ref aS_withdrawals, .int S_made])), (aS_kinds, .inl (cI, 24, .inl S_kinds)), (aS_days, .inl (cI, 24, .inl S_days)), (aS_withdrawals, .inl (cI, 24, .inl u))] t.heap ∧ va_D (va_A [(aS, .inr (2, [.ref aS_kinds, .ref aS_days, .ref aS_withdrawals, .int S_made])), (aS_kinds, .inl (cI, 24, .inl S_kinds)), (aS_days, .inl (cI, 24, .inl S_days)), (aS_withdrawals, .inl (cI, 24, .inl S_withdrawals))] sz) [(aS, .inr (2, [.ref aS_kinds, .ref aS_days, .ref aS_withdrawals, .int S_made])), (aS_kinds, .inl (cI, 24, .inl S_kinds)), (aS_days, .inl (cI, 24, .inl S_days)), (aS_withdrawals, .inl (cI, 24, .inl u))]) (va_A [(aS, .inr (2, [.ref aS_kinds, .ref aS_days, .ref aS_withdrawals, .int S_made])), (aS_kinds, .inl (cI, 24, .inl S_kinds)), (aS_days, .inl (cI, 24, .inl S_days)), (aS_withdrawals, .inl (cI, 24, .inl S_withdrawals))] sz)) 0 0 (va_A [(aS, .inr (2, [.ref aS_kinds, .ref aS_days, .ref aS_withdrawals, .int S_made])), (aS_kinds, .inl (cI, 24, .inl S_kinds)), (aS_days, .inl (cI, 24, .inl S_days)), (aS_withdrawals, .inl (cI, 24, .inl S_withdrawals))] sz) := by
  refine Met.ofW (cc := prog_4_method_6_code) (maxL := 4) (ret := (some .int)) (by decide) rfl ?_
  intro p e s m args below meth c s₁ B hml hv
  obtain ⟨rfl, hsz, hP, hK, hD0, hE⟩ := hv
  have hx := B.exec
  have hb := B.bytes
  have hr := B.returns
  have hts := atoms_spec (ws := w_S_setWithdrawal) B.pre
  have hown : s.vm.findClass "ClaimSources$Sources" = some m.cls := findClass_of_methodNamed B.named
  have hlocks := B.notSynchronized
  subst hsz
  have hD := hD0.self (sz := s.heap.size)
  generalize hAe : va_A [(aS, .inr (2, [.ref aS_kinds, .ref aS_days, .ref aS_withdrawals, .int S_made])), (aS_kinds, .inl (cI, 24, .inl S_kinds)), (aS_days, .inl (cI, 24, .inl S_days)), (aS_withdrawals, .inl (cI, 24, .inl S_withdrawals))] s.heap.size = A at hD ⊢
  have hA : ∀ q : Nat, s.heap.size ≤ q → A q := fun q h => by rw [← hAe]; exact Or.inr h
  have hS : va_S A s.heap s.heap [] := va_S.rf
  have hl := lv_entry ([.ref aS, .int x1, .int x2]) (n := 4) (Nat.le_of_ble_eq_true rfl)
  rw [lg_entry_eq]
  generalize (lg_sl ([.ref aS, .int x1, .int x2]) ++ List.replicate (4 - (lg_sl ([.ref aS, .int x1, .int x2])).length) Slot.unset).toArray = ls at hl ⊢
  have hl : lv_has ls 4 [(0, .ref aS), (1, .int x1), (2, .int x2)] := hl
  obtain ⟨Q0, hQ0⟩ : ∃ Q0, Q0 = MQ below (va_Qi (fun r (u : (Nat → Int32)) => post r u) (fun (u : (Nat → Int32)) t => va_P (dC, dI) vwCl [(aS, .inr (2, [.ref aS_kinds, .ref aS_days, .ref aS_withdrawals, .int S_made])), (aS_kinds, .inl (cI, 24, .inl S_kinds)), (aS_days, .inl (cI, 24, .inl S_days)), (aS_withdrawals, .inl (cI, 24, .inl u))] t.heap ∧ va_D A [(aS, .inr (2, [.ref aS_kinds, .ref aS_days, .ref aS_withdrawals, .int S_made])), (aS_kinds, .inl (cI, 24, .inl S_kinds)), (aS_days, .inl (cI, 24, .inl S_days)), (aS_withdrawals, .inl (cI, 24, .inl u))]) A) ([.ref aS, .int x1, .int x2]).toArray s 0 0 A := ⟨_, rfl⟩
  rw [← hQ0]
  clear B
  generalize hag : ([.ref aS, .int x1, .int x2] : List Value).toArray = args at hts hQ0 ⊢
  have hi_2 : ∀ w ∈ u_ws "ClaimSources$Sources" TT_2 4, w ∈ w_S_setWithdrawal := fun w h => List.mem_cons_of_mem _ (ia_2 w h)
  have hf_18 := hts _ (List.mem_cons_of_mem _ m_47)
  unfold wp_S_setWithdrawal at hw
  refine lv_aload_n hx hb d_S_setWithdrawal_0 rfl (lv_at hl 0 rfl) ?_
  refine va_get (D := (dC, dI)) (ci := 2) (v := .ref aS_withdrawals) (C := "ClaimSources$Sources") (T := TT_2) (N := 4) hx hb hts hi_2 hown hK hP 0 rfl rfl 2 (by decide) hf_18 (fun _ h9 => h9) rfl d_S_setWithdrawal_1 ?_
  refine lv_iload_n hx hb d_S_setWithdrawal_4 rfl (lv_at hl 1 rfl) ?_
  obtain ⟨h_1, hw⟩ := hw
  refine va_iald hx hb hK hP 3 0 rfl rfl h_1 d_S_setWithdrawal_5 ?_
  refine lv_istore_n (lv' := [(3, .int (S_withdrawals x1.toNatClampNeg)), (0, .ref aS), (1, .int x1), (2, .int x2)]) hx hb d_S_setWithdrawal_6 rfl hl (by decide) rfl (fun ls hl => ?_)
  refine lv_aload_n hx hb d_S_setWithdrawal_7 rfl (lv_at hl 1 rfl) ?_
  refine va_get (D := (dC, dI)) (ci := 2) (v := .ref aS_withdrawals) (C := "ClaimSources$Sources") (T := TT_2) (N := 4) hx hb hts hi_2 hown hK hP 0 rfl rfl 2 (by decide) hf_18 (fun _ h9 => h9) rfl d_S_setWithdrawal_8 ?_
  refine lv_iload_n hx hb d_S_setWithdrawal_11 rfl (lv_at hl 2 rfl) ?_
  refine lv_iload_n hx hb d_S_setWithdrawal_12 rfl (lv_at hl 3 rfl) ?_
  obtain ⟨h_2, hw⟩ := hw
  refine va_iast hx hb hK hP hD hS 3 0 rfl rfl h_2 d_S_setWithdrawal_13 (fun H locs hP hD hS => ?_)
  have hP : va_P (dC, dI) vwCl [(aS, .inr (2, [.ref aS_kinds, .ref aS_days, .ref aS_withdrawals, .int S_made])), (aS_kinds, .inl (cI, 24, .inl S_kinds)), (aS_days, .inl (cI, 24, .inl S_days)), (aS_withdrawals, .inl (cI, 24, .inl (upd S_withdrawals x1.toNatClampNeg x2)))] H := hP
  have hD : va_D A [(aS, .inr (2, [.ref aS_kinds, .ref aS_days, .ref aS_withdrawals, .int S_made])), (aS_kinds, .inl (cI, 24, .inl S_kinds)), (aS_days, .inl (cI, 24, .inl S_days)), (aS_withdrawals, .inl (cI, 24, .inl (upd S_withdrawals x1.toNatClampNeg x2)))] := hD
  refine lv_iload_n hx hb d_S_setWithdrawal_14 rfl (lv_at hl 0 rfl) ?_
  subst hQ0
  have hP9 := hP.sub (ws' := [(aS, .inr (2, [.ref aS_kinds, .ref aS_days, .ref aS_withdrawals, .int S_made])), (aS_kinds, .inl (cI, 24, .inl S_kinds)), (aS_days, .inl (cI, 24, .inl S_days)), (aS_withdrawals, .inl (cI, 24, .inl (upd S_withdrawals x1.toNatClampNeg x2)))]) [0, 1, 2, 3] rfl
  have hD9 := hD.sub (ws' := [(aS, .inr (2, [.ref aS_kinds, .ref aS_days, .ref aS_withdrawals, .int S_made])), (aS_kinds, .inl (cI, 24, .inl S_kinds)), (aS_days, .inl (cI, 24, .inl S_days)), (aS_withdrawals, .inl (cI, 24, .inl (upd S_withdrawals x1.toNatClampNeg x2)))]) [0, 1, 2, 3] (by decide) rfl
  exact W.iret (v := S_withdrawals x1.toNatClampNeg) hx hb hr (fun t ht hW => ⟨⟨_, (upd S_withdrawals x1.toNatClampNeg x2), rfl, hw, by rw [ht]; exact hP9, hD9⟩, hS.F ht⟩) hS.2.2 d_S_setWithdrawal_15
def wp_S_isWithdrawn (S_kinds : Nat → Int32) (S_days : Nat → Int32) (S_withdrawals : Nat → Int32) (S_made : Int32) (x1 : Int32) (x2 : Int32) (post : Int32 → Prop) : Prop := (vp_in x1 24 ∧ (((S_withdrawals x1.toNatClampNeg) = (-1 : Int32) → (post (0 : Int32))) ∧ (¬ ((S_withdrawals x1.toNatClampNeg) = (-1 : Int32)) → (vp_in x1 24 ∧ ((x2 < (S_withdrawals x1.toNatClampNeg) → (post (0 : Int32))) ∧ (¬ (x2 < (S_withdrawals x1.toNatClampNeg)) → (post (1 : Int32))))))))
set_option maxHeartbeats 4000000 in
set_option maxRecDepth 100000 in
theorem mt_S_isWithdrawn (l : Launch) (dC : Nat → ClassId) (dI : Nat → Nat → Nat) (cI : ClassId) (aS : Nat) (aS_kinds : Nat) (aS_days : Nat) (aS_withdrawals : Nat) (post : Int32 → Prop) (S_kinds : Nat → Int32) (S_days : Nat → Int32) (S_withdrawals : Nat → Int32) (S_made : Int32) (x1 : Int32) (x2 : Int32) (hw : wp_S_isWithdrawn S_kinds S_days S_withdrawals S_made x1 x2 post) : Met l y_S_isWithdrawn w_S_isWithdrawn ({ frames := 0, cells := 0, slots := 0, locals := 0 }) (va_Pc [.ref aS, .int x1, .int x2] (fun U => va_P (dC, dI) vwCl [(aS, .inr (2, [.ref aS_kinds, .ref aS_days, .ref aS_withdrawals, .int S_made])), (aS_kinds, .inl (cI, 24, .inl S_kinds)), (aS_days, .inl (cI, 24, .inl S_days)), (aS_withdrawals, .inl (cI, 24, .inl S_withdrawals))] U.heap ∧ va_K (dC, dI) vwCl [(cI, .int)] U ∧ en_ok U)) (vp_Si post) 0 0 (fun _ => False) := by
  refine Met.ofW (cc := prog_4_method_8_code) (maxL := 3) (ret := (some .boolean)) (by decide) rfl ?_
  intro p e s m args below meth c s₁ B hml hv
  obtain ⟨rfl, hP, hK, hE⟩ := hv
  have hx := B.exec
  have hb := B.bytes
  have hr := B.returns
  have hts := atoms_spec (ws := w_S_isWithdrawn) B.pre
  have hown : s.vm.findClass "ClaimSources$Sources" = some m.cls := findClass_of_methodNamed B.named
  have hlocks := B.notSynchronized
  have hl := lv_entry ([.ref aS, .int x1, .int x2]) (n := 3) (Nat.le_of_ble_eq_true rfl)
  rw [lg_entry_eq]
  generalize (lg_sl ([.ref aS, .int x1, .int x2]) ++ List.replicate (3 - (lg_sl ([.ref aS, .int x1, .int x2])).length) Slot.unset).toArray = ls at hl ⊢
  have hl : lv_has ls 3 [(0, .ref aS), (1, .int x1), (2, .int x2)] := hl
  obtain ⟨Q0, hQ0⟩ : ∃ Q0, Q0 = MQ below (vp_Si post) ([.ref aS, .int x1, .int x2]).toArray s 0 0 (fun _ => False) := ⟨_, rfl⟩
  rw [← hQ0]
  clear B
  generalize hag : ([.ref aS, .int x1, .int x2] : List Value).toArray = args at hts hQ0 ⊢
  have hi_2 : ∀ w ∈ u_ws "ClaimSources$Sources" TT_2 4, w ∈ w_S_isWithdrawn := fun w h => List.mem_cons_of_mem _ (ia_2 w h)
  have hf_18 := hts _ (List.mem_cons_of_mem _ m_47)
  unfold wp_S_isWithdrawn at hw
  refine lv_aload_n hx hb d_S_isWithdrawn_0 rfl (lv_at hl 0 rfl) ?_
  refine va_get (D := (dC, dI)) (ci := 2) (v := .ref aS_withdrawals) (C := "ClaimSources$Sources") (T := TT_2) (N := 4) hx hb hts hi_2 hown hK hP 0 rfl rfl 2 (by decide) hf_18 (fun _ h9 => h9) rfl d_S_isWithdrawn_1 ?_
  refine lv_iload_n hx hb d_S_isWithdrawn_4 rfl (lv_at hl 1 rfl) ?_
  obtain ⟨h_1, hw⟩ := hw
  refine va_iald hx hb hK hP 3 0 rfl rfl h_1 d_S_isWithdrawn_5 ?_
  refine lv_iconst (v := -1) hx hb d_S_isWithdrawn_6 (by decide) ?_
  refine lv_icmp_eq (tgt := 24) hx hb d_S_isWithdrawn_7 (by decide) (fun c_2 => ?_) (fun c_2 => ?_)
  · have hw := hw.1 c_2
    refine lv_iconst (v := 0) hx hb d_S_isWithdrawn_24 (by decide) ?_
    subst hQ0
    exact W.zret (v := (0 : Int32)) hx hb hr (by decide) (fun t ht hW => ⟨_, rfl, hw, ht⟩) (fun q h => by cases h) d_S_isWithdrawn_25
  · have hw := hw.2 c_2
    refine lv_aload_n hx hb d_S_isWithdrawn_10 rfl (lv_at hl 0 rfl) ?_
    refine va_get (D := (dC, dI)) (ci := 2) (v := .ref aS_withdrawals) (C := "ClaimSources$Sources") (T := TT_2) (N := 4) hx hb hts hi_2 hown hK hP 0 rfl rfl 2 (by decide) hf_18 (fun _ h9 => h9) rfl d_S_isWithdrawn_11 ?_
    refine lv_iload_n hx hb d_S_isWithdrawn_14 rfl (lv_at hl 1 rfl) ?_
    obtain ⟨h_3, hw⟩ := hw
    refine va_iald hx hb hK hP 3 0 rfl rfl h_3 d_S_isWithdrawn_15 ?_
    refine lv_iload_n hx hb d_S_isWithdrawn_16 rfl (lv_at hl 2 rfl) ?_
    refine lv_icmp_gt (tgt := 24) hx hb d_S_isWithdrawn_17 (by decide) (fun c_4 => ?_) (fun c_4 => ?_)
    · have hw := hw.1 c_4
      refine lv_iconst (v := 0) hx hb d_S_isWithdrawn_24 (by decide) ?_
      subst hQ0
      exact W.zret (v := (0 : Int32)) hx hb hr (by decide) (fun t ht hW => ⟨_, rfl, hw, ht⟩) (fun q h => by cases h) d_S_isWithdrawn_25
    · have hw := hw.2 c_4
      refine lv_iconst (v := 1) hx hb d_S_isWithdrawn_20 (by decide) ?_
      refine lv_goto (tgt := 25) hx hb d_S_isWithdrawn_21 (by decide) ?_
      subst hQ0
      exact W.zret (v := (1 : Int32)) hx hb hr (by decide) (fun t ht hW => ⟨_, rfl, hw, ht⟩) (fun q h => by cases h) d_S_isWithdrawn_25
def wl_S_standingOn_4 (S_kinds : Nat → Int32) (S_days : Nat → Int32) (S_withdrawals : Nat → Int32) (S_made : Int32) (x1 : Int32) (post : Int32 → Prop) : Nat → Int32 → Int32 → Prop
  | 0, _, _ => False
  | n + 1, x2, x3 => ((S_made ≤ x3 → (post x2)) ∧ (¬ (S_made ≤ x3) → (vp_in x3 24 ∧ ((x1 < (S_days x3.toNatClampNeg) → wl_S_standingOn_4 S_kinds S_days S_withdrawals S_made x1 post n x2 (x3 + 1)) ∧ (¬ (x1 < (S_days x3.toNatClampNeg)) → (wp_S_isWithdrawn S_kinds S_days S_withdrawals S_made x3 x1 (fun r_4 => ((r_4 = 0 → (wp_X_with x2 x3 (fun r_6 => wl_S_standingOn_4 S_kinds S_days S_withdrawals S_made x1 post n r_6 (x3 + 1)))) ∧ (¬ (r_4 = 0) → wl_S_standingOn_4 S_kinds S_days S_withdrawals S_made x1 post n x2 (x3 + 1))))))))))
def wp_S_standingOn (S_kinds : Nat → Int32) (S_days : Nat → Int32) (S_withdrawals : Nat → Int32) (S_made : Int32) (x1 : Int32) (post : Int32 → Prop) : Prop := (∃ n9, wl_S_standingOn_4 S_kinds S_days S_withdrawals S_made x1 post n9 (0 : Int32) (0 : Int32))
set_option maxHeartbeats 4000000 in
set_option maxRecDepth 100000 in
theorem mt_S_standingOn (l : Launch) (dC : Nat → ClassId) (dI : Nat → Nat → Nat) (cI : ClassId) (aS : Nat) (aS_kinds : Nat) (aS_days : Nat) (aS_withdrawals : Nat) (post : Int32 → Prop) (S_kinds : Nat → Int32) (S_days : Nat → Int32) (S_withdrawals : Nat → Int32) (S_made : Int32) (x1 : Int32) (hw : wp_S_standingOn S_kinds S_days S_withdrawals S_made x1 post) : Met l y_S_standingOn w_S_standingOn ({ frames := 1, cells := 0, slots := 0, locals := 22 }) (va_Pc [.ref aS, .int x1] (fun U => va_P (dC, dI) vwCl [(aS, .inr (2, [.ref aS_kinds, .ref aS_days, .ref aS_withdrawals, .int S_made])), (aS_kinds, .inl (cI, 24, .inl S_kinds)), (aS_days, .inl (cI, 24, .inl S_days)), (aS_withdrawals, .inl (cI, 24, .inl S_withdrawals))] U.heap ∧ va_K (dC, dI) vwCl [(cI, .int)] U ∧ en_ok U)) (vp_Si post) 0 0 (fun _ => False) := by
  refine Met.ofW (cc := prog_4_method_7_code) (maxL := 4) (ret := (some .int)) (by decide) rfl ?_
  intro p e s m args below meth c s₁ B hml hv
  obtain ⟨rfl, hP, hK, hE⟩ := hv
  have hx := B.exec
  have hb := B.bytes
  have hr := B.returns
  have hts := atoms_spec (ws := w_S_standingOn) B.pre
  have hown : s.vm.findClass "ClaimSources$Sources" = some m.cls := findClass_of_methodNamed B.named
  have hlocks := B.notSynchronized
  have hl := lv_entry ([.ref aS, .int x1]) (n := 4) (Nat.le_of_ble_eq_true rfl)
  rw [lg_entry_eq]
  generalize (lg_sl ([.ref aS, .int x1]) ++ List.replicate (4 - (lg_sl ([.ref aS, .int x1])).length) Slot.unset).toArray = ls at hl ⊢
  have hl : lv_has ls 4 [(0, .ref aS), (1, .int x1)] := hl
  obtain ⟨Q0, hQ0⟩ : ∃ Q0, Q0 = MQ below (vp_Si post) ([.ref aS, .int x1]).toArray s 0 0 (fun _ => False) := ⟨_, rfl⟩
  rw [← hQ0]
  clear B
  generalize hag : ([.ref aS, .int x1] : List Value).toArray = args at hts hQ0 ⊢
  have hi_2 : ∀ w ∈ u_ws "ClaimSources$Sources" TT_2 4, w ∈ w_S_standingOn := fun w h => List.mem_cons_of_mem _ (ia_2 w h)
  have hf_21 := hts _ (List.mem_cons_of_mem _ m_48)
  have hf_15 := hts _ (List.mem_cons_of_mem _ m_46)
  have L4 : ∀ (x1 : Int32) (n : Nat) (x2 : Int32) (x3 : Int32), wl_S_standingOn_4 S_kinds S_days S_withdrawals S_made x1 post n x2 x3 → ∀ (ls : Array Slot), lv_has ls 4 [(0, .ref aS), (1, .int x1), (2, .int x2), (3, .int x3)] → W p l e (headSpec w_S_standingOn ({ frames := 1, cells := 0, slots := 0, locals := 22 })).room s m args below meth c s.heap [] 0 0 Q0 (F0 m 4 ls []) := by
    intro x1
    intro n
    induction n with
    | zero =>
      intro x2 x3 hw
      exact False.elim hw
    | succ n ih =>
      intro x2 x3 hw ls hl
      unfold wl_S_standingOn_4 at hw
      refine lv_iload_n hx hb d_S_standingOn_4 rfl (lv_at hl 3 rfl) ?_
      refine lv_aload_n hx hb d_S_standingOn_5 rfl (lv_at hl 0 rfl) ?_
      refine va_get (D := (dC, dI)) (ci := 2) (v := .int S_made) (C := "ClaimSources$Sources") (T := TT_2) (N := 4) hx hb hts hi_2 hown hK hP 0 rfl rfl 3 (by decide) hf_21 (fun _ h9 => h9) rfl d_S_standingOn_6 ?_
      refine lv_icmp_ge (tgt := 43) hx hb d_S_standingOn_9 (by decide) (fun c_1 => ?_) (fun c_1 => ?_)
      · have hw := hw.1 c_1
        refine lv_iload_n hx hb d_S_standingOn_43 rfl (lv_at hl 2 rfl) ?_
        subst hQ0
        exact W.iret (v := x2) hx hb hr (fun t ht hW => ⟨_, rfl, hw, ht⟩) (fun q h => by cases h) d_S_standingOn_44
      · have hw := hw.2 c_1
        refine lv_aload_n hx hb d_S_standingOn_12 rfl (lv_at hl 0 rfl) ?_
        refine va_get (D := (dC, dI)) (ci := 2) (v := .ref aS_days) (C := "ClaimSources$Sources") (T := TT_2) (N := 4) hx hb hts hi_2 hown hK hP 0 rfl rfl 1 (by decide) hf_15 (fun _ h9 => h9) rfl d_S_standingOn_13 ?_
        refine lv_iload_n hx hb d_S_standingOn_16 rfl (lv_at hl 3 rfl) ?_
        obtain ⟨h_2, hw⟩ := hw
        refine va_iald hx hb hK hP 2 0 rfl rfl h_2 d_S_standingOn_17 ?_
        refine lv_iload_n hx hb d_S_standingOn_18 rfl (lv_at hl 1 rfl) ?_
        refine lv_icmp_gt (tgt := 37) hx hb d_S_standingOn_19 (by decide) (fun c_3 => ?_) (fun c_3 => ?_)
        · have hw := hw.1 c_3
          refine lv_iinc (v := x3 + 1) (lv' := [(3, .int (x3 + 1)), (0, .ref aS), (1, .int x1), (2, .int x2)]) hx hb d_S_standingOn_37 hl (k := 3) rfl rfl (by decide) rfl (fun ls hl => ?_)
          refine lv_goto (tgt := 4) hx hb d_S_standingOn_40 (by decide) ?_
          exact ih x2 (x3 + 1) hw ls (lv_sub hl [1, 2, 3, 0] rfl)
        · have hw := hw.2 c_3
          refine lv_aload_n hx hb d_S_standingOn_22 rfl (lv_at hl 0 rfl) ?_
          refine lv_iload_n hx hb d_S_standingOn_23 rfl (lv_at hl 3 rfl) ?_
          refine lv_iload_n hx hb d_S_standingOn_24 rfl (lv_at hl 1 rfl) ?_
          have hPc := hP.sub (ws' := [(aS, .inr (2, [.ref aS_kinds, .ref aS_days, .ref aS_withdrawals, .int S_made])), (aS_kinds, .inl (cI, 24, .inl S_kinds)), (aS_days, .inl (cI, 24, .inl S_days)), (aS_withdrawals, .inl (cI, 24, .inl S_withdrawals))]) [0, 1, 2, 3] rfl
          refine vp_callSi (W.runV (As := [.int x3, .int x1]) (rest := []) ⟨hx, hb, hml, hown, hts⟩ (mt_S_isWithdrawn l dC dI cI aS aS_kinds aS_days aS_withdrawals _ S_kinds S_days S_withdrawals S_made x3 x1 hw) (cwV 2 hts (gdV m_471 m_473 ms_8 m_3 m_474) rfl rfl rfl (by decide +kernel) ⟨Nat.le_of_ble_eq_true rfl, Nat.le_of_ble_eq_true rfl⟩) ⟨fb_r, va_recv hK hPc (ci := 2) (q0 := 0) rfl rfl, fun U hU hW => ⟨rfl, by rw [hU]; exact hPc, va_K.moved hW.alike hK, hE.warm hW⟩⟩ rfl rfl hl.1 rfl (lv_room (Nat.le_of_ble_eq_true rfl)) d_S_standingOn_25 ⟨Nat.le_of_ble_eq_true rfl, Nat.le_of_ble_eq_true rfl⟩) (fun r_4 hw => ?_)
          refine lv_if_ne (tgt := 37) hx hb d_S_standingOn_28 (by decide) (fun c_5 => ?_) (fun c_5 => ?_)
          · have hw := hw.2 c_5
            refine lv_iinc (v := x3 + 1) (lv' := [(3, .int (x3 + 1)), (0, .ref aS), (1, .int x1), (2, .int x2)]) hx hb d_S_standingOn_37 hl (k := 3) rfl rfl (by decide) rfl (fun ls hl => ?_)
            refine lv_goto (tgt := 4) hx hb d_S_standingOn_40 (by decide) ?_
            exact ih x2 (x3 + 1) hw ls (lv_sub hl [1, 2, 3, 0] rfl)
          · have hw := hw.1 c_5
            refine lv_iload_n hx hb d_S_standingOn_31 rfl (lv_at hl 2 rfl) ?_
            refine lv_iload_n hx hb d_S_standingOn_32 rfl (lv_at hl 3 rfl) ?_
            have hPc := hP.sub (ws' := []) [] rfl
            refine vp_callSi ((va_runSN (As := [.int x2, .int x3]) (rest := []) ⟨hx, hb, hml, hown, hts⟩ (mt_X_with l dC dI cI _ x2 x3 hw) ⟨va_cnB 2 hts (gd m_326) rfl rfl rfl (en_23 hE) (hts _ (List.mem_cons_of_mem _ m_1)) (by decide +kernel) ⟨Nat.le_of_ble_eq_true rfl, Nat.le_of_ble_eq_true rfl⟩, (hts _ (List.mem_cons_of_mem _ m_325)), trivial⟩ ⟨fb_r, fun U hU hW => ⟨rfl, by rw [hU]; exact hPc, va_K.moved hW.alike hK, hE.warm hW⟩⟩ rfl rfl hl.1 rfl (lv_room (Nat.le_of_ble_eq_true rfl)) d_S_standingOn_33 ⟨Nat.le_of_ble_eq_true rfl, Nat.le_of_ble_eq_true rfl⟩).run) (fun r_6 hw => ?_)
            refine lv_istore_n (lv' := [(2, .int r_6), (0, .ref aS), (1, .int x1), (3, .int x3)]) hx hb d_S_standingOn_36 rfl hl (by decide) rfl (fun ls hl => ?_)
            refine lv_iinc (v := x3 + 1) (lv' := [(3, .int (x3 + 1)), (2, .int r_6), (0, .ref aS), (1, .int x1)]) hx hb d_S_standingOn_37 hl (k := 3) rfl rfl (by decide) rfl (fun ls hl => ?_)
            refine lv_goto (tgt := 4) hx hb d_S_standingOn_40 (by decide) ?_
            exact ih r_6 (x3 + 1) hw ls (lv_sub hl [2, 3, 1, 0] rfl)
  unfold wp_S_standingOn at hw
  refine lv_iconst (v := 0) hx hb d_S_standingOn_0 (by decide) ?_
  refine lv_istore_n (lv' := [(2, .int (0 : Int32)), (0, .ref aS), (1, .int x1)]) hx hb d_S_standingOn_1 rfl hl (by decide) rfl (fun ls hl => ?_)
  refine lv_iconst (v := 0) hx hb d_S_standingOn_2 (by decide) ?_
  refine lv_istore_n (lv' := [(3, .int (0 : Int32)), (2, .int (0 : Int32)), (0, .ref aS), (1, .int x1)]) hx hb d_S_standingOn_3 rfl hl (by decide) rfl (fun ls hl => ?_)
  obtain ⟨n_7, hw⟩ := hw
  exact L4 x1 n_7 (0 : Int32) (0 : Int32) hw ls (lv_sub hl [2, 3, 1, 0] rfl)
def wp_S_dayOf (S_kinds : Nat → Int32) (S_days : Nat → Int32) (S_withdrawals : Nat → Int32) (S_made : Int32) (x1 : Int32) (post : Int32 → Prop) : Prop := (vp_in x1 24 ∧ (post (S_days x1.toNatClampNeg)))
set_option maxHeartbeats 4000000 in
set_option maxRecDepth 100000 in
theorem mt_S_dayOf (l : Launch) (dC : Nat → ClassId) (dI : Nat → Nat → Nat) (cI : ClassId) (aS : Nat) (aS_kinds : Nat) (aS_days : Nat) (aS_withdrawals : Nat) (post : Int32 → Prop) (S_kinds : Nat → Int32) (S_days : Nat → Int32) (S_withdrawals : Nat → Int32) (S_made : Int32) (x1 : Int32) (hw : wp_S_dayOf S_kinds S_days S_withdrawals S_made x1 post) : Met l y_S_dayOf w_S_dayOf ({ frames := 0, cells := 0, slots := 0, locals := 0 }) (va_Pc [.ref aS, .int x1] (fun U => va_P (dC, dI) vwCl [(aS, .inr (2, [.ref aS_kinds, .ref aS_days, .ref aS_withdrawals, .int S_made])), (aS_kinds, .inl (cI, 24, .inl S_kinds)), (aS_days, .inl (cI, 24, .inl S_days)), (aS_withdrawals, .inl (cI, 24, .inl S_withdrawals))] U.heap ∧ va_K (dC, dI) vwCl [(cI, .int)] U ∧ en_ok U)) (vp_Si post) 0 0 (fun _ => False) := by
  refine Met.ofW (cc := prog_4_method_5_code) (maxL := 2) (ret := (some .int)) (by decide) rfl ?_
  intro p e s m args below meth c s₁ B hml hv
  obtain ⟨rfl, hP, hK, hE⟩ := hv
  have hx := B.exec
  have hb := B.bytes
  have hr := B.returns
  have hts := atoms_spec (ws := w_S_dayOf) B.pre
  have hown : s.vm.findClass "ClaimSources$Sources" = some m.cls := findClass_of_methodNamed B.named
  have hlocks := B.notSynchronized
  have hl := lv_entry ([.ref aS, .int x1]) (n := 2) (Nat.le_of_ble_eq_true rfl)
  rw [lg_entry_eq]
  generalize (lg_sl ([.ref aS, .int x1]) ++ List.replicate (2 - (lg_sl ([.ref aS, .int x1])).length) Slot.unset).toArray = ls at hl ⊢
  have hl : lv_has ls 2 [(0, .ref aS), (1, .int x1)] := hl
  obtain ⟨Q0, hQ0⟩ : ∃ Q0, Q0 = MQ below (vp_Si post) ([.ref aS, .int x1]).toArray s 0 0 (fun _ => False) := ⟨_, rfl⟩
  rw [← hQ0]
  clear B
  generalize hag : ([.ref aS, .int x1] : List Value).toArray = args at hts hQ0 ⊢
  have hi_2 : ∀ w ∈ u_ws "ClaimSources$Sources" TT_2 4, w ∈ w_S_dayOf := fun w h => List.mem_cons_of_mem _ (ia_2 w h)
  have hf_15 := hts _ (List.mem_cons_of_mem _ m_46)
  unfold wp_S_dayOf at hw
  refine lv_aload_n hx hb d_S_dayOf_0 rfl (lv_at hl 0 rfl) ?_
  refine va_get (D := (dC, dI)) (ci := 2) (v := .ref aS_days) (C := "ClaimSources$Sources") (T := TT_2) (N := 4) hx hb hts hi_2 hown hK hP 0 rfl rfl 1 (by decide) hf_15 (fun _ h9 => h9) rfl d_S_dayOf_1 ?_
  refine lv_iload_n hx hb d_S_dayOf_4 rfl (lv_at hl 1 rfl) ?_
  obtain ⟨h_1, hw⟩ := hw
  refine va_iald hx hb hK hP 2 0 rfl rfl h_1 d_S_dayOf_5 ?_
  subst hQ0
  exact W.iret (v := S_days x1.toNatClampNeg) hx hb hr (fun t ht hW => ⟨_, rfl, hw, ht⟩) (fun q h => by cases h) d_S_dayOf_6
def wp_S_kindOf (S_kinds : Nat → Int32) (S_days : Nat → Int32) (S_withdrawals : Nat → Int32) (S_made : Int32) (x1 : Int32) (post : Int32 → Prop) : Prop := (vp_in x1 24 ∧ (post (S_kinds x1.toNatClampNeg)))
set_option maxHeartbeats 4000000 in
set_option maxRecDepth 100000 in
theorem mt_S_kindOf (l : Launch) (dC : Nat → ClassId) (dI : Nat → Nat → Nat) (cI : ClassId) (aS : Nat) (aS_kinds : Nat) (aS_days : Nat) (aS_withdrawals : Nat) (post : Int32 → Prop) (S_kinds : Nat → Int32) (S_days : Nat → Int32) (S_withdrawals : Nat → Int32) (S_made : Int32) (x1 : Int32) (hw : wp_S_kindOf S_kinds S_days S_withdrawals S_made x1 post) : Met l y_S_kindOf w_S_kindOf ({ frames := 0, cells := 0, slots := 0, locals := 0 }) (va_Pc [.ref aS, .int x1] (fun U => va_P (dC, dI) vwCl [(aS, .inr (2, [.ref aS_kinds, .ref aS_days, .ref aS_withdrawals, .int S_made])), (aS_kinds, .inl (cI, 24, .inl S_kinds)), (aS_days, .inl (cI, 24, .inl S_days)), (aS_withdrawals, .inl (cI, 24, .inl S_withdrawals))] U.heap ∧ va_K (dC, dI) vwCl [(cI, .int)] U ∧ en_ok U)) (vp_Si post) 0 0 (fun _ => False) := by
  refine Met.ofW (cc := prog_4_method_4_code) (maxL := 2) (ret := (some .int)) (by decide) rfl ?_
  intro p e s m args below meth c s₁ B hml hv
  obtain ⟨rfl, hP, hK, hE⟩ := hv
  have hx := B.exec
  have hb := B.bytes
  have hr := B.returns
  have hts := atoms_spec (ws := w_S_kindOf) B.pre
  have hown : s.vm.findClass "ClaimSources$Sources" = some m.cls := findClass_of_methodNamed B.named
  have hlocks := B.notSynchronized
  have hl := lv_entry ([.ref aS, .int x1]) (n := 2) (Nat.le_of_ble_eq_true rfl)
  rw [lg_entry_eq]
  generalize (lg_sl ([.ref aS, .int x1]) ++ List.replicate (2 - (lg_sl ([.ref aS, .int x1])).length) Slot.unset).toArray = ls at hl ⊢
  have hl : lv_has ls 2 [(0, .ref aS), (1, .int x1)] := hl
  obtain ⟨Q0, hQ0⟩ : ∃ Q0, Q0 = MQ below (vp_Si post) ([.ref aS, .int x1]).toArray s 0 0 (fun _ => False) := ⟨_, rfl⟩
  rw [← hQ0]
  clear B
  generalize hag : ([.ref aS, .int x1] : List Value).toArray = args at hts hQ0 ⊢
  have hi_2 : ∀ w ∈ u_ws "ClaimSources$Sources" TT_2 4, w ∈ w_S_kindOf := fun w h => List.mem_cons_of_mem _ (ia_2 w h)
  have hf_9 := hts _ (List.mem_cons_of_mem _ m_45)
  unfold wp_S_kindOf at hw
  refine lv_aload_n hx hb d_S_kindOf_0 rfl (lv_at hl 0 rfl) ?_
  refine va_get (D := (dC, dI)) (ci := 2) (v := .ref aS_kinds) (C := "ClaimSources$Sources") (T := TT_2) (N := 4) hx hb hts hi_2 hown hK hP 0 rfl rfl 0 (by decide) hf_9 (fun _ h9 => h9) rfl d_S_kindOf_1 ?_
  refine lv_iload_n hx hb d_S_kindOf_4 rfl (lv_at hl 1 rfl) ?_
  obtain ⟨h_1, hw⟩ := hw
  refine va_iald hx hb hK hP 1 0 rfl rfl h_1 d_S_kindOf_5 ?_
  subst hQ0
  exact W.iret (v := S_kinds x1.toNatClampNeg) hx hb hr (fun t ht hW => ⟨_, rfl, hw, ht⟩) (fun q h => by cases h) d_S_kindOf_6
