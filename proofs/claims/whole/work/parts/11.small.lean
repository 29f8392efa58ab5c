def wp_X_isWithin (x0 : Int32) (x1 : Int32) (x2 : Int32) (post : Int32 → Prop) : Prop := ((x0 < x1 → (post (0 : Int32))) ∧ (¬ (x0 < x1) → ((x2 < x0 → (post (0 : Int32))) ∧ (¬ (x2 < x0) → (post (1 : Int32))))))
set_option maxHeartbeats 4000000 in
set_option maxRecDepth 100000 in
theorem mt_X_isWithin (l : Launch) (dC : Nat → ClassId) (dI : Nat → Nat → Nat) (cI : ClassId) (post : Int32 → Prop) (x0 : Int32) (x1 : Int32) (x2 : Int32) (hw : wp_X_isWithin x0 x1 x2 post) : Met l y_X_isWithin w_X_isWithin ({ frames := 0, cells := 0, slots := 0, locals := 0 }) (va_Pc [.int x0, .int x1, .int x2] (fun U => va_P (dC, dI) vwCl [] U.heap ∧ va_K (dC, dI) vwCl [(cI, .int)] U ∧ en_ok U)) (vp_Si post) 0 0 (fun _ => False) := by
  refine Met.ofW (cc := prog_1_method_35_code) (maxL := 3) (ret := (some .boolean)) (by decide) rfl ?_
  intro p e s m args below meth c s₁ B hml hv
  obtain ⟨rfl, hP, hK, hE⟩ := hv
  have hx := B.exec
  have hb := B.bytes
  have hr := B.returns
  have hts := atoms_spec (ws := w_X_isWithin) B.pre
  have hown : s.vm.findClass "ClaimSources" = some m.cls := findClass_of_methodNamed B.named
  have hlocks := B.notSynchronized
  have hl := lv_entry ([.int x0, .int x1, .int x2]) (n := 3) (Nat.le_of_ble_eq_true rfl)
  rw [lg_entry_eq]
  generalize (lg_sl ([.int x0, .int x1, .int x2]) ++ List.replicate (3 - (lg_sl ([.int x0, .int x1, .int x2])).length) Slot.unset).toArray = ls at hl ⊢
  have hl : lv_has ls 3 [(0, .int x0), (1, .int x1), (2, .int x2)] := hl
  obtain ⟨Q0, hQ0⟩ : ∃ Q0, Q0 = MQ below (vp_Si post) ([.int x0, .int x1, .int x2]).toArray s 0 0 (fun _ => False) := ⟨_, rfl⟩
  rw [← hQ0]
  clear B
  generalize hag : ([.int x0, .int x1, .int x2] : List Value).toArray = args at hts hQ0 ⊢
  unfold wp_X_isWithin at hw
  refine lv_iload_n hx hb d_X_isWithin_0 rfl (lv_at hl 0 rfl) ?_
  refine lv_iload_n hx hb d_X_isWithin_1 rfl (lv_at hl 1 rfl) ?_
  refine lv_icmp_lt (tgt := 14) hx hb d_X_isWithin_2 (by decide) (fun c_1 => ?_) (fun c_1 => ?_)
  · have hw := hw.1 c_1
    refine lv_iconst (v := 0) hx hb d_X_isWithin_14 (by decide) ?_
    subst hQ0
    exact W.zret (v := (0 : Int32)) hx hb hr (by decide) (fun t ht hW => ⟨_, rfl, hw, ht⟩) (fun q h => by cases h) d_X_isWithin_15
  · have hw := hw.2 c_1
    refine lv_iload_n hx hb d_X_isWithin_5 rfl (lv_at hl 0 rfl) ?_
    refine lv_iload_n hx hb d_X_isWithin_6 rfl (lv_at hl 2 rfl) ?_
    refine lv_icmp_gt (tgt := 14) hx hb d_X_isWithin_7 (by decide) (fun c_2 => ?_) (fun c_2 => ?_)
    · have hw := hw.1 c_2
      refine lv_iconst (v := 0) hx hb d_X_isWithin_14 (by decide) ?_
      subst hQ0
      exact W.zret (v := (0 : Int32)) hx hb hr (by decide) (fun t ht hW => ⟨_, rfl, hw, ht⟩) (fun q h => by cases h) d_X_isWithin_15
    · have hw := hw.2 c_2
      refine lv_iconst (v := 1) hx hb d_X_isWithin_10 (by decide) ?_
      refine lv_goto (tgt := 15) hx hb d_X_isWithin_11 (by decide) ?_
      subst hQ0
      exact W.zret (v := (1 : Int32)) hx hb hr (by decide) (fun t ht hW => ⟨_, rfl, hw, ht⟩) (fun q h => by cases h) d_X_isWithin_15
def wp_X_with (x0 : Int32) (x1 : Int32) (post : Int32 → Prop) : Prop := (post (x0 ||| ((1 : Int32) <<< (x1 &&& 31))))
set_option maxHeartbeats 4000000 in
set_option maxRecDepth 100000 in
theorem mt_X_with (l : Launch) (dC : Nat → ClassId) (dI : Nat → Nat → Nat) (cI : ClassId) (post : Int32 → Prop) (x0 : Int32) (x1 : Int32) (hw : wp_X_with x0 x1 post) : Met l y_X_with w_X_with ({ frames := 0, cells := 0, slots := 0, locals := 0 }) (va_Pc [.int x0, .int x1] (fun U => va_P (dC, dI) vwCl [] U.heap ∧ va_K (dC, dI) vwCl [(cI, .int)] U ∧ en_ok U)) (vp_Si post) 0 0 (fun _ => False) := by
  refine Met.ofW (cc := prog_1_method_37_code) (maxL := 2) (ret := (some .int)) (by decide) rfl ?_
  intro p e s m args below meth c s₁ B hml hv
  obtain ⟨rfl, hP, hK, hE⟩ := hv
  have hx := B.exec
  have hb := B.bytes
  have hr := B.returns
  have hts := atoms_spec (ws := w_X_with) B.pre
  have hown : s.vm.findClass "ClaimSources" = some m.cls := findClass_of_methodNamed B.named
  have hlocks := B.notSynchronized
  have hl := lv_entry ([.int x0, .int x1]) (n := 2) (Nat.le_of_ble_eq_true rfl)
  rw [lg_entry_eq]
  generalize (lg_sl ([.int x0, .int x1]) ++ List.replicate (2 - (lg_sl ([.int x0, .int x1])).length) Slot.unset).toArray = ls at hl ⊢
  have hl : lv_has ls 2 [(0, .int x0), (1, .int x1)] := hl
  obtain ⟨Q0, hQ0⟩ : ∃ Q0, Q0 = MQ below (vp_Si post) ([.int x0, .int x1]).toArray s 0 0 (fun _ => False) := ⟨_, rfl⟩
  rw [← hQ0]
  clear B
  generalize hag : ([.int x0, .int x1] : List Value).toArray = args at hts hQ0 ⊢
  unfold wp_X_with at hw
  refine lv_iload_n hx hb d_X_with_0 rfl (lv_at hl 0 rfl) ?_
  refine lv_iconst (v := 1) hx hb d_X_with_1 (by decide) ?_
  refine lv_iload_n hx hb d_X_with_2 rfl (lv_at hl 1 rfl) ?_
  refine lv_ishl hx hb d_X_with_3 ?_
  refine lv_ior hx hb d_X_with_4 ?_
  subst hQ0
  exact W.iret (v := x0 ||| ((1 : Int32) <<< (x1 &&& 31))) hx hb hr (fun t ht hW => ⟨_, rfl, hw, ht⟩) (fun q h => by cases h) d_X_with_5
def wp_X_without (x0 : Int32) (x1 : Int32) (post : Int32 → Prop) : Prop := (post (x0 &&& (((1 : Int32) <<< (x1 &&& 31)) ^^^ (-1 : Int32))))
set_option maxHeartbeats 4000000 in
set_option maxRecDepth 100000 in
theorem mt_X_without (l : Launch) (dC : Nat → ClassId) (dI : Nat → Nat → Nat) (cI : ClassId) (post : Int32 → Prop) (x0 : Int32) (x1 : Int32) (hw : wp_X_without x0 x1 post) : Met l y_X_without w_X_without ({ frames := 0, cells := 0, slots := 0, locals := 0 }) (va_Pc [.int x0, .int x1] (fun U => va_P (dC, dI) vwCl [] U.heap ∧ va_K (dC, dI) vwCl [(cI, .int)] U ∧ en_ok U)) (vp_Si post) 0 0 (fun _ => False) := by
  refine Met.ofW (cc := prog_1_method_38_code) (maxL := 2) (ret := (some .int)) (by decide) rfl ?_
  intro p e s m args below meth c s₁ B hml hv
  obtain ⟨rfl, hP, hK, hE⟩ := hv
  have hx := B.exec
  have hb := B.bytes
  have hr := B.returns
  have hts := atoms_spec (ws := w_X_without) B.pre
  have hown : s.vm.findClass "ClaimSources" = some m.cls := findClass_of_methodNamed B.named
  have hlocks := B.notSynchronized
  have hl := lv_entry ([.int x0, .int x1]) (n := 2) (Nat.le_of_ble_eq_true rfl)
  rw [lg_entry_eq]
  generalize (lg_sl ([.int x0, .int x1]) ++ List.replicate (2 - (lg_sl ([.int x0, .int x1])).length) Slot.unset).toArray = ls at hl ⊢
  have hl : lv_has ls 2 [(0, .int x0), (1, .int x1)] := hl
  obtain ⟨Q0, hQ0⟩ : ∃ Q0, Q0 = MQ below (vp_Si post) ([.int x0, .int x1]).toArray s 0 0 (fun _ => False) := ⟨_, rfl⟩
  rw [← hQ0]
  clear B
  generalize hag : ([.int x0, .int x1] : List Value).toArray = args at hts hQ0 ⊢
  unfold wp_X_without at hw
  refine lv_iload_n hx hb d_X_without_0 rfl (lv_at hl 0 rfl) ?_
  refine lv_iconst (v := 1) hx hb d_X_without_1 (by decide) ?_
  refine lv_iload_n hx hb d_X_without_2 rfl (lv_at hl 1 rfl) ?_
  refine lv_ishl hx hb d_X_without_3 ?_
  refine lv_iconst (v := -1) hx hb d_X_without_4 (by decide) ?_
  refine lv_ixor hx hb d_X_without_5 ?_
  refine lv_iand hx hb d_X_without_6 ?_
  subst hQ0
  exact W.iret (v := x0 &&& (((1 : Int32) <<< (x1 &&& 31)) ^^^ (-1 : Int32))) hx hb hr (fun t ht hW => ⟨_, rfl, hw, ht⟩) (fun q h => by cases h) d_X_without_7
def wp_X_contains (x0 : Int32) (x1 : Int32) (post : Int32 → Prop) : Prop := (((x0 &&& ((1 : Int32) <<< (x1 &&& 31))) = 0 → (post (0 : Int32))) ∧ (¬ ((x0 &&& ((1 : Int32) <<< (x1 &&& 31))) = 0) → (post (1 : Int32))))
set_option maxHeartbeats 4000000 in
set_option maxRecDepth 100000 in
theorem mt_X_contains (l : Launch) (dC : Nat → ClassId) (dI : Nat → Nat → Nat) (cI : ClassId) (post : Int32 → Prop) (x0 : Int32) (x1 : Int32) (hw : wp_X_contains x0 x1 post) : Met l y_X_contains w_X_contains ({ frames := 0, cells := 0, slots := 0, locals := 0 }) (va_Pc [.int x0, .int x1] (fun U => va_P (dC, dI) vwCl [] U.heap ∧ va_K (dC, dI) vwCl [(cI, .int)] U ∧ en_ok U)) (vp_Si post) 0 0 (fun _ => False) := by
  refine Met.ofW (cc := prog_1_method_36_code) (maxL := 2) (ret := (some .boolean)) (by decide) rfl ?_
  intro p e s m args below meth c s₁ B hml hv
  obtain ⟨rfl, hP, hK, hE⟩ := hv
  have hx := B.exec
  have hb := B.bytes
  have hr := B.returns
  have hts := atoms_spec (ws := w_X_contains) B.pre
  have hown : s.vm.findClass "ClaimSources" = some m.cls := findClass_of_methodNamed B.named
  have hlocks := B.notSynchronized
  have hl := lv_entry ([.int x0, .int x1]) (n := 2) (Nat.le_of_ble_eq_true rfl)
  rw [lg_entry_eq]
  generalize (lg_sl ([.int x0, .int x1]) ++ List.replicate (2 - (lg_sl ([.int x0, .int x1])).length) Slot.unset).toArray = ls at hl ⊢
  have hl : lv_has ls 2 [(0, .int x0), (1, .int x1)] := hl
  obtain ⟨Q0, hQ0⟩ : ∃ Q0, Q0 = MQ below (vp_Si post) ([.int x0, .int x1]).toArray s 0 0 (fun _ => False) := ⟨_, rfl⟩
  rw [← hQ0]
  clear B
  generalize hag : ([.int x0, .int x1] : List Value).toArray = args at hts hQ0 ⊢
  unfold wp_X_contains at hw
  refine lv_iload_n hx hb d_X_contains_0 rfl (lv_at hl 0 rfl) ?_
  refine lv_iconst (v := 1) hx hb d_X_contains_1 (by decide) ?_
  refine lv_iload_n hx hb d_X_contains_2 rfl (lv_at hl 1 rfl) ?_
  refine lv_ishl hx hb d_X_contains_3 ?_
  refine lv_iand hx hb d_X_contains_4 ?_
  refine lv_if_eq (tgt := 12) hx hb d_X_contains_5 (by decide) (fun c_1 => ?_) (fun c_1 => ?_)
  · have hw := hw.1 c_1
    refine lv_iconst (v := 0) hx hb d_X_contains_12 (by decide) ?_
    subst hQ0
    exact W.zret (v := (0 : Int32)) hx hb hr (by decide) (fun t ht hW => ⟨_, rfl, hw, ht⟩) (fun q h => by cases h) d_X_contains_13
  · have hw := hw.2 c_1
    refine lv_iconst (v := 1) hx hb d_X_contains_8 (by decide) ?_
    refine lv_goto (tgt := 13) hx hb d_X_contains_9 (by decide) ?_
    subst hQ0
    exact W.zret (v := (1 : Int32)) hx hb hr (by decide) (fun t ht hW => ⟨_, rfl, hw, ht⟩) (fun q h => by cases h) d_X_contains_13
def wl_X_memberAt_4 (x0 : Int32) (post : Int32 → Prop) : Nat → Int32 → Int32 → Prop
  | 0, _, _ => False
  | n + 1, x2, x3 => (((24 : Int32) ≤ x3 → (post (-1 : Int32))) ∧ (¬ ((24 : Int32) ≤ x3) → (wp_X_contains x0 x3 (fun r_2 => ((r_2 = 0 → wl_X_memberAt_4 x0 post n x2 (x3 + 1)) ∧ (¬ (r_2 = 0) → ((x2 = 0 → (post x3)) ∧ (¬ (x2 = 0) → wl_X_memberAt_4 x0 post n (x2 + (-1)) (x3 + 1)))))))))
def wp_X_memberAt (x0 : Int32) (x1 : Int32) (post : Int32 → Prop) : Prop := (∃ n9, wl_X_memberAt_4 x0 post n9 x1 (0 : Int32))
set_option maxHeartbeats 4000000 in
set_option maxRecDepth 100000 in
theorem mt_X_memberAt (l : Launch) (dC : Nat → ClassId) (dI : Nat → Nat → Nat) (cI : ClassId) (post : Int32 → Prop) (x0 : Int32) (x1 : Int32) (hw : wp_X_memberAt x0 x1 post) : Met l y_X_memberAt w_X_memberAt ({ frames := 1, cells := 0, slots := 0, locals := 21 }) (va_Pc [.int x0, .int x1] (fun U => va_P (dC, dI) vwCl [] U.heap ∧ va_K (dC, dI) vwCl [(cI, .int)] U ∧ en_ok U)) (vp_Si post) 0 0 (fun _ => False) := by
  refine Met.ofW (cc := prog_1_method_39_code) (maxL := 4) (ret := (some .int)) (by decide) rfl ?_
  intro p e s m args below meth c s₁ B hml hv
  obtain ⟨rfl, hP, hK, hE⟩ := hv
  have hx := B.exec
  have hb := B.bytes
  have hr := B.returns
  have hts := atoms_spec (ws := w_X_memberAt) B.pre
  have hown : s.vm.findClass "ClaimSources" = some m.cls := findClass_of_methodNamed B.named
  have hlocks := B.notSynchronized
  have hl := lv_entry ([.int x0, .int x1]) (n := 4) (Nat.le_of_ble_eq_true rfl)
  rw [lg_entry_eq]
  generalize (lg_sl ([.int x0, .int x1]) ++ List.replicate (4 - (lg_sl ([.int x0, .int x1])).length) Slot.unset).toArray = ls at hl ⊢
  have hl : lv_has ls 4 [(0, .int x0), (1, .int x1)] := hl
  obtain ⟨Q0, hQ0⟩ : ∃ Q0, Q0 = MQ below (vp_Si post) ([.int x0, .int x1]).toArray s 0 0 (fun _ => False) := ⟨_, rfl⟩
  rw [← hQ0]
  clear B
  generalize hag : ([.int x0, .int x1] : List Value).toArray = args at hts hQ0 ⊢
  have L4 : ∀ (x0 : Int32) (n : Nat) (x2 : Int32) (x3 : Int32), wl_X_memberAt_4 x0 post n x2 x3 → ∀ (ls : Array Slot), lv_has ls 4 [(0, .int x0), (2, .int x2), (3, .int x3)] → W p l e (headSpec w_X_memberAt ({ frames := 1, cells := 0, slots := 0, locals := 21 })).room s m args below meth c s.heap [] 0 0 Q0 (F0 m 4 ls []) := by
    intro x0
    intro n
    induction n with
    | zero =>
      intro x2 x3 hw
      exact False.elim hw
    | succ n ih =>
      intro x2 x3 hw ls hl
      unfold wl_X_memberAt_4 at hw
      refine lv_iload_n hx hb d_X_memberAt_4 rfl (lv_at hl 2 rfl) ?_
      refine lv_bipush (v := 24) hx hb d_X_memberAt_5 (by decide) ?_
      refine lv_icmp_ge (tgt := 33) hx hb d_X_memberAt_7 (by decide) (fun c_1 => ?_) (fun c_1 => ?_)
      · have hw := hw.1 c_1
        refine lv_iconst (v := -1) hx hb d_X_memberAt_33 (by decide) ?_
        subst hQ0
        exact W.iret (v := (-1 : Int32)) hx hb hr (fun t ht hW => ⟨_, rfl, hw, ht⟩) (fun q h => by cases h) d_X_memberAt_34
      · have hw := hw.2 c_1
        refine lv_iload_n hx hb d_X_memberAt_10 rfl (lv_at hl 0 rfl) ?_
        refine lv_iload_n hx hb d_X_memberAt_11 rfl (lv_at hl 2 rfl) ?_
        have hPc := hP.sub (ws' := []) [] rfl
        refine vp_callSi (W.runS (As := [.int x0, .int x3]) (rest := []) ⟨hx, hb, hml, hown, hts⟩ (mt_X_contains l dC dI cI _ x0 x3 hw) (va_cwS 2 hts (gdS m_480 m_342 m_1 m_343) rfl rfl rfl (by decide +kernel) ⟨Nat.le_of_ble_eq_true rfl, Nat.le_of_ble_eq_true rfl⟩) ⟨fb_r, fun U hU hW => ⟨rfl, by rw [hU]; exact hPc, va_K.moved hW.alike hK, hE.warm hW⟩⟩ rfl rfl hl.1 rfl (lv_room (Nat.le_of_ble_eq_true rfl)) d_X_memberAt_12 ⟨Nat.le_of_ble_eq_true rfl, Nat.le_of_ble_eq_true rfl⟩) (fun r_2 hw => ?_)
        refine lv_if_eq (tgt := 27) hx hb d_X_memberAt_15 (by decide) (fun c_3 => ?_) (fun c_3 => ?_)
        · have hw := hw.1 c_3
          refine lv_iinc (v := x3 + 1) (lv' := [(3, .int (x3 + 1)), (0, .int x0), (2, .int x2)]) hx hb d_X_memberAt_27 hl (k := 2) rfl rfl (by decide) rfl (fun ls hl => ?_)
          refine lv_goto (tgt := 4) hx hb d_X_memberAt_30 (by decide) ?_
          exact ih x2 (x3 + 1) hw ls (lv_sub hl [1, 2, 0] rfl)
        · have hw := hw.2 c_3
          refine lv_iload_n hx hb d_X_memberAt_18 rfl (lv_at hl 1 rfl) ?_
          refine lv_if_ne (tgt := 24) hx hb d_X_memberAt_19 (by decide) (fun c_4 => ?_) (fun c_4 => ?_)
          · have hw := hw.2 c_4
            refine lv_iinc (v := x2 + (-1)) (lv' := [(2, .int (x2 + (-1))), (0, .int x0), (3, .int x3)]) hx hb d_X_memberAt_24 hl (k := 1) rfl rfl (by decide) rfl (fun ls hl => ?_)
            refine lv_iinc (v := x3 + 1) (lv' := [(3, .int (x3 + 1)), (2, .int (x2 + (-1))), (0, .int x0)]) hx hb d_X_memberAt_27 hl (k := 2) rfl rfl (by decide) rfl (fun ls hl => ?_)
            refine lv_goto (tgt := 4) hx hb d_X_memberAt_30 (by decide) ?_
            exact ih (x2 + (-1)) (x3 + 1) hw ls (lv_sub hl [2, 1, 0] rfl)
          · have hw := hw.1 c_4
            refine lv_iload_n hx hb d_X_memberAt_22 rfl (lv_at hl 2 rfl) ?_
            subst hQ0
            exact W.iret (v := x3) hx hb hr (fun t ht hW => ⟨_, rfl, hw, ht⟩) (fun q h => by cases h) d_X_memberAt_23
  unfold wp_X_memberAt at hw
  refine lv_iload_n hx hb d_X_memberAt_0 rfl (lv_at hl 1 rfl) ?_
  refine lv_istore_n (lv' := [(2, .int x1), (0, .int x0), (1, .int x1)]) hx hb d_X_memberAt_1 rfl hl (by decide) rfl (fun ls hl => ?_)
  refine lv_iconst (v := 0) hx hb d_X_memberAt_2 (by decide) ?_
  refine lv_istore_n (lv' := [(3, .int (0 : Int32)), (2, .int x1), (0, .int x0), (1, .int x1)]) hx hb d_X_memberAt_3 rfl hl (by decide) rfl (fun ls hl => ?_)
  obtain ⟨n_5, hw⟩ := hw
  exact L4 x0 n_5 x1 (0 : Int32) hw ls (lv_sub hl [2, 1, 0] rfl)
def wl_X_digitsOf_4 (post : Int32 → Prop) : Nat → Int32 → Int32 → Prop
  | 0, _, _ => False
  | n + 1, x1, x2 => ((x2 < (10 : Int32) → (post x1)) ∧ (¬ (x2 < (10 : Int32)) → wl_X_digitsOf_4 post n (x1 + 1) (x2 / (10 : Int32))))
def wp_X_digitsOf (x0 : Int32) (post : Int32 → Prop) : Prop := (∃ n9, wl_X_digitsOf_4 post n9 (1 : Int32) x0)
set_option maxHeartbeats 4000000 in
set_option maxRecDepth 100000 in
theorem mt_X_digitsOf (l : Launch) (dC : Nat → ClassId) (dI : Nat → Nat → Nat) (cI : ClassId) (post : Int32 → Prop) (x0 : Int32) (hw : wp_X_digitsOf x0 post) : Met l y_X_digitsOf w_X_digitsOf ({ frames := 0, cells := 0, slots := 0, locals := 0 }) (va_Pc [.int x0] (fun U => va_P (dC, dI) vwCl [] U.heap ∧ va_K (dC, dI) vwCl [(cI, .int)] U ∧ en_ok U)) (vp_Si post) 0 0 (fun _ => False) := by
  refine Met.ofW (cc := prog_1_method_33_code) (maxL := 3) (ret := (some .int)) (by decide) rfl ?_
  intro p e s m args below meth c s₁ B hml hv
  obtain ⟨rfl, hP, hK, hE⟩ := hv
  have hx := B.exec
  have hb := B.bytes
  have hr := B.returns
  have hts := atoms_spec (ws := w_X_digitsOf) B.pre
  have hown : s.vm.findClass "ClaimSources" = some m.cls := findClass_of_methodNamed B.named
  have hlocks := B.notSynchronized
  have hl := lv_entry ([.int x0]) (n := 3) (Nat.le_of_ble_eq_true rfl)
  rw [lg_entry_eq]
  generalize (lg_sl ([.int x0]) ++ List.replicate (3 - (lg_sl ([.int x0])).length) Slot.unset).toArray = ls at hl ⊢
  have hl : lv_has ls 3 [(0, .int x0)] := hl
  obtain ⟨Q0, hQ0⟩ : ∃ Q0, Q0 = MQ below (vp_Si post) ([.int x0]).toArray s 0 0 (fun _ => False) := ⟨_, rfl⟩
  rw [← hQ0]
  clear B
  generalize hag : ([.int x0] : List Value).toArray = args at hts hQ0 ⊢
  have L4 : ∀ (n : Nat) (x1 : Int32) (x2 : Int32), wl_X_digitsOf_4 post n x1 x2 → ∀ (ls : Array Slot), lv_has ls 3 [(1, .int x1), (2, .int x2)] → W p l e (headSpec w_X_digitsOf ({ frames := 0, cells := 0, slots := 0, locals := 0 })).room s m args below meth c s.heap [] 0 0 Q0 (F0 m 4 ls []) := by
    intro n
    induction n with
    | zero =>
      intro x1 x2 hw
      exact False.elim hw
    | succ n ih =>
      intro x1 x2 hw ls hl
      unfold wl_X_digitsOf_4 at hw
      refine lv_iload_n hx hb d_X_digitsOf_4 rfl (lv_at hl 1 rfl) ?_
      refine lv_bipush (v := 10) hx hb d_X_digitsOf_5 (by decide) ?_
      refine lv_icmp_lt (tgt := 21) hx hb d_X_digitsOf_7 (by decide) (fun c_1 => ?_) (fun c_1 => ?_)
      · have hw := hw.1 c_1
        refine lv_iload_n hx hb d_X_digitsOf_21 rfl (lv_at hl 0 rfl) ?_
        subst hQ0
        exact W.iret (v := x1) hx hb hr (fun t ht hW => ⟨_, rfl, hw, ht⟩) (fun q h => by cases h) d_X_digitsOf_22
      · have hw := hw.2 c_1
        refine lv_iinc (v := x1 + 1) (lv' := [(1, .int (x1 + 1)), (2, .int x2)]) hx hb d_X_digitsOf_10 hl (k := 0) rfl rfl (by decide) rfl (fun ls hl => ?_)
        refine lv_iload_n hx hb d_X_digitsOf_13 rfl (lv_at hl 1 rfl) ?_
        refine lv_bipush (v := 10) hx hb d_X_digitsOf_14 (by decide) ?_
        refine lv_idiv hx hb d_X_digitsOf_16 (by decide) ?_
        refine lv_istore_n (lv' := [(2, .int (x2 / (10 : Int32))), (1, .int (x1 + 1))]) hx hb d_X_digitsOf_17 rfl hl (by decide) rfl (fun ls hl => ?_)
        refine lv_goto (tgt := 4) hx hb d_X_digitsOf_18 (by decide) ?_
        exact ih (x1 + 1) (x2 / (10 : Int32)) hw ls (lv_sub hl [1, 0] rfl)
  unfold wp_X_digitsOf at hw
  refine lv_iconst (v := 1) hx hb d_X_digitsOf_0 (by decide) ?_
  refine lv_istore_n (lv' := [(1, .int (1 : Int32)), (0, .int x0)]) hx hb d_X_digitsOf_1 rfl hl (by decide) rfl (fun ls hl => ?_)
  refine lv_iload_n hx hb d_X_digitsOf_2 rfl (lv_at hl 1 rfl) ?_
  refine lv_istore_n (lv' := [(2, .int x0), (1, .int (1 : Int32)), (0, .int x0)]) hx hb d_X_digitsOf_3 rfl hl (by decide) rfl (fun ls hl => ?_)
  obtain ⟨n_2, hw⟩ := hw
  exact L4 n_2 (1 : Int32) x0 hw ls (lv_sub hl [1, 0] rfl)
def wl_X_digitSign_4 (x1 : Int32) (post : Int32 → Prop) : Nat → Int32 → Int32 → Prop
  | 0, _, _ => False
  | n + 1, x2, x3 => ((x1 ≤ x3 → (post ((48 : Int32) + (x2 - x2 / (10 : Int32) * (10 : Int32))))) ∧ (¬ (x1 ≤ x3) → wl_X_digitSign_4 x1 post n (x2 / (10 : Int32)) (x3 + 1)))
def wp_X_digitSign (x0 : Int32) (x1 : Int32) (post : Int32 → Prop) : Prop := (∃ n9, wl_X_digitSign_4 x1 post n9 x0 (0 : Int32))
set_option maxHeartbeats 4000000 in
set_option maxRecDepth 100000 in
theorem mt_X_digitSign (l : Launch) (dC : Nat → ClassId) (dI : Nat → Nat → Nat) (cI : ClassId) (post : Int32 → Prop) (x0 : Int32) (x1 : Int32) (hw : wp_X_digitSign x0 x1 post) : Met l y_X_digitSign w_X_digitSign ({ frames := 0, cells := 0, slots := 0, locals := 0 }) (va_Pc [.int x0, .int x1] (fun U => va_P (dC, dI) vwCl [] U.heap ∧ va_K (dC, dI) vwCl [(cI, .int)] U ∧ en_ok U)) (vp_Si post) 0 0 (fun _ => False) := by
  refine Met.ofW (cc := prog_1_method_34_code) (maxL := 4) (ret := (some .int)) (by decide) rfl ?_
  intro p e s m args below meth c s₁ B hml hv
  obtain ⟨rfl, hP, hK, hE⟩ := hv
  have hx := B.exec
  have hb := B.bytes
  have hr := B.returns
  have hts := atoms_spec (ws := w_X_digitSign) B.pre
  have hown : s.vm.findClass "ClaimSources" = some m.cls := findClass_of_methodNamed B.named
  have hlocks := B.notSynchronized
  have hl := lv_entry ([.int x0, .int x1]) (n := 4) (Nat.le_of_ble_eq_true rfl)
  rw [lg_entry_eq]
  generalize (lg_sl ([.int x0, .int x1]) ++ List.replicate (4 - (lg_sl ([.int x0, .int x1])).length) Slot.unset).toArray = ls at hl ⊢
  have hl : lv_has ls 4 [(0, .int x0), (1, .int x1)] := hl
  obtain ⟨Q0, hQ0⟩ : ∃ Q0, Q0 = MQ below (vp_Si post) ([.int x0, .int x1]).toArray s 0 0 (fun _ => False) := ⟨_, rfl⟩
  rw [← hQ0]
  clear B
  generalize hag : ([.int x0, .int x1] : List Value).toArray = args at hts hQ0 ⊢
  have L4 : ∀ (x1 : Int32) (n : Nat) (x2 : Int32) (x3 : Int32), wl_X_digitSign_4 x1 post n x2 x3 → ∀ (ls : Array Slot), lv_has ls 4 [(1, .int x1), (2, .int x2), (3, .int x3)] → W p l e (headSpec w_X_digitSign ({ frames := 0, cells := 0, slots := 0, locals := 0 })).room s m args below meth c s.heap [] 0 0 Q0 (F0 m 4 ls []) := by
    intro x1
    intro n
    induction n with
    | zero =>
      intro x2 x3 hw
      exact False.elim hw
    | succ n ih =>
      intro x2 x3 hw ls hl
      unfold wl_X_digitSign_4 at hw
      refine lv_iload_n hx hb d_X_digitSign_4 rfl (lv_at hl 2 rfl) ?_
      refine lv_iload_n hx hb d_X_digitSign_5 rfl (lv_at hl 0 rfl) ?_
      refine lv_icmp_ge (tgt := 20) hx hb d_X_digitSign_6 (by decide) (fun c_1 => ?_) (fun c_1 => ?_)
      · have hw := hw.1 c_1
        refine lv_bipush (v := 48) hx hb d_X_digitSign_20 (by decide) ?_
        refine lv_iload_n hx hb d_X_digitSign_22 rfl (lv_at hl 1 rfl) ?_
        refine lv_bipush (v := 10) hx hb d_X_digitSign_23 (by decide) ?_
        refine lv_irem hx hb d_X_digitSign_25 (by decide) ?_
        refine lv_iadd hx hb d_X_digitSign_26 ?_
        subst hQ0
        exact W.iret (v := (48 : Int32) + (x2 - x2 / (10 : Int32) * (10 : Int32))) hx hb hr (fun t ht hW => ⟨_, rfl, hw, ht⟩) (fun q h => by cases h) d_X_digitSign_27
      · have hw := hw.2 c_1
        refine lv_iload_n hx hb d_X_digitSign_9 rfl (lv_at hl 1 rfl) ?_
        refine lv_bipush (v := 10) hx hb d_X_digitSign_10 (by decide) ?_
        refine lv_idiv hx hb d_X_digitSign_12 (by decide) ?_
        refine lv_istore_n (lv' := [(2, .int (x2 / (10 : Int32))), (1, .int x1), (3, .int x3)]) hx hb d_X_digitSign_13 rfl hl (by decide) rfl (fun ls hl => ?_)
        refine lv_iinc (v := x3 + 1) (lv' := [(3, .int (x3 + 1)), (2, .int (x2 / (10 : Int32))), (1, .int x1)]) hx hb d_X_digitSign_14 hl (k := 2) rfl rfl (by decide) rfl (fun ls hl => ?_)
        refine lv_goto (tgt := 4) hx hb d_X_digitSign_17 (by decide) ?_
        exact ih (x2 / (10 : Int32)) (x3 + 1) hw ls (lv_sub hl [2, 1, 0] rfl)
  unfold wp_X_digitSign at hw
  refine lv_iload_n hx hb d_X_digitSign_0 rfl (lv_at hl 0 rfl) ?_
  refine lv_istore_n (lv' := [(2, .int x0), (0, .int x0), (1, .int x1)]) hx hb d_X_digitSign_1 rfl hl (by decide) rfl (fun ls hl => ?_)
  refine lv_iconst (v := 0) hx hb d_X_digitSign_2 (by decide) ?_
  refine lv_istore_n (lv' := [(3, .int (0 : Int32)), (2, .int x0), (0, .int x0), (1, .int x1)]) hx hb d_X_digitSign_3 rfl hl (by decide) rfl (fun ls hl => ?_)
  obtain ⟨n_2, hw⟩ := hw
  exact L4 x1 n_2 x0 (0 : Int32) hw ls (lv_sub hl [3, 1, 0] rfl)
