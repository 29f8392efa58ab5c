/-! unit, clear, form, source: the pad and the texts -/
theorem pu_mul60 {r : Nat} : nI r * 60 = nI (r * 60) := pk_mul r 60
theorem cl_unit {T_signs T_lengths : Nat → Int32} {U : Nat → Int64} {p : Int32} {np : Nat} {post : Int32 → (Nat → Int32) → (Nat → Int32) → (Nat → Int64) → Prop} (hl : T_lengths 28 = nI np) (hn : np ≤ 60)
    (h1 : ¬ (1 ≤ p ∧ p ≤ 127) → post 1 T_signs T_lengths U) (h2 : 1 ≤ p ∧ p ≤ 127 → np = 60 → post 2 T_signs T_lengths U)
    (h3 : 1 ≤ p ∧ p ≤ 127 → np < 60 → post 0 (upd T_signs (1680 + np) p) (upd T_lengths 28 (nI (np + 1))) (vp_updL U 0 (nI (np + 1)).toInt64)) : wp_H_unit T_signs T_lengths U p post := by
  unfold wp_H_unit wp_X_unit
  refine sp_within (fun a b => ⟨fun q => absurd q (by decide), fun _ => ?_⟩) (fun q => ⟨fun _ => Or.inl ⟨rfl, h1 q⟩, fun z => absurd rfl z⟩)
  have e28 : (28 : Int32).toNatClampNeg = 28 := by decide
  have i28 : vp_in (28 : Int32) 29 := vp_in_nI (n := 28) (by omega) (by omega)
  unfold wp_T_lengthOf
  refine ⟨i28, fun q => ?_, fun q => Or.inr ⟨rfl, h2 ⟨a, b⟩ ?_⟩⟩
  · rw [e28, hl] at q
    have hq : np < 60 := (nI_ltI (by omega) (by omega)).mp q
    unfold wp_T_append
    have e1 : (28 : Int32) * 60 + T_lengths (28 : Int32).toNatClampNeg = nI (1680 + np) := by
      rw [e28, hl]
      exact nI_add 1680 np
    have e2 : T_lengths (28 : Int32).toNatClampNeg + 1 = nI (np + 1) := by rw [e28, hl]; exact nI_1 np
    refine ⟨i28, ?_, i28, i28, i28, ?_⟩
    · rw [e1]; exact vp_in_nI (by omega) (by omega)
    · rw [e1, e2, e28, nI_clamp (by omega), pu_upd_same]
      refine ⟨pu_in01, ?_⟩
      rw [pu_0]
      exact h3 ⟨a, b⟩ hq
  · rw [e28, hl] at q
    have hq : ¬ np < 60 := fun z => q ((nI_ltI (b := 60) (by omega) (by omega)).mpr z)
    omega
theorem md_unit {th pd sr cl rg op : Int32} {M_pad : Nat → Int32} {p : Int32} {np : Nat} {post : Int32 → Int32 → Int32 → (Nat → Int32) → Prop} (hl : pd = nI np) (hn : np ≤ 60)
    (h1 : ¬ (1 ≤ p ∧ p ≤ 127) → post 0 1 pd M_pad) (h2 : 1 ≤ p ∧ p ≤ 127 → np = 60 → post 0 2 pd M_pad)
    (h3 : 1 ≤ p ∧ p ≤ 127 → np < 60 → post (nI (np + 1)) 0 (nI (np + 1)) (upd M_pad np p)) : wp_M_unit th pd M_pad sr cl rg op p post := by
  unfold wp_M_unit
  subst hl
  refine sm_within (fun a b => ⟨fun q => ?_, fun q => ?_⟩) (fun q => ⟨fun _ => sm_go1 ⟨fun _ => h1 q, fun z => absurd rfl z⟩, fun _ => sm_go1 ⟨fun _ => h1 q, fun z => absurd rfl z⟩⟩)
  · have hq : 60 ≤ np := (nI_leI (by omega) (by omega)).mp q
    exact sm_go2 ⟨fun _ => h2 ⟨a, b⟩ (by omega), fun z => absurd rfl z⟩
  · have hq : np < 60 := Nat.lt_of_not_le (fun z => q ((nI_leI (a := 60) (by omega) (by omega)).mpr z))
    refine sm_go0 ⟨fun z => absurd z (by decide), fun _ => ⟨vp_in_nI hq (by omega), ?_⟩⟩
    rw [nI_1, nI_clamp (by omega)]
    exact h3 ⟨a, b⟩ hq
theorem cl_clear {T_signs T_lengths : Nat → Int32} {post : Int32 → (Nat → Int32) → Prop} (h : post (T_lengths 28) (upd T_lengths 28 0)) : wp_X_clear T_signs T_lengths post := by
  unfold wp_X_clear wp_T_makeEmpty
  have e28 : (28 : Int32).toNatClampNeg = 28 := by decide
  have i28 : vp_in (28 : Int32) 29 := vp_in_nI (n := 28) (by omega) (by omega)
  rw [e28]
  exact ⟨i28, i28, h⟩
