/-! source, form: the pad becomes a text -/
theorem lp_src {th : Int32} {M_pad M_kinds M_days M_withdrawn M_lengths M_texts : Nat → Int32} {np ns : Nat} {post : Int32 → Int32 → Int32 → Int32 → (Nat → Int32) → (Nat → Int32) → (Nat → Int32) → (Nat → Int32) → (Nat → Int32) → Prop} (hp : np ≤ 60) (hs : ns < 24)
    (h : ∀ T : Nat → Int32, (∀ i, i < np → T (60 * ns + i) = M_pad i) → (∀ k, k < 60 * ns ∨ 60 * ns + np ≤ k → T k = M_texts k) → post (nI ns) th 0 (nI (ns + 1)) M_kinds M_days M_withdrawn M_lengths T) :
    ∀ (d i : Nat) (T : Nat → Int32), i + d = np → (∀ k, k < i → T (60 * ns + k) = M_pad k) → (∀ k, k < 60 * ns ∨ 60 * ns + np ≤ k → T k = M_texts k) → wl_M_source_91 th (nI np) M_pad (nI ns) M_kinds M_days M_withdrawn M_lengths post (d + 1) (nI i) T := by
  intro d
  induction d with
  | zero =>
    intro i T e h1 h2
    have e2 : i = np := by omega
    subst e2
    unfold wl_M_source_91
    refine ⟨fun _ => ?_, fun q => absurd (nI_le (Nat.le_refl _) (by omega)) q⟩
    rw [nI_1, nI_pred]
    exact h T h1 h2
  | succ d ih =>
    intro i T e h1 h2
    unfold wl_M_source_91
    refine ⟨fun q => absurd ((nI_leI (by omega) (by omega)).mp q) (by omega), fun _ => ?_⟩
    have e1 : (60 : Int32) * nI ns + nI i = nI (60 * ns + i) := by
      rw [show (60 : Int32) = nI 60 from rfl, pk_mul, nI_add]
    rw [e1, nI_clamp (by omega), nI_clamp (by omega), nI_1]
    refine ⟨vp_in_nI (by omega) (by omega), vp_in_nI (by omega) (by omega), ih (i + 1) _ (by omega) (fun k hk => ?_) (fun k hk => ?_)⟩
    · rcases Nat.lt_or_ge k i with q | q
      · rw [pu_upd_ne (by omega)]; exact h1 k q
      · have e3 : k = i := by omega
        subst e3
        rw [pu_upd_same]
    · rw [pu_upd_ne (by omega)]
      exact h2 k hk
theorem lp_frm {th : Int32} {M_pad M_formLengths M_forms : Nat → Int32} {np f : Nat} {post : Int32 → Int32 → Int32 → (Nat → Int32) → (Nat → Int32) → Prop} (hp : np ≤ 60) (hf : f < 4)
    (h : ∀ T : Nat → Int32, (∀ i, i < np → T (60 * f + i) = M_pad i) → (∀ k, k < 60 * f ∨ 60 * f + np ≤ k → T k = M_forms k) → post (nI np) th 0 (upd M_formLengths f (nI np)) T) :
    ∀ (d i : Nat) (T : Nat → Int32), i + d = np → (∀ k, k < i → T (60 * f + k) = M_pad k) → (∀ k, k < 60 * f ∨ 60 * f + np ≤ k → T k = M_forms k) → wl_M_form_19 th (nI np) M_pad M_formLengths (nI f) post (d + 1) (nI i) T := by
  intro d
  have i4 : vp_in (nI f) 4 := vp_in_nI hf (by omega)
  induction d with
  | zero =>
    intro i T e h1 h2
    have e2 : i = np := by omega
    subst e2
    unfold wl_M_form_19
    refine ⟨fun _ => ⟨i4, i4, ?_⟩, fun q => absurd (nI_le (Nat.le_refl _) (by omega)) q⟩
    rw [nI_clamp (by omega), pu_upd_same]
    exact h T h1 h2
  | succ d ih =>
    intro i T e h1 h2
    unfold wl_M_form_19
    refine ⟨fun q => absurd ((nI_leI (by omega) (by omega)).mp q) (by omega), fun _ => ?_⟩
    have e1 : (60 : Int32) * nI f + nI i = nI (60 * f + i) := by
      rw [show (60 : Int32) = nI 60 from rfl, pk_mul, nI_add]
    rw [e1, nI_clamp (by omega), nI_clamp (by omega), nI_1]
    refine ⟨vp_in_nI (by omega) (by omega), vp_in_nI (by omega) (by omega), ih (i + 1) _ (by omega) (fun k hk => ?_) (fun k hk => ?_)⟩
    · rcases Nat.lt_or_ge k i with q | q
      · rw [pu_upd_ne (by omega)]; exact h1 k q
      · have e3 : k = i := by omega
        subst e3
        rw [pu_upd_same]
    · rw [pu_upd_ne (by omega)]
      exact h2 k hk
theorem cl_move {T_signs T_lengths : Nat → Int32} {np r : Nat} {post : Int32 → (Nat → Int32) → (Nat → Int32) → Prop} (hl : T_lengths 28 = nI np) (hn : np ≤ 60) (hr : r < 28)
    (h : post (nI np) (va_cpy T_signs T_signs 1680 (r * 60) np) (upd (upd T_lengths r (nI np)) 28 0)) : wp_T_move T_signs T_lengths 28 (nI r) post := by
  unfold wp_T_move
  have e28 : (28 : Int32).toNatClampNeg = 28 := by decide
  have i28 : vp_in (28 : Int32) 29 := vp_in_nI (n := 28) (by omega) (by omega)
  have e1 : (28 : Int32) * 60 = nI 1680 := rfl
  rw [e28, hl, e1, pu_mul60, nI_clamp (by omega), nI_clamp (by omega), nI_clamp (by omega), nI_clamp (by omega)]
  exact ⟨i28, nI_pos (by omega), nI_pos (by omega), nI_pos (by omega), by omega, by omega, vp_in_nI (by omega) (by omega), i28, h⟩
/-- what the copy leaves -/
theorem cp_in {f : Nat → Int32} {d n k : Nat} (h : k < n) : va_cpy f f 1680 d n (d + k) = f (1680 + k) := by
  rw [pk_cpy_in (by omega) (by omega), show d + k - d = k by omega]
