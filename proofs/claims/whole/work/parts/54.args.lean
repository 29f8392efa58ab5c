/-! arguments: is it a number below n, is it a day -/
def isA (x : Int32) (n : Nat) : Prop := ∃ j, j < n ∧ x = nI j
def isD (x : Int32) : Prop := 0 ≤ x ∧ x ≤ 100000
theorem isA_iff {x : Int32} {n : Nat} (hn : n < 2 ^ 31) : isA x n ↔ 0 ≤ x ∧ x < nI n := by
  constructor
  · rintro ⟨j, hj, rfl⟩
    exact ⟨nI_pos' (by omega), (nI_ltI (by omega) hn).mpr hj⟩
  · rintro ⟨h0, h1⟩
    exact pu_in h0 h1 hn
theorem isA_pred {x : Int32} {n : Nat} (hn : n < 2 ^ 31) : (0 ≤ x ∧ x ≤ nI n - 1) ↔ isA x n := by
  rcases Nat.eq_zero_or_pos n with rfl | h
  · constructor
    · rintro ⟨h0, h1⟩
      exfalso
      have e : (nI 0 - 1 : Int32) = -1 := by decide
      rw [e, pu_le] at h1
      rw [pu_le] at h0
      have e1 : (-1 : Int32).toInt = -1 := by decide
      have e0 : (0 : Int32).toInt = 0 := by decide
      omega
    · rintro ⟨j, hj, -⟩
      omega
  · obtain ⟨k, rfl⟩ : ∃ k, n = k + 1 := ⟨n - 1, by omega⟩
    rw [nI_pred, isA_iff hn]
    constructor
    · rintro ⟨h0, h1⟩
      obtain ⟨j, hj, rfl⟩ := pu_in' h0 h1 (by omega)
      exact ⟨h0, (nI_ltI (by omega) hn).mpr (by omega)⟩
    · rintro ⟨h0, h1⟩
      obtain ⟨j, hj, rfl⟩ := pu_in h0 h1 hn
      exact ⟨h0, (nI_leI (by omega) (by omega)).mpr (by omega)⟩
theorem sm_isClaim {th pd sr cl rg op x : Int32} {n : Nat} {post : Int32 → Prop} (hc : cl = nI n) (hn : n ≤ 24) (h1 : isA x n → post 1) (h0 : ¬ isA x n → post 0) : wp_M_isClaim th pd sr cl rg op x post := by
  unfold wp_M_isClaim
  subst hc
  refine ⟨fun q => h0 (fun z => ?_), fun q => ⟨fun q2 => h0 (fun z => ?_), fun q2 => h1 ((isA_iff (by omega)).mpr ⟨pu_nlt.mp q, pu_nle.mp q2⟩)⟩⟩
  · exact pu_nlt.mpr ((isA_iff (by omega)).mp z).1 q
  · exact pu_nle.mpr ((isA_iff (by omega)).mp z).2 q2
theorem sm_isSource {th pd sr cl rg op x : Int32} {n : Nat} {post : Int32 → Prop} (hc : sr = nI n) (hn : n ≤ 24) (h1 : isA x n → post 1) (h0 : ¬ isA x n → post 0) : wp_M_isSource th pd sr cl rg op x post := by
  unfold wp_M_isSource
  subst hc
  refine ⟨fun q => h0 (fun z => ?_), fun q => ⟨fun q2 => h0 (fun z => ?_), fun q2 => h1 ((isA_iff (by omega)).mpr ⟨pu_nlt.mp q, pu_nle.mp q2⟩)⟩⟩
  · exact pu_nlt.mpr ((isA_iff (by omega)).mp z).1 q
  · exact pu_nle.mpr ((isA_iff (by omega)).mp z).2 q2
theorem sm_isDay {x : Int32} {post : Int32 → Prop} (h1 : isD x → post 1) (h0 : ¬ isD x → post 0) : wp_M_isDay x post := by
  unfold wp_M_isDay
  exact ⟨fun q => h0 (fun z => pu_nlt.mpr z.1 q), fun q => ⟨fun q2 => h0 (fun z => pu_nlt.mpr z.2 q2), fun q2 => h1 ⟨pu_nlt.mp q, pu_nlt.mp q2⟩⟩⟩
theorem isD_of {x : Int32} (h : isD x) : ∃ d, d ≤ 100000 ∧ x = nI d := pu_in' h.1 h.2 (by omega)
theorem rq_claim {a b c d e : Nat → Int32} {cm rl x : Int32} {n : Nat} {A : Prop} {pex : Nat → Prop} (hc : cm = nI n) (hn : n ≤ 24) (h1 : isA x n → A) (h0 : ¬ isA x n → pex 3) : wp_X_requireClaim a b c d e cm rl x A (fun _ => False) ∨ wp_X_requireClaim a b c d e cm rl x False pex := by
  subst hc
  unfold wp_X_requireClaim wp_C_made
  by_cases h : isA x n
  · exact Or.inl (sp_within (fun _ _ => ⟨fun q => absurd q (by decide), fun _ => h1 h⟩) (fun q => absurd ((isA_pred (by omega)).mpr h) q))
  · exact Or.inr (sp_within (fun q1 q2 => absurd ((isA_pred (by omega)).mp ⟨q1, q2⟩) h) (fun _ => ⟨fun _ => h0 h, fun q => absurd rfl q⟩))
theorem rq_source {a b c : Nat → Int32} {cm x : Int32} {n : Nat} {A : Prop} {pex : Nat → Prop} (hc : cm = nI n) (hn : n ≤ 24) (h1 : isA x n → A) (h0 : ¬ isA x n → pex 3) : wp_X_requireSource a b c cm x A (fun _ => False) ∨ wp_X_requireSource a b c cm x False pex := by
  subst hc
  unfold wp_X_requireSource wp_S_made
  by_cases h : isA x n
  · exact Or.inl (sp_within (fun _ _ => ⟨fun q => absurd q (by decide), fun _ => h1 h⟩) (fun q => absurd ((isA_pred (by omega)).mpr h) q))
  · exact Or.inr (sp_within (fun q1 q2 => absurd ((isA_pred (by omega)).mp ⟨q1, q2⟩) h) (fun _ => ⟨fun _ => h0 h, fun q => absurd rfl q⟩))
theorem rq_day {x : Int32} {A : Prop} {pex : Nat → Prop} (h1 : isD x → A) (h0 : ¬ isD x → pex 1) : wp_X_requireDay x A (fun _ => False) ∨ wp_X_requireDay x False pex := by
  unfold wp_X_requireDay
  by_cases h : isD x
  · exact Or.inl (sp_within (fun _ _ => ⟨fun q => absurd q (by decide), fun _ => h1 h⟩) (fun q => absurd h q))
  · exact Or.inr (sp_within (fun q1 q2 => absurd ⟨q1, q2⟩ h) (fun _ => ⟨fun _ => h0 h, fun q => absurd rfl q⟩))
theorem rq_person {x : Int32} {A : Prop} {pex : Nat → Prop} (h1 : isA x 32 → A) (h0 : ¬ isA x 32 → pex 3) : wp_X_requirePerson x A (fun _ => False) ∨ wp_X_requirePerson x False pex := by
  unfold wp_X_requirePerson
  by_cases h : isA x 32
  · exact Or.inl (sp_within (fun _ _ => ⟨fun q => absurd q (by decide), fun _ => h1 h⟩) (fun q => absurd ((isA_pred (n := 32) (by omega)).mpr h) q))
  · exact Or.inr (sp_within (fun q1 q2 => absurd ((isA_pred (n := 32) (by omega)).mp ⟨q1, q2⟩) h) (fun _ => ⟨fun _ => h0 h, fun q => absurd rfl q⟩))
theorem rq_form {x : Int32} {A : Prop} {pex : Nat → Prop} (h1 : isA x 4 → A) (h0 : ¬ isA x 4 → pex 3) : wp_X_requireForm x A (fun _ => False) ∨ wp_X_requireForm x False pex := by
  unfold wp_X_requireForm
  by_cases h : isA x 4
  · exact Or.inl (sp_within (fun _ _ => ⟨fun q => absurd q (by decide), fun _ => h1 h⟩) (fun q => absurd ((isA_pred (n := 4) (by omega)).mpr h) q))
  · exact Or.inr (sp_within (fun q1 q2 => absurd ((isA_pred (n := 4) (by omega)).mp ⟨q1, q2⟩) h) (fun _ => ⟨fun _ => h0 h, fun q => absurd rfl q⟩))
theorem rq_place {x : Int32} {A : Prop} {pex : Nat → Prop} (h1 : 0 ≤ x → A) (h0 : x < 0 → pex 3) : wp_X_requirePlace x A (fun _ => False) ∨ wp_X_requirePlace x False pex := by
  unfold wp_X_requirePlace
  by_cases h : x < 0
  · exact Or.inr ⟨fun q => absurd h (pu_nlt.mpr q), fun _ => h0 h⟩
  · exact Or.inl ⟨fun _ => h1 (pu_nlt.mp h), fun q => absurd (pu_nlt.mp h) q⟩
/-- a number of the script is one of the class's -/
theorem isA_w {P : Prop} {x : Int32} {n : Nat} (h : isA x n) (k : ∀ j, j < n → x = nI j → P) : P := by
  obtain ⟨j, hj, e⟩ := h
  exact k j hj e
