/-! quote -/
def fmis (T P : Nat → Int32) (a n : Nat) : Nat → Nat → Int32
  | 0, _ => 0
  | d + 1, i => if n ≤ a + i ∨ T (a + i) ≠ P i then nI (i + 1) else fmis T P a n d (i + 1)
theorem fmis_t {T P : Nat → Int32} {a n d i : Nat} (h : n ≤ a + i ∨ T (a + i) ≠ P i) : fmis T P a n (d + 1) i = nI (i + 1) := if_pos h
theorem fmis_f {T P : Nat → Int32} {a n d i : Nat} (h1 : a + i < n) (h2 : T (a + i) = P i) : fmis T P a n (d + 1) i = fmis T P a n d (i + 1) := if_neg (fun z => by
  rcases z with z | z
  · omega
  · exact z h2)
theorem fmis_congr {T P T' P' : Nat → Int32} {a n : Nat} (h1 : ∀ k, k < n → T k = T' k) : ∀ {d i : Nat}, (∀ k, i ≤ k → k < i + d → P k = P' k) → fmis T P a n d i = fmis T' P' a n d i := by
  intro d
  induction d with
  | zero => intro i _; rfl
  | succ d ih =>
    intro i h
    have hp := h i (by omega) (by omega)
    by_cases q : n ≤ a + i
    · rw [fmis_t (Or.inl q), fmis_t (Or.inl q)]
    · have ht := h1 (a + i) (by omega)
      by_cases q2 : T (a + i) = P i
      · rw [fmis_f (by omega) q2, fmis_f (by omega) (by rw [← ht, ← hp]; exact q2)]
        exact ih (fun k k1 k2 => h k (by omega) (by omega))
      · rw [fmis_t (Or.inr q2), fmis_t (Or.inr (by rw [← ht, ← hp]; exact q2))]
theorem cl_mism {T L : Nat → Int32} {s a n np : Nat} {post : Int32 → Prop} (hs : s < 24) (hp : L 28 = nI np) (hn : np ≤ 60) (hl : L s = nI n) (hn2 : n ≤ 60) (ha : a ≤ n) (h : post (fmis (fun k => T (60 * s + k)) (fun k => T (1680 + k)) a n np 0)) : wp_T_firstMismatch T L 28 (nI s) (nI a) post := by
  have e28 : (28 : Int32).toNatClampNeg = 28 := by decide
  have i28 : vp_in (28 : Int32) 29 := vp_in_nI (n := 28) (by omega) (by omega)
  have key : ∀ d i, i + d = np → post (fmis (fun k => T (60 * s + k)) (fun k => T (1680 + k)) a n d i) → wl_T_firstMismatch_3 T L 28 (nI s) (nI a) post (d + 1) (nI i) := by
    intro d
    induction d with
    | zero =>
      intro i e h
      unfold wl_T_firstMismatch_3
      rw [e28, hp]
      exact ⟨i28, pk_le np i (fun _ => h) (fun z => absurd z (by omega))⟩
    | succ d ih =>
      intro i e h
      unfold wl_T_firstMismatch_3 wp_T_signAt
      rw [e28, hp, nI_clamp (show s < 2 ^ 31 by omega), hl, nI_add, nI_1, pu_mul60, nI_add, show (28 : Int32) * 60 = nI 1680 from rfl, nI_add, nI_clamp (by omega), nI_clamp (by omega)]
      refine ⟨i28, pk_le np i (fun z => absurd z (by omega)) (fun _ => ⟨vp_in_nI (by omega) (by omega), pk_lt (a + i) n (fun z => ⟨vp_in_nI (by omega) (by omega), vp_in_nI (by omega) (by omega), fun q => ih (i + 1) (by omega) ?_, fun q => ?_⟩) (fun z => ?_)⟩)⟩
      · have e9 : (fun k => T (60 * s + k)) (a + i) = (fun k => T (1680 + k)) i := by
          show T (60 * s + (a + i)) = T (1680 + i)
          rw [show 60 * s + (a + i) = s * 60 + (a + i) by omega]
          exact q
        rw [fmis_f z e9] at h
        exact h
      · have e9 : (fun k => T (60 * s + k)) (a + i) ≠ (fun k => T (1680 + k)) i := by
          show T (60 * s + (a + i)) ≠ T (1680 + i)
          rw [show 60 * s + (a + i) = s * 60 + (a + i) by omega]
          exact q
        rw [fmis_t (Or.inr e9)] at h
        exact h
      · rw [fmis_t (Or.inl z)] at h
        exact h
  unfold wp_T_firstMismatch
  exact ⟨np + 1, key np 0 (by omega) h⟩
theorem md_mism {th : Int32} {P L T : Nat → Int32} {s a n np : Nat} {post : Int32 → Int32 → Prop} (hs : s < 24) (hn : np ≤ 60) (hl : L s = nI n) (hn2 : n ≤ 60) (ha : a ≤ n) (h : post (fmis (fun k => T (60 * s + k)) P a n np 0) th) : ∃ n9, wl_M_quote_40 th (nI np) P L T (nI s) (nI a) post n9 (0 : Int32) := by
  have key : ∀ d i, i + d = np → post (fmis (fun k => T (60 * s + k)) P a n d i) th → wl_M_quote_40 th (nI np) P L T (nI s) (nI a) post (d + 1) (nI i) := by
    intro d
    induction d with
    | zero =>
      intro i e h
      unfold wl_M_quote_40
      exact pk_le np i (fun _ => h) (fun z => absurd z (by omega))
    | succ d ih =>
      intro i e h
      unfold wl_M_quote_40
      rw [show (60 : Int32) = nI 60 from rfl, pk_mul, nI_add, nI_add, nI_add, nI_1, nI_clamp (show s < 2 ^ 31 by omega), hl, nI_clamp (show i < 2 ^ 31 by omega), nI_clamp (show 60 * s + a + i < 2 ^ 31 by omega)]
      refine pk_le np i (fun z => absurd z (by omega)) (fun _ => ⟨vp_in_nI (by omega) (by omega), pk_le n (a + i) (fun z => ?_) (fun z => ⟨vp_in_nI (by omega) (by omega), vp_in_nI (by omega) (by omega), fun q => ih (i + 1) (by omega) ?_, fun q => ?_⟩)⟩)
      · rw [fmis_t (Or.inl z)] at h
        exact h
      · have e9 : (fun k => T (60 * s + k)) (a + i) = (P) i := by
          show T (60 * s + (a + i)) = P i
          rw [show 60 * s + (a + i) = 60 * s + a + i by omega]
          exact q
        rw [fmis_f z e9] at h
        exact h
      · have e9 : (fun k => T (60 * s + k)) (a + i) ≠ (P) i := by
          show T (60 * s + (a + i)) ≠ P i
          rw [show 60 * s + (a + i) = 60 * s + a + i by omega]
          exact q
        rw [fmis_t (Or.inr e9)] at h
        exact h
  exact ⟨np + 1, key np 0 (by omega) h⟩
