/-! held, opened -/
theorem nI_nem1 {s : Nat} (h : s < 2 ^ 31) : nI s ≠ -1 := by
  intro e
  have := nI_pos' h
  rw [e] at this
  exact absurd this (by decide)
theorem src_eq {S Sd Sw Md Mw : Nat → Int32} {r dy wo : Int32} {ns : Nat} (hr : ∀ s, bt r s = true ↔ (s < ns ∧ stn Sd Sw dy s) ∧ nI s ≠ wo) (he : ∀ i, i < ns → Sd i = Md i ∧ Sw i = Mw i) (c : Nat) : srcC S r c ↔ srcM S Md Mw dy wo ns c := by
  constructor
  · rintro ⟨a, s, b, e⟩
    obtain ⟨⟨e1, e2⟩, e3⟩ := (hr s).mp e
    refine ⟨a, s, e1, b, e3, ?_⟩
    unfold stn at e2 ⊢
    rw [← (he s e1).1, ← (he s e1).2]
    exact e2
  · rintro ⟨a, s, e1, b, e3, e2⟩
    refine ⟨a, s, b, (hr s).mpr ⟨⟨e1, ?_⟩, e3⟩⟩
    unfold stn at e2 ⊢
    rw [(he s e1).1, (he s e1).2]
    exact e2
theorem src_m1 {D W : Nat → Int32} {r dy : Int32} {ns : Nat} (hn : ns ≤ 24) (hr : ∀ s, bt r s = true ↔ s < ns ∧ stn D W dy s) (s : Nat) : bt r s = true ↔ (s < ns ∧ stn D W dy s) ∧ nI s ≠ -1 := by
  rw [hr s]
  exact ⟨fun q => ⟨q, nI_nem1 (by omega)⟩, fun q => q.1⟩
theorem src_wo {D W : Nat → Int32} {r dy : Int32} {ns k : Nat} (hn : ns ≤ 24) (hk : k < ns) (hr : ∀ s, bt r s = true ↔ s < ns ∧ stn D W dy s) (s : Nat) : bt (r &&& (((1 : Int32) <<< (nI k &&& 31)) ^^^ (-1 : Int32))) s = true ↔ (s < ns ∧ stn D W dy s) ∧ nI s ≠ nI k := by
  rw [bs_wout (by omega), Bool.and_eq_true, hr s]
  constructor
  · rintro ⟨a, b⟩
    refine ⟨a, fun e => ?_⟩
    have e2 : s = k := (nI_eq (by omega) (by omega)).mp e
    rw [decide_eq_true e2] at b
    exact absurd b (by decide)
  · rintro ⟨a, b⟩
    refine ⟨a, ?_⟩
    rw [decide_eq_false (fun e => b (by rw [e]))]
    rfl
/-- the k-th of those that are so -/
def kth (f : Nat → Bool) : Nat → Nat → Nat → Int32
  | 0, _, _ => -1
  | d + 1, i, k => if f i then (if k = 0 then nI i else kth f d (i + 1) (k - 1)) else kth f d (i + 1) k
theorem kth_s (f : Nat → Bool) (d i k : Nat) : kth f (d + 1) i k = if f i then (if k = 0 then nI i else kth f d (i + 1) (k - 1)) else kth f d (i + 1) k := rfl
theorem kth_t0 {f : Nat → Bool} {d i k : Nat} (h : f i = true) (q : k = 0) : kth f (d + 1) i k = nI i := by rw [kth_s, if_pos h, if_pos q]
theorem kth_t1 {f : Nat → Bool} {d i k : Nat} (h : f i = true) (q : ¬ k = 0) : kth f (d + 1) i k = kth f d (i + 1) (k - 1) := by rw [kth_s, if_pos h, if_neg q]
theorem kth_f {f : Nat → Bool} {d i k : Nat} (h : f i = false) : kth f (d + 1) i k = kth f d (i + 1) k := by rw [kth_s, if_neg (by rw [h]; decide)]
theorem kth_none {f : Nat → Bool} : ∀ {d i k : Nat}, (∀ a, i ≤ a → a < i + d → f a = false) → kth f d i k = -1 := by
  intro d
  induction d with
  | zero => intro i k _; rfl
  | succ d ih =>
    intro i k h
    rw [kth_f (h i (by omega) (by omega))]
    exact ih (fun a h1 h2 => h a (by omega) (by omega))
theorem kth_ext {f g : Nat → Bool} {b : Nat} : ∀ {a i k : Nat}, (∀ c, i ≤ c → c < i + a → f c = g c) → (∀ c, i + a ≤ c → c < i + a + b → f c = false) → kth f (a + b) i k = kth g a i k := by
  intro a
  induction a with
  | zero =>
    intro i k _ h
    rw [Nat.zero_add]
    exact kth_none (fun c h1 h2 => h c (by omega) (by omega))
  | succ a ih =>
    intro i k h1 h2
    have e := h1 i (by omega) (by omega)
    rw [Nat.succ_add, kth_s, kth_s, e, ih (fun c q1 q2 => h1 c (by omega) (by omega)) (fun c q1 q2 => h2 c (by omega) (by omega)), ih (fun c q1 q2 => h1 c (by omega) (by omega)) (fun c q1 q2 => h2 c (by omega) (by omega))]
theorem cl_member {x : Int32} {q : Nat} {post : Int32 → Prop} (hq : q < 2 ^ 31) (h : post (kth (bt x) 24 0 q)) : wp_X_memberAt x (nI q) post := by
  have key : ∀ d i k, i + d = 24 → k < 2 ^ 31 → post (kth (bt x) d i k) → wl_X_memberAt_4 x post (d + 1) (nI k) (nI i) := by
    intro d
    induction d with
    | zero =>
      intro i k e _ h
      unfold wl_X_memberAt_4
      exact pk_le 24 i (fun _ => h) (fun z => absurd z (by omega))
    | succ d ih =>
      intro i k e hk h
      unfold wl_X_memberAt_4
      refine pk_le 24 i (fun z => absurd z (by omega)) (fun _ => sp_has (by omega) (fun e1 => ⟨fun z => absurd z (by decide), fun _ => pk_eq k 0 (fun z => ?_) (fun z => ?_)⟩) (fun e1 => ⟨fun _ => ?_, fun z => absurd rfl z⟩))
      · rw [kth_t0 e1 z] at h; exact h
      · rw [kth_t1 e1 z] at h
        obtain ⟨m, rfl⟩ : ∃ m, k = m + 1 := ⟨k - 1, by omega⟩
        rw [pk_m1, nI_1]
        exact ih (i + 1) m (by omega) (by omega) h
      · rw [kth_f e1] at h
        rw [nI_1]
        exact ih (i + 1) k (by omega) hk h
  unfold wp_X_memberAt
  exact ⟨25, key 24 0 q (by omega) hq h⟩
theorem md_op79 {th cl : Int32} {H B : Nat → Int32} {nc q : Nat} {post : Int32 → Int32 → (Nat → Int32) → (Nat → Int32) → Prop} (hc : cl = nI nc) (hn : nc ≤ 24) (hq : q < 2 ^ 31) (h : post (kth (fun i => decide (¬ B i = 0) && decide (H i = 0)) nc 0 q) th H B) : ∃ n9, wl_M_opened_79 th cl H B (nI q) post n9 (0 : Int32) (0 : Int32) := by
  subst hc
  have key : ∀ d i c, i + d = nc → c ≤ q → post (kth (fun i => decide (¬ B i = 0) && decide (H i = 0)) d i (q - c)) th H B → wl_M_opened_79 th (nI nc) H B (nI q) post (d + 1) (nI c) (nI i) := by
    intro d
    induction d with
    | zero =>
      intro i c e _ h
      unfold wl_M_opened_79
      exact pk_le nc i (fun _ => h) (fun z => absurd z (by omega))
    | succ d ih =>
      intro i c e hc h
      have ii : vp_in (nI i) 24 := vp_in_nI (by omega) (by omega)
      unfold wl_M_opened_79
      rw [nI_clamp (show i < 2 ^ 31 by omega), nI_1, nI_1]
      refine pk_le nc i (fun z => absurd z (by omega)) (fun _ => ⟨ii, fun e1 => ?_, fun e1 => ⟨ii, fun e2 => pk_eq c q (fun z => ?_) (fun z => ?_), fun e2 => ?_⟩⟩)
      · rw [kth_f (by rw [decide_eq_false (fun z => z e1)]; rfl)] at h
        exact ih (i + 1) c (by omega) hc h
      · rw [kth_t0 (by rw [decide_eq_true e1, decide_eq_true e2]; rfl) (by omega)] at h
        exact h
      · rw [kth_t1 (by rw [decide_eq_true e1, decide_eq_true e2]; rfl) (by omega)] at h
        exact ih (i + 1) (c + 1) (by omega) (by omega) (by rw [show q - (c + 1) = q - c - 1 by omega]; exact h)
      · rw [kth_f (by rw [decide_eq_false e2, Bool.and_false])] at h
        exact ih (i + 1) c (by omega) hc h
  exact ⟨nc + 1, key nc 0 0 (by omega) (by omega) h⟩
theorem md_op40 {th pd sr cl rg' op x1 x2 x3 : Int32} {D W BS BC H B0 : Nat → Int32} {post : Int32 → Int32 → (Nat → Int32) → (Nat → Int32) → Prop} (h01 : ∀ c, c < 24 → H c = 0 ∨ H c = 1) (h : ∀ B, (∀ c, c < 24 → B c = H c) → wp_M_hold th pd sr D W cl BS BC rg' H op x2 x1 (fun u => ∃ n9, wl_M_opened_79 th cl u B x3 post n9 (0 : Int32) (0 : Int32))) : ∃ n9, wl_M_opened_40 th pd sr D W cl BS BC rg' H op x1 x2 x3 post n9 (0 : Int32) B0 := by
  refine loop_0 (fun n i (B : Nat → Int32) => wl_M_opened_40 th pd sr D W cl BS BC rg' H op x1 x2 x3 post n (nI i) B) (fun i B => ∀ c, c < i → B c = H c) 24 B0 (fun c z => absurd z (by omega)) ?_ ?_
  · intro n B hI
    show wl_M_opened_40 th pd sr D W cl BS BC rg' H op x1 x2 x3 post (n + 1) (nI 24) B
    unfold wl_M_opened_40
    exact pk_le 24 24 (fun _ => h B hI) (fun z => absurd z (by omega))
  · intro n i B hi hI hk
    show wl_M_opened_40 th pd sr D W cl BS BC rg' H op x1 x2 x3 post (n + 1) (nI i) B
    have ii : vp_in (nI i) 24 := vp_in_nI hi (by omega)
    unfold wl_M_opened_40
    refine pk_le 24 i (fun z => absurd z (by omega)) (fun _ => ⟨ii, ii, ?_⟩)
    rw [nI_clamp (by omega), nI_1, pu_nb (h01 i hi)]
    refine hk _ (fun c hc => ?_)
    by_cases e : c = i
    · subst e; rw [pk_us]
    · rw [pk_un e]; exact hI c (by omega)
