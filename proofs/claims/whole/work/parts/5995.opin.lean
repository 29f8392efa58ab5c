/-! opinion -/
def vdr (v d r : Int32) : Prop := (0 ≤ v ∧ v ≤ 99) ∧ isD d ∧ (0 ≤ r ∧ r ≤ 9)
def mt1 (P C D : Nat → Int32) (x1 x2 x4 : Int32) (k : Nat) : Prop := P k = x1 ∧ C k = x2 ∧ D k = x4
theorem tr_T {v d r : Int32} {G0 G1 G2 G3 : Prop} (h0 : ¬ vdr v d r → G0 ∧ G1 ∧ G2) (h1 : vdr v d r → G3) : wp_M_within v (0 : Int32) (99 : Int32) (fun r_4 => ((r_4 = 0 → G0) ∧ (¬ (r_4 = 0) → (wp_M_isDay d (fun r_29 => ((r_29 = 0 → G1) ∧ (¬ (r_29 = 0) → (wp_M_within r (0 : Int32) (9 : Int32) (fun r_54 => ((r_54 = 0 → G2) ∧ (¬ (r_54 = 0) → G3))))))))))) := by
  refine sm_within (fun a b => ⟨fun z => absurd z (by decide), fun _ => sm_isDay (fun hd => ⟨fun z => absurd z (by decide), fun _ => sm_within (fun c e => ⟨fun z => absurd z (by decide), fun _ => h1 ⟨⟨a, b⟩, hd, ⟨c, e⟩⟩⟩) (fun g => ⟨fun _ => (h0 (fun z => g z.2.2)).2.2, fun z => absurd rfl z⟩)⟩) (fun g => ⟨fun _ => (h0 (fun z => g z.2.1)).2.1, fun z => absurd rfl z⟩)⟩) (fun g => ⟨fun _ => (h0 (fun z => g z.1)).1, fun z => absurd rfl z⟩)
theorem cl_find {P C D V R Kn Ta : Nat → Int32} {md x1 x2 x4 : Int32} {no : Nat} {post : Int32 → Prop} (hm : md = nI no) (hn : no ≤ 300) (h1 : ∀ k, k < no → mt1 P C D x1 x2 x4 k → post (nI k)) (h0 : (∀ k, k < no → ¬ mt1 P C D x1 x2 x4 k) → post (-1)) : wp_O_find P C D V R Kn Ta md x1 x2 x4 post := by
  subst hm
  have key : ∀ d i, i + d = no → (∀ k, k < i → ¬ mt1 P C D x1 x2 x4 k) → wl_O_find_3 P C D (nI no) x1 x2 x4 post (d + 1) (nI i) := by
    intro d
    induction d with
    | zero =>
      intro i e hI
      have e2 : i = no := by omega
      subst e2
      unfold wl_O_find_3
      exact pk_le i i (fun _ => h0 hI) (fun z => absurd z (by omega))
    | succ d ih =>
      intro i e hI
      have ii : vp_in (nI i) 300 := vp_in_nI (by omega) (by omega)
      have next : ¬ mt1 P C D x1 x2 x4 i → wl_O_find_3 P C D (nI no) x1 x2 x4 post (d + 1) (nI (i + 1)) := fun q => ih (i + 1) (by omega) (fun k hk => by
        by_cases e3 : k = i
        · subst e3; exact q
        · exact hI k (by omega))
      unfold wl_O_find_3
      rw [nI_clamp (by omega), nI_1]
      exact pk_le no i (fun z => absurd z (by omega)) (fun _ => ⟨ii, fun q1 => ⟨ii, fun q2 => ⟨ii, fun q3 => h1 i (by omega) ⟨q1, q2, q3⟩, fun q3 => next (fun z => q3 z.2.2)⟩, fun q2 => next (fun z => q2 z.2.1)⟩, fun q1 => next (fun z => q1 z.1)⟩)
  unfold wp_O_find
  exact ⟨no + 1, key no 0 (by omega) (fun k hk => absurd hk (by omega))⟩
theorem cnt_step {f : Nat → Bool} {i : Nat} : cnt f (i + 1) = cnt f i + (if f i then 1 else 0) := rfl
theorem cl_number {P C D V R Kn Ta : Nat → Int32} {md x : Int32} {no : Nat} {post : Int32 → Prop} (hm : md = nI no) (hn : no ≤ 300) (h : post (nI (cnt (fun k => decide (C k = x)) no))) : wp_O_numberOf P C D V R Kn Ta md x post := by
  subst hm
  unfold wp_O_numberOf
  refine loop_0 (fun n i (v : Int32) => wl_O_numberOf_4 C (nI no) x post n v (nI i)) (fun i v => v = nI (cnt (fun k => decide (C k = x)) i)) no 0 rfl ?_ ?_
  · rintro n v rfl
    show wl_O_numberOf_4 C (nI no) x post (n + 1) _ (nI no)
    unfold wl_O_numberOf_4
    exact pk_le no no (fun _ => h) (fun z => absurd z (by omega))
  · rintro n i v hi rfl hk
    show wl_O_numberOf_4 C (nI no) x post (n + 1) _ (nI i)
    unfold wl_O_numberOf_4
    rw [nI_clamp (by omega), nI_1, nI_1]
    refine pk_le no i (fun z => absurd z (by omega)) (fun _ => ⟨vp_in_nI (by omega) (by omega), fun q => hk _ ?_, fun q => hk _ ?_⟩)
    · rw [cnt_step, if_pos (by exact decide_eq_true q)]
    · rw [cnt_step, if_neg (by rw [decide_eq_true_eq]; exact q)]
      rfl
theorem md_number {th pd sr cl rn op x : Int32} {C : Nat → Int32} {no : Nat} {post : Int32 → Prop} (hm : op = nI no) (hn : no ≤ 300) (h : post (nI (cnt (fun k => decide (C k = x)) no))) : wp_M_ofClaim th pd sr cl rn op C x post := by
  subst hm
  unfold wp_M_ofClaim
  refine loop_0 (fun n i (v : Int32) => wl_M_ofClaim_4 (nI no) C x post n v (nI i)) (fun i v => v = nI (cnt (fun k => decide (C k = x)) i)) no 0 rfl ?_ ?_
  · rintro n v rfl
    show wl_M_ofClaim_4 (nI no) C x post (n + 1) _ (nI no)
    unfold wl_M_ofClaim_4
    exact pk_le no no (fun _ => h) (fun z => absurd z (by omega))
  · rintro n i v hi rfl hk
    show wl_M_ofClaim_4 (nI no) C x post (n + 1) _ (nI i)
    unfold wl_M_ofClaim_4
    rw [nI_clamp (by omega), nI_1, nI_1]
    refine pk_le no i (fun z => absurd z (by omega)) (fun _ => ⟨vp_in_nI (by omega) (by omega), fun q => hk _ ?_, fun q => hk _ ?_⟩)
    · rw [cnt_step, if_pos (by exact decide_eq_true q)]
    · rw [cnt_step, if_neg (by rw [decide_eq_true_eq]; exact q)]
      rfl
set_option maxHeartbeats 4000000 in
theorem md_opinion {th pd sr cl rn op x1 x2 x3 x4 x5 : Int32} {P C V W R : Nat → Int32} {nc no : Nat} {post : Int32 → Int32 → Int32 → (Nat → Int32) → (Nat → Int32) → (Nat → Int32) → (Nat → Int32) → (Nat → Int32) → Prop} (hc : cl = nI nc) (hcn : nc ≤ 24) (hm : op = nI no) (hn : no ≤ 300)
    (hu : ∀ k q, k < no → q < no → P k = P q → C k = C q → W k = W q → k = q)
    (h1 : ¬ (isA x1 32 ∧ isA x2 nc) → post 0 1 (nI no) P C V W R) (h2 : isA x1 32 → isA x2 nc → ¬ vdr x3 x4 x5 → post 0 2 (nI no) P C V W R)
    (h3 : isA x1 32 → isA x2 nc → vdr x3 x4 x5 → (∀ k, k < no → ¬ mt1 P C W x1 x2 x4 k) → no = 300 → post 0 3 (nI no) P C V W R)
    (hA : isA x1 32 → isA x2 nc → vdr x3 x4 x5 → ∀ k, k < no → mt1 P C W x1 x2 x4 k → post (nI (cnt (fun k => decide (C k = x2)) no)) 0 (nI no) P C (upd V k x3) W (upd R k x5))
    (hB : isA x1 32 → isA x2 nc → vdr x3 x4 x5 → (∀ k, k < no → ¬ mt1 P C W x1 x2 x4 k) → no < 300 → post (nI (cnt (fun k => decide (upd C no x2 k = x2)) (no + 1))) 0 (nI (no + 1)) (upd P no x1) (upd C no x2) (upd V no x3) (upd W no x4) (upd R no x5)) :
    wp_M_opinion th pd sr cl rn op P C V W R x1 x2 x3 x4 x5 post := by
  subst hm
  unfold wp_M_opinion
  refine loop_0 (fun n i (a : Int32) => wl_M_opinion_9 th pd sr cl rn (nI no) P C V W R x1 x2 x3 x4 x5 post n a (nI i)) (fun i a => (∃ k, k < i ∧ mt1 P C W x1 x2 x4 k ∧ a = nI k) ∨ ((∀ k, k < i → ¬ mt1 P C W x1 x2 x4 k) ∧ a = nI no)) no (nI no) (Or.inr ⟨fun k hk => absurd hk (by omega), rfl⟩) ?_ ?_
  · intro n a hI
    show wl_M_opinion_9 th pd sr cl rn (nI no) P C V W R x1 x2 x3 x4 x5 post (n + 1) a (nI no)
    unfold wl_M_opinion_9
    refine pk_le no no (fun _ => ?_) (fun z => absurd z (by omega))
    have q1 : isA x1 32 → isA x2 nc → ¬ vdr x3 x4 x5 → post 0 2 (nI no) P C V W R := h2
    refine sm_within (fun p1 p2 => ⟨fun z => absurd z (by decide), fun _ => sm_isClaim hc hcn (fun hx2 => ⟨fun z => absurd z (by decide), fun _ => tr_T (fun hv => ⟨?_, ?_, ?_⟩) (fun hv => ?_)⟩) (fun hx2 => ⟨fun _ => tr_T (fun _ => ⟨?_, ?_, ?_⟩) (fun _ => ?_), fun z => absurd rfl z⟩)⟩) (fun hp => ⟨fun _ => tr_T (fun _ => ⟨?_, ?_, ?_⟩) (fun _ => ?_), fun z => absurd rfl z⟩)
    · have hx1 : isA x1 32 := (isA_pred (n := 32) (by omega)).mp ⟨p1, p2⟩
      exact ⟨fun _ => sm_go2 ⟨fun _ => h2 hx1 hx2 hv, fun z => absurd rfl z⟩, fun _ => sm_go2 ⟨fun _ => h2 hx1 hx2 hv, fun z => absurd rfl z⟩⟩
    · have hx1 : isA x1 32 := (isA_pred (n := 32) (by omega)).mp ⟨p1, p2⟩
      exact ⟨fun _ => sm_go2 ⟨fun _ => h2 hx1 hx2 hv, fun z => absurd rfl z⟩, fun _ => sm_go2 ⟨fun _ => h2 hx1 hx2 hv, fun z => absurd rfl z⟩⟩
    · have hx1 : isA x1 32 := (isA_pred (n := 32) (by omega)).mp ⟨p1, p2⟩
      exact ⟨fun _ => sm_go2 ⟨fun _ => h2 hx1 hx2 hv, fun z => absurd rfl z⟩, fun _ => sm_go2 ⟨fun _ => h2 hx1 hx2 hv, fun z => absurd rfl z⟩⟩
    · have hx1 : isA x1 32 := (isA_pred (n := 32) (by omega)).mp ⟨p1, p2⟩
      rcases hI with ⟨k, hk, hm1, rfl⟩ | ⟨hno, rfl⟩
      · have ik : vp_in (nI k) 300 := vp_in_nI (by omega) (by omega)
        have hA' := hA hx1 hx2 hv k hk hm1
        rw [nI_clamp (show k < 2 ^ 31 by omega), upd_self hm1.1, upd_self hm1.2.1, upd_self hm1.2.2]
        refine pk_le 300 k (fun z => absurd z (by omega)) (fun _ => sm_go0 ⟨fun z => absurd z (by decide), fun _ => ⟨ik, ik, ik, ik, ik, pk_eq k no (fun z => absurd z (by omega)) (fun _ => md_number rfl hn hA')⟩⟩)
      · refine pk_le 300 no (fun z => sm_go3 ⟨fun _ => h3 hx1 hx2 hv hno (by omega), fun z => absurd rfl z⟩) (fun z => ?_)
        have ik : vp_in (nI no) 300 := vp_in_nI z (by omega)
        have hB' := hB hx1 hx2 hv hno z
        rw [nI_clamp (show no < 2 ^ 31 by omega), nI_1]
        exact sm_go0 ⟨fun z => absurd z (by decide), fun _ => ⟨ik, ik, ik, ik, ik, fun _ => md_number rfl (by omega) hB', fun z => absurd rfl z⟩⟩
    all_goals first
      | exact ⟨fun _ => sm_go1 ⟨fun _ => h1 (fun z => hx2 z.2), fun z => absurd rfl z⟩, fun _ => sm_go1 ⟨fun _ => h1 (fun z => hx2 z.2), fun z => absurd rfl z⟩⟩
      | exact ⟨fun _ => sm_go1 ⟨fun _ => h1 (fun z => hp ((isA_pred (n := 32) (by omega)).mpr z.1)), fun z => absurd rfl z⟩, fun _ => sm_go1 ⟨fun _ => h1 (fun z => hp ((isA_pred (n := 32) (by omega)).mpr z.1)), fun z => absurd rfl z⟩⟩
  · intro n i a hi hI hk
    show wl_M_opinion_9 th pd sr cl rn (nI no) P C V W R x1 x2 x3 x4 x5 post (n + 1) a (nI i)
    have ii : vp_in (nI i) 300 := vp_in_nI (by omega) (by omega)
    have next : ¬ mt1 P C W x1 x2 x4 i → wl_M_opinion_9 th pd sr cl rn (nI no) P C V W R x1 x2 x3 x4 x5 post n a (nI (i + 1)) := by
      intro q
      refine hk a ?_
      rcases hI with ⟨k, hk1, hk2⟩ | ⟨hno, e⟩
      · exact Or.inl ⟨k, by omega, hk2⟩
      · refine Or.inr ⟨fun k hk1 => ?_, e⟩
        by_cases e3 : k = i
        · subst e3; exact q
        · exact hno k (by omega)
    unfold wl_M_opinion_9
    refine pk_le no i (fun z => absurd z (by omega)) (fun _ => ?_)
    rw [nI_clamp (show i < 2 ^ 31 by omega), nI_1]
    exact ⟨ii, fun q1 => ⟨ii, fun q2 => ⟨ii, fun q3 => hk (nI i) (Or.inl ⟨i, by omega, ⟨q1, q2, q3⟩, rfl⟩), fun q3 => next (fun z => q3 z.2.2)⟩, fun q2 => next (fun z => q2 z.2.1)⟩, fun q1 => next (fun z => q1 z.1)⟩
