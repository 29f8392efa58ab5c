/-! what is known of a claim -/
def kn (P C W : Nat → Int32) (cl dy p : Int32) : Nat → Int32
  | 0 => -1
  | k + 1 => if P k = p ∧ C k = cl ∧ W k ≤ dy ∧ (kn P C W cl dy p k = -1 ∨ W (kn P C W cl dy p k).toNatClampNeg < W k) then nI k else kn P C W cl dy p k
theorem kn_t {P C W : Nat → Int32} {cl dy p : Int32} {k : Nat} (h1 : P k = p) (h2 : C k = cl) (h3 : W k ≤ dy) (h4 : kn P C W cl dy p k = -1 ∨ W (kn P C W cl dy p k).toNatClampNeg < W k) : kn P C W cl dy p (k + 1) = nI k := if_pos ⟨h1, h2, h3, h4⟩
theorem kn_f {P C W : Nat → Int32} {cl dy p : Int32} {k : Nat} (h : ¬ (P k = p ∧ C k = cl ∧ W k ≤ dy ∧ (kn P C W cl dy p k = -1 ∨ W (kn P C W cl dy p k).toNatClampNeg < W k))) : kn P C W cl dy p (k + 1) = kn P C W cl dy p k := if_neg h
theorem kn_is {P C W : Nat → Int32} {cl dy p : Int32} : ∀ i, kn P C W cl dy p i = -1 ∨ ∃ k, k < i ∧ kn P C W cl dy p i = nI k := by
  intro i
  induction i with
  | zero => exact Or.inl rfl
  | succ i ih =>
    by_cases h : P i = p ∧ C i = cl ∧ W i ≤ dy ∧ (kn P C W cl dy p i = -1 ∨ W (kn P C W cl dy p i).toNatClampNeg < W i)
    · exact Or.inr ⟨i, by omega, kn_t h.1 h.2.1 h.2.2.1 h.2.2.2⟩
    · rw [kn_f h]
      rcases ih with e | ⟨k, hk, e⟩
      · exact Or.inl e
      · exact Or.inr ⟨k, by omega, e⟩
theorem kn_congr {P C W P' C' W' : Nat → Int32} {cl dy p : Int32} {n : Nat} (hn : n ≤ 300) (h : ∀ k, k < n → P k = P' k ∧ C k = C' k ∧ W k = W' k) : ∀ i, i ≤ n → kn P C W cl dy p i = kn P' C' W' cl dy p i := by
  intro i
  induction i with
  | zero => intro _; rfl
  | succ i ih =>
    intro hi
    have e0 := ih (by omega)
    obtain ⟨h1, h2, h3⟩ := h i (by omega)
    have iffc : (P i = p ∧ C i = cl ∧ W i ≤ dy ∧ (kn P C W cl dy p i = -1 ∨ W (kn P C W cl dy p i).toNatClampNeg < W i)) ↔ (P' i = p ∧ C' i = cl ∧ W' i ≤ dy ∧ (kn P' C' W' cl dy p i = -1 ∨ W' (kn P' C' W' cl dy p i).toNatClampNeg < W' i)) := by
      rw [e0, h1, h2, h3]
      rcases kn_is (P := P') (C := C') (W := W') (cl := cl) (dy := dy) (p := p) i with e | ⟨k, hk, e⟩
      · exact ⟨fun ⟨a, b, c, _⟩ => ⟨a, b, c, Or.inl e⟩, fun ⟨a, b, c, _⟩ => ⟨a, b, c, Or.inl e⟩⟩
      · rw [e, nI_clamp (by omega), (h k (by omega)).2.2]
    by_cases q : P i = p ∧ C i = cl ∧ W i ≤ dy ∧ (kn P C W cl dy p i = -1 ∨ W (kn P C W cl dy p i).toNatClampNeg < W i)
    · have q2 := iffc.mp q
      rw [kn_t q.1 q.2.1 q.2.2.1 q.2.2.2, kn_t q2.1 q2.2.1 q2.2.2.1 q2.2.2.2]
    · rw [kn_f q, kn_f (fun z => q (iffc.mpr z)), e0]
theorem cl_learn {P C D V R Kn Ta : Nat → Int32} {md x1 x2 : Int32} {no : Nat} {post : (Nat → Int32) → Prop} (hm : md = nI no) (hn : no ≤ 300) (hp : ∀ k, k < no → ∃ p, p < 32 ∧ P k = nI p) (h : ∀ K', (∀ p, p < 32 → K' p = kn P C D x1 x2 (nI p) no) → post K') : wp_O_learn P C D V R Kn Ta md x1 x2 post := by
  subst hm
  unfold wp_O_learn
  refine cl_fill (by omega) (fun B hB => ?_)
  refine loop_0 (fun n i (K : Nat → Int32) => wl_O_learn_10 P C D (nI no) x1 x2 post n (nI i) K) (fun i K => ∀ p, p < 32 → K p = kn P C D x1 x2 (nI p) i) no B (fun p hp => hB p hp) ?_ ?_
  · intro n K hI
    show wl_O_learn_10 P C D (nI no) x1 x2 post (n + 1) (nI no) K
    unfold wl_O_learn_10
    exact pk_le no no (fun _ => h K hI) (fun z => absurd z (by omega))
  · intro n i K hi hI hk
    show wl_O_learn_10 P C D (nI no) x1 x2 post (n + 1) (nI i) K
    obtain ⟨pp, hpp, ep⟩ := hp i hi
    have ii : vp_in (nI i) 300 := vp_in_nI (by omega) (by omega)
    have ip : vp_in (nI pp) 32 := vp_in_nI hpp (by omega)
    have keep : ¬ (C i = x1 ∧ D i ≤ x2 ∧ (kn P C D x1 x2 (nI pp) i = -1 ∨ D (kn P C D x1 x2 (nI pp) i).toNatClampNeg < D i)) → wl_O_learn_10 P C D (nI no) x1 x2 post n (nI (i + 1)) K := by
      intro q
      refine hk K (fun p hp2 => ?_)
      rw [hI p hp2, kn_f (fun z => ?_)]
      have e : pp = p := by
        have := z.1
        rw [ep, nI_eq (by omega) (by omega)] at this
        exact this
      subst e
      exact q z.2
    have put : C i = x1 → D i ≤ x2 → (kn P C D x1 x2 (nI pp) i = -1 ∨ D (kn P C D x1 x2 (nI pp) i).toNatClampNeg < D i) → wl_O_learn_10 P C D (nI no) x1 x2 post n (nI (i + 1)) (upd K pp (nI i)) := by
      intro q1 q2 q3
      refine hk _ (fun p hp2 => ?_)
      by_cases e : p = pp
      · subst e
        rw [pk_us, kn_t ep q1 q2 q3]
      · rw [pk_un e, hI p hp2, kn_f (fun z => ?_)]
        have := z.1
        rw [ep, nI_eq (by omega) (by omega)] at this
        exact e this.symm
    have eK := hI pp hpp
    unfold wl_O_learn_10
    refine pk_le no i (fun z => absurd z (by omega)) (fun _ => ?_)
    rw [nI_clamp (show i < 2 ^ 31 by omega), ep, nI_clamp (show pp < 2 ^ 31 by omega), nI_1, eK]
    refine ⟨ii, fun q1 => ⟨ii, fun q2 => keep (fun z => pu_nlt.mpr z.2.1 q2), fun q2 => ⟨ii, ip, fun q3 => ⟨ii, ip, put q1 (pu_nlt.mp q2) (Or.inl q3)⟩, fun q3 => ⟨?_, ii, fun q4 => keep (fun z => ?_), fun q4 => ⟨ii, ip, put q1 (pu_nlt.mp q2) (Or.inr (pu_nle.mp q4))⟩⟩⟩⟩, fun q1 => keep (fun z => q1 z.1)⟩
    · rcases kn_is (P := P) (C := C) (W := D) (cl := x1) (dy := x2) (p := nI pp) i with e | ⟨k, hk3, e⟩
      · exact absurd e q3
      · rw [e]; exact vp_in_nI (by omega) (by omega)
    · rcases z.2.2 with e | e
      · exact q3 e
      · exact pu_nle.mpr e q4
theorem md_know {th pd sr cl rn op x1 x2 : Int32} {P C W Kn : Nat → Int32} {no : Nat} {post : Int32 → (Nat → Int32) → Prop} (hm : op = nI no) (hn : no ≤ 300) (h : ∀ K', (∀ p, p < 32 → K' p = kn P C W x1 x2 (nI p) no) → post (nI (cnt (fun p => decide (kn P C W x1 x2 (nI p) no ≠ -1)) 32)) K') : wp_M_know th pd sr cl rn op P C W Kn x1 x2 post := by
  subst hm
  unfold wp_M_know
  refine loop_0 (fun n p (s : Int32 × (Nat → Int32)) => wl_M_know_5 (nI no) P C W x1 x2 post n s.1 (nI p) s.2) (fun p s => s.1 = nI (cnt (fun p => decide (kn P C W x1 x2 (nI p) no ≠ -1)) p) ∧ ∀ q, q < p → s.2 q = kn P C W x1 x2 (nI q) no) 32 (0, Kn) ⟨rfl, fun q z => absurd z (by omega)⟩ ?_ ?_
  · rintro n ⟨m, K⟩ ⟨a1, a2⟩
    show wl_M_know_5 (nI no) P C W x1 x2 post (n + 1) m (nI 32) K
    have a1' : m = nI (cnt (fun p => decide (kn P C W x1 x2 (nI p) no ≠ -1)) 32) := a1
    subst a1'
    unfold wl_M_know_5
    exact pk_le 32 32 (fun _ => h K a2) (fun z => absurd z (by omega))
  · rintro n p ⟨m, K⟩ hp ⟨a1, a2⟩ hk
    show wl_M_know_5 (nI no) P C W x1 x2 post (n + 1) m (nI p) K
    have a1' : m = nI (cnt (fun p => decide (kn P C W x1 x2 (nI p) no ≠ -1)) p) := a1
    have ip : vp_in (nI p) 32 := vp_in_nI hp (by omega)
    unfold wl_M_know_5
    refine pk_le 32 p (fun z => absurd z (by omega)) (fun _ => ⟨ip, ?_⟩)
    rw [nI_clamp (by omega)]
    refine loop_0 (fun n' i (K' : Nat → Int32) => wl_M_know_23 (nI no) P C W x1 x2 m (nI p) (fun y0 y1 y2 => wl_M_know_5 (nI no) P C W x1 x2 post n y0 y1 y2) n' (nI i) K') (fun i K' => K' p = kn P C W x1 x2 (nI p) i ∧ ∀ q, q ≠ p → K' q = K q) no (upd K p (-1)) ⟨pk_us, fun q hq => pk_un hq⟩ ?_ ?_
    · rintro n' K' ⟨b1, b2⟩
      show wl_M_know_23 (nI no) P C W x1 x2 m (nI p) (fun y0 y1 y2 => wl_M_know_5 (nI no) P C W x1 x2 post n y0 y1 y2) (n' + 1) (nI no) K'
      have hall : ∀ q, q < p + 1 → K' q = kn P C W x1 x2 (nI q) no := fun q hq => by
        by_cases e : q = p
        · subst e; exact b1
        · rw [b2 q e]; exact a2 q (by omega)
      unfold wl_M_know_23
      refine pk_le no no (fun _ => ⟨ip, ?_⟩) (fun z => absurd z (by omega))
      rw [nI_clamp (show p < 2 ^ 31 by omega), b1, a1', nI_1, nI_1]
      refine ⟨fun q => hk (_, K') ⟨?_, hall⟩, fun q => hk (_, K') ⟨?_, hall⟩⟩
      · show nI (cnt (fun p => decide (kn P C W x1 x2 (nI p) no ≠ -1)) p) = nI (cnt (fun p => decide (kn P C W x1 x2 (nI p) no ≠ -1)) (p + 1))
        rw [cnt_step, if_neg (by rw [decide_eq_true_eq]; exact fun z => z q)]
        rfl
      · show nI (cnt (fun p => decide (kn P C W x1 x2 (nI p) no ≠ -1)) p + 1) = nI (cnt (fun p => decide (kn P C W x1 x2 (nI p) no ≠ -1)) (p + 1))
        rw [cnt_step, if_pos (by rw [decide_eq_true_eq]; exact q)]
    · rintro n' i K' hi ⟨b1, b2⟩ hk2
      show wl_M_know_23 (nI no) P C W x1 x2 m (nI p) (fun y0 y1 y2 => wl_M_know_5 (nI no) P C W x1 x2 post n y0 y1 y2) (n' + 1) (nI i) K'
      have ii : vp_in (nI i) 300 := vp_in_nI (by omega) (by omega)
      have keep : ¬ (P i = nI p ∧ C i = x1 ∧ W i ≤ x2 ∧ (kn P C W x1 x2 (nI p) i = -1 ∨ W (kn P C W x1 x2 (nI p) i).toNatClampNeg < W i)) → wl_M_know_23 (nI no) P C W x1 x2 m (nI p) (fun y0 y1 y2 => wl_M_know_5 (nI no) P C W x1 x2 post n y0 y1 y2) n' (nI (i + 1)) K' := by
        intro q
        exact hk2 K' ⟨by rw [kn_f q]; exact b1, b2⟩
      have put : P i = nI p → C i = x1 → W i ≤ x2 → (kn P C W x1 x2 (nI p) i = -1 ∨ W (kn P C W x1 x2 (nI p) i).toNatClampNeg < W i) → wl_M_know_23 (nI no) P C W x1 x2 m (nI p) (fun y0 y1 y2 => wl_M_know_5 (nI no) P C W x1 x2 post n y0 y1 y2) n' (nI (i + 1)) (upd K' p (nI i)) := by
        intro q0 q1 q2 q3
        exact hk2 _ ⟨by rw [pk_us, kn_t q0 q1 q2 q3], fun q hq => by rw [pk_un hq]; exact b2 q hq⟩
      unfold wl_M_know_23
      refine pk_le no i (fun z => absurd z (by omega)) (fun _ => ?_)
      rw [nI_clamp (show i < 2 ^ 31 by omega), nI_clamp (show p < 2 ^ 31 by omega), nI_1, upd_self rfl, b1]
      refine ⟨ii, fun q0 => ⟨ii, fun q1 => ⟨ii, fun q2 => ⟨ip, ip, keep (fun z => pu_nlt.mpr z.2.2.1 q2)⟩, fun q2 => ⟨ip, fun q3 => ⟨ip, put q0 q1 (pu_nlt.mp q2) (Or.inl q3)⟩, fun q3 => ⟨ip, ?_, ii, fun q4 => ⟨ip, ip, keep (fun z => ?_)⟩, fun q4 => ⟨ip, put q0 q1 (pu_nlt.mp q2) (Or.inr (pu_nle.mp q4))⟩⟩⟩⟩, fun q1 => ⟨ip, ip, keep (fun z => q1 z.2.1)⟩⟩, fun q0 => ⟨ip, ip, keep (fun z => q0 z.1)⟩⟩
      · rcases kn_is (P := P) (C := C) (W := W) (cl := x1) (dy := x2) (p := nI p) i with e | ⟨k, hk3, e⟩
        · exact absurd e q3
        · rw [e]; exact vp_in_nI (by omega) (by omega)
      · rcases z.2.2.2 with e | e
        · exact q3 e
        · exact pu_nle.mpr e q4
