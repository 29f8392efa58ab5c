/-! the value that is agreed -/
def pinf (K V R W : Nat → Int32) (f : Nat → Bool) (v r d : Nat → Nat) : Prop := ∀ p, p < 32 → (f p = false ∧ K p = -1) ∨ (f p = true ∧ ∃ k, k < 300 ∧ K p = nI k ∧ V k = nI (v p) ∧ R k = nI (r p) ∧ W k = nI (d p) ∧ v p < 100 ∧ r p ≤ 9 ∧ d p ≤ 100000)
/-- the scan for the greatest count -/
def sc (g : Nat → Nat) (a : Int32) : Nat → Nat × Int32
  | 0 => (0, a)
  | n + 1 => if (sc g a n).1 < g n then (g n, nI n) else if g n = (sc g a n).1 ∧ 0 < (sc g a n).1 then ((sc g a n).1, -2) else sc g a n
theorem sc_a {g : Nat → Nat} {a : Int32} {n : Nat} (h : (sc g a n).1 < g n) : sc g a (n + 1) = (g n, nI n) := if_pos h
theorem sc_b {g : Nat → Nat} {a : Int32} {n : Nat} (h1 : g n = (sc g a n).1) (h2 : 0 < (sc g a n).1) : sc g a (n + 1) = ((sc g a n).1, -2) := by
  show (if (sc g a n).1 < g n then (g n, nI n) else if g n = (sc g a n).1 ∧ 0 < (sc g a n).1 then ((sc g a n).1, -2) else sc g a n) = _
  rw [if_neg (by omega), if_pos ⟨h1, h2⟩]
theorem sc_c {g : Nat → Nat} {a : Int32} {n : Nat} (h1 : g n ≤ (sc g a n).1) (h2 : ¬ (g n = (sc g a n).1 ∧ 0 < (sc g a n).1)) : sc g a (n + 1) = sc g a n := by
  show (if (sc g a n).1 < g n then (g n, nI n) else if g n = (sc g a n).1 ∧ 0 < (sc g a n).1 then ((sc g a n).1, -2) else sc g a n) = _
  rw [if_neg (by omega), if_neg h2]
theorem sc_two {g : Nat → Nat} {a b : Int32} : ∀ n, (sc g a n).1 = (sc g b n).1 ∧ ((sc g a n).2 = (sc g b n).2 ∨ (sc g a n).1 = 0) := by
  intro n
  induction n with
  | zero => exact ⟨rfl, Or.inr rfl⟩
  | succ n ih =>
    obtain ⟨h1, h2⟩ := ih
    by_cases q : (sc g a n).1 < g n
    · rw [sc_a q, sc_a (by omega)]; exact ⟨rfl, Or.inl rfl⟩
    · by_cases q2 : g n = (sc g a n).1 ∧ 0 < (sc g a n).1
      · rw [sc_b q2.1 q2.2, sc_b (by omega) (by omega)]; exact ⟨h1, Or.inl rfl⟩
      · rw [sc_c (by omega) q2, sc_c (by omega) (by omega)]; exact ⟨h1, h2⟩
theorem sc_ge {g : Nat → Nat} {a : Int32} : ∀ n x, x < n → g x ≤ (sc g a n).1 := by
  intro n
  induction n with
  | zero => intro x h; omega
  | succ n ih =>
    intro x hx
    by_cases q : (sc g a n).1 < g n
    · rw [sc_a q]
      show g x ≤ g n
      by_cases e : x = n
      · subst e; exact Nat.le_refl _
      · have := ih x (by omega)
        omega
    · have h9 : g x ≤ (sc g a n).1 := by
        by_cases e : x = n
        · subst e; omega
        · exact ih x (by omega)
      by_cases q2 : g n = (sc g a n).1 ∧ 0 < (sc g a n).1
      · rw [sc_b q2.1 q2.2]; exact h9
      · rw [sc_c (by omega) q2]; exact h9
theorem sc_le {g : Nat → Nat} {a : Int32} {b : Nat} (h : ∀ x, g x ≤ b) : ∀ n, (sc g a n).1 ≤ b := by
  intro n
  induction n with
  | zero => exact Nat.zero_le _
  | succ n ih =>
    by_cases q : (sc g a n).1 < g n
    · rw [sc_a q]; exact h n
    · by_cases q2 : g n = (sc g a n).1 ∧ 0 < (sc g a n).1
      · rw [sc_b q2.1 q2.2]; exact ih
      · rw [sc_c (by omega) q2]; exact ih
theorem sc_0 {g : Nat → Nat} {a : Int32} : ∀ n, (∀ x, x < n → g x = 0) → sc g a n = (0, a) := by
  intro n
  induction n with
  | zero => intro _; rfl
  | succ n ih =>
    intro h
    have e := ih (fun x hx => h x (by omega))
    have e1 : (sc g a n).1 = 0 := by rw [e]
    rw [sc_c (by rw [h n (by omega)]; omega) (by omega), e]
theorem sc_01 {g : Nat → Nat} {a : Int32} (h1 : ∀ x, g x ≤ 1) : ∀ n, ((∀ x, x < n → g x = 0) ∧ sc g a n = (0, a)) ∨ (∃ x, x < n ∧ g x = 1 ∧ (∀ y, y < n → g y = 1 → y = x) ∧ sc g a n = (1, nI x)) ∨ ((∃ x y, x < n ∧ y < n ∧ x ≠ y ∧ g x = 1 ∧ g y = 1) ∧ sc g a n = (1, -2)) := by
  intro n
  induction n with
  | zero => exact Or.inl ⟨fun x h => absurd h (by omega), rfl⟩
  | succ n ih =>
    have hn := h1 n
    rcases ih with ⟨q1, q2⟩ | ⟨x, q1, q2, q3, q4⟩ | ⟨⟨x, y, q1, q2, q3, q4, q5⟩, q6⟩
    · have e1 : (sc g a n).1 = 0 := by rw [q2]
      by_cases e : g n = 0
      · refine Or.inl ⟨fun x hx => ?_, by rw [sc_c (by omega) (by omega), q2]⟩
        by_cases e2 : x = n
        · subst e2; exact e
        · exact q1 x (by omega)
      · refine Or.inr (Or.inl ⟨n, by omega, by omega, fun y hy hy2 => ?_, by rw [sc_a (by omega)]; congr 1; omega⟩)
        by_cases e2 : y = n
        · exact e2
        · have := q1 y (by omega)
          omega
    · have e1 : (sc g a n).1 = 1 := by rw [q4]
      by_cases e : g n = 0
      · refine Or.inr (Or.inl ⟨x, by omega, q2, fun y hy hy2 => ?_, by rw [sc_c (by omega) (by omega), q4]⟩)
        by_cases e2 : y = n
        · subst e2; omega
        · exact q3 y (by omega) hy2
      · exact Or.inr (Or.inr ⟨⟨x, n, by omega, by omega, by omega, q2, by omega⟩, by rw [sc_b (by omega) (by omega), e1]⟩)
    · have e1 : (sc g a n).1 = 1 := by rw [q6]
      refine Or.inr (Or.inr ⟨⟨x, y, by omega, by omega, q3, q4, q5⟩, ?_⟩)
      by_cases e : g n = 0
      · rw [sc_c (by omega) (by omega), q6]
      · rw [sc_b (by omega) (by omega), e1]
theorem cl_scan {T : Nat → Int32} {g : Nat → Nat} {post : Int32 → (Nat → Int32) → Prop} (hT : ∀ x, x < 100 → T x = nI (g x)) (hg : ∀ x, g x ≤ 1000) (h : post (sc g (-1) 100).2 T) : ∃ n9, wl_O_mostFrequentValue_55 T post n9 (0 : Int32) (-1 : Int32) (0 : Int32) := by
  refine loop_0 (fun n i (s : Int32 × Int32) => wl_O_mostFrequentValue_55 T post n s.1 s.2 (nI i)) (fun i s => s.1 = nI (sc g (-1) i).1 ∧ s.2 = (sc g (-1) i).2) 100 (0, -1) ⟨rfl, rfl⟩ ?_ ?_
  · rintro n ⟨b, x⟩ ⟨a1, a2⟩
    show wl_O_mostFrequentValue_55 T post (n + 1) b x (nI 100)
    have a2' : x = (sc g (-1) 100).2 := a2
    subst a2'
    unfold wl_O_mostFrequentValue_55
    exact pk_le 100 100 (fun _ => h) (fun z => absurd z (by omega))
  · rintro n i ⟨b, x⟩ hi ⟨a1, a2⟩ hk
    show wl_O_mostFrequentValue_55 T post (n + 1) b x (nI i)
    have a1' : b = nI (sc g (-1) i).1 := a1
    have a2' : x = (sc g (-1) i).2 := a2
    subst a1' a2'
    have ii : vp_in (nI i) 100 := vp_in_nI hi (by omega)
    have l1 := hg i
    have l2 := sc_le (a := -1) hg i
    unfold wl_O_mostFrequentValue_55
    rw [nI_clamp (by omega), hT i hi, nI_1]
    refine pk_le 100 i (fun z => absurd z (by omega)) (fun _ => ⟨ii, pk_le (g i) (sc g (-1) i).1 (fun q => ⟨ii, pk_eq (g i) (sc g (-1) i).1 (fun q2 => pk_le (sc g (-1) i).1 0 (fun q3 => ?_) (fun q3 => ?_)) (fun q2 => ?_)⟩) (fun q => ⟨ii, ?_⟩)⟩)
    · exact hk (_, _) (by rw [sc_c q (by omega)]; exact ⟨rfl, rfl⟩)
    · exact hk (_, _) (by rw [sc_b q2 q3]; exact ⟨rfl, rfl⟩)
    · exact hk (_, _) (by rw [sc_c q (by omega)]; exact ⟨rfl, rfl⟩)
    · exact hk (_, _) (by rw [sc_a q]; exact ⟨rfl, rfl⟩)
theorem md_scan {th pd sr cl rn op : Int32} {T : Nat → Int32} {g : Nat → Nat} {post : Int32 → Prop} (hT : ∀ x, x < 100 → T x = nI (g x)) (hg : ∀ x, g x ≤ 1000) (h : post (sc g (-2) 100).2) : wp_M_most th pd sr cl rn op T post := by
  unfold wp_M_most
  refine loop_0 (fun n i (s : Int32 × Int32) => wl_M_most_7 T post n s.1 s.2 (nI i)) (fun i s => s.1 = nI (sc g (-2) i).1 ∧ s.2 = (sc g (-2) i).2) 100 (0, -2) ⟨rfl, rfl⟩ ?_ ?_
  · rintro n ⟨b, x⟩ ⟨a1, a2⟩
    show wl_M_most_7 T post (n + 1) b x (nI 100)
    have a2' : x = (sc g (-2) 100).2 := a2
    subst a2'
    unfold wl_M_most_7
    exact pk_le 100 100 (fun _ => h) (fun z => absurd z (by omega))
  · rintro n i ⟨b, x⟩ hi ⟨a1, a2⟩ hk
    show wl_M_most_7 T post (n + 1) b x (nI i)
    have a1' : b = nI (sc g (-2) i).1 := a1
    have a2' : x = (sc g (-2) i).2 := a2
    subst a1' a2'
    have ii : vp_in (nI i) 100 := vp_in_nI hi (by omega)
    have l1 := hg i
    have l2 := sc_le (a := -2) hg i
    unfold wl_M_most_7
    rw [nI_clamp (by omega), hT i hi, nI_1]
    refine pk_le 100 i (fun z => absurd z (by omega)) (fun _ => ⟨ii, pk_le (g i) (sc g (-2) i).1 (fun q => ⟨ii, pk_eq (g i) (sc g (-2) i).1 (fun q2 => pk_le (sc g (-2) i).1 0 (fun q3 => ⟨ii, ?_⟩) (fun q3 => ⟨ii, ?_⟩)) (fun q2 => ⟨ii, ?_⟩)⟩) (fun q => ⟨ii, ii, ?_⟩)⟩)
    · exact hk (_, _) (by rw [sc_c q (by omega)]; exact ⟨rfl, rfl⟩)
    · exact hk (_, _) (by rw [sc_b q2 q3]; exact ⟨rfl, rfl⟩)
    · exact hk (_, _) (by rw [sc_c q (by omega)]; exact ⟨rfl, rfl⟩)
    · exact hk (_, _) (by rw [sc_a q]; exact ⟨rfl, rfl⟩)
/-- how often a value is counted among the first n persons -/
def hc (Q : Nat → Bool) (v : Nat → Nat) (n x : Nat) : Nat := cnt (fun p => Q p && decide (v p = x)) n
theorem hc_no {Q : Nat → Bool} {v : Nat → Nat} {n x : Nat} (h : ¬ (Q n = true ∧ v n = x)) : hc Q v (n + 1) x = hc Q v n x := by
  unfold hc
  rw [cnt_step, if_neg (fun z => h ?_)]
  · rfl
  · rw [Bool.and_eq_true, decide_eq_true_eq] at z; exact z
theorem hc_yes {Q : Nat → Bool} {v : Nat → Nat} {n x : Nat} (h1 : Q n = true) (h2 : v n = x) : hc Q v (n + 1) x = hc Q v n x + 1 := by
  unfold hc
  rw [cnt_step, if_pos (by rw [Bool.and_eq_true, decide_eq_true_eq]; exact ⟨h1, h2⟩)]
theorem hc_le (Q : Nat → Bool) (v : Nat → Nat) (n x : Nat) : hc Q v n x ≤ n := cnt_le _ n
theorem hc_pos {Q : Nat → Bool} {v : Nat → Nat} {n x : Nat} : 0 < hc Q v n x ↔ ∃ p, p < n ∧ Q p = true ∧ v p = x := by
  constructor
  · intro h
    refine Classical.byContradiction (fun q => ?_)
    have e : hc Q v n x = 0 := cnt_none (fun p hp => by
      cases z : (Q p && decide (v p = x))
      · rfl
      · rw [Bool.and_eq_true, decide_eq_true_eq] at z
        exact absurd ⟨p, hp, z⟩ q)
    omega
  · rintro ⟨p, hp, h1, h2⟩
    exact cnt_pos hp (by rw [h1, decide_eq_true h2]; rfl)
theorem cl_tally {P C D V R K Ta W : Nat → Int32} {md : Int32} {f : Nat → Bool} {v r d : Nat → Nat} {post : Int32 → (Nat → Int32) → Prop} (hK : pinf K V R W f v r d) (h : ∀ T, post (sc (hc f v 32) (-1) 100).2 T) : wp_O_mostFrequentValue P C D V R K Ta md post := by
  unfold wp_O_mostFrequentValue
  refine cl_fill (by omega) (fun B hB => ?_)
  refine loop_0 (fun n i (T : Nat → Int32) => wl_O_mostFrequentValue_10 V K post n (nI i) T) (fun i T => ∀ x, x < 100 → T x = nI (hc f v i x)) 32 B (fun x hx => hB x hx) ?_ ?_
  · intro n T hI
    show wl_O_mostFrequentValue_10 V K post (n + 1) (nI 32) T
    unfold wl_O_mostFrequentValue_10
    exact pk_le 32 32 (fun _ => cl_scan hI (fun x => Nat.le_trans (hc_le f v 32 x) (by omega)) (h T)) (fun z => absurd z (by omega))
  · intro n i T hi hI hk
    show wl_O_mostFrequentValue_10 V K post (n + 1) (nI i) T
    unfold wl_O_mostFrequentValue_10
    rw [nI_clamp (show i < 2 ^ 31 by omega), nI_1]
    refine pk_le 32 i (fun z => absurd z (by omega)) (fun _ => ⟨vp_in_nI hi (by omega), ?_⟩)
    rcases hK i hi with ⟨e1, e2⟩ | ⟨e1, k, hk3, e2, e3, e4, e5, e6, e7, e8⟩
    · rw [e2]
      refine ⟨fun _ => hk T (fun x hx => ?_), fun z => absurd rfl z⟩
      rw [hc_no (fun z => by rw [e1] at z; exact absurd z.1 (by decide))]
      exact hI x hx
    · rw [e2, nI_clamp (show k < 2 ^ 31 by omega), e3, nI_clamp (show v i < 2 ^ 31 by omega), hI (v i) e6, nI_1]
      have iv : vp_in (nI (v i)) 100 := vp_in_nI e6 (by omega)
      refine ⟨fun z => absurd z (nI_nem1 (by omega)), fun _ => ⟨vp_in_nI hk3 (by omega), iv, iv, hk _ (fun x hx => ?_)⟩⟩
      by_cases e : x = v i
      · subst e
        rw [pk_us, hc_yes e1 rfl]
      · rw [pk_un e, hc_no (fun z => e z.2.symm)]
        exact hI x hx
/-- the greatest of those that are so -/
def isM (f : Nat → Bool) (r : Nat → Nat) (n : Nat) (m : Int32) : Prop := ((∀ p, p < n → f p = false) ∧ m = -1) ∨ ∃ p, p < n ∧ f p = true ∧ m = nI (r p) ∧ ∀ q, q < n → f q = true → r q ≤ r p
theorem isM_no {f : Nat → Bool} {r : Nat → Nat} {n : Nat} {m : Int32} (h : isM f r n m) (q : f n = false) : isM f r (n + 1) m := by
  rcases h with ⟨a, b⟩ | ⟨p, a, b, c, d⟩
  · refine Or.inl ⟨fun p hp => ?_, b⟩
    by_cases e : p = n
    · subst e; exact q
    · exact a p (by omega)
  · refine Or.inr ⟨p, by omega, b, c, fun q9 hq h9 => ?_⟩
    by_cases e : q9 = n
    · subst e; rw [q] at h9; exact absurd h9 (by decide)
    · exact d q9 (by omega) h9
theorem isM_yes {f : Nat → Bool} {r : Nat → Nat} {n : Nat} {m : Int32} (h : isM f r n m) (q : f n = true) (hr : ∀ p, p ≤ n → f p = true → r p ≤ 100000) : isM f r (n + 1) (if m < nI (r n) then nI (r n) else m) := by
  have hn := hr n (by omega) q
  rcases h with ⟨a, b⟩ | ⟨p, a, b, c, d⟩
  · rw [if_pos (by rw [b, pu_lt, nI_toInt (by omega)]; have e1 : (-1 : Int32).toInt = -1 := by decide
                   omega)]
    refine Or.inr ⟨n, by omega, q, rfl, fun q9 hq h9 => ?_⟩
    by_cases e : q9 = n
    · subst e; exact Nat.le_refl _
    · rw [a q9 (by omega)] at h9; exact absurd h9 (by decide)
  · have hp := hr p (by omega) b
    by_cases z : r p < r n
    · rw [if_pos (by rw [c, nI_ltI (by omega) (by omega)]; exact z)]
      refine Or.inr ⟨n, by omega, q, rfl, fun q9 hq h9 => ?_⟩
      by_cases e : q9 = n
      · subst e; exact Nat.le_refl _
      · have := d q9 (by omega) h9
        omega
    · rw [if_neg (by rw [c, nI_ltI (by omega) (by omega)]; exact z)]
      refine Or.inr ⟨p, by omega, b, c, fun q9 hq h9 => ?_⟩
      by_cases e : q9 = n
      · subst e; omega
      · exact d q9 (by omega) h9
theorem cl_grank {P C D V R K Ta W : Nat → Int32} {md : Int32} {f : Nat → Bool} {v r d : Nat → Nat} {post : Int32 → Prop} (hK : pinf K V R W f v r d) (h : ∀ m, isM f r 32 m → post m) : wp_O_greatestRank P C D V R K Ta md post := by
  unfold wp_O_greatestRank
  refine loop_0 (fun n i (m : Int32) => wl_O_greatestRank_4 R K post n m (nI i)) (fun i m => isM f r i m) 32 (-1) (Or.inl ⟨fun p z => absurd z (by omega), rfl⟩) ?_ ?_
  · intro n m hI
    show wl_O_greatestRank_4 R K post (n + 1) m (nI 32)
    unfold wl_O_greatestRank_4
    exact pk_le 32 32 (fun _ => h m hI) (fun z => absurd z (by omega))
  · intro n i m hi hI hk
    show wl_O_greatestRank_4 R K post (n + 1) m (nI i)
    unfold wl_O_greatestRank_4
    rw [nI_clamp (show i < 2 ^ 31 by omega), nI_1]
    refine pk_le 32 i (fun z => absurd z (by omega)) (fun _ => ⟨vp_in_nI hi (by omega), ?_⟩)
    rcases hK i hi with ⟨e1, e2⟩ | ⟨e1, k, hk3, e2, e3, e4, e5, e6, e7, e8⟩
    · rw [e2]
      exact ⟨fun _ => hk m (isM_no hI e1), fun z => absurd rfl z⟩
    · rw [e2, nI_clamp (show k < 2 ^ 31 by omega), e4]
      refine ⟨fun z => absurd z (nI_nem1 (by omega)), fun _ => ⟨vp_in_nI hk3 (by omega), hk _ (isM_yes hI e1 (fun p hp hf => ?_))⟩⟩
      rcases hK p (by omega) with ⟨z1, _⟩ | ⟨_, _, _, _, _, _, _, _, z7, _⟩
      · rw [z1] at hf; exact absurd hf (by decide)
      · omega
theorem cl_gday {P C V R K Ta W : Nat → Int32} {md : Int32} {f : Nat → Bool} {v r d : Nat → Nat} {x1 : Int32} {post : Int32 → Prop} (hK : pinf K V R W f v r d) (h : ∀ m, isM (fun p => f p && decide (nI (r p) = x1)) d 32 m → post m) : wp_O_greatestDayOf P C W V R K Ta md x1 post := by
  unfold wp_O_greatestDayOf
  refine loop_0 (fun n i (m : Int32) => wl_O_greatestDayOf_4 W R K x1 post n m (nI i)) (fun i m => isM (fun p => f p && decide (nI (r p) = x1)) d i m) 32 (-1) (Or.inl ⟨fun p z => absurd z (by omega), rfl⟩) ?_ ?_
  · intro n m hI
    show wl_O_greatestDayOf_4 W R K x1 post (n + 1) m (nI 32)
    unfold wl_O_greatestDayOf_4
    exact pk_le 32 32 (fun _ => h m hI) (fun z => absurd z (by omega))
  · intro n i m hi hI hk
    show wl_O_greatestDayOf_4 W R K x1 post (n + 1) m (nI i)
    unfold wl_O_greatestDayOf_4
    rw [nI_clamp (show i < 2 ^ 31 by omega), nI_1]
    refine pk_le 32 i (fun z => absurd z (by omega)) (fun _ => ⟨vp_in_nI hi (by omega), ?_⟩)
    rcases hK i hi with ⟨e1, e2⟩ | ⟨e1, k, hk3, e2, e3, e4, e5, e6, e7, e8⟩
    · rw [e2]
      exact ⟨fun _ => hk m (isM_no hI (by rw [e1]; rfl)), fun z => absurd rfl z⟩
    · rw [e2, nI_clamp (show k < 2 ^ 31 by omega), e4, e5]
      have ik : vp_in (nI k) 300 := vp_in_nI hk3 (by omega)
      refine ⟨fun z => absurd z (nI_nem1 (by omega)), fun _ => ⟨ik, fun q => ⟨ik, hk _ (isM_yes hI (by rw [e1, decide_eq_true q]; rfl) (fun p hp hf => ?_))⟩, fun q => hk m (isM_no hI (by rw [decide_eq_false q, Bool.and_false]))⟩⟩
      rcases hK p (by omega) with ⟨z1, _⟩ | ⟨_, _, _, _, _, _, _, _, _, z8⟩
      · rw [z1, Bool.false_and] at hf; exact absurd hf (by decide)
      · exact z8
theorem cl_common {P C V R K Ta W : Nat → Int32} {md : Int32} {f Q : Nat → Bool} {v r d : Nat → Nat} {x1 x2 : Int32} {post : Int32 → Prop} (hK : pinf K V R W f v r d) (hQ : ∀ p, p < 32 → (Q p = true ↔ f p = true ∧ ¬ nI (r p) < x1 ∧ ¬ nI (d p) < x2))
    (h0 : (∀ p, p < 32 → Q p = false) → post (-1)) (h1 : ∀ p, p < 32 → Q p = true → (∀ q, q < 32 → Q q = true → v q = v p) → post (nI (v p))) (h2 : ∀ p q, p < 32 → q < 32 → Q p = true → Q q = true → v p ≠ v q → post (-2)) : wp_O_commonValue P C W V R K Ta md x1 x2 post := by
  unfold wp_O_commonValue
  refine loop_0 (fun n i (x : Int32) => wl_O_commonValue_5 W V R K x1 x2 post n x (nI i)) (fun i x => ((∀ p, p < i → Q p = false) ∧ x = -1) ∨ ∃ p, p < i ∧ Q p = true ∧ x = nI (v p) ∧ ∀ q, q < i → Q q = true → v q = v p) 32 (-1) (Or.inl ⟨fun p z => absurd z (by omega), rfl⟩) ?_ ?_
  · intro n x hI
    show wl_O_commonValue_5 W V R K x1 x2 post (n + 1) x (nI 32)
    unfold wl_O_commonValue_5
    refine pk_le 32 32 (fun _ => ?_) (fun z => absurd z (by omega))
    rcases hI with ⟨a, rfl⟩ | ⟨p, a, b, rfl, c⟩
    · exact h0 a
    · exact h1 p a b c
  · intro n i x hi hI hk
    show wl_O_commonValue_5 W V R K x1 x2 post (n + 1) x (nI i)
    have skip : Q i = false → wl_O_commonValue_5 W V R K x1 x2 post n x (nI (i + 1)) := by
      intro q
      refine hk x ?_
      rcases hI with ⟨a, e⟩ | ⟨p, a, b, e, c⟩
      · refine Or.inl ⟨fun p hp => ?_, e⟩
        by_cases e2 : p = i
        · subst e2; exact q
        · exact a p (by omega)
      · refine Or.inr ⟨p, by omega, b, e, fun q9 hq h9 => ?_⟩
        by_cases e2 : q9 = i
        · subst e2; rw [q] at h9; exact absurd h9 (by decide)
        · exact c q9 (by omega) h9
    have nq : ¬ Q i = true → Q i = false := fun z => by
      cases e : Q i
      · rfl
      · exact absurd e z
    unfold wl_O_commonValue_5
    rw [nI_clamp (show i < 2 ^ 31 by omega), nI_1]
    refine pk_le 32 i (fun z => absurd z (by omega)) (fun _ => ⟨vp_in_nI hi (by omega), ?_⟩)
    rcases hK i hi with ⟨e1, e2⟩ | ⟨e1, k, hk3, e2, e3, e4, e5, e6, e7, e8⟩
    · rw [e2]
      exact ⟨fun _ => skip (nq (fun z => by rw [((hQ i hi).mp z).1] at e1; exact absurd e1 (by decide))), fun z => absurd rfl z⟩
    · rw [e2, nI_clamp (show k < 2 ^ 31 by omega), e3, e4, e5]
      have ik : vp_in (nI k) 300 := vp_in_nI hk3 (by omega)
      refine ⟨fun z => absurd z (nI_nem1 (by omega)), fun _ => ⟨ik, fun q => skip (nq (fun z => ((hQ i hi).mp z).2.1 q)), fun q => ⟨ik, fun q2 => skip (nq (fun z => ((hQ i hi).mp z).2.2 q2)), fun q2 => ?_⟩⟩⟩
      have hq : Q i = true := (hQ i hi).mpr ⟨e1, q, q2⟩
      refine ⟨fun q3 => ⟨ik, hk _ ?_⟩, fun q3 => ⟨ik, fun q4 => hk x ?_, fun q4 => ?_⟩⟩
      · refine Or.inr ⟨i, by omega, hq, rfl, fun q9 h9 h8 => ?_⟩
        rcases hI with ⟨a, e⟩ | ⟨p, a, b, e, c⟩
        · by_cases e2 : q9 = i
          · rw [e2]
          · rw [a q9 (by omega)] at h8; exact absurd h8 (by decide)
        · rw [e] at q3
          rcases hK p (by omega) with ⟨z1, _⟩ | ⟨_, _, _, _, _, _, _, z6, _⟩
          · rw [((hQ p (by omega)).mp b).1] at z1; exact absurd z1 (by decide)
          · exact absurd q3 (nI_nem1 (by omega))
      · rcases hI with ⟨a, e⟩ | ⟨p, a, b, e, c⟩
        · exact absurd e q3
        · rcases hK p (by omega) with ⟨z1, _⟩ | ⟨_, _, _, _, _, _, _, z6, _⟩
          · rw [((hQ p (by omega)).mp b).1] at z1; exact absurd z1 (by decide)
          · have e9 : v p = v i := by
              rw [e, nI_eq (by omega) (by omega)] at q4; exact q4
            refine Or.inr ⟨p, by omega, b, e, fun q9 h9 h8 => ?_⟩
            by_cases e2 : q9 = i
            · rw [e2]; exact e9.symm
            · exact c q9 (by omega) h8
      · rcases hI with ⟨a, e⟩ | ⟨p, a, b, e, c⟩
        · exact absurd e q3
        · exact h2 p i (by omega) hi b hq (fun z => q4 (by rw [e, z]))
