/-! cite -/
def ex : Nat → Nat → Nat
  | 0, _ => 0
  | k + 1, n => if n < 10 then 0 else ex k (n / 10) + 1
theorem ex_le : ∀ k n, ex k n ≤ k := by
  intro k
  induction k with
  | zero => intro n; exact Nat.le_refl _
  | succ k ih =>
    intro n
    show (if n < 10 then 0 else ex k (n / 10) + 1) ≤ k + 1
    have := ih (n / 10)
    by_cases h : n < 10
    · rw [if_pos h]; omega
    · rw [if_neg h]; omega
theorem sp_digits {n : Nat} {post : Int32 → Prop} (hn : n ≤ 100000) (h : post (nI (1 + ex 9 n))) : wp_X_digitsOf (nI n) post := by
  have key : ∀ k n acc, n < 10 ^ (k + 1) → n < 2 ^ 31 → post (nI (acc + ex k n)) → wl_X_digitsOf_4 post (k + 1) (nI acc) (nI n) := by
    intro k
    induction k with
    | zero =>
      intro n acc h1 h2 h
      unfold wl_X_digitsOf_4
      exact pk_lt n 10 (fun _ => h) (fun z => absurd z (by omega))
    | succ k ih =>
      intro n acc h1 h2 h
      unfold wl_X_digitsOf_4
      rw [show (10 : Int32) = nI 10 from rfl, pk_div h2 (by omega) (by omega), nI_1]
      have h' : post (nI (acc + (if n < 10 then 0 else ex k (n / 10) + 1))) := h
      refine pk_lt n 10 (fun z => ?_) (fun z => ih (n / 10) (acc + 1) ?_ (by omega) ?_)
      · rw [if_pos z] at h'; exact h'
      · rw [Nat.pow_succ] at h1; omega
      · rw [if_neg (by omega)] at h'
        rw [show acc + 1 + ex k (n / 10) = acc + (ex k (n / 10) + 1) by omega]
        exact h'
  unfold wp_X_digitsOf
  exact ⟨10, key 9 n 1 (by omega) (by omega) h⟩
theorem sm_digits {n : Nat} {post : Int32 → Prop} (hn : n ≤ 100000) (h : post (nI (1 + ex 9 n))) : wp_M_digits (nI n) post := by
  have key : ∀ k n acc, n < 10 ^ (k + 1) → n < 2 ^ 31 → post (nI (acc + ex k n)) → wl_M_digits_4 post (k + 1) (nI acc) (nI n) := by
    intro k
    induction k with
    | zero =>
      intro n acc h1 h2 h
      unfold wl_M_digits_4
      exact pk_le n 9 (fun _ => h) (fun z => absurd z (by omega))
    | succ k ih =>
      intro n acc h1 h2 h
      unfold wl_M_digits_4
      rw [show (10 : Int32) = nI 10 from rfl, pk_div h2 (by omega) (by omega), nI_1]
      have h' : post (nI (acc + (if n < 10 then 0 else ex k (n / 10) + 1))) := h
      refine pk_le n 9 (fun z => ?_) (fun z => ih (n / 10) (acc + 1) ?_ (by omega) ?_)
      · rw [if_pos (by omega)] at h'; exact h'
      · rw [Nat.pow_succ] at h1; omega
      · rw [if_neg (by omega)] at h'
        rw [show acc + 1 + ex k (n / 10) = acc + (ex k (n / 10) + 1) by omega]
        exact h'
  unfold wp_M_digits
  exact ⟨10, key 9 n 1 (by omega) (by omega) h⟩
theorem dg_step (r d : Nat) : r / 10 ^ (d + 1) = r / 10 / 10 ^ d := by
  rw [Nat.div_div_eq_div_mul, Nat.pow_succ, Nat.mul_comm]
theorem dg_48 {r : Nat} (h : r < 2 ^ 31) : (48 : Int32) + (nI r - nI r / 10 * 10) = nI (48 + r % 10) := by
  rw [show (10 : Int32) = nI 10 from rfl, pk_rem h (by omega) (by omega), show (48 : Int32) = nI 48 from rfl, nI_add]
theorem sp_digit {n p : Nat} {post : Int32 → Prop} (hn : n ≤ 100000) (hp : p ≤ 100) (h : post (nI (48 + n / 10 ^ p % 10))) : wp_X_digitSign (nI n) (nI p) post := by
  have key : ∀ d i r, i + d = p → r < 2 ^ 31 → post (nI (48 + r / 10 ^ d % 10)) → wl_X_digitSign_4 (nI p) post (d + 1) (nI r) (nI i) := by
    intro d
    induction d with
    | zero =>
      intro i r e hr h
      unfold wl_X_digitSign_4
      rw [dg_48 hr]
      rw [Nat.pow_zero, Nat.div_one] at h
      exact pk_le p i (fun _ => h) (fun z => absurd z (by omega))
    | succ d ih =>
      intro i r e hr h
      unfold wl_X_digitSign_4
      rw [dg_step] at h
      refine pk_le p i (fun z => absurd z (by omega)) (fun _ => ?_)
      rw [show (10 : Int32) = nI 10 from rfl, pk_div hr (by omega) (by omega), nI_1]
      exact ih (i + 1) (r / 10) (by omega) (by omega) h
  unfold wp_X_digitSign
  exact ⟨p + 1, key p 0 n (by omega) (by omega) h⟩
theorem sm_digit {n l : Nat} {post : Int32 → Prop} (hn : n ≤ 100000) (hl : l ≤ ex 9 n) (h : post (nI (48 + n / 10 ^ (ex 9 n - l) % 10))) : wp_M_digit (nI n) (nI l) post := by
  have l9 := ex_le 9 n
  have key : ∀ d r, d ≤ 9 → r < 2 ^ 31 → post (nI (48 + r / 10 ^ d % 10)) → wl_M_digit_9 (nI l) post (d + 1) (nI r) (nI (l + d)) := by
    intro d
    induction d with
    | zero =>
      intro r e hr h
      unfold wl_M_digit_9
      rw [dg_48 hr]
      rw [Nat.pow_zero, Nat.div_one] at h
      exact pk_le (l + 0) l (fun _ => h) (fun z => absurd z (by omega))
    | succ d ih =>
      intro r e hr h
      unfold wl_M_digit_9
      rw [dg_step] at h
      refine pk_le (l + (d + 1)) l (fun z => absurd z (by omega)) (fun _ => ?_)
      rw [show (10 : Int32) = nI 10 from rfl, pk_div hr (by omega) (by omega), show l + (d + 1) = l + d + 1 by omega, pk_m1]
      exact ih (r / 10) (by omega) (by omega) h
  unfold wp_M_digit
  refine sm_digits hn ⟨ex 9 n - l + 1, ?_⟩
  rw [show 1 + ex 9 n = ex 9 n + 1 by omega, nI_pred]
  have := key (ex 9 n - l) n (by omega) (by omega) h
  rw [show l + (ex 9 n - l) = ex 9 n by omega] at this
  exact this
def cw (s dy : Nat) (f : Int32) : Nat := if f = 35 then 1 + ex 9 s else if f = 64 then 1 + ex 9 dy else 1
/-- the sign of a piece, p places from its end -/
def sgn (s dy : Nat) (kd f : Int32) (p : Nat) : Int32 := if f = 35 then nI (48 + s / 10 ^ p % 10) else if f = 64 then nI (48 + dy / 10 ^ p % 10) else if f = 36 then 97 + kd else f
theorem cw_le (s dy : Nat) (f : Int32) : 1 ≤ cw s dy f ∧ cw s dy f ≤ 10 := by
  have h1 := ex_le 9 s
  have h2 := ex_le 9 dy
  unfold cw
  by_cases e : f = 35
  · rw [if_pos e]; omega
  · rw [if_neg e]
    by_cases e2 : f = 64
    · rw [if_pos e2]; omega
    · rw [if_neg e2]; omega
theorem sp_width {K D W : Nat → Int32} {md f : Int32} {s dy : Nat} {post : Int32 → Prop} (hs : s < 24) (hd : D s = nI dy) (hdy : dy ≤ 100000) (h : post (nI (cw s dy f))) : wp_X_pieceWidth K D W md f (nI s) post := by
  unfold wp_X_pieceWidth wp_S_dayOf
  rw [nI_clamp (by omega), hd]
  unfold cw at h
  refine ⟨fun e => ?_, fun e => ⟨fun e2 => ⟨vp_in_nI hs (by omega), ?_⟩, fun e2 => ?_⟩⟩
  · rw [if_pos e] at h; exact sp_digits (by omega) h
  · rw [if_neg e, if_pos e2] at h; exact sp_digits hdy h
  · rw [if_neg e, if_neg e2] at h; exact h
theorem sp_sign {K D W : Nat → Int32} {md f : Int32} {s dy p : Nat} {post : Int32 → Prop} (hs : s < 24) (hd : D s = nI dy) (hdy : dy ≤ 100000) (hp : p ≤ 100) (h : post (sgn s dy (K s) f p)) : wp_X_pieceSign K D W md f (nI s) (nI p) post := by
  unfold wp_X_pieceSign wp_S_dayOf wp_S_kindOf
  rw [nI_clamp (by omega), hd]
  have is : vp_in (nI s) 24 := vp_in_nI hs (by omega)
  unfold sgn at h
  refine ⟨fun e => ?_, fun e => ⟨fun e2 => ⟨is, ?_⟩, fun e2 => ⟨fun e3 => ⟨is, ?_⟩, fun e3 => ?_⟩⟩⟩
  · rw [if_pos e] at h; exact sp_digit (by omega) hp h
  · rw [if_neg e, if_neg (by rw [e2]; decide), if_pos e2] at h; exact h
  · rw [if_neg e, if_pos e3] at h; exact sp_digit hdy hp h
  · rw [if_neg e, if_neg e3, if_neg e2] at h; exact h
def tot (s dy : Nat) (g : Nat → Int32) : Nat → Nat
  | 0 => 0
  | k + 1 => tot s dy g k + cw s dy (g k)
theorem tot_le (s dy : Nat) (g : Nat → Int32) : ∀ k, tot s dy g k ≤ 10 * k := by
  intro k
  induction k with
  | zero => exact Nat.le_refl _
  | succ k ih =>
    show tot s dy g k + cw s dy (g k) ≤ 10 * (k + 1)
    have := cw_le s dy (g k)
    omega
def csg (s dy : Nat) (kd : Int32) (g : Nat → Int32) : Nat → Nat → Nat → Int32
  | 0, _, _ => -1
  | d + 1, k, l => if l < cw s dy (g k) then sgn s dy kd (g k) (cw s dy (g k) - 1 - l) else csg s dy kd g d (k + 1) (l - cw s dy (g k))
theorem csg_t {s dy : Nat} {kd : Int32} {g : Nat → Int32} {d k l : Nat} (h : l < cw s dy (g k)) : csg s dy kd g (d + 1) k l = sgn s dy kd (g k) (cw s dy (g k) - 1 - l) := if_pos h
theorem csg_f {s dy : Nat} {kd : Int32} {g : Nat → Int32} {d k l : Nat} (h : cw s dy (g k) ≤ l) : csg s dy kd g (d + 1) k l = csg s dy kd g d (k + 1) (l - cw s dy (g k)) := if_neg (by omega)
theorem cl_clen {T L K D W g : Nat → Int32} {md : Int32} {s dy f n : Nat} {post : Int32 → Prop} (hs : s < 24) (hd : D s = nI dy) (hdy : dy ≤ 100000) (hf : f < 4) (hl : L (24 + f) = nI n) (hn : n ≤ 60) (hg : ∀ k, k < n → T (60 * (24 + f) + k) = g k) (h : post (nI (tot s dy g n))) : wp_X_citationLength T L K D W md (nI s) (nI f) post := by
  unfold wp_X_citationLength
  rw [show (24 : Int32) + nI f = nI (24 + f) from nI_add 24 f]
  have key : ∀ d i, i + d = n → wl_X_citationLength_11 T L K D W md (nI s) (nI (24 + f)) post (d + 1) (nI (tot s dy g i)) (nI i) := by
    intro d
    induction d with
    | zero =>
      intro i e
      have e2 : i = n := by omega
      subst e2
      unfold wl_X_citationLength_11 wp_T_lengthOf
      rw [nI_clamp (by omega), hl]
      exact ⟨vp_in_nI (by omega) (by omega), pk_le i i (fun _ => h) (fun z => absurd z (by omega))⟩
    | succ d ih =>
      intro i e
      unfold wl_X_citationLength_11 wp_T_lengthOf wp_T_signAt
      rw [nI_clamp (show 24 + f < 2 ^ 31 by omega), hl, pu_mul60, nI_add, nI_clamp (show (24 + f) * 60 + i < 2 ^ 31 by omega), show (24 + f) * 60 + i = 60 * (24 + f) + i by omega, hg i (by omega), nI_1]
      refine ⟨vp_in_nI (by omega) (by omega), pk_le n i (fun z => absurd z (by omega)) (fun _ => ⟨vp_in_nI (by omega) (by omega), sp_width hs hd hdy ?_⟩)⟩
      rw [nI_add]
      exact ih (i + 1) (by omega)
  exact ⟨n + 1, key n 0 (by omega)⟩
theorem cl_csgn {T L K D W g : Nat → Int32} {md : Int32} {s dy f n q : Nat} {post : Int32 → Prop} (hs : s < 24) (hd : D s = nI dy) (hdy : dy ≤ 100000) (hf : f < 4) (hl : L (24 + f) = nI n) (hn : n ≤ 60) (hg : ∀ k, k < n → T (60 * (24 + f) + k) = g k) (hq : q < 2 ^ 31) (h : post (csg s dy (K s) g n 0 q)) : wp_X_citationSign T L K D W md (nI s) (nI f) (nI q) post := by
  unfold wp_X_citationSign
  rw [show (24 : Int32) + nI f = nI (24 + f) from nI_add 24 f]
  have key : ∀ d i l, i + d = n → l < 2 ^ 31 → post (csg s dy (K s) g d i l) → wl_X_citationSign_12 T L K D W md (nI s) (nI (24 + f)) post (d + 1) (nI l) (nI i) := by
    intro d
    induction d with
    | zero =>
      intro i l e hl2 h
      unfold wl_X_citationSign_12 wp_T_lengthOf
      rw [nI_clamp (by omega), hl]
      exact ⟨vp_in_nI (by omega) (by omega), pk_le n i (fun _ => h) (fun z => absurd z (by omega))⟩
    | succ d ih =>
      intro i l e hl2 h
      unfold wl_X_citationSign_12 wp_T_lengthOf wp_T_signAt
      rw [nI_clamp (show 24 + f < 2 ^ 31 by omega), hl, pu_mul60, nI_add, nI_clamp (show (24 + f) * 60 + i < 2 ^ 31 by omega), show (24 + f) * 60 + i = 60 * (24 + f) + i by omega, hg i (by omega), nI_1]
      have hw := cw_le s dy (g i)
      refine ⟨vp_in_nI (by omega) (by omega), pk_le n i (fun z => absurd z (by omega)) (fun _ => ⟨vp_in_nI (by omega) (by omega), sp_width hs hd hdy (pk_le (cw s dy (g i)) l (fun z => ?_) (fun z => ?_))⟩)⟩
      · rw [csg_f z] at h
        rw [pk_sub z]
        exact ih (i + 1) _ (by omega) (by omega) h
      · rw [csg_t z] at h
        rw [show nI (cw s dy (g i)) - 1 = nI (cw s dy (g i) - 1) from pk_sub (b := 1) (by omega), pk_sub (by omega)]
        exact sp_sign hs hd hdy (by omega) h
  exact ⟨n + 1, key n 0 q (by omega) hq h⟩
theorem sgn_ne {s dy p : Nat} {kd f : Int32} (hf : f ≠ -1) (hk : ∃ k, k ≤ 25 ∧ kd = nI k) : sgn s dy kd f p ≠ -1 := by
  obtain ⟨k, hk, rfl⟩ := hk
  unfold sgn
  by_cases e : f = 35
  · rw [if_pos e]; exact nI_nem1 (by omega)
  · rw [if_neg e]
    by_cases e2 : f = 64
    · rw [if_pos e2]; exact nI_nem1 (by omega)
    · rw [if_neg e2]
      by_cases e3 : f = 36
      · rw [if_pos e3, show (97 : Int32) + nI k = nI (97 + k) from nI_add 97 k]; exact nI_nem1 (by omega)
      · rw [if_neg e3]; exact hf
/-- the reference at a place: q is the place, or none -/
theorem md_cite {th pd sr cl rn op : Int32} {K D FL FO g : Nat → Int32} {s dy f n : Nat} {x3 : Int32} {post : Int32 → Int32 → Prop} (hs : s < 24) (hd : D s = nI dy) (hdy : dy ≤ 100000) (hk : ∃ k, k ≤ 25 ∧ K s = nI k) (hf : f < 4) (hl : FL f = nI n) (hn : n ≤ 60) (hg : ∀ k, k < n → FO (60 * f + k) = g k ∧ g k ≠ -1)
    (hm : x3 = -1 → post (nI (tot s dy g n)) 0) (hp : ∀ q, q < 2 ^ 31 → x3 = nI q → (q < tot s dy g n → csg s dy (K s) g n 0 q ≠ -1 → post (csg s dy (K s) g n 0 q) 0) ∧ (tot s dy g n ≤ q → csg s dy (K s) g n 0 q = -1 → post 0 1)) (hx : x3 = -1 ∨ ∃ q, q < 2 ^ 31 ∧ x3 = nI q) :
    ∃ n9, wl_M_cite_38 th pd sr K D FL FO cl rn op (nI s) (nI f) x3 1 post n9 (0 : Int32) (0 : Int32) (0 : Int32) := by
  have is : vp_in (nI s) 24 := vp_in_nI hs (by omega)
  have i4 : vp_in (nI f) 4 := vp_in_nI hf (by omega)
  refine loop_0 (fun m k (sg : Int32) => wl_M_cite_38 th pd sr K D FL FO cl rn op (nI s) (nI f) x3 1 post m (nI (tot s dy g k)) sg (nI k)) (fun k sg => ∀ q, q < 2 ^ 31 → x3 = nI q → (q < tot s dy g k → sg = csg s dy (K s) g n 0 q ∧ csg s dy (K s) g n 0 q ≠ -1) ∧ (tot s dy g k ≤ q → csg s dy (K s) g n 0 q = csg s dy (K s) g (n - k) k (q - tot s dy g k))) n 0 (fun q _ _ => ⟨fun z => absurd z (Nat.not_lt_zero _), fun _ => rfl⟩) ?_ ?_
  · intro m sg hI
    show wl_M_cite_38 th pd sr K D FL FO cl rn op (nI s) (nI f) x3 1 post (m + 1) (nI (tot s dy g n)) sg (nI n)
    have tl := tot_le s dy g n
    unfold wl_M_cite_38
    rw [nI_clamp (show f < 2 ^ 31 by omega), hl]
    refine ⟨fun z => absurd z (by decide), fun _ => ⟨i4, pk_le n n (fun _ => ?_) (fun z => absurd z (by omega))⟩⟩
    rcases hx with rfl | ⟨q, hq, rfl⟩
    · refine ⟨fun z => ?_, fun _ => sm_go0 ⟨fun z => absurd z (by decide), fun _ => ⟨fun _ => hm rfl, fun z => absurd rfl z⟩⟩⟩
      exfalso
      have z1 : nI (tot s dy g n) ≤ -1 := z
      rw [pu_le, nI_toInt (by omega)] at z1
      have e1 : (-1 : Int32).toInt = -1 := by decide
      omega
    · obtain ⟨h1, h2⟩ := hI q hq rfl
      refine pk_le (tot s dy g n) q (fun z => sm_go1 ⟨fun _ => ?_, fun z => absurd rfl z⟩) (fun z => sm_go0 ⟨fun z => absurd z (by decide), fun _ => ⟨fun z => absurd z (nI_nem1 hq), fun _ => ?_⟩⟩)
      · have e := h2 z
        rw [Nat.sub_self] at e
        exact (hp q hq rfl).2 z e
      · obtain ⟨e1, e2⟩ := h1 z
        rw [e1]
        exact (hp q hq rfl).1 z e2
  · intro m k sg hkn hI hk2
    show wl_M_cite_38 th pd sr K D FL FO cl rn op (nI s) (nI f) x3 1 post (m + 1) (nI (tot s dy g k)) sg (nI k)
    have tl := tot_le s dy g k
    have cl9 := cw_le s dy (g k)
    obtain ⟨g1, g2⟩ := hg k hkn
    have nk : n - k = (n - (k + 1)) + 1 := by omega
    have ht : tot s dy g (k + 1) = tot s dy g k + cw s dy (g k) := rfl
    have out : ∀ (_ : ∀ q, q < 2 ^ 31 → x3 = nI q → q < tot s dy g k ∨ tot s dy g k + cw s dy (g k) ≤ q), wl_M_cite_38 th pd sr K D FL FO cl rn op (nI s) (nI f) x3 1 post m (nI (tot s dy g k + cw s dy (g k))) sg (nI (k + 1)) := by
      intro hh
      refine hk2 sg (fun q hq e => ⟨fun z => ?_, fun z => ?_⟩)
      · rcases hh q hq e with z2 | z2
        · exact (hI q hq e).1 z2
        · rw [ht] at z; omega
      · rw [ht] at z
        have e2 := (hI q hq e).2 (by omega)
        rw [nk, csg_f (by omega)] at e2
        rw [e2, ht, show q - tot s dy g k - cw s dy (g k) = q - (tot s dy g k + cw s dy (g k)) by omega]
    have inn : ∀ q, q < 2 ^ 31 → x3 = nI q → tot s dy g k ≤ q → q < tot s dy g k + cw s dy (g k) → wl_M_cite_38 th pd sr K D FL FO cl rn op (nI s) (nI f) x3 1 post m (nI (tot s dy g k + cw s dy (g k))) (sgn s dy (K s) (g k) (cw s dy (g k) - 1 - (q - tot s dy g k))) (nI (k + 1)) := by
      intro q hq e z1 z2
      refine hk2 _ (fun q' hq' e' => ?_)
      have eq : q' = q := by
        rw [e] at e'
        exact ((nI_eq hq hq').mp e').symm
      subst eq
      have e2 := (hI q' hq e).2 z1
      rw [nk, csg_t (by omega)] at e2
      refine ⟨fun _ => ⟨e2.symm, ?_⟩, fun z => ?_⟩
      · rw [e2]; exact sgn_ne g2 hk
      · rw [ht] at z; omega
    have brn : ∀ (w : Nat) (A : Int32 → Prop), w = cw s dy (g k) → ((∀ q, q < 2 ^ 31 → x3 = nI q → tot s dy g k ≤ q → q < tot s dy g k + w → A (sgn s dy (K s) (g k) (cw s dy (g k) - 1 - (q - tot s dy g k))))) → ((x3 < nI (tot s dy g k) → wl_M_cite_38 th pd sr K D FL FO cl rn op (nI s) (nI f) x3 1 post m (nI (tot s dy g k + w)) sg (nI (k + 1))) ∧ (¬ (x3 < nI (tot s dy g k)) → ((nI (tot s dy g k + w) ≤ x3 → wl_M_cite_38 th pd sr K D FL FO cl rn op (nI s) (nI f) x3 1 post m (nI (tot s dy g k + w)) sg (nI (k + 1))) ∧ (¬ (nI (tot s dy g k + w) ≤ x3) → ∃ q, q < 2 ^ 31 ∧ x3 = nI q ∧ tot s dy g k ≤ q ∧ q < tot s dy g k + w)))) := by
      intro w A hw _
      subst hw
      refine ⟨fun z => out (fun q hq e => Or.inl ?_), fun z => ⟨fun z2 => out (fun q hq e => Or.inr ?_), fun z2 => ?_⟩⟩
      · rw [e, nI_ltI hq (by omega)] at z; exact z
      · rw [e, nI_leI (by omega) hq] at z2; exact z2
      · rcases hx with rfl | ⟨q, hq, rfl⟩
        · exfalso
          refine z ?_
          rw [pu_lt, nI_toInt (by omega)]
          have e1 : (-1 : Int32).toInt = -1 := by decide
          omega
        · rw [nI_ltI hq (by omega)] at z
          rw [nI_leI (by omega) hq] at z2
          exact ⟨q, hq, rfl, by omega, by omega⟩
    unfold wl_M_cite_38
    rw [nI_clamp (show f < 2 ^ 31 by omega), hl, show (60 : Int32) * nI f = nI (60 * f) from pk_mul 60 f, nI_add, nI_clamp (show 60 * f + k < 2 ^ 31 by omega), g1, nI_clamp (show s < 2 ^ 31 by omega), hd, nI_1, nI_1]
    have l9 := ex_le 9 s
    have l8 := ex_le 9 dy
    refine ⟨fun z => absurd z (by decide), fun _ => ⟨i4, pk_le n k (fun z => absurd z (by omega)) (fun _ => ⟨vp_in_nI (by omega) (by omega), fun c1 => sm_digits (by omega) ?_, fun c1 => ⟨fun c2 => ⟨is, sm_digits hdy ?_⟩, fun c2 => ?_⟩⟩)⟩⟩
    · have hw : 1 + ex 9 s = cw s dy (g k) := (if_pos c1).symm
      rw [nI_add]
      obtain ⟨b1, b2⟩ := brn (1 + ex 9 s) (fun _ => True) hw (fun _ _ _ _ _ => trivial)
      refine ⟨b1, fun z => ⟨(b2 z).1, fun z2 => ?_⟩⟩
      obtain ⟨q, hq, e, z3, z4⟩ := (b2 z).2 z2
      have hin := inn q hq e z3 (by omega)
      have e5 : sgn s dy (K s) (g k) (cw s dy (g k) - 1 - (q - tot s dy g k)) = nI (48 + s / 10 ^ (ex 9 s - (q - tot s dy g k)) % 10) := by
        rw [← hw, show 1 + ex 9 s - 1 - (q - tot s dy g k) = ex 9 s - (q - tot s dy g k) by omega]
        exact if_pos c1
      rw [e5, ← hw] at hin
      have e7 : x3 - nI (tot s dy g k) = nI (q - tot s dy g k) := by rw [e, pk_sub z3]
      rw [e7]
      exact sm_digit (by omega) (by omega) hin
    · have hw : 1 + ex 9 dy = cw s dy (g k) := by unfold cw; rw [if_neg c1, if_pos c2]
      rw [nI_add]
      obtain ⟨b1, b2⟩ := brn (1 + ex 9 dy) (fun _ => True) hw (fun _ _ _ _ _ => trivial)
      refine ⟨b1, fun z => ⟨(b2 z).1, fun z2 => ?_⟩⟩
      obtain ⟨q, hq, e, z3, z4⟩ := (b2 z).2 z2
      have hin := inn q hq e z3 (by omega)
      have e5 : sgn s dy (K s) (g k) (cw s dy (g k) - 1 - (q - tot s dy g k)) = nI (48 + dy / 10 ^ (ex 9 dy - (q - tot s dy g k)) % 10) := by
        rw [← hw, show 1 + ex 9 dy - 1 - (q - tot s dy g k) = ex 9 dy - (q - tot s dy g k) by omega]
        unfold sgn
        rw [if_neg c1, if_pos c2]
      rw [e5, ← hw] at hin
      have e7 : x3 - nI (tot s dy g k) = nI (q - tot s dy g k) := by rw [e, pk_sub z3]
      rw [e7]
      exact sm_digit hdy (by omega) hin
    · have hw : 1 = cw s dy (g k) := by unfold cw; rw [if_neg c1, if_neg c2]
      obtain ⟨b1, b2⟩ := brn 1 (fun _ => True) hw (fun _ _ _ _ _ => trivial)
      refine ⟨b1, fun z => ⟨(b2 z).1, fun z2 => ?_⟩⟩
      obtain ⟨q, hq, e, z3, z4⟩ := (b2 z).2 z2
      have hin := inn q hq e z3 (by omega)
      unfold sgn at hin
      rw [if_neg c1, if_neg c2, ← hw] at hin
      refine ⟨fun c3 => ⟨is, ?_⟩, fun c3 => ?_⟩
      · rw [if_pos c3] at hin; exact hin
      · rw [if_neg c3] at hin; exact hin
