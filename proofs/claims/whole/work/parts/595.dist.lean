/-! the least number of steps -/
def isd (E : Nat → Nat → Bool) (a b m : Nat) : Prop := stp E m a b ∧ ∀ k, k < m → ¬ stp E k a b
theorem isd_of {E : Nat → Nat → Bool} {a b n : Nat} (h : stp E n a b) : ∃ m, m ≤ n ∧ isd E a b m := by
  obtain ⟨m, h1, h2⟩ := pk_least (fun k => stp E k a b) ⟨n, h⟩
  refine ⟨m, ?_, h1, h2⟩
  rcases Nat.lt_or_ge n m with q | q
  · exact absurd h (h2 n q)
  · exact q
theorem isd_eq {E : Nat → Nat → Bool} {a b m n : Nat} (h : isd E a b m) (q : isd E a b n) : m = n := by
  rcases Nat.lt_trichotomy m n with e | e | e
  · exact absurd h.1 (q.2 m e)
  · exact e
  · exact absurd q.1 (h.2 n e)
theorem isd_down {E : Nat → Nat → Bool} {a b m : Nat} (h : isd E a b (m + 1)) : ∃ c, E a c = true ∧ isd E c b m := by
  obtain ⟨⟨c, h1, h2⟩, h3⟩ := h
  exact ⟨c, h1, h2, fun k hk q => h3 (k + 1) (by omega) ⟨c, h1, q⟩⟩
theorem isd_zero {E : Nat → Nat → Bool} {b : Nat} : isd E b b 0 := ⟨rfl, fun k hk => absurd hk (by omega)⟩
theorem isd_0 {E : Nat → Nat → Bool} {a b : Nat} (h : isd E a b 0) : a = b := h.1
theorem isd_lt {E : Nat → Nat → Bool} {nc a b m : Nat} (hE : ∀ x y, E x y = true → x < nc ∧ y < nc) (hb : b < nc) (h : isd E a b m) : a < nc := by
  cases m with
  | zero => rw [isd_0 h]; exact hb
  | succ m =>
    obtain ⟨c, q, _⟩ := isd_down h
    exact (hE a c q).1
theorem isd_all {E : Nat → Nat → Bool} {b : Nat} : ∀ {m a : Nat}, isd E a b m → ∀ k, k ≤ m → ∃ x, isd E x b k := by
  intro m
  induction m with
  | zero => intro a h k hk; have e : k = 0 := by omega
            subst e; exact ⟨a, h⟩
  | succ m ih =>
    intro a h k hk
    by_cases e : k = m + 1
    · subst e; exact ⟨a, h⟩
    · obtain ⟨c, _, q⟩ := isd_down h
      exact ih q k (by omega)
theorem isd_cnt {E : Nat → Nat → Bool} {nc a b m : Nat} (hE : ∀ x y, E x y = true → x < nc ∧ y < nc) (hb : b < nc) (h : isd E a b m) : m < nc := by
  classical
  have key : ∀ k, k ≤ m → k + 1 ≤ cnt (fun x => decide (∃ j, j ≤ k ∧ isd E x b j)) nc := by
    intro k
    induction k with
    | zero => intro _; exact cnt_pos hb (decide_eq_true ⟨0, by omega, isd_zero⟩)
    | succ k ih =>
      intro hk
      have i := ih (by omega)
      have l := cnt_lt (f := fun x => decide (∃ j, j ≤ k ∧ isd E x b j)) (g := fun x => decide (∃ j, j ≤ k + 1 ∧ isd E x b j)) (n := nc) (fun c _ q => ?_) ?_
      · omega
      · obtain ⟨j, q1, q2⟩ := of_decide_eq_true q
        exact decide_eq_true ⟨j, by omega, q2⟩
      · obtain ⟨x, hx⟩ := isd_all h (k + 1) hk
        refine ⟨x, isd_lt hE hb hx, decide_eq_true ⟨k + 1, by omega, hx⟩, fun q => ?_⟩
        obtain ⟨j, q1, q2⟩ := of_decide_eq_true q
        have := isd_eq q2 hx
        omega
  have := key m (by omega)
  have := cnt_le (fun x => decide (∃ j, j ≤ m ∧ isd E x b j)) nc
  omega
def lv1 (E : Nat → Nat → Bool) (b t x : Nat) (v : Int32) : Prop := (∃ m, m ≤ t ∧ isd E x b m ∧ v = nI m) ∨ ((∀ m, m ≤ t → ¬ isd E x b m) ∧ v = -1)
/-- how many steps, told by a table; z where there is no way -/
def fin1 (E : Nat → Nat → Bool) (b : Nat) (z : Int32) (St : Nat → Int32) : Prop := ∀ x, x < 24 → (∃ m, m < 24 ∧ isd E x b m ∧ St x = nI m) ∨ ((∀ m, ¬ stp E m x b) ∧ St x = z)
theorem cl_fill {n : Nat} {A : Nat → Int32} {v : Int32} {post : (Nat → Int32) → Prop} (hn : n ≤ 1000) (h : ∀ B, (∀ i, i < n → B i = v) → post B) : wp_J_fill n A v post := by
  unfold wp_J_fill
  refine loop_0 (fun m i (B : Nat → Int32) => wl_J_fill_5 n v (Int32.ofNat n) post m (nI i) B) (fun i B => ∀ k, k < i → B k = v) n A (fun k z => absurd z (by omega)) ?_ ?_
  · intro m B hI
    show wl_J_fill_5 n v (Int32.ofNat n) post (m + 1) (nI n) B
    unfold wl_J_fill_5
    exact pk_le n n (fun _ => h B hI) (fun z => absurd z (by omega))
  · intro m i B hi hI hk
    show wl_J_fill_5 n v (Int32.ofNat n) post (m + 1) (nI i) B
    unfold wl_J_fill_5
    refine pk_le n i (fun z => absurd z (by omega)) (fun _ => ⟨vp_in_nI hi (by omega), ?_⟩)
    rw [nI_clamp (by omega), nI_1]
    refine hk _ (fun k hk2 => ?_)
    by_cases e : k = i
    · subst e; exact pk_us
    · rw [pk_un e]; exact hI k (by omega)
theorem cl_mark {S O R RC ST : Nat → Int32} {md rl r : Int32} {nc t b : Nat} {post : Int32 → (Nat → Int32) → Prop} (hm : md = nI nc) (hn : nc ≤ 24) (hg : rg O nc nc) (hb : b < nc) (hr : ∀ x, bt r x = true ↔ isd (on_C O) x b t) (hI : ∀ x, x < 24 → lv1 (on_C O) b t x (ST x))
    (h : ∀ mk S', (∀ x, bt mk x = true ↔ isd (on_C O) x b (t + 1)) → (∀ x, x < 24 → lv1 (on_C O) b (t + 1) x (S' x)) → post mk S') : wp_C_markThoseAbove S O R RC ST md rl r (nI (t + 1)) post := by
  subst hm
  have hE : ∀ x y, on_C O x y = true → x < nc ∧ y < nc := fun x y q => ⟨(on_lt hg q).1, (on_lt hg q).2.1⟩
  have keep : ∀ x v, lv1 (on_C O) b t x v → ¬ isd (on_C O) x b (t + 1) → lv1 (on_C O) b (t + 1) x v := by
    rintro x v (⟨m, q1, q2⟩ | ⟨q1, q2⟩) q
    · exact Or.inl ⟨m, by omega, q2⟩
    · refine Or.inr ⟨fun m hm => ?_, q2⟩
      by_cases e : m = t + 1
      · subst e; exact q
      · exact q1 m (by omega)
  unfold wp_C_markThoseAbove
  refine loop_0 (fun n i (s : Int32 × (Nat → Int32)) => wl_C_markThoseAbove_5 O (nI nc) r (nI (t + 1)) post n s.1 (nI i) s.2) (fun i s => (∀ x, bt s.1 x = true ↔ x < i ∧ isd (on_C O) x b (t + 1)) ∧ (∀ x, x < 24 → x < i → lv1 (on_C O) b (t + 1) x (s.2 x)) ∧ ∀ x, x < 24 → i ≤ x → s.2 x = ST x) nc (0, ST) ⟨fun x => ?_, fun _ _ z => absurd z (by omega), fun _ _ _ => rfl⟩ ?_ ?_
  · show bt 0 x = true ↔ _
    rw [b_0]
    exact ⟨fun z => absurd z (by decide), fun z => absurd z.1 (by omega)⟩
  · rintro n ⟨mk, S'⟩ ⟨a1, a2, a3⟩
    show wl_C_markThoseAbove_5 O (nI nc) r (nI (t + 1)) post (n + 1) mk (nI nc) S'
    unfold wl_C_markThoseAbove_5
    refine pk_le nc nc (fun _ => h mk S' (fun x => ?_) (fun x hx => ?_)) (fun z => absurd z (by omega))
    · rw [a1 x]
      exact ⟨fun q => q.2, fun q => ⟨isd_lt hE hb q, q⟩⟩
    · rcases Nat.lt_or_ge x nc with e | e
      · exact a2 x hx e
      · have e2 : S' x = ST x := a3 x hx e
        rw [e2]
        exact keep x _ (hI x hx) (fun q => absurd (isd_lt hE hb q) (by omega))
  · rintro n i ⟨mk, S'⟩ hi ⟨a1, a2, a3⟩ hk
    show wl_C_markThoseAbove_5 O (nI nc) r (nI (t + 1)) post (n + 1) mk (nI i) S'
    have a1' : ∀ x, bt mk x = true ↔ x < i ∧ isd (on_C O) x b (t + 1) := a1
    have e0 : S' i = ST i := a3 i (by omega) (by omega)
    have no : ¬ isd (on_C O) i b (t + 1) → wl_C_markThoseAbove_5 O (nI nc) r (nI (t + 1)) post n mk (nI (i + 1)) S' := by
      intro q
      refine hk (mk, S') ⟨bi_no a1' q, fun x hx hx2 => ?_, fun x hx hx2 => a3 x hx (by omega)⟩
      by_cases e : x = i
      · subst e
        show lv1 _ _ _ _ (S' x)
        rw [e0]
        exact keep x _ (hI x hx) q
      · exact a2 x hx (by omega)
    have ii : vp_in (nI i) 24 := vp_in_nI (by omega) (by omega)
    unfold wl_C_markThoseAbove_5 wp_X_with
    refine pk_le nc i (fun z => absurd z (by omega)) (fun _ => ?_)
    rw [nI_clamp (by omega), nI_1, e0]
    refine ⟨ii, fun q => ⟨ii, fun q2 => no (fun z => ?_), fun q2 => ⟨ii, ?_⟩⟩, fun q => no (fun z => ?_)⟩
    · obtain ⟨d, e1, e2⟩ := isd_down z
      exact bs_any.mp q2 d (on_lt hg e1).2.2.1 ((hr d).mpr e2)
    · obtain ⟨d, e1, e2⟩ := bs_nany.mp q2
      have e3 := (hr d).mp e2
      have e4 : ∀ m, m ≤ t → ¬ isd (on_C O) i b m := by
        rcases hI i (by omega) with ⟨m, _, _, z⟩ | z
        · rw [q] at z
          exact absurd z.symm (by
            have hm : m < nc := isd_cnt hE hb (by assumption)
            exact nI_nem1 (by omega))
        · exact z.1
      have e5 : isd (on_C O) i b (t + 1) := by
        refine ⟨⟨d, on_mk (by omega) e1, e3.1⟩, fun k hk z => ?_⟩
        obtain ⟨m, z1, z2⟩ := isd_of z
        exact e4 m (by omega) z2
      refine hk (_, _) ⟨bi_yes (by omega) a1' e5, fun x hx hx2 => ?_, fun x hx hx2 => ?_⟩
      · show lv1 _ _ _ _ (upd S' i (nI (t + 1)) x)
        by_cases e : x = i
        · subst e; rw [pk_us]
          exact Or.inl ⟨t + 1, by omega, e5, rfl⟩
        · rw [pk_un e]; exact a2 x hx (by omega)
      · show upd S' i (nI (t + 1)) x = ST x
        rw [pk_un (by omega)]; exact a3 x hx (by omega)
    · rcases hI i (by omega) with ⟨m, z1, z2, _⟩ | z3
      · have := isd_eq z2 z
        omega
      · exact q z3.2
theorem cl_measure {S O R RC ST : Nat → Int32} {md rl : Int32} {nc b : Nat} {post : (Nat → Int32) → Prop} (hm : md = nI nc) (hn : nc ≤ 24) (hg : rg O nc nc) (hb : b < nc) (h : ∀ S', fin1 (on_C O) b (-1) S' → post S') : wp_C_measureStepsTo S O R RC ST md rl (nI b) post := by
  have hE : ∀ x y, on_C O x y = true → x < nc ∧ y < nc := fun x y q => ⟨(on_lt hg q).1, (on_lt hg q).2.1⟩
  unfold wp_C_measureStepsTo wp_X_with
  refine cl_fill (by omega) (fun B hB => ⟨vp_in_nI (by omega) (by omega), ?_⟩)
  rw [nI_clamp (by omega)]
  have fin : ∀ t S', (∀ x, x < 24 → lv1 (on_C O) b t x (S' x)) → (∀ x m, t < m → ¬ isd (on_C O) x b m) → post S' := by
    intro t S' a1 a2
    refine h S' (fun x hx => ?_)
    rcases a1 x hx with ⟨m, q1, q2, q3⟩ | ⟨q1, q2⟩
    · have := isd_cnt hE hb q2
      exact Or.inl ⟨m, by omega, q2, q3⟩
    · refine Or.inr ⟨fun m z => ?_, q2⟩
      obtain ⟨k, z1, z2⟩ := isd_of z
      rcases Nat.lt_or_ge t k with e | e
      · exact a2 x k e z2
      · exact q1 k e z2
  refine pk_loop (fun n i (s : Int32 × (Nat → Int32)) => wl_C_measureStepsTo_23 S O R RC md rl post n s.1 (nI i) s.2) (fun i s => 1 ≤ i ∧ (∀ x, bt s.1 x = true ↔ isd (on_C O) x b (i - 1)) ∧ ∀ x, x < 24 → lv1 (on_C O) b (i - 1) x (s.2 x)) 24 1 (_, _) (by omega) ⟨by omega, fun x => ?_, fun x hx => ?_⟩ ?_ ?_
  · show bt ((0 : Int32) ||| ((1 : Int32) <<< (nI b &&& 31))) x = true ↔ isd (on_C O) x b 0
    rw [bs_with (by omega), b_0, Bool.false_or, decide_eq_true_eq]
    exact ⟨fun z => by subst z; exact isd_zero, fun z => isd_0 z⟩
  · show lv1 (on_C O) b 0 x (upd B b 0 x)
    by_cases e : x = b
    · subst e; rw [pk_us]
      exact Or.inl ⟨0, by omega, isd_zero, rfl⟩
    · rw [pk_un e]
      refine Or.inr ⟨fun m hm z => ?_, hB x hx⟩
      have e2 : m = 0 := by omega
      subst e2; exact e (isd_0 z)
  · rintro n ⟨r, S'⟩ ⟨_, a1, a2⟩
    show wl_C_measureStepsTo_23 S O R RC md rl post (n + 1) r (nI 24) S'
    unfold wl_C_measureStepsTo_23
    refine pk_le 24 24 (fun _ => fin 23 S' a2 (fun x m hm z => ?_)) (fun z => absurd z (by omega))
    have := isd_cnt hE hb z
    omega
  · rintro n i ⟨r, S'⟩ hi ⟨h1, a1, a2⟩ hk
    show wl_C_measureStepsTo_23 S O R RC md rl post (n + 1) r (nI i) S'
    obtain ⟨t, rfl⟩ : ∃ t, i = t + 1 := ⟨i - 1, by omega⟩
    unfold wl_C_measureStepsTo_23
    refine pk_le 24 (t + 1) (fun z => absurd z (by omega)) (fun _ => ⟨fun q => fin t S' a2 (fun x m hm z => ?_), fun q => ?_⟩)
    · obtain ⟨y, hy⟩ := isd_all z t (by omega)
      have e : bt r y = true := (a1 y).mpr hy
      rw [q, b_0] at e
      exact absurd e (by decide)
    · rw [nI_1]
      refine cl_mark hm hn hg hb a1 a2 (fun mk S2 b1 b2 => ?_)
      exact hk (mk, S2) ⟨by omega, b1, b2⟩
theorem md_measure {th pd sr cl rg' op : Int32} {O B F0 : Nat → Int32} {nc b : Nat} {post : (Nat → Int32) → Prop} (hm : cl = nI nc) (hn : nc ≤ 24) (ht : tab O B) (hg : rg O nc nc) (hb : b < nc) (h : ∀ F, fin1 (on_C O) b 99 F → post F) : wp_M_measure th pd sr cl B rg' F0 op (nI b) post := by
  subst hm
  have hE : ∀ x y, on_C O x y = true → x < nc ∧ y < nc := fun x y q => ⟨(on_lt hg q).1, (on_lt hg q).2.1⟩
  have rounds : ∀ F : Nat → Int32, (∀ x, x < 24 → F x = if x = b then 0 else 99) → ∃ n9, wl_M_measure_33 (nI nc) B post n9 (0 : Int32) F := by
    intro F hF
    refine loop_0 (fun n i (F : Nat → Int32) => wl_M_measure_33 (nI nc) B post n (nI i) F) (fun i F => ∃ g : Nat → Nat, (∀ x, x < 24 → F x = nI (g x) ∧ g x ≤ 99 ∧ (g x < 99 → stp (on_C O) (g x) x b)) ∧ ∀ x k, x < 24 → k ≤ i → stp (on_C O) k x b → g x ≤ k) nc F ⟨fun x => if x = b then 0 else 99, fun x hx => ?_, fun x k hx hk q => ?_⟩ ?_ ?_
    · rw [hF x hx]
      dsimp only
      by_cases e : x = b
      · rw [if_pos e, if_pos e]; exact ⟨rfl, by omega, fun _ => e⟩
      · rw [if_neg e, if_neg e]; exact ⟨rfl, by omega, fun z => absurd z (by omega)⟩
    · have e : k = 0 := by omega
      subst e
      have e2 : x = b := q
      show (if x = b then 0 else 99) ≤ 0
      rw [if_pos e2]
      exact Nat.le_refl _
    · rintro n F ⟨g, a1, a2⟩
      show wl_M_measure_33 (nI nc) B post (n + 1) (nI nc) F
      unfold wl_M_measure_33
      refine pk_le nc nc (fun _ => h F (fun x hx => ?_)) (fun z => absurd z (by omega))
      obtain ⟨q1, q2, q3⟩ := a1 x hx
      by_cases e : ∃ m, stp (on_C O) m x b
      · obtain ⟨m, e⟩ := e
        obtain ⟨k, e1, e2⟩ := isd_of e
        have e3 := isd_cnt hE hb e2
        have e4 := a2 x k hx (by omega) e2.1
        have e5 := q3 (by omega)
        have e6 : g x = k := by
          rcases Nat.lt_or_ge (g x) k with z | z
          · exact absurd e5 (e2.2 _ z)
          · omega
        exact Or.inl ⟨k, by omega, e2, by rw [q1, e6]⟩
      · refine Or.inr ⟨fun m z => e ⟨m, z⟩, ?_⟩
        have e7 : g x = 99 := by
          rcases Nat.lt_or_ge (g x) 99 with z | z
          · exact absurd ⟨_, q3 z⟩ e
          · omega
        rw [q1, e7]
        rfl
    · rintro n i F hi ⟨g, a1, a2⟩ hk
      show wl_M_measure_33 (nI nc) B post (n + 1) (nI i) F
      unfold wl_M_measure_33
      refine pk_le nc i (fun z => absurd z (by omega)) (fun _ => ?_)
      refine loop_0 (fun m k (G : Nat → Int32) => wl_M_measure_43 B (nI i) (fun y0 y1 => wl_M_measure_33 (nI nc) B post n y0 y1) m (nI k) G) (fun k G => ∃ g' : Nat → Nat, (∀ x, x < 24 → G x = nI (g' x) ∧ g' x ≤ 99 ∧ (g' x < 99 → stp (on_C O) (g' x) x b)) ∧ (∀ x, x < 24 → g' x ≤ g x) ∧ ∀ a d, d < 24 → 24 * a + d < k → bt (O a) d = true → g' a ≤ g d + 1) 576 F ⟨g, a1, fun _ _ => Nat.le_refl _, fun _ _ _ z => absurd z (by omega)⟩ ?_ ?_
      · rintro m G ⟨g', b1, b2, b3⟩
        show wl_M_measure_43 B (nI i) (fun y0 y1 => wl_M_measure_33 (nI nc) B post n y0 y1) (m + 1) (nI 576) G
        unfold wl_M_measure_43
        refine pk_le 576 576 (fun _ => ?_) (fun z => absurd z (by omega))
        show wl_M_measure_33 (nI nc) B post n (nI i + 1) G
        rw [nI_1]
        refine hk G ⟨g', b1, fun x k hx hk2 q => ?_⟩
        cases k with
        | zero => exact Nat.le_trans (b2 x hx) (a2 x 0 hx (by omega) q)
        | succ k =>
          obtain ⟨d, q1, q2⟩ := q
          obtain ⟨e1, e2, e3, e4⟩ := on_lt hg q1
          have e5 := b3 x d (by omega) (by omega) e3
          have e6 := a2 d k (by omega) (by omega) q2
          omega
      · rintro m k G hk2 ⟨g', b1, b2, b3⟩ hk3
        show wl_M_measure_43 B (nI i) (fun y0 y1 => wl_M_measure_33 (nI nc) B post n y0 y1) (m + 1) (nI k) G
        obtain ⟨a, d, ha, hd, rfl⟩ : ∃ a d, a < 24 ∧ d < 24 ∧ k = 24 * a + d := ⟨k / 24, k % 24, by omega, by omega, by omega⟩
        have same : (bt (O a) d = true → g' a ≤ g d + 1) → wl_M_measure_43 B (nI i) (fun y0 y1 => wl_M_measure_33 (nI nc) B post n y0 y1) m (nI (24 * a + d + 1)) G := by
          intro q
          refine hk3 G ⟨g', b1, b2, fun x y hy hxy e1 => ?_⟩
          rcases Nat.lt_or_ge (24 * x + y) (24 * a + d) with e | e
          · exact b3 x y hy e e1
          · have e3 : x = a := by omega
            have e4 : y = d := by omega
            subst e3 e4
            exact q e1
        have ia : vp_in (nI a) 24 := vp_in_nI ha (by omega)
        have ib : vp_in (nI d) 24 := vp_in_nI hd (by omega)
        have ix : vp_in (nI (24 * a + d)) 576 := vp_in_nI (by omega) (by omega)
        have e1 : nI (24 * a + d) / 24 = nI a := by
          rw [show (24 : Int32) = nI 24 from rfl, pk_div (by omega) (by omega) (by omega)]
          congr 1
          omega
        have e2 : nI (24 * a + d) - nI a * 24 = nI d := by
          rw [show (24 : Int32) = nI 24 from rfl, pk_mul, pk_sub (by omega)]
          congr 1
          omega
        have hR := tab_isB ht ha hd
        obtain ⟨p1, p2, p3⟩ := b1 a ha
        obtain ⟨r1, r2, r3⟩ := b1 d hd
        unfold wl_M_measure_43
        refine pk_le 576 (24 * a + d) (fun z => absurd z (by omega)) (fun _ => ?_)
        rw [e1, e2, nI_clamp (show a < 2 ^ 31 by omega), nI_clamp (show d < 2 ^ 31 by omega), nI_clamp (show 24 * a + d < 2 ^ 31 by omega), nI_1, p1, r1, nI_1]
        refine ⟨ix, fun q => same (fun z => absurd z (isB_0 hR q)), fun q => ⟨ib, ia, pk_le (g' a) (g' d + 1) (fun z => same (fun _ => ?_)) (fun z => ⟨ib, ia, ?_⟩)⟩⟩
        · have := b2 d hd
          omega
        · have e5 : on_C O a d = true := on_mk ha (isB_1 hR q).2
          refine hk3 _ ⟨fun x => if x = a then g' d + 1 else g' x, fun x hx => ?_, fun x hx => ?_, fun x y hy hxy e3 => ?_⟩
          · dsimp only
            by_cases e : x = a
            · subst e
              rw [pk_us, if_pos rfl]
              exact ⟨rfl, by omega, fun _ => ⟨d, e5, r3 (by omega)⟩⟩
            · rw [pk_un e, if_neg e]; exact b1 x hx
          · show (if x = a then g' d + 1 else g' x) ≤ g x
            by_cases e : x = a
            · subst e
              rw [if_pos rfl]
              have := b2 x hx
              omega
            · rw [if_neg e]; exact b2 x hx
          · show (if x = a then g' d + 1 else g' x) ≤ g y + 1
            by_cases e : x = a
            · subst e
              rw [if_pos rfl]
              rcases Nat.lt_or_ge (24 * x + y) (24 * x + d) with e6 | e6
              · have := b3 x y hy e6 e3
                omega
              · have e4 : y = d := by omega
                subst e4
                have := b2 y hy
                omega
            · rw [if_neg e]
              exact b3 x y hy (by omega) e3
  unfold wp_M_measure
  refine loop_0 (fun n i (F : Nat → Int32) => wl_M_measure_2 (nI nc) B (nI b) post n (nI i) F) (fun i F => ∀ x, x < i → F x = if x = b then 0 else 99) 24 F0 (fun x z => absurd z (by omega)) ?_ ?_
  · intro n F hI
    show wl_M_measure_2 (nI nc) B (nI b) post (n + 1) (nI 24) F
    unfold wl_M_measure_2
    exact pk_le 24 24 (fun _ => rounds F (fun x hx => hI x hx)) (fun z => absurd z (by omega))
  · intro n i F hi hI hk
    show wl_M_measure_2 (nI nc) B (nI b) post (n + 1) (nI i) F
    have ii : vp_in (nI i) 24 := vp_in_nI hi (by omega)
    unfold wl_M_measure_2
    rw [nI_clamp (by omega), nI_1]
    refine pk_le 24 i (fun z => absurd z (by omega)) (fun _ => pk_eq i b (fun z => ⟨ii, hk _ (fun x hx => ?_)⟩) (fun z => ⟨ii, hk _ (fun x hx => ?_)⟩))
    · by_cases e : x = i
      · subst e; rw [pk_us, if_pos z]
      · rw [pk_un e]; exact hI x (by omega)
    · by_cases e : x = i
      · subst e; rw [pk_us, if_neg z]
      · rw [pk_un e]; exact hI x (by omega)
