/-! counting -/
def cnt (f : Nat → Bool) : Nat → Nat
  | 0 => 0
  | n + 1 => cnt f n + (if f n then 1 else 0)
theorem cnt_le (f : Nat → Bool) : ∀ n, cnt f n ≤ n := by
  intro n
  induction n with
  | zero => exact Nat.le_refl _
  | succ n ih =>
    show cnt f n + (if f n then 1 else 0) ≤ n + 1
    by_cases h : f n = true
    · rw [if_pos h]; omega
    · rw [if_neg h]; omega
theorem cnt_full {f : Nat → Bool} : ∀ {n : Nat}, n ≤ cnt f n → ∀ i, i < n → f i = true := by
  intro n
  induction n with
  | zero => intro _ i h; omega
  | succ n ih =>
    intro h i hi
    have h' : n + 1 ≤ cnt f n + (if f n then 1 else 0) := h
    have hl := cnt_le f n
    by_cases q : f n = true
    · rw [if_pos q] at h'
      rcases Nat.lt_or_ge i n with e | e
      · exact ih (by omega) i e
      · have e2 : i = n := by omega
        subst e2; exact q
    · rw [if_neg q] at h'; omega
theorem cnt_mono {f g : Nat → Bool} : ∀ {n : Nat}, (∀ c, c < n → f c = true → g c = true) → cnt f n ≤ cnt g n := by
  intro n
  induction n with
  | zero => intro _; exact Nat.le_refl _
  | succ n ih =>
    intro h
    have i := ih (fun c hc => h c (by omega))
    show cnt f n + (if f n then 1 else 0) ≤ cnt g n + (if g n then 1 else 0)
    by_cases q : f n = true
    · rw [if_pos q, if_pos (h n (by omega) q)]; omega
    · rw [if_neg q]; omega
theorem cnt_lt {f g : Nat → Bool} : ∀ {n : Nat}, (∀ c, c < n → f c = true → g c = true) → (∃ c, c < n ∧ g c = true ∧ ¬ f c = true) → cnt f n < cnt g n := by
  intro n
  induction n with
  | zero => rintro _ ⟨c, h, _⟩; omega
  | succ n ih =>
    rintro h ⟨c, hc, h1, h2⟩
    show cnt f n + (if f n then 1 else 0) < cnt g n + (if g n then 1 else 0)
    by_cases e : c = n
    · subst e
      have := cnt_mono (n := c) (fun d hd => h d (by omega))
      rw [if_neg h2, if_pos h1]; omega
    · have i := ih (fun d hd => h d (by omega)) ⟨c, by omega, h1, h2⟩
      by_cases q : f n = true
      · rw [if_pos q, if_pos (h n (by omega) q)]; omega
      · rw [if_neg q]; omega
theorem cnt_or {f g : Nat → Bool} {n : Nat} (h : ∀ c, c < n → f c = true → g c = true) : (∀ c, c < n → g c = true → f c = true) ∨ cnt f n < cnt g n := by
  by_cases q : ∃ c, c < n ∧ g c = true ∧ ¬ f c = true
  · exact Or.inr (cnt_lt h q)
  · exact Or.inl (fun c hc hg => Classical.byContradiction (fun z => q ⟨c, hc, hg, z⟩))
theorem cnt_pos {f : Nat → Bool} {n c : Nat} (hc : c < n) (h : f c = true) : 1 ≤ cnt f n := by
  have e : cnt (fun _ => false) n < cnt f n := cnt_lt (fun _ _ z => absurd z (by decide)) ⟨c, hc, h, by decide⟩
  omega
/-! what is held -/
def stn (D W : Nat → Int32) (dy : Int32) (s : Nat) : Prop := D s ≤ dy ∧ (W s = -1 ∨ dy < W s)
def hldP (E : Nat → Nat → Bool) (src : Nat → Prop) (c : Nat) : Prop := ∃ n d, stp E n c d ∧ src d
theorem hldP_all {E : Nat → Nat → Bool} {src F : Nat → Prop} (h1 : ∀ c, src c → F c) (h2 : ∀ a b, E a b = true → F b → F a) {c : Nat} (h : hldP E src c) : F c := by
  obtain ⟨n, d, q, hd⟩ := h
  induction n generalizing c with
  | zero => have e : c = d := q; subst e; exact h1 c hd
  | succ n ih =>
    obtain ⟨b, e1, e2⟩ := q
    exact h2 c b e1 (ih e2)
theorem hldP_src {E : Nat → Nat → Bool} {src : Nat → Prop} {c : Nat} (h : src c) : hldP E src c := ⟨0, c, rfl, h⟩
theorem hldP_on {E : Nat → Nat → Bool} {src : Nat → Prop} {a b : Nat} (h : E a b = true) (q : hldP E src b) : hldP E src a := by
  obtain ⟨n, d, q1, q2⟩ := q
  exact ⟨n + 1, d, ⟨b, h, q1⟩, q2⟩
theorem hldP_congr {E : Nat → Nat → Bool} {s1 s2 : Nat → Prop} (h : ∀ c, s1 c ↔ s2 c) {c : Nat} : hldP E s1 c ↔ hldP E s2 c :=
  ⟨fun ⟨n, d, q, r⟩ => ⟨n, d, q, (h d).mp r⟩, fun ⟨n, d, q, r⟩ => ⟨n, d, q, (h d).mpr r⟩⟩
theorem on_lt {A : Nat → Int32} {n : Nat} (h : rg A n n) {a b : Nat} (q : on_C A a b = true) : a < n ∧ b < n ∧ bt (A a) b = true ∧ a < 24 := by
  unfold on_C at q
  rw [Bool.and_eq_true, decide_eq_true_eq] at q
  exact ⟨(h a b q.1 q.2).1, (h a b q.1 q.2).2, q.2, q.1⟩
theorem on_mk {A : Nat → Int32} {a b : Nat} (h : a < 24) (q : bt (A a) b = true) : on_C A a b = true := by
  unfold on_C
  rw [decide_eq_true h, q]
  rfl
/-- a set grows by a bit -/
theorem bi_no {r : Int32} {i : Nat} {P : Nat → Prop} (h : ∀ s, bt r s = true ↔ s < i ∧ P s) (q : ¬ P i) : ∀ s, bt r s = true ↔ s < i + 1 ∧ P s := by
  intro s
  rw [h s]
  constructor
  · rintro ⟨a, b⟩; exact ⟨by omega, b⟩
  · rintro ⟨a, b⟩
    refine ⟨?_, b⟩
    rcases Nat.lt_or_ge s i with e | e
    · exact e
    · have e2 : s = i := by omega
      subst e2; exact absurd b q
theorem bi_yes {r : Int32} {i : Nat} {P : Nat → Prop} (hi : i < 32) (h : ∀ s, bt r s = true ↔ s < i ∧ P s) (q : P i) : ∀ s, bt (r ||| ((1 : Int32) <<< (nI i &&& 31))) s = true ↔ s < i + 1 ∧ P s := by
  intro s
  rw [bs_with hi, Bool.or_eq_true, decide_eq_true_eq, h s]
  constructor
  · rintro (⟨a, b⟩ | a)
    · exact ⟨by omega, b⟩
    · subst a; exact ⟨by omega, q⟩
  · rintro ⟨a, b⟩
    rcases Nat.lt_or_ge s i with e | e
    · exact Or.inl ⟨e, b⟩
    · exact Or.inr (by omega)
theorem cl_stand {K D W : Nat → Int32} {md dy : Int32} {ns : Nat} {post : Int32 → Prop} (hm : md = nI ns) (hn : ns ≤ 24) (h : ∀ r, (∀ s, bt r s = true ↔ s < ns ∧ stn D W dy s) → post r) : wp_S_standingOn K D W md dy post := by
  subst hm
  unfold wp_S_standingOn
  refine loop_0 (fun n i (r : Int32) => wl_S_standingOn_4 K D W (nI ns) dy post n r (nI i)) (fun i r => ∀ s, bt r s = true ↔ s < i ∧ stn D W dy s) ns 0 ?_ ?_ ?_
  · intro s
    rw [b_0]
    exact ⟨fun z => absurd z (by decide), fun z => absurd z.1 (by omega)⟩
  · intro n r hI
    show wl_S_standingOn_4 K D W (nI ns) dy post (n + 1) r (nI ns)
    unfold wl_S_standingOn_4
    exact pk_le ns ns (fun _ => h r hI) (fun z => absurd z (by omega))
  · intro n i r hi hI hk
    show wl_S_standingOn_4 K D W (nI ns) dy post (n + 1) r (nI i)
    have hk' : ∀ r', (∀ s, bt r' s = true ↔ s < i + 1 ∧ stn D W dy s) → wl_S_standingOn_4 K D W (nI ns) dy post n r' (nI (i + 1)) := hk
    unfold wl_S_standingOn_4
    refine pk_le ns i (fun z => absurd z (by omega)) (fun _ => ?_)
    have ii : vp_in (nI i) 24 := vp_in_nI (by omega) (by omega)
    rw [nI_clamp (by omega), nI_1]
    refine ⟨ii, fun q => hk' r (bi_no hI (fun z => ?_)), fun q => ?_⟩
    · exact pu_nlt.mpr z.1 q
    · unfold wp_S_isWithdrawn wp_X_with
      rw [nI_clamp (by omega)]
      refine ⟨ii, fun q2 => ⟨fun _ => hk' _ (bi_yes (by omega) hI ⟨pu_nlt.mp q, Or.inl q2⟩), fun z => absurd rfl z⟩, fun q2 => ⟨ii, fun q3 => ⟨fun _ => hk' _ (bi_yes (by omega) hI ⟨pu_nlt.mp q, Or.inr q3⟩), fun z => absurd rfl z⟩, fun q3 => ⟨fun z => absurd z (by decide), fun _ => hk' r (bi_no hI (fun z => ?_))⟩⟩⟩
      rcases z.2 with e | e
      · exact q2 e
      · exact q3 e
def srcC (S : Nat → Int32) (r : Int32) (c : Nat) : Prop := c < 24 ∧ ∃ s, bt (S c) s = true ∧ bt r s = true
theorem hld_lt {S O : Nat → Int32} {nc ns : Nat} {r : Int32} (h1 : rg S nc ns) (h2 : rg O nc nc) {c : Nat} (h : hldP (on_C O) (srcC S r) c) : c < nc :=
  hldP_all (F := fun c => c < nc) (fun c q => by obtain ⟨a, s, b, _⟩ := q; exact (h1 c s a b).1) (fun a b q _ => (on_lt h2 q).1) h
theorem cl_held {S O R RC ST : Nat → Int32} {md rl r : Int32} {nc ns : Nat} {post : Int32 → Prop} (hm : md = nI nc) (hn : nc ≤ 24) (h1 : rg S nc ns) (h2 : rg O nc nc) (h : ∀ x, (∀ c, bt x c = true ↔ hldP (on_C O) (srcC S r) c) → post x) : wp_C_heldBy S O R RC ST md rl r post := by
  subst hm
  unfold wp_C_heldBy
  refine loop_0 (fun n i (x : Int32) => wl_C_heldBy_4 S O (nI nc) r post n x (nI i)) (fun i x => (∀ c, bt x c = true → hldP (on_C O) (srcC S r) c) ∧ i ≤ cnt (bt x) nc) nc 0 ⟨fun c z => ?_, Nat.zero_le _⟩ ?_ ?_
  · rw [b_0] at z; exact absurd z (by decide)
  · rintro n x ⟨hI, hc⟩
    show wl_C_heldBy_4 S O (nI nc) r post (n + 1) x (nI nc)
    unfold wl_C_heldBy_4
    exact pk_le nc nc (fun _ => h x (fun c => ⟨hI c, fun q => cnt_full hc c (hld_lt h1 h2 q)⟩)) (fun z => absurd z (by omega))
  · rintro n i x hi ⟨hI, hc⟩ hk
    show wl_C_heldBy_4 S O (nI nc) r post (n + 1) x (nI i)
    have hk' : ∀ x', (∀ c, bt x' c = true → hldP (on_C O) (srcC S r) c) ∧ i + 1 ≤ cnt (bt x') nc → wl_C_heldBy_4 S O (nI nc) r post n x' (nI (i + 1)) := hk
    unfold wl_C_heldBy_4
    refine pk_le nc i (fun z => absurd z (by omega)) (fun _ => ?_)
    refine loop_0 (fun m k (y : Int32) => wl_C_heldBy_18 S O (nI nc) r (nI i) x post (fun y0 y1 => wl_C_heldBy_4 S O (nI nc) r post n y0 y1) m y (nI k)) (fun k y => (∀ c, bt y c = true → hldP (on_C O) (srcC S r) c) ∧ (∀ c, bt x c = true → bt y c = true) ∧ ∀ c, c < k → (srcC S r c ∨ ∃ d, bt (O c) d = true ∧ bt x d = true) → bt y c = true) nc x ⟨hI, fun _ z => z, fun c z => absurd z (by omega)⟩ ?_ ?_
    · rintro m y ⟨a1, a2, a3⟩
      show wl_C_heldBy_18 S O (nI nc) r (nI i) x post (fun y0 y1 => wl_C_heldBy_4 S O (nI nc) r post n y0 y1) (m + 1) y (nI nc)
      unfold wl_C_heldBy_18
      refine pk_le nc nc (fun _ => ⟨fun e => h y (fun c => ⟨a1 c, fun q => ?_⟩), fun e => ?_⟩) (fun z => absurd z (by omega))
      · subst e
        refine hldP_all (F := fun c => bt y c = true) (fun c q => ?_) (fun a b q1 q2 => ?_) q
        · exact a3 c (hld_lt h1 h2 (hldP_src q)) (Or.inl q)
        · obtain ⟨e1, e2, e3, e4⟩ := on_lt h2 q1
          exact a3 a e1 (Or.inr ⟨b, e3, q2⟩)
      · rw [nI_1]
        refine hk' y ⟨a1, ?_⟩
        rcases cnt_or (n := nc) (fun c _ => a2 c) with q | q
        · exfalso
          refine e (b_ext (fun c _ => ?_))
          cases e1 : bt y c with
          | false =>
            cases e2 : bt x c with
            | false => rfl
            | true => rw [a2 c e2] at e1; exact e1.symm
          | true => rw [q c (hld_lt h1 h2 (a1 c e1)) e1]
        · omega
    · rintro m k y hkn ⟨a1, a2, a3⟩ hk2
      show wl_C_heldBy_18 S O (nI nc) r (nI i) x post (fun y0 y1 => wl_C_heldBy_4 S O (nI nc) r post n y0 y1) (m + 1) y (nI k)
      have hk3 : ∀ y', (∀ c, bt y' c = true → hldP (on_C O) (srcC S r) c) ∧ (∀ c, bt x c = true → bt y' c = true) ∧ (∀ c, c < k + 1 → (srcC S r c ∨ ∃ d, bt (O c) d = true ∧ bt x d = true) → bt y' c = true) → wl_C_heldBy_18 S O (nI nc) r (nI i) x post (fun y0 y1 => wl_C_heldBy_4 S O (nI nc) r post n y0 y1) m y' (nI (k + 1)) := hk2
      have ik : vp_in (nI k) 24 := vp_in_nI (by omega) (by omega)
      have add : hldP (on_C O) (srcC S r) k → wl_C_heldBy_18 S O (nI nc) r (nI i) x post (fun y0 y1 => wl_C_heldBy_4 S O (nI nc) r post n y0 y1) m (y ||| ((1 : Int32) <<< (nI k &&& 31))) (nI (k + 1)) := by
        intro hh
        refine hk3 _ ⟨fun c q => ?_, fun c q => ?_, fun c hc q => ?_⟩
        · rw [bs_with (by omega), Bool.or_eq_true, decide_eq_true_eq] at q
          rcases q with q | q
          · exact a1 c q
          · subst q; exact hh
        · rw [bs_with (by omega), a2 c q]; rfl
        · rw [bs_with (by omega), Bool.or_eq_true, decide_eq_true_eq]
          rcases Nat.lt_or_ge c k with e | e
          · exact Or.inl (a3 c e q)
          · exact Or.inr (by omega)
      unfold wl_C_heldBy_18 wp_X_with
      refine pk_le nc k (fun z => absurd z (by omega)) (fun _ => ?_)
      rw [nI_clamp (by omega), nI_1]
      refine ⟨ik, fun q => ⟨ik, fun q2 => hk3 y ⟨a1, a2, fun c hc q3 => ?_⟩, fun q2 => ?_⟩, fun q => ?_⟩
      · rcases Nat.lt_or_ge c k with e | e
        · exact a3 c e q3
        · have e2 : c = k := by omega
          subst e2
          exfalso
          rcases q3 with ⟨_, s, e3, e4⟩ | ⟨d, e3, e4⟩
          · exact bs_any.mp q s e3 e4
          · exact bs_any.mp q2 d e3 (a2 d e4)
      · obtain ⟨d, e3, e4⟩ := bs_nany.mp q2
        exact add (hldP_on (on_mk (by omega) e3) (a1 d e4))
      · obtain ⟨d, e3, e4⟩ := bs_nany.mp q
        exact add (hldP_src ⟨by omega, d, e3, e4⟩)
