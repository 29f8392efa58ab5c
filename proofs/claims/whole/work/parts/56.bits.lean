/-! sets: the bits of a number -/
theorem bs_one : ∀ k, k < 32 → ∀ i, i < 32 → bt ((1 : Int32) <<< (nI k &&& 31)) i = decide (i = k) := by decide +kernel
theorem bs_with {x : Int32} {k : Nat} (hk : k < 32) (i : Nat) : bt (x ||| ((1 : Int32) <<< (nI k &&& 31))) i = (bt x i || decide (i = k)) := by
  rcases Nat.lt_or_ge i 32 with h | h
  · rw [b_or, bs_one k hk i h]
  · rw [b_big h, b_big h, decide_eq_false (by omega)]; rfl
theorem bs_wout {x : Int32} {k : Nat} (hk : k < 32) (i : Nat) : bt (x &&& (((1 : Int32) <<< (nI k &&& 31)) ^^^ (-1 : Int32))) i = (bt x i && !decide (i = k)) := by
  rcases Nat.lt_or_ge i 32 with h | h
  · rw [b_and, b_xor, bs_one k hk i h, b_m1 i h]
    cases bt x i <;> cases decide (i = k) <;> rfl
  · rw [b_big h, b_big h]; rfl
theorem bs_has {x : Int32} {k : Nat} (hk : k < 32) : (x &&& ((1 : Int32) <<< (nI k &&& 31))) = 0 ↔ bt x k = false := by
  constructor
  · intro h
    have e : bt (x &&& ((1 : Int32) <<< (nI k &&& 31))) k = bt 0 k := by rw [h]
    rw [b_and, bs_one k hk k hk, b_0, decide_eq_true rfl, Bool.and_true] at e
    exact e
  · intro h
    refine b_ext (fun i hi => ?_)
    rw [b_and, bs_one k hk i hi, b_0]
    by_cases q : i = k
    · subst q; rw [h]; rfl
    · rw [decide_eq_false q, Bool.and_false]
theorem bs_any {x y : Int32} : (x &&& y) = 0 ↔ ∀ i, bt x i = true → bt y i = true → False := by
  constructor
  · intro h i a b
    have e : bt (x &&& y) i = bt 0 i := by rw [h]
    rw [b_and, a, b, b_0] at e
    exact absurd e (by decide)
  · intro h
    refine b_ext (fun i _ => ?_)
    rw [b_and, b_0]
    cases a : bt x i <;> cases b : bt y i <;> first | rfl | exact (h i a b).elim
theorem bs_nany {x y : Int32} : ¬ (x &&& y) = 0 ↔ ∃ i, bt x i = true ∧ bt y i = true := by
  rw [bs_any]
  constructor
  · intro h
    exact Classical.byContradiction (fun q => h (fun i a b => q ⟨i, a, b⟩))
  · rintro ⟨i, a, b⟩ h
    exact h i a b
theorem bt_lt {x : Int32} {i : Nat} (h : bt x i = true) : i < 32 := by
  rcases Nat.lt_or_ge i 32 with q | q
  · exact q
  · rw [b_big q] at h; exact absurd h (by decide)
theorem sp_has {x : Int32} {k : Nat} {post : Int32 → Prop} (hk : k < 32) (h1 : bt x k = true → post 1) (h0 : bt x k = false → post 0) : wp_X_contains x (nI k) post := by
  unfold wp_X_contains
  rw [bs_has hk]
  exact ⟨h0, fun q => h1 (by cases e : bt x k with | false => exact absurd e q | true => rfl)⟩
def set1 (x : Int32) (s : Nat) (b : Int32) : Int32 := if b = 0 then x &&& (((1 : Int32) <<< (nI s &&& 31)) ^^^ (-1 : Int32)) else x ||| ((1 : Int32) <<< (nI s &&& 31))
theorem set1_bt {x b : Int32} {s : Nat} (hs : s < 32) (i : Nat) : bt (set1 x s b) i = if i = s then decide (b ≠ 0) else bt x i := by
  unfold set1
  by_cases hb : b = 0
  · rw [if_pos hb, bs_wout hs]
    by_cases e : i = s
    · rw [if_pos e, decide_eq_true e, decide_eq_false (fun z => z hb)]; cases bt x i <;> rfl
    · rw [if_neg e, decide_eq_false e]; cases bt x i <;> rfl
  · rw [if_neg hb, bs_with hs]
    by_cases e : i = s
    · rw [if_pos e, decide_eq_true e, decide_eq_true hb]; cases bt x i <;> rfl
    · rw [if_neg e, decide_eq_false e]; cases bt x i <;> rfl
theorem set1_eq {x b : Int32} {s : Nat} (hs : s < 32) : set1 x s b = x ↔ bt x s = decide (b ≠ 0) := by
  constructor
  · intro h
    have e := set1_bt (x := x) (b := b) hs s
    rw [h, if_pos rfl] at e
    exact e
  · intro h
    refine b_ext (fun i hi => ?_)
    rw [set1_bt hs]
    by_cases e : i = s
    · rw [if_pos e, e, h]
    · rw [if_neg e]
def tab (A B : Nat → Int32) : Prop := ∀ c s, c < 24 → s < 24 → B (24 * c + s) = if bt (A c) s then 1 else 0
def rg (A : Nat → Int32) (n m : Nat) : Prop := ∀ c s, c < 24 → bt (A c) s = true → c < n ∧ s < m
theorem tab_set {A B : Nat → Int32} (h : tab A B) {c s : Nat} (hc : c < 24) (hs : s < 24) {b : Int32} (hb : b = 0 ∨ b = 1) : tab (upd A c (set1 (A c) s b)) (upd B (24 * c + s) b) := by
  intro c' s' hc' hs'
  by_cases e : c' = c
  · subst e
    rw [pk_us, set1_bt (by omega)]
    by_cases e2 : s' = s
    · subst e2
      rw [pk_us, if_pos rfl]
      rcases hb with rfl | rfl <;> rfl
    · rw [pk_un (by omega), if_neg e2]
      exact h c' s' hc' hs'
  · rw [pk_un e, pk_un (by omega)]
    exact h c' s' hc' hs'
theorem rg_set {A : Nat → Int32} {n m : Nat} (h : rg A n m) {c s : Nat} (hc : c < n) (hs : s < m) (hs2 : s < 32) {b : Int32} : rg (upd A c (set1 (A c) s b)) n m := by
  intro c' s' hc' q
  by_cases e : c' = c
  · subst e
    rw [pk_us, set1_bt hs2] at q
    by_cases e2 : s' = s
    · subst e2; exact ⟨hc, hs⟩
    · rw [if_neg e2] at q
      exact h c' s' hc' q
  · rw [pk_un e] at q
    exact h c' s' hc' q
theorem tab_eq {A B : Nat → Int32} (h : tab A B) {c s : Nat} (hc : c < 24) (hs : s < 24) {b : Int32} (hb : b = 0 ∨ b = 1) : B (24 * c + s) = b ↔ bt (A c) s = decide (b ≠ 0) := by
  rw [h c s hc hs]
  rcases hb with rfl | rfl <;> cases bt (A c) s <;> decide
theorem pu_nb {b : Int32} (hb : b = 0 ∨ b = 1) : vp_nar .boolean b = b := by rcases hb with rfl | rfl <;> rfl
theorem pu_nbn {b : Int32} (hb : b = 0 ∨ b = 1) : narrow .boolean (.int b) = .int b := by rcases hb with rfl | rfl <;> rfl
theorem tab_01 {A B : Nat → Int32} (h : tab A B) {c s : Nat} (hc : c < 24) (hs : s < 24) : B (24 * c + s) = 0 ∨ B (24 * c + s) = 1 := by
  rw [h c s hc hs]
  cases bt (A c) s
  · exact Or.inl rfl
  · exact Or.inr rfl
theorem pu_24 {c s : Nat} : (24 : Int32) * nI c + nI s = nI (24 * c + s) := by rw [show (24 : Int32) = nI 24 from rfl, pk_mul, nI_add]
theorem cl_setS {A B C D E : Nat → Int32} {x y x3 : Int32} {c s : Nat} {post : Int32 → (Nat → Int32) → Prop} (hc : c < 24) (hs : s < 24) (h0 : bt (A c) s = decide (x3 ≠ 0) → post 0 (upd A c (set1 (A c) s x3))) (h1 : ¬ bt (A c) s = decide (x3 ≠ 0) → post 1 (upd A c (set1 (A c) s x3))) : wp_C_setSource A B C D E x y (nI c) (nI s) x3 post := by
  have ic : vp_in (nI c) 24 := vp_in_nI hc (by omega)
  unfold wp_C_setSource wp_X_without wp_X_with
  rw [← set1_eq (by omega)] at h0 h1
  simp only [nI_clamp (show c < 2 ^ 31 by omega), pk_us]
  have e0 : x3 = 0 → set1 (A c) s x3 = (A c) &&& (((1 : Int32) <<< (nI s &&& 31)) ^^^ (-1 : Int32)) := fun z => if_pos z
  have e1 : ¬ x3 = 0 → set1 (A c) s x3 = (A c) ||| ((1 : Int32) <<< (nI s &&& 31)) := fun z => if_neg z
  refine ⟨ic, fun z => ?_, fun z => ?_⟩
  · rw [← e0 z]; exact ⟨ic, ic, h0, h1⟩
  · rw [← e1 z]; exact ⟨ic, ic, h0, h1⟩
theorem cl_setO {A B C D E : Nat → Int32} {x y x3 : Int32} {c s : Nat} {post : Int32 → (Nat → Int32) → Prop} (hc : c < 24) (hs : s < 24) (h0 : bt (A c) s = decide (x3 ≠ 0) → post 0 (upd A c (set1 (A c) s x3))) (h1 : ¬ bt (A c) s = decide (x3 ≠ 0) → post 1 (upd A c (set1 (A c) s x3))) : wp_C_setOther B A C D E x y (nI c) (nI s) x3 post := by
  have ic : vp_in (nI c) 24 := vp_in_nI hc (by omega)
  unfold wp_C_setOther wp_X_without wp_X_with
  rw [← set1_eq (by omega)] at h0 h1
  simp only [nI_clamp (show c < 2 ^ 31 by omega), pk_us]
  have e0 : x3 = 0 → set1 (A c) s x3 = (A c) &&& (((1 : Int32) <<< (nI s &&& 31)) ^^^ (-1 : Int32)) := fun z => if_pos z
  have e1 : ¬ x3 = 0 → set1 (A c) s x3 = (A c) ||| ((1 : Int32) <<< (nI s &&& 31)) := fun z => if_neg z
  refine ⟨ic, fun z => ?_, fun z => ?_⟩
  · rw [← e0 z]; exact ⟨ic, ic, h0, h1⟩
  · rw [← e1 z]; exact ⟨ic, ic, h0, h1⟩
/-! steps from claim to claim -/
theorem stp_mono {E E' : Nat → Nat → Bool} (h : ∀ x y, E x y = true → E' x y = true) : ∀ {n a b : Nat}, stp E n a b → stp E' n a b := by
  intro n
  induction n with
  | zero => intro a b q; exact q
  | succ n ih =>
    rintro a b ⟨c, q1, q2⟩
    exact ⟨c, h a c q1, ih q2⟩
theorem stp_add {E : Nat → Nat → Bool} : ∀ {m n a b c : Nat}, stp E m a b → stp E n b c → stp E (m + n) a c := by
  intro m
  induction m with
  | zero => intro n a b c q r; rw [Nat.zero_add]; have e : a = b := q; subst e; exact r
  | succ m ih =>
    rintro n a b c ⟨d, q1, q2⟩ r
    rw [Nat.succ_add]
    exact ⟨d, q1, ih q2 r⟩
theorem on_lift {A : Nat → Int32} {c s : Nat} (hs : s < 32) {x y : Nat} (h : on_C (upd A c (set1 (A c) s 0)) x y = true) : on_C A x y = true := by
  unfold on_C at h ⊢
  by_cases e : x = c
  · subst e
    rw [pk_us, set1_bt hs] at h
    by_cases e2 : y = s
    · rw [if_pos e2] at h
      simp at h
    · rw [if_neg e2] at h
      exact h
  · rw [pk_un e] at h
    exact h
theorem on_add {A : Nat → Int32} {c s : Nat} (hs : s < 32) {x y : Nat} (h : on_C (upd A c (set1 (A c) s 1)) x y = true) : on_C A x y = true ∨ (x = c ∧ y = s) := by
  unfold on_C at h ⊢
  by_cases e : x = c
  · subst e
    rw [pk_us, set1_bt hs] at h
    by_cases e2 : y = s
    · exact Or.inr ⟨rfl, e2⟩
    · rw [if_neg e2] at h
      exact Or.inl h
  · rw [pk_un e] at h
    exact Or.inl h
theorem stp_split {E E' : Nat → Nat → Bool} {c o : Nat} (h : ∀ x y, E' x y = true → E x y = true ∨ (x = c ∧ y = o)) : ∀ {n a b : Nat}, stp E' n a b → stp E n a b ∨ ∃ p q, stp E p a c ∧ stp E q o b := by
  intro n
  induction n with
  | zero => intro a b q; exact Or.inl q
  | succ n ih =>
    rintro a b ⟨d, q1, q2⟩
    rcases h a d q1 with e | ⟨rfl, rfl⟩
    · rcases ih q2 with r | ⟨p, q, r1, r2⟩
      · exact Or.inl ⟨d, e, r⟩
      · exact Or.inr ⟨p + 1, q, ⟨d, e, r1⟩, r2⟩
    · rcases ih q2 with r | ⟨p, q, r1, r2⟩
      · exact Or.inr ⟨0, n, rfl, r⟩
      · exact Or.inr ⟨0, q, rfl, r2⟩
theorem acy_add {E E' : Nat → Nat → Bool} {c o : Nat} (h : ∀ x y, E' x y = true → E x y = true ∨ (x = c ∧ y = o)) (ha : ∀ n a, ¬ stp E (n + 1) a a) (hn : ∀ n, ¬ stp E n o c) (n a : Nat) : ¬ stp E' (n + 1) a a := by
  intro q
  rcases stp_split h q with r | ⟨p, q, r1, r2⟩
  · exact ha n a r
  · exact hn _ (stp_add r2 r1)
