/-! agreed: the class's road and the reference's -/
def lexm (f : Nat → Bool) (r d : Nat → Nat) (n p0 : Nat) : Prop := p0 < n ∧ f p0 = true ∧ ∀ p, p < n → f p = true → r p < r p0 ∨ (r p = r p0 ∧ d p ≤ d p0)
theorem ex_lex (f : Nat → Bool) (r d : Nat → Nat) : ∀ n, (∀ p, p < n → f p = false) ∨ ∃ p0, lexm f r d n p0 := by
  intro n
  induction n with
  | zero => exact Or.inl (fun p h => absurd h (by omega))
  | succ n ih =>
    cases e : f n with
    | false =>
      rcases ih with a | ⟨p0, a, b, c⟩
      · refine Or.inl (fun p hp => ?_)
        by_cases e2 : p = n
        · subst e2; exact e
        · exact a p (by omega)
      · refine Or.inr ⟨p0, by omega, b, fun p hp hf => ?_⟩
        by_cases e2 : p = n
        · subst e2; rw [e] at hf; exact absurd hf (by decide)
        · exact c p (by omega) hf
    | true =>
      rcases ih with a | ⟨p0, a, b, c⟩
      · refine Or.inr ⟨n, by omega, e, fun p hp hf => ?_⟩
        by_cases e2 : p = n
        · subst e2; exact Or.inr ⟨rfl, Nat.le_refl _⟩
        · rw [a p (by omega)] at hf; exact absurd hf (by decide)
      · by_cases q : r p0 < r n ∨ (r p0 = r n ∧ d p0 < d n)
        · refine Or.inr ⟨n, by omega, e, fun p hp hf => ?_⟩
          by_cases e2 : p = n
          · subst e2; exact Or.inr ⟨rfl, Nat.le_refl _⟩
          · have := c p (by omega) hf
            omega
        · refine Or.inr ⟨p0, by omega, b, fun p hp hf => ?_⟩
          by_cases e2 : p = n
          · subst e2; omega
          · exact c p (by omega) hf
def Qf (f : Nat → Bool) (r d : Nat → Nat) (ru : Int32) (p0 p : Nat) : Bool := f p && (decide (ru ≠ 1) || (decide (r p = r p0) && decide (d p = d p0)))
def gf (f : Nat → Bool) (v r d : Nat → Nat) (ru : Int32) (p0 n x : Nat) : Nat := if ru = 0 then hc (Qf f r d ru p0) v n x else if 0 < hc (Qf f r d ru p0) v n x then 1 else 0
def agv (f : Nat → Bool) (v r d : Nat → Nat) (ru : Int32) (p0 : Nat) : Int32 := (sc (gf f v r d ru p0 32) (-2) 100).2
def isV (f : Nat → Bool) (v r d : Nat → Nat) (ru X : Int32) : Prop := ((∀ p, p < 32 → f p = false) ∧ X = -1) ∨ ∃ p0, lexm f r d 32 p0 ∧ X = agv f v r d ru p0
theorem Qf_eq {f : Nat → Bool} {r d : Nat → Nat} {ru : Int32} {p0 p1 : Nat} (h1 : lexm f r d 32 p0) (h2 : lexm f r d 32 p1) : Qf f r d ru p0 = Qf f r d ru p1 := by
  obtain ⟨a1, a2, a3⟩ := h1
  obtain ⟨b1, b2, b3⟩ := h2
  have e1 := a3 p1 b1 b2
  have e2 := b3 p0 a1 a2
  have e3 : r p0 = r p1 := by omega
  have e4 : d p0 = d p1 := by omega
  funext p
  unfold Qf
  rw [e3, e4]
theorem isV_eq {f : Nat → Bool} {v r d : Nat → Nat} {ru X Y : Int32} (h1 : isV f v r d ru X) (h2 : isV f v r d ru Y) : X = Y := by
  rcases h1 with ⟨a1, a2⟩ | ⟨p0, a1, a2⟩
  · rcases h2 with ⟨b1, b2⟩ | ⟨p1, b1, b2⟩
    · rw [a2, b2]
    · have := a1 p1 b1.1
      rw [b1.2.1] at this
      exact absurd this (by decide)
  · rcases h2 with ⟨b1, b2⟩ | ⟨p1, b1, b2⟩
    · have := b1 p0 a1.1
      rw [a1.2.1] at this
      exact absurd this (by decide)
    · rw [a2, b2]
      unfold agv gf
      rw [Qf_eq a1 b1]
theorem gf_le (f : Nat → Bool) (v r d : Nat → Nat) (ru : Int32) (p0 n x : Nat) (hn : n ≤ 32) : gf f v r d ru p0 n x ≤ 1000 := by
  unfold gf
  have := hc_le (Qf f r d ru p0) v n x
  by_cases e : ru = 0
  · rw [if_pos e]; omega
  · rw [if_neg e]
    by_cases e2 : 0 < hc (Qf f r d ru p0) v n x
    · rw [if_pos e2]; omega
    · rw [if_neg e2]; omega
/-- those whose rank and day are the greatest -/
theorem com_h0 {f : Nat → Bool} {v r d : Nat → Nat} {ru : Int32} {p0 : Nat} (h0 : ¬ ru = 0) (h : lexm f r d 32 p0) (hv : ∀ p, p < 32 → f p = true → v p < 100) :
    (¬ ∀ p, p < 32 → Qf f r d ru p0 p = false) ∧ (∀ p, p < 32 → Qf f r d ru p0 p = true → (∀ q, q < 32 → Qf f r d ru p0 q = true → v q = v p) → agv f v r d ru p0 = nI (v p)) ∧ (∀ p q, p < 32 → q < 32 → Qf f r d ru p0 p = true → Qf f r d ru p0 q = true → v p ≠ v q → agv f v r d ru p0 = -2) := by
  have hQf : ∀ p, Qf f r d ru p0 p = true → f p = true := fun p z => by
    unfold Qf at z
    rw [Bool.and_eq_true] at z
    exact z.1
  have g1 : ∀ x, gf f v r d ru p0 32 x = 1 ↔ ∃ p, p < 32 ∧ Qf f r d ru p0 p = true ∧ v p = x := fun x => by
    rw [← hc_pos]
    unfold gf
    rw [if_neg h0]
    by_cases e : 0 < hc (Qf f r d ru p0) v 32 x
    · rw [if_pos e]; exact ⟨fun _ => e, fun _ => rfl⟩
    · rw [if_neg e]; exact ⟨fun z => absurd z (by omega), fun z => absurd z e⟩
  have g2 : ∀ x, gf f v r d ru p0 32 x ≤ 1 := fun x => by
    unfold gf
    rw [if_neg h0]
    by_cases e : 0 < hc (Qf f r d ru p0) v 32 x
    · rw [if_pos e]; omega
    · rw [if_neg e]; omega
  refine ⟨fun z => ?_, fun p hp hq hall => ?_, fun p q hp hq h1 h2 hne => ?_⟩
  · have e := z p0 h.1
    unfold Qf at e
    rw [h.2.1, decide_eq_true rfl, decide_eq_true rfl] at e
    cases w : decide (ru ≠ 1)
    · rw [w] at e; exact absurd e (by decide)
    · rw [w] at e; exact absurd e (by decide)
  · have lp := hv p hp (hQf p hq)
    rcases sc_01 (a := -2) g2 100 with ⟨a, _⟩ | ⟨x, a1, a2, a3, a4⟩ | ⟨⟨x, y, a1, a2, a3, a4, a5⟩, _⟩
    · have := a (v p) lp
      have := (g1 (v p)).mpr ⟨p, hp, hq, rfl⟩
      omega
    · have e := a3 (v p) lp ((g1 (v p)).mpr ⟨p, hp, hq, rfl⟩)
      unfold agv
      rw [a4, e]
    · obtain ⟨p1, b1, b2, b3⟩ := (g1 x).mp a4
      obtain ⟨p2, c1, c2, c3⟩ := (g1 y).mp a5
      have := hall p1 b1 b2
      have := hall p2 c1 c2
      omega
  · have lp := hv p hp (hQf p h1)
    have lq := hv q hq (hQf q h2)
    have e1 := (g1 (v p)).mpr ⟨p, hp, h1, rfl⟩
    have e2 := (g1 (v q)).mpr ⟨q, hq, h2, rfl⟩
    rcases sc_01 (a := -2) g2 100 with ⟨a, _⟩ | ⟨x, a1, a2, a3, a4⟩ | ⟨_, a4⟩
    · have := a (v p) lp
      omega
    · have := a3 (v p) lp e1
      have := a3 (v q) lq e2
      omega
    · unfold agv
      rw [a4]
theorem cl_value {P C V R K Ta W : Nat → Int32} {md ru : Int32} {f : Nat → Bool} {v r d : Nat → Nat} {post : Int32 → (Nat → Int32) → Prop} (hK : pinf K V R W f v r d) (hr : ∃ k, k ≤ 2 ∧ ru = nI k) (h : ∀ X T, isV f v r d ru X → post X T) : wp_O_valueBy P C W V R K Ta md ru post := by
  have hv : ∀ p, p < 32 → f p = true → v p < 100 := fun p hp hf => by
    rcases hK p hp with ⟨z1, _⟩ | ⟨_, _, _, _, _, _, _, z6, _⟩
    · rw [hf] at z1; exact absurd z1 (by decide)
    · exact z6
  have hrd : ∀ p, p < 32 → f p = true → r p ≤ 9 ∧ d p ≤ 100000 := fun p hp hf => by
    rcases hK p hp with ⟨z1, _⟩ | ⟨_, _, _, _, _, _, _, _, z7, z8⟩
    · rw [hf] at z1; exact absurd z1 (by decide)
    · exact ⟨z7, z8⟩
  have tf : ∀ p, f p = true → f p = false → False := fun p a b => by rw [a] at b; exact absurd b (by decide)
  unfold wp_O_valueBy wp_O_valueOfGreatestRank
  rcases ex_lex f r d 32 with none9 | ⟨p0, hp0⟩
  · have hm : ∀ (Y : Int32) (T : Nat → Int32), Y = -1 → post Y T := fun Y T e => h Y T (Or.inl ⟨none9, e⟩)
    refine ⟨fun e => cl_grank hK (fun m _ => cl_gday hK (fun m2 _ => cl_common (Q := fun _ => false) hK (fun p hp => ⟨fun z => absurd z (by decide), fun z => absurd z.1 (fun z2 => tf p z2 (none9 p hp))⟩) (fun _ => hm _ _ rfl) (fun p hp z => absurd z (by decide)) (fun p q hp hq z => absurd z (by decide)))), fun e => ⟨fun e2 => cl_common (Q := fun _ => false) hK (fun p hp => ⟨fun z => absurd z (by decide), fun z => absurd z.1 (fun z2 => tf p z2 (none9 p hp))⟩) (fun _ => hm _ _ rfl) (fun p hp z => absurd z (by decide)) (fun p q hp hq z => absurd z (by decide)), fun e2 => cl_tally hK (fun T => hm _ _ ?_)⟩⟩
    rw [sc_0 100 (fun x hx => ?_)]
    have e9 : ¬ 0 < hc f v 32 x := fun z => by
      obtain ⟨p, a, b, _⟩ := hc_pos.mp z
      exact tf p b (none9 p a)
    omega
  · have hX : ∀ (Y : Int32) (T : Nat → Int32), Y = agv f v r d ru p0 → post Y T := fun Y T e => h Y T (Or.inr ⟨p0, hp0, e⟩)
    obtain ⟨l1, l2, l3⟩ := id hp0
    obtain ⟨b1, b2⟩ := hrd p0 l1 l2
    refine ⟨fun e => cl_grank hK (fun m hm => ?_), fun e => ⟨fun e2 => ?_, fun e2 => cl_tally hK (fun T => hX _ _ ?_)⟩⟩
    · subst e
      obtain ⟨k1, k2, k3⟩ := com_h0 (ru := 1) (v := v) (by decide) hp0 hv
      have em : m = nI (r p0) := by
        rcases hm with ⟨a, _⟩ | ⟨p1, a1, a2, a3, a4⟩
        · exact absurd (a p0 l1) (fun z => tf p0 l2 z)
        · have e1 := a4 p0 l1 l2
          have e2 := l3 p1 a1 a2
          rw [a3]
          congr 1
          omega
      subst em
      refine cl_gday hK (fun m2 hm2 => ?_)
      have em2 : m2 = nI (d p0) := by
        rcases hm2 with ⟨a, _⟩ | ⟨p1, a1, a2, a3, a4⟩
        · have z : (f p0 && decide (nI (r p0) = nI (r p0))) = false := a p0 l1
          rw [l2, decide_eq_true rfl] at z
          exact absurd z (by decide)
        · rw [Bool.and_eq_true, decide_eq_true_eq] at a2
          have hr1 := (hrd p1 a1 a2.1).1
          have e0 : r p1 = r p0 := (nI_eq (by omega) (by omega)).mp a2.2
          have e1 := a4 p0 l1 (show (f p0 && decide (nI (r p0) = nI (r p0))) = true by rw [l2, decide_eq_true rfl]; rfl)
          have e2 := l3 p1 a1 a2.1
          rw [a3]
          congr 1
          omega
      subst em2
      refine cl_common (Q := Qf f r d 1 p0) hK (fun p hp => ?_) (fun z => absurd z k1) (fun p hp q1 q2 => hX _ _ (k2 p hp q1 q2).symm) (fun p q hp hq q1 q2 q3 => hX _ _ (k3 p q hp hq q1 q2 q3).symm)
      unfold Qf
      rw [Bool.and_eq_true, Bool.or_eq_true, Bool.and_eq_true, decide_eq_true_eq, decide_eq_true_eq, decide_eq_true_eq]
      constructor
      · rintro ⟨a1, a2⟩
        obtain ⟨c1, c2⟩ := hrd p hp a1
        rcases a2 with a2 | ⟨a2, a3⟩
        · exact absurd rfl a2
        · rw [a2, a3]
          exact ⟨a1, nI_nlt (by omega) (by omega), nI_nlt (by omega) (by omega)⟩
      · rintro ⟨a1, a2, a3⟩
        obtain ⟨c1, c2⟩ := hrd p hp a1
        rw [nI_ltI (by omega) (by omega)] at a2 a3
        have := l3 p hp a1
        exact ⟨a1, Or.inr ⟨by omega, by omega⟩⟩
    · subst e2
      obtain ⟨k1, k2, k3⟩ := com_h0 (ru := 2) (v := v) (by decide) hp0 hv
      refine cl_common (Q := Qf f r d 2 p0) hK (fun p hp => ?_) (fun z => absurd z k1) (fun p hp q1 q2 => hX _ _ (k2 p hp q1 q2).symm) (fun p q hp hq q1 q2 q3 => hX _ _ (k3 p q hp hq q1 q2 q3).symm)
      unfold Qf
      rw [Bool.and_eq_true]
      constructor
      · rintro ⟨a1, a2⟩
        obtain ⟨c1, c2⟩ := hrd p hp a1
        refine ⟨a1, fun z => ?_, fun z => ?_⟩
        · rw [pu_lt, nI_toInt (by omega)] at z
          have e1 : (-1 : Int32).toInt = -1 := by decide
          omega
        · rw [pu_lt, nI_toInt (by omega)] at z
          have e1 : (-1 : Int32).toInt = -1 := by decide
          omega
      · rintro ⟨a1, _⟩
        refine ⟨a1, ?_⟩
        rw [decide_eq_true (show (2 : Int32) ≠ 1 by decide)]
        rfl
    · have e0 : ru = 0 := by
        obtain ⟨k, hk, rfl⟩ := hr
        have : k = 0 ∨ k = 1 ∨ k = 2 := by omega
        rcases this with rfl | rfl | rfl
        · rfl
        · exact absurd rfl e
        · exact absurd rfl e2
      subst e0
      have eg : gf f v r d 0 p0 32 = hc f v 32 := by
        funext x
        unfold gf
        rw [if_pos rfl]
        unfold hc
        refine cnt_congr (fun p _ => ?_)
        unfold Qf
        rw [decide_eq_true (show (0 : Int32) ≠ 1 by decide), Bool.true_or, Bool.and_true]
      unfold agv
      rw [eg]
      rcases sc_two (g := hc f v 32) (a := -1) (b := -2) 100 with ⟨_, z | z⟩
      · exact z
      · have z1 := sc_ge (g := hc f v 32) (a := -1) 100 (v p0) (hv p0 l1 l2)
        have z2 : 0 < hc f v 32 (v p0) := hc_pos.mpr ⟨p0, l1, l2, rfl⟩
        omega
