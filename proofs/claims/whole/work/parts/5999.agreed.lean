/-! the reference's agreedOn; dissent -/
theorem lexm_keep {f : Nat → Bool} {r d : Nat → Nat} {n p0 : Nat} (h : lexm f r d n p0) (q : f n = true → r n < r p0 ∨ (r n = r p0 ∧ d n ≤ d p0)) : lexm f r d (n + 1) p0 := by
  obtain ⟨a, b, c⟩ := h
  refine ⟨by omega, b, fun p hp hf => ?_⟩
  by_cases e : p = n
  · subst e; exact q hf
  · exact c p (by omega) hf
theorem lexm_new {f : Nat → Bool} {r d : Nat → Nat} {n : Nat} (h : f n = true) (q : ∀ p, p < n → f p = true → r p < r n ∨ (r p = r n ∧ d p ≤ d n)) : lexm f r d (n + 1) n := by
  refine ⟨by omega, h, fun p hp hf => ?_⟩
  by_cases e : p = n
  · subst e; exact Or.inr ⟨rfl, Nat.le_refl _⟩
  · exact q p (by omega) hf
theorem gf_no {f : Nat → Bool} {v r d : Nat → Nat} {ru : Int32} {p0 n x : Nat} (h : ¬ (Qf f r d ru p0 n = true ∧ v n = x)) : gf f v r d ru p0 (n + 1) x = gf f v r d ru p0 n x := by
  unfold gf
  rw [hc_no h]
theorem gf_0 {f : Nat → Bool} {v r d : Nat → Nat} {p0 n x : Nat} (h1 : Qf f r d 0 p0 n = true) (h2 : v n = x) : gf f v r d 0 p0 (n + 1) x = gf f v r d 0 p0 n x + 1 := by
  unfold gf
  rw [if_pos rfl, if_pos rfl, hc_yes h1 h2]
theorem gf_1 {f : Nat → Bool} {v r d : Nat → Nat} {ru : Int32} {p0 n x : Nat} (h0 : ¬ ru = 0) (h1 : Qf f r d ru p0 n = true) (h2 : v n = x) : gf f v r d ru p0 (n + 1) x = 1 := by
  unfold gf
  rw [if_neg h0, if_pos (by rw [hc_yes h1 h2]; omega)]
theorem md_counts {th pd sr cl rn op : Int32} {RU H V W R K Ct : Nat → Int32} {f : Nat → Bool} {v r d : Nat → Nat} {c p0 : Nat} {post : Int32 → (Nat → Int32) → (Nat → Int32) → (Nat → Int32) → Prop} (hc9 : c < 24) (hK : pinf K V R W f v r d) (hl : lexm f r d 32 p0) (h0 : ∀ x, x < 100 → Ct x = 0) (h : ∀ T, post (agv f v r d (RU c) p0) H K T) : ∃ n9, wl_M_agreedOn_158 th pd sr cl RU rn H op V W R K (nI c) (K p0) post n9 (0 : Int32) Ct := by
  have ic : vp_in (nI c) 24 := vp_in_nI hc9 (by omega)
  obtain ⟨l1, l2, l3⟩ := hl
  obtain ⟨k0, b1, b2, b3, b4, b5, b6, b7, b8⟩ : ∃ k, k < 300 ∧ K p0 = nI k ∧ V k = nI (v p0) ∧ R k = nI (r p0) ∧ W k = nI (d p0) ∧ v p0 < 100 ∧ r p0 ≤ 9 ∧ d p0 ≤ 100000 := by
    rcases hK p0 l1 with ⟨z, _⟩ | ⟨_, z⟩
    · rw [l2] at z; exact absurd z (by decide)
    · exact z
  have i0 : vp_in (nI k0) 300 := vp_in_nI b1 (by omega)
  rw [b2]
  refine loop_0 (fun n i (T : Nat → Int32) => wl_M_agreedOn_158 th pd sr cl RU rn H op V W R K (nI c) (nI k0) post n (nI i) T) (fun i T => ∀ x, x < 100 → T x = nI (gf f v r d (RU c) p0 i x)) 32 Ct (fun x hx => ?_) ?_ ?_
  · rw [h0 x hx]
    show (0 : Int32) = nI (gf f v r d (RU c) p0 0 x)
    have e : gf f v r d (RU c) p0 0 x = 0 := by
      unfold gf hc
      by_cases e : RU c = 0
      · rw [if_pos e]; rfl
      · rw [if_neg e]; rfl
    rw [e]
    rfl
  · intro n T hI
    show wl_M_agreedOn_158 th pd sr cl RU rn H op V W R K (nI c) (nI k0) post (n + 1) (nI 32) T
    unfold wl_M_agreedOn_158
    exact pk_le 32 32 (fun _ => md_scan hI (fun x => gf_le f v r d (RU c) p0 32 x (by omega)) (h T)) (fun z => absurd z (by omega))
  · intro n i T hi hI hk
    show wl_M_agreedOn_158 th pd sr cl RU rn H op V W R K (nI c) (nI k0) post (n + 1) (nI i) T
    have skip : ¬ Qf f r d (RU c) p0 i = true → wl_M_agreedOn_158 th pd sr cl RU rn H op V W R K (nI c) (nI k0) post n (nI (i + 1)) T := by
      intro q
      exact hk T (fun x hx => by rw [gf_no (fun z => q z.1)]; exact hI x hx)
    unfold wl_M_agreedOn_158
    rw [nI_clamp (show i < 2 ^ 31 by omega), nI_clamp (show c < 2 ^ 31 by omega), nI_clamp (show k0 < 2 ^ 31 by omega), b4, b5, nI_1]
    refine pk_le 32 i (fun z => absurd z (by omega)) (fun _ => ⟨vp_in_nI hi (by omega), ?_⟩)
    rcases hK i hi with ⟨e1, e2⟩ | ⟨e1, k, hk3, e2, e3, e4, e5, e6, e7, e8⟩
    · rw [e2]
      refine ⟨fun _ => skip (fun z => ?_), fun z => absurd rfl z⟩
      unfold Qf at z
      rw [e1, Bool.false_and] at z
      exact absurd z (by decide)
    · rw [e2, nI_clamp (show k < 2 ^ 31 by omega), e3, e4, e5, nI_clamp (show v i < 2 ^ 31 by omega), hI (v i) e6, nI_1]
      have ik : vp_in (nI k) 300 := vp_in_nI hk3 (by omega)
      have iv : vp_in (nI (v i)) 100 := vp_in_nI e6 (by omega)
      have put0 : RU c = 0 → Qf f r d (RU c) p0 i = true → wl_M_agreedOn_158 th pd sr cl RU rn H op V W R K (nI c) (nI k0) post n (nI (i + 1)) (upd T (v i) (nI (gf f v r d (RU c) p0 i (v i) + 1))) := by
        intro q1 q2
        refine hk _ (fun x hx => ?_)
        by_cases e : x = v i
        · subst e
          rw [pk_us]
          rw [q1] at q2 ⊢
          rw [gf_0 q2 rfl]
        · rw [pk_un e, gf_no (fun z => e z.2.symm)]; exact hI x hx
      have put1 : ¬ RU c = 0 → Qf f r d (RU c) p0 i = true → wl_M_agreedOn_158 th pd sr cl RU rn H op V W R K (nI c) (nI k0) post n (nI (i + 1)) (upd T (v i) 1) := by
        intro q1 q2
        refine hk _ (fun x hx => ?_)
        by_cases e : x = v i
        · subst e
          rw [pk_us, gf_1 q1 q2 rfl]
          rfl
        · rw [pk_un e, gf_no (fun z => e z.2.symm)]; exact hI x hx
      refine ⟨fun z => absurd z (nI_nem1 (by omega)), fun _ => ⟨ic, fun q => ⟨ik, i0, fun q2 => ⟨ik, i0, fun q3 => ?_, fun q3 => skip (fun z => ?_)⟩, fun q2 => skip (fun z => ?_)⟩, fun q => ?_⟩⟩
      · have f1 : r i = r p0 := (nI_eq (by omega) (by omega)).mp q2
        have f2 : d i = d p0 := (nI_eq (by omega) (by omega)).mp q3
        have hq : Qf f r d (RU c) p0 i = true := by
          unfold Qf
          rw [e1, decide_eq_true f1, decide_eq_true f2, Bool.and_self, Bool.or_true]
          rfl
        exact ⟨ik, ic, fun q4 => ⟨ik, iv, iv, put0 q4 hq⟩, fun q4 => ⟨iv, put1 q4 hq⟩⟩
      · unfold Qf at z
        rw [decide_eq_false (fun z9 => z9 q), Bool.false_or, Bool.and_eq_true, Bool.and_eq_true, decide_eq_true_eq, decide_eq_true_eq] at z
        exact q3 (by rw [z.2.2])
      · unfold Qf at z
        rw [decide_eq_false (fun z9 => z9 q), Bool.false_or, Bool.and_eq_true, Bool.and_eq_true, decide_eq_true_eq, decide_eq_true_eq] at z
        exact q2 (by rw [z.2.1])
      · have hq : Qf f r d (RU c) p0 i = true := by
          unfold Qf
          rw [e1, decide_eq_true q, Bool.true_or]
          rfl
        exact ⟨ik, ic, fun q4 => ⟨ik, iv, iv, put0 q4 hq⟩, fun q4 => ⟨iv, put1 q4 hq⟩⟩
theorem md_clear {th pd sr cl rn op x3 : Int32} {RU H V W R K Ct : Nat → Int32} {c : Nat} {post : Int32 → (Nat → Int32) → (Nat → Int32) → (Nat → Int32) → Prop} (h : ∀ T : Nat → Int32, (∀ x, x < 100 → T x = 0) → ∃ n9, wl_M_agreedOn_158 th pd sr cl RU rn H op V W R K (nI c) x3 post n9 (0 : Int32) T) : ∃ n9, wl_M_agreedOn_134 th pd sr cl RU rn H op V W R K (nI c) x3 post n9 (0 : Int32) Ct := by
  refine loop_0 (fun n i (T : Nat → Int32) => wl_M_agreedOn_134 th pd sr cl RU rn H op V W R K (nI c) x3 post n (nI i) T) (fun i T => ∀ x, x < i → T x = 0) 100 Ct (fun x z => absurd z (by omega)) ?_ ?_
  · intro n T hI
    show wl_M_agreedOn_134 th pd sr cl RU rn H op V W R K (nI c) x3 post (n + 1) (nI 100) T
    unfold wl_M_agreedOn_134
    exact pk_le 100 100 (fun _ => h T hI) (fun z => absurd z (by omega))
  · intro n i T hi hI hk
    show wl_M_agreedOn_134 th pd sr cl RU rn H op V W R K (nI c) x3 post (n + 1) (nI i) T
    unfold wl_M_agreedOn_134
    refine pk_le 100 i (fun z => absurd z (by omega)) (fun _ => ⟨vp_in_nI hi (by omega), ?_⟩)
    rw [nI_clamp (by omega), nI_1]
    refine hk _ (fun x hx => ?_)
    by_cases e : x = i
    · subst e; exact pk_us
    · rw [pk_un e]; exact hI x (by omega)
theorem md_best {th pd sr cl rn op : Int32} {RU H V W R K Ct : Nat → Int32} {f : Nat → Bool} {v r d : Nat → Nat} {c : Nat} {post : Int32 → (Nat → Int32) → (Nat → Int32) → (Nat → Int32) → Prop} (hK : pinf K V R W f v r d) (he : ∃ p, p < 32 ∧ f p = true) (h : ∀ p0, lexm f r d 32 p0 → ∃ n9, wl_M_agreedOn_134 th pd sr cl RU rn H op V W R K (nI c) (K p0) post n9 (0 : Int32) Ct) : ∃ n9, wl_M_agreedOn_31 th pd sr cl RU rn H op V W R K Ct (nI c) post n9 (-1 : Int32) (0 : Int32) := by
  have inf : ∀ p, p < 32 → f p = true → ∃ k, k < 300 ∧ K p = nI k ∧ V k = nI (v p) ∧ R k = nI (r p) ∧ W k = nI (d p) ∧ v p < 100 ∧ r p ≤ 9 ∧ d p ≤ 100000 := fun p hp hf => by
    rcases hK p hp with ⟨z, _⟩ | ⟨_, z⟩
    · rw [hf] at z; exact absurd z (by decide)
    · exact z
  refine loop_0 (fun n i (b : Int32) => wl_M_agreedOn_31 th pd sr cl RU rn H op V W R K Ct (nI c) post n b (nI i)) (fun i b => ((∀ p, p < i → f p = false) ∧ b = -1) ∨ ∃ p0, lexm f r d i p0 ∧ b = K p0) 32 (-1) (Or.inl ⟨fun p z => absurd z (by omega), rfl⟩) ?_ ?_
  · intro n b hI
    show wl_M_agreedOn_31 th pd sr cl RU rn H op V W R K Ct (nI c) post (n + 1) b (nI 32)
    unfold wl_M_agreedOn_31
    refine pk_le 32 32 (fun _ => ?_) (fun z => absurd z (by omega))
    rcases hI with ⟨a, _⟩ | ⟨p0, a, rfl⟩
    · obtain ⟨p, hp, hf⟩ := he
      rw [a p hp] at hf
      exact absurd hf (by decide)
    · exact h p0 a
  · intro n i b hi hI hk
    show wl_M_agreedOn_31 th pd sr cl RU rn H op V W R K Ct (nI c) post (n + 1) b (nI i)
    unfold wl_M_agreedOn_31
    rw [nI_clamp (show i < 2 ^ 31 by omega), nI_1]
    refine pk_le 32 i (fun z => absurd z (by omega)) (fun _ => ⟨vp_in_nI hi (by omega), ?_⟩)
    rcases hK i hi with ⟨e1, e2⟩ | ⟨e1, k, hk3, e2, e3, e4, e5, e6, e7, e8⟩
    · rw [e2]
      refine ⟨fun _ => hk b ?_, fun z => absurd rfl z⟩
      rcases hI with ⟨a, e⟩ | ⟨p0, a, e⟩
      · refine Or.inl ⟨fun p hp => ?_, e⟩
        by_cases e9 : p = i
        · subst e9; exact e1
        · exact a p (by omega)
      · exact Or.inr ⟨p0, lexm_keep a (fun z => by rw [e1] at z; exact absurd z (by decide)), e⟩
    · have ik : vp_in (nI k) 300 := vp_in_nI hk3 (by omega)
      rcases hI with ⟨a, rfl⟩ | ⟨p0, a, rfl⟩
      · have hnew : lexm f r d (i + 1) i := lexm_new e1 (fun p hp hf => by rw [a p hp] at hf; exact absurd hf (by decide))
        refine ⟨fun z => ?_, fun _ => ⟨fun _ => hk _ (Or.inr ⟨i, hnew, rfl⟩), fun z => absurd rfl z⟩⟩
        rw [e2] at z
        exact absurd z (nI_nem1 (by omega))
      · obtain ⟨l1, l2, l3⟩ := id a
        obtain ⟨k0, b1, b2, b3, b4, b5, b6, b7, b8⟩ := inf p0 (by omega) l2
        have i0 : vp_in (nI k0) 300 := vp_in_nI b1 (by omega)
        have keep : (r i < r p0 ∨ (r i = r p0 ∧ d i ≤ d p0)) → wl_M_agreedOn_31 th pd sr cl RU rn H op V W R K Ct (nI c) post n (nI k0) (nI (i + 1)) := fun q => hk _ (Or.inr ⟨p0, lexm_keep a (fun _ => q), b2.symm⟩)
        have new : (r p0 < r i ∨ (r p0 = r i ∧ d p0 < d i)) → wl_M_agreedOn_31 th pd sr cl RU rn H op V W R K Ct (nI c) post n (nI k) (nI (i + 1)) := fun q => hk _ (Or.inr ⟨i, lexm_new e1 (fun p hp hf => by
          have := l3 p hp hf
          omega), e2.symm⟩)
        rw [b2, e2, nI_clamp (show k < 2 ^ 31 by omega), nI_clamp (show k0 < 2 ^ 31 by omega), b4, b5, e4, e5]
        refine ⟨fun z => absurd z (nI_nem1 (by omega)), fun _ => ⟨fun z => absurd z (nI_nem1 (by omega)), fun _ => ⟨ik, i0, pk_lt (r p0) (r i) (fun q => new (Or.inl q)) (fun q => ⟨ik, i0, pk_eq (r i) (r p0) (fun q2 => ⟨ik, i0, pk_le (d i) (d p0) (fun q3 => keep (Or.inr ⟨q2, q3⟩)) (fun q3 => new (Or.inr ⟨q2.symm, q3⟩))⟩) (fun q2 => keep (Or.inl (by omega)))⟩)⟩⟩⟩
/-- the persons' known opinions, told by numbers -/
theorem mk_pinf {K K0 V R W V' R' W' : Nat → Int32} {no : Nat} (hn : no ≤ 300) (h1 : ∀ p, p < 32 → K p = K0 p) (h2 : ∀ p, p < 32 → K0 p = -1 ∨ ∃ k, k < no ∧ K0 p = nI k) (h3 : ∀ k, k < no → V k = V' k ∧ R k = R' k ∧ W k = W' k ∧ (∃ x, x < 100 ∧ V' k = nI x) ∧ (∃ x, x ≤ 9 ∧ R' k = nI x) ∧ (∃ x, x ≤ 100000 ∧ W' k = nI x)) :
    pinf K V R W (fun p => decide (K0 p ≠ -1)) (fun p => (V' (K0 p).toNatClampNeg).toNatClampNeg) (fun p => (R' (K0 p).toNatClampNeg).toNatClampNeg) (fun p => (W' (K0 p).toNatClampNeg).toNatClampNeg) := by
  intro p hp
  rcases h2 p hp with e | ⟨k, hk, e⟩
  · exact Or.inl ⟨decide_eq_false (fun z => z e), (h1 p hp).trans e⟩
  · obtain ⟨a1, a2, a3, ⟨x, hx, b1⟩, ⟨y, hy, b2⟩, ⟨z, hz, b3⟩⟩ := h3 k hk
    refine Or.inr ⟨decide_eq_true (by rw [e]; exact nI_nem1 (by omega)), k, by omega, (h1 p hp).trans e, ?_⟩
    dsimp only
    rw [e, nI_clamp (show k < 2 ^ 31 by omega), a1, a2, a3, b1, b2, b3, nI_clamp (show x < 2 ^ 31 by omega), nI_clamp (show y < 2 ^ 31 by omega), nI_clamp (show z < 2 ^ 31 by omega)]
    exact ⟨rfl, rfl, rfl, hx, hy, hz⟩
def isAV (Hc : Prop) (f : Nat → Bool) (v r d : Nat → Nat) (ru X : Int32) : Prop := (¬ Hc ∧ X = -1) ∨ (Hc ∧ isV f v r d ru X)
theorem isAV_eq {Hc : Prop} {f : Nat → Bool} {v r d : Nat → Nat} {ru X Y : Int32} (h1 : isAV Hc f v r d ru X) (h2 : isAV Hc f v r d ru Y) : X = Y := by
  rcases h1 with ⟨a, b⟩ | ⟨a, b⟩ <;> rcases h2 with ⟨c, e⟩ | ⟨c, e⟩
  · rw [b, e]
  · exact absurd c a
  · exact absurd a c
  · exact isV_eq b e
theorem cl_agree {Sk Sd Sw SS O RU RC ST P C D V R Kn Ta Md Mw K0 : Nat → Int32} {sm cm rl om dy : Int32} {ns nc no c : Nat} {f : Nat → Bool} {v r d : Nat → Nat} {post : Int32 → (Nat → Int32) → (Nat → Int32) → Prop}
    (s2 : sm = nI ns) (s1 : ns ≤ 24) (hs : ∀ i, i < ns → Sd i = Md i ∧ Sw i = Mw i) (c2 : cm = nI nc) (c1 : nc ≤ 24) (g1 : rg SS nc ns) (g2 : rg O nc nc) (o2 : om = nI no) (o1 : no ≤ 300) (hp : ∀ k, k < no → ∃ p, p < 32 ∧ P k = nI p) (hcn : c < nc) (hru : ∃ k, k ≤ 2 ∧ RU c = nI k)
    (hk0 : ∀ p, p < 32 → kn P C D (nI c) dy (nI p) no = K0 p) (hpi : ∀ K, (∀ p, p < 32 → K p = K0 p) → pinf K V R D f v r d)
    (h : ∀ X K T, isAV (hldP (on_C O) (srcM SS Md Mw dy (-1) ns) c) f v r d (RU c) X → (∀ p, p < 32 → K p = K0 p) → post X K T) : wp_X_agreedValue Sk Sd Sw sm SS O RU RC ST cm rl P C D V R Kn Ta om (nI c) dy post := by
  unfold wp_X_agreedValue wp_X_isHeld
  refine cl_learn o2 o1 hp (fun K hK => cl_stand s2 s1 (fun z hz => cl_held c2 c1 g1 g2 (fun x hx => ?_)))
  have hK' : ∀ p, p < 32 → K p = K0 p := fun p hp => (hK p hp).trans (hk0 p hp)
  have key := hx c
  rw [hldP_congr (src_eq (src_m1 s1 hz) hs)] at key
  refine sp_has (by omega) (fun e => ⟨pu_nb1, fun z => absurd z (by decide), fun _ => ?_⟩) (fun e => ⟨pu_nb0, fun _ => h _ _ _ (Or.inl ⟨fun z => ?_, rfl⟩) hK', fun z => absurd rfl z⟩)
  · unfold wp_C_ruleOf
    rw [nI_clamp (by omega)]
    exact ⟨vp_in_nI (by omega) (by omega), cl_value (hpi K hK') hru (fun X T hX => h X K T (Or.inr ⟨key.mp e, hX⟩) hK')⟩
  · rw [key.mpr z] at e
    exact absurd e (by decide)
theorem md_agree {th pd sr cl rn op dy : Int32} {Md Mw BS BC RU H P C V W R Kn Ct SS O K0 : Nat → Int32} {ns nc no c : Nat} {f : Nat → Bool} {v r d : Nat → Nat} {post : Int32 → (Nat → Int32) → (Nat → Int32) → (Nat → Int32) → Prop}
    (s3 : sr = nI ns) (s1 : ns ≤ 24) (c3 : cl = nI nc) (c1 : nc ≤ 24) (t1 : tab SS BS) (g1 : rg SS nc ns) (t2 : tab O BC) (g2 : rg O nc nc) (o3 : op = nI no) (o1 : no ≤ 300) (hcn : c < nc)
    (hk0 : ∀ p, p < 32 → kn P C W (nI c) dy (nI p) no = K0 p) (hf : ∀ p, p < 32 → f p = decide (K0 p ≠ -1)) (hpi : ∀ K, (∀ p, p < 32 → K p = K0 p) → pinf K V R W f v r d)
    (h : ∀ X H' K T, isAV (hldP (on_C O) (srcM SS Md Mw dy (-1) ns) c) f v r d (RU c) X → (∀ p, p < 32 → K p = K0 p) → post X H' K T) : wp_M_agreedOn th pd sr Md Mw cl BS BC RU rn H op P C V W R Kn Ct (nI c) dy post := by
  unfold wp_M_agreedOn
  refine md_hold s3 s1 c3 c1 t1 g1 t2 g2 (fun H' hH => md_know o3 o1 (fun K hK => ?_))
  have hK' : ∀ p, p < 32 → K p = K0 p := fun p hp => (hK p hp).trans (hk0 p hp)
  have ec : cnt (fun p => decide (kn P C W (nI c) dy (nI p) no ≠ -1)) 32 = cnt f 32 := cnt_congr (fun p hp => by
    show decide (kn P C W (nI c) dy (nI p) no ≠ -1) = f p
    rw [hk0 p hp, hf p hp])
  rw [ec]
  have l32 := cnt_le f 32
  have hHc := hH c (by omega)
  refine pk_eq (cnt f 32) 0 (fun e => ?_) (fun e => ⟨vp_in_nI (by omega) (by omega), ?_⟩)
  · have none9 : ∀ p, p < 32 → f p = false := fun p hp => by
      cases z : f p
      · rfl
      · have := cnt_pos hp z
        omega
    refine h _ _ _ _ ?_ hK'
    by_cases q : hldP (on_C O) (srcM SS Md Mw dy (-1) ns) c
    · exact Or.inr ⟨q, Or.inl ⟨none9, rfl⟩⟩
    · exact Or.inl ⟨q, rfl⟩
  · rw [nI_clamp (by omega)]
    refine ⟨fun q => h _ _ _ _ (Or.inl ⟨isB_0 hHc q, rfl⟩) hK', fun q => ?_⟩
    have hh := (isB_1 hHc q).2
    refine md_best (hpi K hK') ?_ (fun p0 hp0 => md_clear (fun T hT => md_counts (by omega) (hpi K hK') hp0 hT (fun T2 => h _ _ _ _ (Or.inr ⟨hh, Or.inr ⟨p0, hp0, rfl⟩⟩) hK')))
    refine Classical.byContradiction (fun z => e (cnt_none (fun p hp => ?_)))
    cases w : f p
    · rfl
    · exact absurd ⟨p, hp, w⟩ z
theorem cl_dis {P C D V R K Ta W : Nat → Int32} {md X : Int32} {q : Nat} {f : Nat → Bool} {v r d : Nat → Nat} {post : Int32 → Prop} (hK : pinf K V R W f v r d) (hq : q < 2 ^ 31) (h : post (kth (fun p => f p && decide (¬ nI (v p) = X)) 32 0 q)) : wp_O_dissenter P C D V R K Ta md X (nI q) post := by
  have key : ∀ e i k, i + e = 32 → k < 2 ^ 31 → post (kth (fun p => f p && decide (¬ nI (v p) = X)) e i k) → wl_O_dissenter_5 V K X post (e + 1) (nI k) (nI i) := by
    intro e
    induction e with
    | zero =>
      intro i k e _ h
      unfold wl_O_dissenter_5
      exact pk_le 32 i (fun _ => h) (fun z => absurd z (by omega))
    | succ e ih =>
      intro i k e9 hk h
      unfold wl_O_dissenter_5
      rw [nI_clamp (show i < 2 ^ 31 by omega), nI_1]
      refine pk_le 32 i (fun z => absurd z (by omega)) (fun _ => ⟨vp_in_nI (by omega) (by omega), ?_⟩)
      rcases hK i (by omega) with ⟨e1, e2⟩ | ⟨e1, k9, hk3, e2, e3, _⟩
      · rw [e2]
        rw [kth_f (by rw [e1]; rfl)] at h
        exact ⟨fun _ => ih (i + 1) k (by omega) hk h, fun z => absurd rfl z⟩
      · rw [e2, nI_clamp (show k9 < 2 ^ 31 by omega), e3]
        refine ⟨fun z => absurd z (nI_nem1 (by omega)), fun _ => ⟨vp_in_nI hk3 (by omega), fun q1 => ?_, fun q1 => pk_eq k 0 (fun z => ?_) (fun z => ?_)⟩⟩
        · rw [kth_f (by rw [decide_eq_false (fun z => z q1), Bool.and_false])] at h
          exact ih (i + 1) k (by omega) hk h
        · rw [kth_t0 (by rw [e1, decide_eq_true q1]; rfl) z] at h
          exact h
        · rw [kth_t1 (by rw [e1, decide_eq_true q1]; rfl) z] at h
          obtain ⟨m, rfl⟩ : ∃ m, k = m + 1 := ⟨k - 1, by omega⟩
          rw [pk_m1]
          exact ih (i + 1) m (by omega) (by omega) h
  unfold wp_O_dissenter
  exact ⟨33, key 32 0 q (by omega) hq h⟩
theorem md_dis {th X : Int32} {H V R K Ct W : Nat → Int32} {q : Nat} {f : Nat → Bool} {v r d : Nat → Nat} {post : Int32 → Int32 → (Nat → Int32) → (Nat → Int32) → (Nat → Int32) → Prop} (hK : pinf K V R W f v r d) (hq : q < 2 ^ 31) (h : post (kth (fun p => f p && decide (¬ nI (v p) = X)) 32 0 q) th H K Ct) : ∃ n9, wl_M_dissent_45 th H V K Ct (nI q) X post n9 (0 : Int32) (0 : Int32) := by
  have key : ∀ e i c, i + e = 32 → c ≤ q → post (kth (fun p => f p && decide (¬ nI (v p) = X)) e i (q - c)) th H K Ct → wl_M_dissent_45 th H V K Ct (nI q) X post (e + 1) (nI c) (nI i) := by
    intro e
    induction e with
    | zero =>
      intro i c e _ h
      unfold wl_M_dissent_45
      exact pk_le 32 i (fun _ => h) (fun z => absurd z (by omega))
    | succ e ih =>
      intro i c e9 hc h
      unfold wl_M_dissent_45
      rw [nI_clamp (show i < 2 ^ 31 by omega), nI_1, nI_1]
      have ii : vp_in (nI i) 32 := vp_in_nI (by omega) (by omega)
      refine pk_le 32 i (fun z => absurd z (by omega)) (fun _ => ⟨ii, ?_⟩)
      rcases hK i (by omega) with ⟨e1, e2⟩ | ⟨e1, k9, hk3, e2, e3, _⟩
      · rw [e2]
        rw [kth_f (by rw [e1]; rfl)] at h
        exact ⟨fun _ => ih (i + 1) c (by omega) hc h, fun z => absurd rfl z⟩
      · rw [e2, nI_clamp (show k9 < 2 ^ 31 by omega), e3]
        refine ⟨fun z => absurd z (nI_nem1 (by omega)), fun _ => ⟨ii, vp_in_nI hk3 (by omega), fun q1 => ?_, fun q1 => pk_eq c q (fun z => ?_) (fun z => ?_)⟩⟩
        · rw [kth_f (by rw [decide_eq_false (fun z => z q1), Bool.and_false])] at h
          exact ih (i + 1) c (by omega) hc h
        · rw [kth_t0 (by rw [e1, decide_eq_true q1]; rfl) (by omega)] at h
          exact h
        · rw [kth_t1 (by rw [e1, decide_eq_true q1]; rfl) (by omega)] at h
          exact ih (i + 1) (c + 1) (by omega) (by omega) (by rw [show q - (c + 1) = q - c - 1 by omega]; exact h)
  exact ⟨33, key 32 0 0 (by omega) (by omega) h⟩
