/-! the reference's hold -/
def isB (x : Int32) (P : Prop) : Prop := (x = 1 ∧ P) ∨ (x = 0 ∧ ¬ P)
theorem isB_0 {x : Int32} {P : Prop} (h : isB x P) (q : x = 0) : ¬ P := by
  rcases h with ⟨a, _⟩ | ⟨_, b⟩
  · rw [q] at a; exact absurd a (by decide)
  · exact b
theorem isB_1 {x : Int32} {P : Prop} (h : isB x P) (q : ¬ x = 0) : x = 1 ∧ P := by
  rcases h with a | ⟨a, _⟩
  · exact a
  · exact absurd a q
theorem isB_iff {x : Int32} {P Q : Prop} (h : isB x P) (q : P ↔ Q) : isB x Q := by
  rcases h with ⟨a, b⟩ | ⟨a, b⟩
  · exact Or.inl ⟨a, q.mp b⟩
  · exact Or.inr ⟨a, fun z => b (q.mpr z)⟩
theorem isB_01 {x : Int32} {P : Prop} (h : isB x P) : x = 0 ∨ x = 1 := by
  rcases h with ⟨a, _⟩ | ⟨a, _⟩
  · exact Or.inr a
  · exact Or.inl a
theorem upd_self {H : Nat → Int32} {a : Nat} {v : Int32} (h : H a = v) : upd H a v = H := by
  funext i
  by_cases e : i = a
  · subst e; rw [pk_us, h]
  · rw [pk_un e]
theorem lf0 {I J : Prop} {H : Nat → Int32} {c : Nat} {o : Int32} {P : Prop} (W : (Nat → Int32) → Prop) (hi : I) (hj : J) (hP : isB (H c) P) (h : W H) : (I ∧ ((H c = 0 → (J ∧ ((o = 0 → (I ∧ W (upd H c (vp_nar .boolean (0 : Int32))))) ∧ (¬ (o = 0) → (I ∧ W (upd H c (vp_nar .boolean (0 : Int32)))))))) ∧ (¬ (H c = 0) → (I ∧ W (upd H c (vp_nar .boolean (1 : Int32))))))) := by
  rw [pu_vb0, pu_vb1]
  refine ⟨hi, fun q => ?_, fun q => ?_⟩
  · rw [upd_self q]; exact ⟨hj, fun _ => ⟨hi, h⟩, fun _ => ⟨hi, h⟩⟩
  · rw [upd_self (isB_1 hP q).1]; exact ⟨hi, h⟩
theorem lf1 {I J : Prop} {H : Nat → Int32} {c : Nat} {o : Int32} {P R : Prop} (W : (Nat → Int32) → Prop) (hi : I) (hj : J) (hP : isB (H c) P) (hR : isB o R) (h0 : ¬ R → W H) (hp : P → W H) (h1 : R → W (upd H c 1)) : (I ∧ ((H c = 0 → (J ∧ ((o = 0 → (I ∧ W (upd H c (vp_nar .boolean (0 : Int32))))) ∧ (¬ (o = 0) → (I ∧ W (upd H c (vp_nar .boolean (1 : Int32)))))))) ∧ (¬ (H c = 0) → (I ∧ W (upd H c (vp_nar .boolean (1 : Int32))))))) := by
  rw [pu_vb0, pu_vb1]
  refine ⟨hi, fun q => ⟨hj, fun q2 => ?_, fun q2 => ⟨hi, h1 (isB_1 hR q2).2⟩⟩, fun q => ?_⟩
  · rw [upd_self q]; exact ⟨hi, h0 (isB_0 hR q2)⟩
  · rw [upd_self (isB_1 hP q).1]; exact ⟨hi, hp (isB_1 hP q).2⟩
def srcM (S D W : Nat → Int32) (dy wo : Int32) (ns c : Nat) : Prop := c < 24 ∧ ∃ s, s < ns ∧ bt (S c) s = true ∧ nI s ≠ wo ∧ stn D W dy s
theorem tab_isB {A B : Nat → Int32} (h : tab A B) {c s : Nat} (hc : c < 24) (hs : s < 24) : isB (B (24 * c + s)) (bt (A c) s = true) := by
  rw [h c s hc hs]
  cases e : bt (A c) s
  · exact Or.inr ⟨rfl, by decide⟩
  · exact Or.inl ⟨rfl, rfl⟩
theorem hl_src {sr x1 x2 : Int32} {D W S B H0 : Nat → Int32} {ns c : Nat} {k2 : Int32 → (Nat → Int32) → Prop} (hm : sr = nI ns) (hn : ns ≤ 24) (hc : c < 24) (ht : tab S B) (h0 : H0 c = 0) (hk : ∀ H, isB (H c) (∃ s, s < ns ∧ bt (S c) s = true ∧ nI s ≠ x2 ∧ stn D W x1 s) → (∀ a, a ≠ c → H a = H0 a) → k2 (nI (c + 1)) H) :
    ∃ n9, wl_M_hold_18 sr D W B x1 x2 (nI c) k2 n9 (0 : Int32) H0 := by
  subst hm
  refine loop_0 (fun n i (H : Nat → Int32) => wl_M_hold_18 (nI ns) D W B x1 x2 (nI c) k2 n (nI i) H) (fun i H => isB (H c) (∃ s, s < i ∧ bt (S c) s = true ∧ nI s ≠ x2 ∧ stn D W x1 s) ∧ ∀ a, a ≠ c → H a = H0 a) ns H0 ⟨Or.inr ⟨h0, fun ⟨s, q, _⟩ => absurd q (by omega)⟩, fun _ _ => rfl⟩ ?_ ?_
  · rintro n H ⟨a1, a2⟩
    show wl_M_hold_18 (nI ns) D W B x1 x2 (nI c) k2 (n + 1) (nI ns) H
    unfold wl_M_hold_18
    refine pk_le ns ns (fun _ => ?_) (fun z => absurd z (by omega))
    rw [nI_1]
    exact hk H a1 a2
  · rintro n i H hi ⟨a1, a2⟩ hk2
    show wl_M_hold_18 (nI ns) D W B x1 x2 (nI c) k2 (n + 1) (nI i) H
    have hk3 : ∀ H', isB (H' c) (∃ s, s < i + 1 ∧ bt (S c) s = true ∧ nI s ≠ x2 ∧ stn D W x1 s) ∧ (∀ a, a ≠ c → H' a = H0 a) → wl_M_hold_18 (nI ns) D W B x1 x2 (nI c) k2 n (nI (i + 1)) H' := hk2
    have ic : vp_in (nI c) 24 := vp_in_nI hc (by omega)
    have ii : vp_in (nI i) 24 := vp_in_nI (by omega) (by omega)
    have ix : vp_in (nI (24 * c + i)) 576 := vp_in_nI (by omega) (by omega)
    have hR := tab_isB ht hc (show i < 24 by omega)
    have no : ¬ (bt (S c) i = true ∧ nI i ≠ x2 ∧ stn D W x1 i) → wl_M_hold_18 (nI ns) D W B x1 x2 (nI c) k2 n (nI (i + 1)) H := by
      intro q
      refine hk3 H ⟨isB_iff a1 ⟨fun ⟨s, e1, e2⟩ => ⟨s, by omega, e2⟩, fun ⟨s, e1, e2⟩ => ⟨s, ?_, e2⟩⟩, a2⟩
      rcases Nat.lt_or_ge s i with e | e
      · exact e
      · have e3 : s = i := by omega
        subst e3; exact absurd e2 q
    have old : (∃ s, s < i ∧ bt (S c) s = true ∧ nI s ≠ x2 ∧ stn D W x1 s) → wl_M_hold_18 (nI ns) D W B x1 x2 (nI c) k2 n (nI (i + 1)) H := by
      rintro ⟨s, e1, e2⟩
      refine hk3 H ⟨isB_iff a1 ⟨fun ⟨s, e1, e2⟩ => ⟨s, by omega, e2⟩, fun _ => ⟨s, e1, e2⟩⟩, a2⟩
    have yes : (bt (S c) i = true ∧ nI i ≠ x2 ∧ stn D W x1 i) → wl_M_hold_18 (nI ns) D W B x1 x2 (nI c) k2 n (nI (i + 1)) (upd H c 1) := by
      intro q
      exact hk3 _ ⟨Or.inl ⟨pk_us, i, by omega, q⟩, fun a ha => by rw [pk_un ha]; exact a2 a ha⟩
    unfold wl_M_hold_18
    refine pk_le ns i (fun z => absurd z (by omega)) (fun _ => ?_)
    rw [pu_24, nI_clamp (show c < 2 ^ 31 by omega), nI_clamp (show i < 2 ^ 31 by omega), nI_clamp (show 24 * c + i < 2 ^ 31 by omega), nI_1]
    refine ⟨fun q => lf0 (fun H => wl_M_hold_18 (nI ns) D W B x1 x2 (nI c) k2 n (nI (i + 1)) H) ic ix a1 (no (fun z => z.2.1 q)), fun q => ⟨ii, fun q2 => lf0 (fun H => wl_M_hold_18 (nI ns) D W B x1 x2 (nI c) k2 n (nI (i + 1)) H) ic ix a1 (no (fun z => pu_nlt.mpr z.2.2.1 q2)), fun q2 => ⟨ii, fun q3 => ?_, fun q3 => ⟨ii, fun q4 => lf0 (fun H => wl_M_hold_18 (nI ns) D W B x1 x2 (nI c) k2 n (nI (i + 1)) H) ic ix a1 (no (fun z => ?_)), fun q4 => ?_⟩⟩⟩⟩
    · exact lf1 (fun H => wl_M_hold_18 (nI ns) D W B x1 x2 (nI c) k2 n (nI (i + 1)) H) ic ix a1 hR (fun z => no (fun y => z y.1)) old (fun z => yes ⟨z, q, pu_nlt.mp q2, Or.inl q3⟩)
    · rcases z.2.2.2 with e | e
      · exact q3 e
      · exact pu_nlt.mpr q4 e
    · exact lf1 (fun H => wl_M_hold_18 (nI ns) D W B x1 x2 (nI c) k2 n (nI (i + 1)) H) ic ix a1 hR (fun z => no (fun y => z y.1)) old (fun z => yes ⟨z, q, pu_nlt.mp q2, Or.inr (pu_nle.mp q4)⟩)
theorem hl_rounds {cl : Int32} {O B H0 : Nat → Int32} {nc : Nat} {src : Nat → Prop} {post : (Nat → Int32) → Prop} (hm : cl = nI nc) (hn : nc ≤ 24) (ht : tab O B) (hg : rg O nc nc) (hs : ∀ c, src c → c < nc) (h0 : ∀ c, c < 24 → isB (H0 c) (src c)) (h : ∀ H, (∀ c, c < 24 → isB (H c) (hldP (on_C O) src c)) → post H) :
    ∃ n9, wl_M_hold_127 cl B post n9 (0 : Int32) H0 := by
  subst hm
  have hlt : ∀ c, hldP (on_C O) src c → c < nc := fun c q => hldP_all (F := fun c => c < nc) (fun c q => hs c q) (fun a b q _ => (on_lt hg q).1) q
  refine loop_0 (fun n i (H : Nat → Int32) => wl_M_hold_127 (nI nc) B post n (nI i) H) (fun i H => (∀ c, c < 24 → H c = 0 ∨ H c = 1) ∧ (∀ c, c < 24 → H c = 1 → hldP (on_C O) src c) ∧ (∀ c, c < 24 → src c → H c = 1) ∧ ((∀ c, c < 24 → hldP (on_C O) src c → H c = 1) ∨ i + 1 ≤ cnt (fun c => decide (H c = 1)) nc)) nc H0 ⟨fun c hc => isB_01 (h0 c hc), fun c hc q => hldP_src (isB_1 (h0 c hc) (by rw [q]; decide)).2, fun c hc q => ?_, ?_⟩ ?_ ?_
  · rcases h0 c hc with e | e
    · exact e.1
    · exact absurd q e.2
  · by_cases q : ∃ c, c < nc ∧ src c
    · obtain ⟨c, hc, q⟩ := q
      refine Or.inr (cnt_pos hc ?_)
      rcases h0 c (by omega) with e | e
      · exact decide_eq_true e.1
      · exact absurd q e.2
    · refine Or.inl (fun c hc z => absurd z (fun z => ?_))
      obtain ⟨n, d, _, z2⟩ := z
      exact q ⟨d, hs d z2, z2⟩
  · rintro n H ⟨a1, a2, a3, a4⟩
    show wl_M_hold_127 (nI nc) B post (n + 1) (nI nc) H
    unfold wl_M_hold_127
    refine pk_le nc nc (fun _ => h H (fun c hc => ?_)) (fun z => absurd z (by omega))
    have a5 : ∀ c, c < 24 → hldP (on_C O) src c → H c = 1 := by
      rcases a4 with q | q
      · exact q
      · have := cnt_le (fun c => decide (H c = 1)) nc
        omega
    by_cases q : hldP (on_C O) src c
    · exact Or.inl ⟨a5 c hc q, q⟩
    · rcases a1 c hc with e | e
      · exact Or.inr ⟨e, q⟩
      · exact absurd (a2 c hc e) q
  · rintro n i H hi ⟨a1, a2, a3, a4⟩ hk
    show wl_M_hold_127 (nI nc) B post (n + 1) (nI i) H
    unfold wl_M_hold_127
    refine pk_le nc i (fun z => absurd z (by omega)) (fun _ => ?_)
    refine loop_0 (fun m k (H' : Nat → Int32) => wl_M_hold_138 B (nI i) (fun y0 y1 => wl_M_hold_127 (nI nc) B post n y0 y1) m (nI k) H') (fun k H' => (∀ c, c < 24 → H' c = 0 ∨ H' c = 1) ∧ (∀ c, c < 24 → H' c = 1 → hldP (on_C O) src c) ∧ (∀ c, c < 24 → H c = 1 → H' c = 1) ∧ ∀ a b, b < 24 → 24 * a + b < k → bt (O a) b = true → H b = 1 → H' a = 1) 576 H ⟨a1, a2, fun _ _ z => z, fun _ _ _ z => absurd z (by omega)⟩ ?_ ?_
    · rintro m H' ⟨b1, b2, b3, b4⟩
      show wl_M_hold_138 B (nI i) (fun y0 y1 => wl_M_hold_127 (nI nc) B post n y0 y1) (m + 1) (nI 576) H'
      unfold wl_M_hold_138
      refine pk_le 576 576 (fun _ => ?_) (fun z => absurd z (by omega))
      show wl_M_hold_127 (nI nc) B post n (nI i + 1) H'
      rw [nI_1]
      refine hk H' ⟨b1, b2, fun c hc q => b3 c hc (a3 c hc q), ?_⟩
      rcases a4 with q | q
      · exact Or.inl (fun c hc z => b3 c hc (q c hc z))
      · rcases cnt_or (f := fun c => decide (H c = 1)) (g := fun c => decide (H' c = 1)) (n := nc) (fun c hc z => decide_eq_true (b3 c (by omega) (of_decide_eq_true z))) with e | e
        · refine Or.inl (fun c hc z => ?_)
          refine (hldP_all (F := fun c => c < 24 → H' c = 1) (fun c q hc => b3 c hc (a3 c hc q)) (fun a b q1 q2 hc => ?_) z) hc
          obtain ⟨e1, e2, e3, e4⟩ := on_lt hg q1
          have e5 : H b = 1 := of_decide_eq_true (e b e2 (decide_eq_true (q2 (by omega))))
          exact b4 a b (by omega) (by omega) e3 e5
        · refine Or.inr ?_
          omega
    · rintro m k H' hk2 ⟨b1, b2, b3, b4⟩ hk3
      show wl_M_hold_138 B (nI i) (fun y0 y1 => wl_M_hold_127 (nI nc) B post n y0 y1) (m + 1) (nI k) H'
      have hk4 : ∀ G, (∀ c, c < 24 → G c = 0 ∨ G c = 1) ∧ (∀ c, c < 24 → G c = 1 → hldP (on_C O) src c) ∧ (∀ c, c < 24 → H c = 1 → G c = 1) ∧ (∀ a b, b < 24 → 24 * a + b < k + 1 → bt (O a) b = true → H b = 1 → G a = 1) → wl_M_hold_138 B (nI i) (fun y0 y1 => wl_M_hold_127 (nI nc) B post n y0 y1) m (nI (k + 1)) G := hk3
      obtain ⟨a, b, ha, hb, rfl⟩ : ∃ a b, a < 24 ∧ b < 24 ∧ k = 24 * a + b := ⟨k / 24, k % 24, by omega, by omega, by omega⟩
      have same : (bt (O a) b = true → H b = 1 → H' a = 1) → wl_M_hold_138 B (nI i) (fun y0 y1 => wl_M_hold_127 (nI nc) B post n y0 y1) m (nI (24 * a + b + 1)) H' := by
        intro q
        refine hk4 H' ⟨b1, b2, b3, fun x y hy hxy e1 e2 => ?_⟩
        rcases Nat.lt_or_ge (24 * x + y) (24 * a + b) with e | e
        · exact b4 x y hy e e1 e2
        · have e3 : x = a := by omega
          have e4 : y = b := by omega
          subst e3 e4
          exact q e1 e2
      have ia : vp_in (nI a) 24 := vp_in_nI ha (by omega)
      have ib : vp_in (nI b) 24 := vp_in_nI hb (by omega)
      have ix : vp_in (nI (24 * a + b)) 576 := vp_in_nI (by omega) (by omega)
      have e1 : nI (24 * a + b) / 24 = nI a := by
        rw [show (24 : Int32) = nI 24 from rfl, pk_div (by omega) (by omega) (by omega)]
        congr 1
        omega
      have e2 : nI (24 * a + b) - nI a * 24 = nI b := by
        rw [show (24 : Int32) = nI 24 from rfl, pk_mul, pk_sub (by omega)]
        congr 1
        omega
      unfold wl_M_hold_138
      refine pk_le 576 (24 * a + b) (fun z => absurd z (by omega)) (fun _ => ?_)
      rw [e1, e2, nI_clamp (show a < 2 ^ 31 by omega), nI_clamp (show b < 2 ^ 31 by omega), nI_clamp (show 24 * a + b < 2 ^ 31 by omega), nI_1, pu_vb0, pu_vb1]
      have hR := tab_isB ht ha hb
      refine ⟨ia, fun q => ?_, fun q => ?_⟩
      · rw [upd_self q]
        refine ⟨ix, fun q2 => ⟨ia, same (fun z => absurd z (isB_0 hR q2))⟩, fun q2 => ⟨ib, fun q3 => ⟨ia, same (fun _ z => ?_)⟩, fun q3 => ⟨ia, hk4 _ ⟨fun c hc => ?_, fun c hc z => ?_, fun c hc z => ?_, fun x y hy hxy e3 e4 => ?_⟩⟩⟩⟩
        · have := b3 b hb z
          rw [q3] at this
          exact absurd this (by decide)
        · by_cases e : c = a
          · subst e; rw [pk_us]; exact Or.inr rfl
          · rw [pk_un e]; exact b1 c hc
        · by_cases e : c = a
          · subst e
            have e5 : H' b = 1 := by
              rcases b1 b hb with e | e
              · exact absurd e q3
              · exact e
            exact hldP_on (on_mk ha (isB_1 hR q2).2) (b2 b hb e5)
          · rw [pk_un e] at z; exact b2 c hc z
        · by_cases e : c = a
          · subst e; rw [pk_us]
          · rw [pk_un e]; exact b3 c hc z
        · by_cases e : x = a
          · subst e; rw [pk_us]
          · rw [pk_un e]; exact b4 x y hy (by omega) e3 e4
      · have e5 : H' a = 1 := by
          rcases b1 a ha with e | e
          · exact absurd e q
          · exact e
        rw [upd_self e5]
        exact ⟨ia, same (fun _ _ => e5)⟩
theorem md_hold {th pd sr cl rg' op x1 x2 : Int32} {D W BS BC S O H0 : Nat → Int32} {ns nc : Nat} {post : (Nat → Int32) → Prop} (hs : sr = nI ns) (hsn : ns ≤ 24) (hc : cl = nI nc) (hcn : nc ≤ 24) (t1 : tab S BS) (g1 : rg S nc ns) (t2 : tab O BC) (g2 : rg O nc nc)
    (h : ∀ H, (∀ c, c < 24 → isB (H c) (hldP (on_C O) (srcM S D W x1 x2 ns) c)) → post H) : wp_M_hold th pd sr D W cl BS BC rg' H0 op x1 x2 post := by
  unfold wp_M_hold
  refine loop_0 (fun n i (H : Nat → Int32) => wl_M_hold_2 sr D W cl BS BC x1 x2 post n (nI i) H) (fun i H => ∀ c, c < i → isB (H c) (srcM S D W x1 x2 ns c)) 24 H0 (fun c z => absurd z (by omega)) ?_ ?_
  · intro n H hI
    show wl_M_hold_2 sr D W cl BS BC x1 x2 post (n + 1) (nI 24) H
    unfold wl_M_hold_2
    exact pk_le 24 24 (fun _ => hl_rounds hc hcn t2 g2 (fun c q => by obtain ⟨a, s, _, b, _⟩ := q; exact (g1 c s a b).1) (fun c q => hI c q) h) (fun z => absurd z (by omega))
  · intro n i H hi hI hk
    show wl_M_hold_2 sr D W cl BS BC x1 x2 post (n + 1) (nI i) H
    unfold wl_M_hold_2
    refine pk_le 24 i (fun z => absurd z (by omega)) (fun _ => ⟨vp_in_nI hi (by omega), ?_⟩)
    rw [nI_clamp (by omega), pu_vb0]
    refine hl_src hs hsn hi t1 pk_us (fun G hG hO => ?_)
    show wl_M_hold_2 sr D W cl BS BC x1 x2 post n (nI (i + 1)) G
    refine hk G (fun c hc' => ?_)
    by_cases e : c = i
    · subst e
      exact isB_iff hG ⟨fun ⟨s, e1, e2⟩ => ⟨by omega, s, e1, e2⟩, fun ⟨_, s, e1, e2⟩ => ⟨s, e1, e2⟩⟩
    · rw [hO c e, pk_un e]
      exact hI c (by omega)
