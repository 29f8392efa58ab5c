/-! the ring that is told -/
def nx (E : Nat → Nat → Bool) (b y m z : Nat) : Prop := E y z = true ∧ isd E z b m ∧ ∀ w, w < z → ¬ (E y w = true ∧ isd E w b m)
theorem exq {E : Nat → Nat → Bool} {b : Nat} : ∀ {m a : Nat}, isd E a b m → ∃ q : Nat → Nat, q 0 = a ∧ ∀ i, i < m → nx E b (q i) (m - 1 - i) (q (i + 1)) := by
  intro m
  induction m with
  | zero => intro a _; exact ⟨fun _ => a, rfl, fun i h => absurd h (by omega)⟩
  | succ m ih =>
    intro a h
    obtain ⟨c, ⟨h1, h2⟩, h3⟩ := pk_least (fun c => E a c = true ∧ isd E c b m) (isd_down h)
    obtain ⟨q, q1, q2⟩ := ih h2
    refine ⟨fun i => if i = 0 then a else q (i - 1), rfl, fun i hi => ?_⟩
    cases i with
    | zero =>
      show nx E b a (m + 1 - 1 - 0) (q 0)
      rw [q1, show m + 1 - 1 - 0 = m by omega]
      exact ⟨h1, h2, h3⟩
    | succ i =>
      show nx E b (q i) (m + 1 - 1 - (i + 1)) (q (i + 1))
      rw [show m + 1 - 1 - (i + 1) = m - 1 - i by omega]
      exact q2 i (by omega)
theorem q_isd {E : Nat → Nat → Bool} {b m : Nat} {q : Nat → Nat} (h0 : isd E (q 0) b m) (h : ∀ i, i < m → nx E b (q i) (m - 1 - i) (q (i + 1))) {i : Nat} (hi : i ≤ m) : isd E (q i) b (m - i) := by
  cases i with
  | zero => exact h0
  | succ i =>
    have := (h i (by omega)).2.1
    rw [show m - (i + 1) = m - 1 - i by omega]
    exact this
theorem fin_iff {E : Nat → Nat → Bool} {b : Nat} {zv : Int32} {St : Nat → Int32} (h : fin1 E b zv St) {x m : Nat} (hx : x < 24) (hz : zv ≠ nI m) (hm : m < 2 ^ 31) : St x = nI m ↔ isd E x b m := by
  rcases h x hx with ⟨k, hk, q, e⟩ | ⟨q, e⟩
  · rw [e, nI_eq (by omega) hm]
    exact ⟨fun z => by subst z; exact q, fun z => isd_eq q z⟩
  · rw [e]
    exact ⟨fun z => absurd z hz, fun z => absurd z.1 (q m)⟩
theorem cl_lowest {S O R RC ST : Nat → Int32} {md rl : Int32} {nc b y z m : Nat} {post : Int32 → Prop} (hm : md = nI nc) (hn : nc ≤ 24) (hy : y < 24) (hF : fin1 (on_C O) b (-1) ST) (hx : nx (on_C O) b y m z) (hz : z < nc) (hm2 : m < 24) (h : post (nI z)) : wp_C_lowestBelow S O R RC ST md rl (nI y) (nI m) post := by
  subst hm
  have iy : vp_in (nI y) 24 := vp_in_nI hy (by omega)
  obtain ⟨x1, x2, x3⟩ := hx
  have hb : bt (O y) z = true := by
    unfold on_C at x1
    rw [Bool.and_eq_true] at x1
    exact x1.2
  have key : ∀ d i, i + d = z → wl_C_lowestBelow_2 S O R RC ST (nI nc) rl (nI y) (nI m) post (d + 1) (nI i) := by
    intro d
    induction d with
    | zero =>
      intro i e
      have e2 : i = z := by omega
      subst e2
      unfold wl_C_lowestBelow_2 wp_C_isOn
      rw [nI_clamp (by omega), nI_clamp (by omega)]
      exact pk_le nc i (fun z => absurd z (by omega)) (fun _ => ⟨iy, sp_has (by omega) (fun e => ⟨pu_nb1, fun z => absurd z (by decide), fun _ => ⟨vp_in_nI (by omega) (by omega), fun _ => h, fun z => absurd ((fin_iff hF (by omega) (Ne.symm (nI_nem1 (by omega))) (by omega)).mpr x2) z⟩⟩) (fun e => by rw [hb] at e; exact absurd e (by decide))⟩)
    | succ d ih =>
      intro i e
      unfold wl_C_lowestBelow_2 wp_C_isOn
      rw [nI_clamp (by omega), nI_clamp (by omega), nI_1]
      have next := ih (i + 1) (by omega)
      refine pk_le nc i (fun z => absurd z (by omega)) (fun _ => ⟨iy, sp_has (by omega) (fun e => ⟨pu_nb1, fun z => absurd z (by decide), fun _ => ⟨vp_in_nI (by omega) (by omega), fun q => ?_, fun _ => next⟩⟩) (fun e => ⟨pu_nb0, fun _ => next, fun z => absurd rfl z⟩)⟩)
      exact absurd ⟨on_mk hy e, (fin_iff hF (by omega) (Ne.symm (nI_nem1 (by omega))) (by omega)).mp q⟩ (x3 i (by omega))
  unfold wp_C_lowestBelow
  exact ⟨z + 1, key z 0 (by omega)⟩
theorem cl_ring {S O R ST R0 : Nat → Int32} {md : Int32} {nc b m0 : Nat} {q : Nat → Nat} {post : Int32 → (Nat → Int32) → (Nat → Int32) → Int32 → Prop} (hm : md = nI nc) (hn : nc ≤ 24) (hg : rg O nc nc) (hb : b < nc) (hF : fin1 (on_C O) b (-1) ST) (h0 : isd (on_C O) (q 0) b m0) (hq : ∀ i, i < m0 → nx (on_C O) b (q i) (m0 - 1 - i) (q (i + 1)))
    (h : ∀ R', R' 0 = R0 0 → (∀ i, i < m0 → R' (1 + i) = nI (q i)) → post 1 R' ST (nI (m0 + 1))) : ∃ n9, wl_C_tellRing_39 S O R ST md post n9 (nI (q 0)) (nI m0) R0 (1 : Int32) := by
  have hE : ∀ x y, on_C O x y = true → x < nc ∧ y < nc := fun x y z => ⟨(on_lt hg z).1, (on_lt hg z).2.1⟩
  have hm0 := isd_cnt hE hb h0
  have ql : ∀ i, i ≤ m0 → q i < nc := fun i hi => isd_lt hE hb (q_isd h0 hq hi)
  refine loop_0 (fun n i (R' : Nat → Int32) => wl_C_tellRing_39 S O R ST md post n (nI (q i)) (nI (m0 - i)) R' (nI (1 + i))) (fun i R' => R' 0 = R0 0 ∧ ∀ k, k < i → R' (1 + k) = nI (q k)) m0 R0 ⟨rfl, fun k z => absurd z (by omega)⟩ ?_ ?_
  · rintro n R' ⟨a1, a2⟩
    show wl_C_tellRing_39 S O R ST md post (n + 1) (nI (q m0)) (nI (m0 - m0)) R' (nI (1 + m0))
    unfold wl_C_tellRing_39
    refine pk_le (m0 - m0) 0 (fun _ => ?_) (fun z => absurd z (by omega))
    rw [Nat.add_comm]
    exact h R' a1 a2
  · rintro n i R' hi ⟨a1, a2⟩ hk
    show wl_C_tellRing_39 S O R ST md post (n + 1) (nI (q i)) (nI (m0 - i)) R' (nI (1 + i))
    have hk2 : ∀ R2 : Nat → Int32, (R2 0 = R0 0 ∧ ∀ k, k < i + 1 → R2 (1 + k) = nI (q k)) → wl_C_tellRing_39 S O R ST md post n (nI (q (i + 1))) (nI (m0 - (i + 1))) R2 (nI (1 + (i + 1))) := hk
    have hnx := hq i hi
    obtain ⟨t, ht⟩ : ∃ t, m0 - i = t + 1 := ⟨m0 - i - 1, by omega⟩
    rw [show m0 - (i + 1) = t by omega] at hk2
    rw [show m0 - 1 - i = t by omega] at hnx
    rw [ht]
    unfold wl_C_tellRing_39
    rw [nI_clamp (by omega), nI_pred, pk_m1, nI_1]
    refine pk_le (t + 1) 0 (fun z => absurd z (by omega)) (fun _ => ⟨fun z => absurd z (nI_nem1 (by have := ql i (by omega); omega)), fun _ => ⟨vp_in_nI (by omega) (by omega), cl_lowest hm hn (by have := ql i (by omega); omega) hF hnx (ql (i + 1) (by omega)) (by omega) ?_⟩⟩)
    refine hk2 _ ⟨?_, fun k hk3 => ?_⟩
    · rw [pk_un (by omega)]; exact a1
    · by_cases e : k = i
      · subst e; rw [pk_us]
      · rw [pk_un (by omega)]; exact a2 k (by omega)
theorem md_next {B F R O : Nat → Int32} {rn : Int32} {b y m z : Nat} {k62 : Int32 → Int32 → (Nat → Int32) → Prop} (ht : tab O B) (hy : y < 24) (hz : z < 24) (hm : m < 24) (hF : fin1 (on_C O) b 99 F) (hx : nx (on_C O) b y m z) (hf : F y = nI (m + 1)) (h : k62 (nI z) rn R) : ∃ n9, wl_M_restsOn_94 B rn R F (nI y) k62 n9 (-1 : Int32) (23 : Int32) := by
  obtain ⟨x1, x2, x3⟩ := hx
  have h99 : (99 : Int32) ≠ nI m := fun e => by
    have e2 : nI 99 = nI m := e
    rw [nI_eq (by omega) (by omega)] at e2
    omega
  have hb : bt (O y) z = true := by
    unfold on_C at x1
    rw [Bool.and_eq_true] at x1
    exact x1.2
  have key : ∀ i (v : Int32), i ≤ 24 → (i ≤ z → v = nI z) → wl_M_restsOn_94 B rn R F (nI y) k62 (i + 1) v (nI i + (-1)) := by
    intro i
    induction i with
    | zero =>
      intro v _ e
      unfold wl_M_restsOn_94
      refine ⟨fun _ => ?_, fun z => absurd (by decide) z⟩
      rw [e (by omega)]
      exact h
    | succ i ih =>
      intro v hi e
      rw [pk_m1]
      unfold wl_M_restsOn_94
      rw [pu_24, nI_clamp (show 24 * y + i < 2 ^ 31 by omega), nI_clamp (show i < 2 ^ 31 by omega), nI_clamp (show y < 2 ^ 31 by omega), hf, nI_pred]
      have hR := tab_isB ht hy (show i < 24 by omega)
      refine ⟨fun z => absurd z (nI_pos (by omega)), fun _ => ⟨vp_in_nI (by omega) (by omega), fun q => ih v (by omega) (fun z9 => e ?_), fun q => ⟨vp_in_nI (by omega) (by omega), vp_in_nI hy (by omega), fun q2 => ih (nI i) (by omega) (fun z9 => ?_), fun q2 => ih v (by omega) (fun z9 => e ?_)⟩⟩⟩
      · by_cases e2 : i = z
        · subst e2; exact absurd hb (isB_0 hR q)
        · omega
      · have e3 := (fin_iff hF (show i < 24 by omega) h99 (by omega)).mp q2
        rcases Nat.lt_or_ge i z with e4 | e4
        · exact absurd ⟨on_mk hy (isB_1 hR q).2, e3⟩ (x3 i e4)
        · congr 1
          omega
      · by_cases e2 : i = z
        · subst e2; exact absurd ((fin_iff hF (by omega) h99 (by omega)).mpr x2) q2
        · omega
  refine ⟨25, ?_⟩
  rw [show (23 : Int32) = nI 24 + (-1) by decide]
  exact key 24 (-1) (by omega) (fun z => absurd z (by omega))
theorem md_ring {th : Int32} {B F R0 O : Nat → Int32} {nc b m0 : Nat} {q : Nat → Nat} {post : Int32 → Int32 → (Nat → Int32) → Int32 → (Nat → Int32) → (Nat → Int32) → Prop} (hn : nc ≤ 24) (ht : tab O B) (hg : rg O nc nc) (hb : b < nc) (hF : fin1 (on_C O) b 99 F) (h0 : isd (on_C O) (q 0) b m0) (hq : ∀ i, i < m0 → nx (on_C O) b (q i) (m0 - 1 - i) (q (i + 1)))
    (h : ∀ R', R' 0 = R0 0 → (∀ i, i < m0 → R' (1 + i) = nI (q i)) → post (-1) th B (nI (m0 + 1)) R' F) : ∃ n9, wl_M_restsOn_62 th B F (nI b) post n9 (nI (q 0)) (1 : Int32) R0 := by
  have hE : ∀ x y, on_C O x y = true → x < nc ∧ y < nc := fun x y z => ⟨(on_lt hg z).1, (on_lt hg z).2.1⟩
  have hm0 := isd_cnt hE hb h0
  have ql : ∀ i, i ≤ m0 → q i < nc := fun i hi => isd_lt hE hb (q_isd h0 hq hi)
  refine loop_0 (fun n i (R' : Nat → Int32) => wl_M_restsOn_62 th B F (nI b) post n (nI (q i)) (nI (1 + i)) R') (fun i R' => R' 0 = R0 0 ∧ ∀ k, k < i → R' (1 + k) = nI (q k)) m0 R0 ⟨rfl, fun k z => absurd z (by omega)⟩ ?_ ?_
  · rintro n R' ⟨a1, a2⟩
    show wl_M_restsOn_62 th B F (nI b) post (n + 1) (nI (q m0)) (nI (1 + m0)) R'
    unfold wl_M_restsOn_62
    have e : q m0 = b := by
      have := q_isd h0 hq (Nat.le_refl m0)
      rw [Nat.sub_self] at this
      exact isd_0 this
    refine ⟨fun _ => ?_, fun z => absurd (by rw [e]) z⟩
    rw [Nat.add_comm]
    exact h R' a1 a2
  · rintro n i R' hi ⟨a1, a2⟩ hk
    show wl_M_restsOn_62 th B F (nI b) post (n + 1) (nI (q i)) (nI (1 + i)) R'
    have hk2 : ∀ R2 : Nat → Int32, (R2 0 = R0 0 ∧ ∀ k, k < i + 1 → R2 (1 + k) = nI (q k)) → wl_M_restsOn_62 th B F (nI b) post n (nI (q (i + 1))) (nI (1 + (i + 1))) R2 := hk
    have hnx := hq i hi
    have hqi := q_isd h0 hq (show i ≤ m0 by omega)
    have l1 := ql i (by omega)
    have l2 := ql (i + 1) (by omega)
    obtain ⟨t, htt⟩ : ∃ t, m0 - i = t + 1 := ⟨m0 - i - 1, by omega⟩
    rw [show m0 - 1 - i = t by omega] at hnx
    rw [htt] at hqi
    have h99 : (99 : Int32) ≠ nI (t + 1) := fun e => by
      have e2 : nI 99 = nI (t + 1) := e
      rw [nI_eq (by omega) (by omega)] at e2
      omega
    unfold wl_M_restsOn_62
    rw [nI_clamp (by omega), nI_1]
    refine ⟨fun z => ?_, fun _ => ⟨vp_in_nI (by omega) (by omega), md_next ht (by omega) (by omega) (by omega) hF hnx ((fin_iff hF (by omega) h99 (by omega)).mpr hqi) ?_⟩⟩
    · exfalso
      rw [nI_eq (by omega) (by omega)] at z
      rw [z] at hqi
      have := isd_eq hqi isd_zero
      omega
    · refine hk2 _ ⟨?_, fun k hk3 => ?_⟩
      · rw [pk_un (by omega)]; exact a1
      · by_cases e : k = i
        · subst e; rw [pk_us]
        · rw [pk_un (by omega)]; exact a2 k (by omega)
