/-! numbers -/
theorem pu_lt {x y : Int32} : x < y ↔ x.toInt < y.toInt := Int32.lt_iff_toInt_lt
theorem pu_le {x y : Int32} : x ≤ y ↔ x.toInt ≤ y.toInt := Int32.le_iff_toInt_le
theorem pu_eq {x y : Int32} : x = y ↔ x.toInt = y.toInt := Int32.toInt_inj.symm
theorem pu_nlt {x y : Int32} : ¬ x < y ↔ y ≤ x := by rw [pu_lt, pu_le]; omega
theorem pu_nle {x y : Int32} : ¬ x ≤ y ↔ y < x := by rw [pu_lt, pu_le]; omega
theorem pu_in {x : Int32} {n : Nat} (h0 : 0 ≤ x) (h1 : x < nI n) (hn : n < 2 ^ 31) : ∃ j : Nat, j < n ∧ x = nI j := by
  obtain ⟨j, hj, rfl⟩ := nI_of (x := x) (pu_nlt.mpr h0)
  exact ⟨j, (nI_ltI hj hn).mp h1, rfl⟩
theorem pu_in' {x : Int32} {n : Nat} (h0 : 0 ≤ x) (h1 : x ≤ nI n) (hn : n < 2 ^ 31) : ∃ j : Nat, j ≤ n ∧ x = nI j := by
  obtain ⟨j, hj, rfl⟩ := nI_of (x := x) (pu_nlt.mpr h0)
  exact ⟨j, (nI_leI hj hn).mp h1, rfl⟩
theorem pu_nIs {n : Nat} : nI n - 1 = nI n + (-1) := by
  apply Int32.toBitVec_inj.1
  show (nI n).toBitVec - 1#32 = (nI n).toBitVec + (-1 : Int32).toBitVec
  rw [BitVec.sub_eq_add_neg]
  rfl
theorem pu_pos {n : Nat} (h : n < 2 ^ 31) : 0 ≤ nI n := nI_pos' h
theorem pu_upd_same {f : Nat → Int32} {k : Nat} {v : Int32} : upd f k v k = v := if_pos rfl
theorem pu_upd_ne {f : Nat → Int32} {k j : Nat} {v : Int32} (h : j ≠ k) : upd f k v j = f j := if_neg h
theorem pu_updL_same {f : Nat → Int64} {k : Nat} {v : Int64} : vp_updL f k v k = v := if_pos rfl
theorem pu_cmp {x y : Int64} (h : x = y) : lg_cmp x y = 0 := by subst h; simp [lg_cmp]
theorem pu_0 : (0 : Int32).toNatClampNeg = 0 := by decide
theorem pu_in01 : vp_in (0 : Int32) 1 := by rw [← nI_0]; exact vp_in_nI (by omega) (by omega)
theorem pu_nb0 : narrow .boolean (.int 0) = .int 0 := rfl
theorem pu_nb1 : narrow .boolean (.int 1) = .int 1 := rfl
theorem pu_vb0 : vp_nar .boolean 0 = 0 := rfl
theorem pu_vb1 : vp_nar .boolean 1 = 1 := rfl
/-! the class's small methods -/
theorem sp_within {x lo hi : Int32} {post : Int32 → Prop} (h1 : lo ≤ x → x ≤ hi → post 1) (h0 : ¬ (lo ≤ x ∧ x ≤ hi) → post 0) : wp_X_isWithin x lo hi post := by
  unfold wp_X_isWithin
  refine ⟨fun h => h0 (fun q => ?_), fun h => ⟨fun h2 => h0 (fun q => ?_), fun h2 => h1 (pu_nlt.mp h) (pu_nlt.mp h2)⟩⟩
  · exact pu_nlt.mpr q.1 h
  · exact pu_nlt.mpr q.2 h2
theorem sm_within {x lo hi : Int32} {post : Int32 → Prop} (h1 : lo ≤ x → x ≤ hi → post 1) (h0 : ¬ (lo ≤ x ∧ x ≤ hi) → post 0) : wp_M_within x lo hi post := by
  unfold wp_M_within
  refine ⟨fun h => h0 (fun q => ?_), fun h => ⟨fun h2 => h0 (fun q => ?_), fun h2 => h1 (pu_nlt.mp h) (pu_nlt.mp h2)⟩⟩
  · exact pu_nlt.mpr q.1 h
  · exact pu_nlt.mpr q.2 h2
theorem sm_goes {th pd sr cl rg op a b c : Int32} {post : Int32 → Int32 → Prop} (h1 : a = 0 → post 0 1) (h2 : a ≠ 0 → b = 0 → post 0 2) (h3 : a ≠ 0 → b ≠ 0 → c = 0 → post 0 3) (h4 : a ≠ 0 → b ≠ 0 → c ≠ 0 → post 1 0) : wp_M_goes th pd sr cl rg op a b c post := by
  unfold wp_M_goes
  refine ⟨fun ha => ⟨fun q => absurd q (by decide), fun _ => h1 ha⟩, fun ha => ⟨fun hb => ⟨fun q => absurd q (by decide), fun _ => h2 ha hb⟩, fun hb => ⟨fun hc => ⟨fun q => absurd q (by decide), fun _ => h3 ha hb hc⟩, fun hc => ⟨fun _ => h4 ha hb hc, fun q => absurd rfl q⟩⟩⟩⟩
theorem sm_go1 {th pd sr cl rg op b c : Int32} {post : Int32 → Int32 → Prop} (h : post 0 1) : wp_M_goes th pd sr cl rg op 0 b c post := sm_goes (fun _ => h) (fun q => absurd rfl q) (fun q => absurd rfl q) (fun q => absurd rfl q)
theorem sm_go2 {th pd sr cl rg op c : Int32} {post : Int32 → Int32 → Prop} (h : post 0 2) : wp_M_goes th pd sr cl rg op 1 0 c post := sm_goes (fun q => absurd q (by decide)) (fun _ _ => h) (fun _ q => absurd rfl q) (fun _ q => absurd rfl q)
theorem sm_go3 {th pd sr cl rg op : Int32} {post : Int32 → Int32 → Prop} (h : post 0 3) : wp_M_goes th pd sr cl rg op 1 1 0 post := sm_goes (fun q => absurd q (by decide)) (fun _ q => absurd q (by decide)) (fun _ _ _ => h) (fun _ _ q => absurd rfl q)
theorem sm_go0 {th pd sr cl rg op : Int32} {post : Int32 → Int32 → Prop} (h : post 1 0) : wp_M_goes th pd sr cl rg op 1 1 1 post := sm_goes (fun q => absurd q (by decide)) (fun _ q => absurd q (by decide)) (fun _ _ q => absurd q (by decide)) (fun _ _ _ => h)
theorem nI_2 (a : Nat) : nI a + 2 = nI (a + 2) := nI_add a 2
theorem nI_3 (a : Nat) : nI a + 3 = nI (a + 3) := nI_add a 3
theorem nI_4 (a : Nat) : nI a + 4 = nI (a + 4) := nI_add a 4
theorem nI_5 (a : Nat) : nI a + 5 = nI (a + 5) := nI_add a 5
theorem nI_6 (a : Nat) : nI a + 6 = nI (a + 6) := nI_add a 6
/-! the tails of the law's cases -/
theorem tl_i {th r b : Int32} {U : Nat → Int64} {K1 K2 : Prop} (h1 : th = r) (h2 : r = 0 → U 0 = b.toInt64) (k1 : r = 0 → K1) (k2 : ¬ r = 0 → K2) : ((th = r → ((r = 0 → (vp_in (0 : Int32) 1 ∧ (((lg_cmp (U (0 : Int32).toNatClampNeg) b.toInt64) = 0 → K1) ∧ (¬ ((lg_cmp (U (0 : Int32).toNatClampNeg) b.toInt64) = 0) → False)))) ∧ (¬ (r = 0) → K2))) ∧ (¬ (th = r) → False)) := by
  refine ⟨fun _ => ⟨fun hr => ⟨pu_in01, fun _ => k1 hr, fun q => q (pu_cmp ?_)⟩, k2⟩, fun q => q h1⟩
  rw [pu_0]
  exact h2 hr
theorem tl_z {th r b : Int32} {U : Nat → Int64} {K1 K2 K3 : Prop} (h1 : th = r) (h2 : r = 0 → b = 0 → U 0 = 0) (h3 : r = 0 → ¬ b = 0 → U 0 = 1) (k1 : r = 0 → b = 0 → K1) (k3 : r = 0 → ¬ b = 0 → K3) (k2 : ¬ r = 0 → K2) : ((th = r → ((r = 0 → (vp_in (0 : Int32) 1 ∧ ((b = 0 → (((lg_cmp (U (0 : Int32).toNatClampNeg) (0 : Int64)) = 0 → K1) ∧ (¬ ((lg_cmp (U (0 : Int32).toNatClampNeg) (0 : Int64)) = 0) → False))) ∧ (¬ (b = 0) → (((lg_cmp (U (0 : Int32).toNatClampNeg) (1 : Int64)) = 0 → K3) ∧ (¬ ((lg_cmp (U (0 : Int32).toNatClampNeg) (1 : Int64)) = 0) → False)))))) ∧ (¬ (r = 0) → K2))) ∧ (¬ (th = r) → False)) := by
  refine ⟨fun _ => ⟨fun hr => ⟨pu_in01, fun hb => ⟨fun _ => k1 hr hb, fun q => q (pu_cmp ?_)⟩, fun hb => ⟨fun _ => k3 hr hb, fun q => q (pu_cmp ?_)⟩⟩, k2⟩, fun q => q h1⟩
  · rw [pu_0]; exact h2 hr hb
  · rw [pu_0]; exact h3 hr hb
theorem pu_loop {L j : Nat} (hL : L ≤ 3072) (h1 : 6 * j ≤ L) (h : ¬ (Int32.ofNat L - (6 : Int32)) < nI (6 * j)) : 6 * j + 6 ≤ L := by
  rcases Nat.lt_or_ge L 6 with q | q
  · exact absurd (by
      have e1 : nI L - nI 6 < 0 := pk_sneg (by omega) q
      have e2 : 0 ≤ nI (6 * j) := nI_pos' (by omega)
      rw [pu_lt] at e1 ⊢
      rw [pu_le] at e2
      exact Int.lt_of_lt_of_le e1 e2) h
  · have e : nI L - nI 6 = nI (L - 6) := pk_sub q
    have h' : ¬ (nI L - nI 6) < nI (6 * j) := h
    rw [e, nI_ltI (by omega) (by omega)] at h'
    omega
theorem tl_n {r b : Int32} {U : Nat → Int64} {K1 K2 : Prop} (h : ¬ r = 0) (k : K2) : ((r = r → ((r = 0 → (vp_in (0 : Int32) 1 ∧ (((lg_cmp (U (0 : Int32).toNatClampNeg) b.toInt64) = 0 → K1) ∧ (¬ ((lg_cmp (U (0 : Int32).toNatClampNeg) b.toInt64) = 0) → False)))) ∧ (¬ (r = 0) → K2))) ∧ (¬ (r = r) → False)) := tl_i rfl (fun z => absurd z h) (fun z => absurd z h) (fun _ => k)
