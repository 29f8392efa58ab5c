/-! count: the pairs -/
theorem pc_and {w lo hi ml mh : Nat} (h1 : lo < 2 ^ w) (h2 : ml < 2 ^ w) : (2 ^ w * hi + lo) &&& (2 ^ w * mh + ml) = 2 ^ w * (hi &&& mh) + (lo &&& ml) := by
  have h3 : lo &&& ml < 2 ^ w := Nat.and_lt_two_pow _ h2
  apply Nat.eq_of_testBit_eq
  intro i
  rw [Nat.testBit_and, Nat.testBit_two_pow_mul_add _ h1, Nat.testBit_two_pow_mul_add _ h2, Nat.testBit_two_pow_mul_add _ h3]
  by_cases e : i < w
  · rw [if_pos e, if_pos e, if_pos e, Nat.testBit_and]
  · rw [if_neg e, if_neg e, if_neg e, Nat.testBit_and]
theorem pc_and8 {lo hi ml mh : Nat} (h1 : lo < 256) (h2 : ml < 256) : (256 * hi + lo) &&& (256 * mh + ml) = 256 * (hi &&& mh) + (lo &&& ml) := pc_and (w := 8) h1 h2
theorem pc_and3 {a b c x y z : Nat} (h1 : a < 256) (h2 : b < 256) (h3 : x < 256) (h4 : y < 256) : (a + 256 * b + 65536 * c) &&& (x + 256 * y + 65536 * z) = (a &&& x) + 256 * (b &&& y) + 65536 * (c &&& z) := by
  rw [show a + 256 * b + 65536 * c = 256 * (256 * c + b) + a by omega, show x + 256 * y + 65536 * z = 256 * (256 * z + y) + x by omega, pc_and8 h1 h3, pc_and8 h2 h4]
  omega
def f1 (b : Nat) : Nat := b - (b / 2 &&& 85)
def f2 (v : Nat) : Nat := (v &&& 51) + (v / 4 &&& 51)
def f3 (u : Nat) : Nat := (u + u / 16) % 16
theorem pc_l1 : ∀ b, b < 256 → ∀ t, t < 2 → (b / 2 + 128 * t) &&& 85 = b / 2 &&& 85 := by decide +kernel
theorem pc_l1b : ∀ b, b < 256 → b / 2 &&& 21845 = b / 2 &&& 85 := by decide +kernel
theorem pc_l1c : ∀ b, b < 256 → (b / 2 &&& 85) ≤ b := by decide +kernel
theorem pc_l2 : ∀ b, b < 256 → ∀ t, t < 4 → (b / 4 + 64 * t) &&& 51 = b / 4 &&& 51 := by decide +kernel
theorem pc_l2b : ∀ b, b < 256 → b / 4 &&& 13107 = b / 4 &&& 51 := by decide +kernel
theorem pc_l2c : ∀ b, b < 256 → b &&& 13107 = b &&& 51 := by decide +kernel
theorem pc_l2d : ∀ b, b < 256 → f2 (f1 b) ≤ 68 := by decide +kernel
theorem pc_l2e : ∀ b, b < 256 → f2 (f1 b) % 16 ≤ 4 := by decide +kernel
theorem pc_l3 : ∀ u, u < 69 → ∀ t, t < 5 → (u + u / 16 + 16 * t) &&& 15 = f3 u := by decide +kernel
theorem pc_l3b : ∀ u, u < 69 → (u + u / 16) &&& 3855 = f3 u := by decide +kernel
theorem pc_l4 : ∀ b, b < 256 → f3 (f2 (f1 b)) = cnt (fun i => b.testBit i) 8 := by decide +kernel
theorem f1_le {b : Nat} (h : b < 256) : f1 b < 256 := by unfold f1; omega
theorem pc_s1 {a b c : Nat} (ha : a < 256) (hb : b < 256) (hc : c < 256) : (a + 256 * b + 65536 * c) - ((a + 256 * b + 65536 * c) / 2 &&& 1431655765) = f1 a + 256 * f1 b + 65536 * f1 c := by
  rw [show (a + 256 * b + 65536 * c) / 2 = (a / 2 + 128 * (b % 2)) + 256 * (b / 2 + 128 * (c % 2)) + 65536 * (c / 2) by omega, show 1431655765 = 85 + 256 * 85 + 65536 * 21845 by rfl, pc_and3 (by omega) (by omega) (by omega) (by omega), pc_l1 a ha _ (by omega), pc_l1 b hb _ (by omega), pc_l1b c hc]
  have h1 := pc_l1c a ha
  have h2 := pc_l1c b hb
  have h3 := pc_l1c c hc
  unfold f1
  omega
theorem pc_s2 {a b c : Nat} (ha : a < 256) (hb : b < 256) (hc : c < 256) : ((a + 256 * b + 65536 * c) &&& 858993459) + ((a + 256 * b + 65536 * c) / 4 &&& 858993459) = f2 a + 256 * f2 b + 65536 * f2 c := by
  rw [show (a + 256 * b + 65536 * c) / 4 = (a / 4 + 64 * (b % 4)) + 256 * (b / 4 + 64 * (c % 4)) + 65536 * (c / 4) by omega, show 858993459 = 51 + 256 * 51 + 65536 * 13107 by rfl, pc_and3 (by omega) (by omega) (by omega) (by omega), pc_and3 (by omega) (by omega) (by omega) (by omega), pc_l2 a ha _ (by omega), pc_l2 b hb _ (by omega), pc_l2b c hc, pc_l2c c hc]
  unfold f2
  omega
theorem pc_s3 {a b c : Nat} (ha : a ≤ 68) (hb : b ≤ 68) (hc : c ≤ 68) (hb2 : b % 16 ≤ 4) (hc2 : c % 16 ≤ 4) : ((a + 256 * b + 65536 * c) + (a + 256 * b + 65536 * c) / 16) &&& 252645135 = f3 a + 256 * f3 b + 65536 * f3 c := by
  rw [show (a + 256 * b + 65536 * c) + (a + 256 * b + 65536 * c) / 16 = (a + a / 16 + 16 * (b % 16)) + 256 * (b + b / 16 + 16 * (c % 16)) + 65536 * (c + c / 16) by omega, show 252645135 = 15 + 256 * 15 + 65536 * 3855 by rfl, pc_and3 (by omega) (by omega) (by omega) (by omega), pc_l3 a (by omega) _ (by omega), pc_l3 b (by omega) _ (by omega), pc_l3b c (by omega)]
theorem cnt_add (f : Nat → Bool) (a : Nat) : ∀ n, cnt f (a + n) = cnt f a + cnt (fun i => f (a + i)) n := by
  intro n
  induction n with
  | zero => rfl
  | succ n ih =>
    show cnt f (a + n) + (if f (a + n) then 1 else 0) = cnt f a + (cnt (fun i => f (a + i)) n + (if f (a + n) then 1 else 0))
    rw [ih]
    omega
theorem cnt_congr {f g : Nat → Bool} : ∀ {n : Nat}, (∀ i, i < n → f i = g i) → cnt f n = cnt g n := by
  intro n
  induction n with
  | zero => intro _; rfl
  | succ n ih =>
    intro h
    show cnt f n + (if f n then 1 else 0) = cnt g n + (if g n then 1 else 0)
    rw [ih (fun i hi => h i (by omega)), h n (by omega)]
theorem cnt_none {f : Nat → Bool} {n : Nat} (h : ∀ i, i < n → f i = false) : cnt f n = 0 := by
  have e : cnt f n = cnt (fun _ => false) n := cnt_congr h
  rw [e]
  clear h e
  induction n with
  | zero => rfl
  | succ n ih =>
    show cnt (fun _ => false) n + 0 = 0
    rw [ih]
theorem pc_cnt {a b c : Nat} (ha : a < 256) (hb : b < 256) : cnt (fun i => (a + 256 * b + 65536 * c).testBit i) 24 = cnt (fun i => a.testBit i) 8 + cnt (fun i => b.testBit i) 8 + cnt (fun i => c.testBit i) 8 := by
  have t1 : ∀ i, (a + 256 * b + 65536 * c).testBit i = if i < 8 then a.testBit i else (256 * c + b).testBit (i - 8) := fun i => by
    rw [show a + 256 * b + 65536 * c = 2 ^ 8 * (256 * c + b) + a by omega, Nat.testBit_two_pow_mul_add _ (by omega)]
  have t2 : ∀ i, (256 * c + b).testBit i = if i < 8 then b.testBit i else c.testBit (i - 8) := fun i => by
    rw [show 256 * c + b = 2 ^ 8 * c + b by omega, Nat.testBit_two_pow_mul_add _ (by omega)]
  have c1 : cnt (fun i => (a + 256 * b + 65536 * c).testBit i) 24 = cnt (fun i => (a + 256 * b + 65536 * c).testBit i) 8 + cnt (fun i => (a + 256 * b + 65536 * c).testBit (8 + i)) 16 := cnt_add (fun i => (a + 256 * b + 65536 * c).testBit i) 8 16
  have c2 : cnt (fun i => (a + 256 * b + 65536 * c).testBit (8 + i)) 16 = cnt (fun i => (a + 256 * b + 65536 * c).testBit (8 + i)) 8 + cnt (fun i => (a + 256 * b + 65536 * c).testBit (8 + (8 + i))) 8 := cnt_add (fun i => (a + 256 * b + 65536 * c).testBit (8 + i)) 8 8
  have c3 : cnt (fun i => (a + 256 * b + 65536 * c).testBit i) 8 = cnt (fun i => a.testBit i) 8 := cnt_congr (fun i hi => by
    show (a + 256 * b + 65536 * c).testBit i = a.testBit i
    rw [t1, if_pos hi])
  have c4 : cnt (fun i => (a + 256 * b + 65536 * c).testBit (8 + i)) 8 = cnt (fun i => b.testBit i) 8 := cnt_congr (fun i hi => by
    show (a + 256 * b + 65536 * c).testBit (8 + i) = b.testBit i
    rw [t1, if_neg (by omega), t2, if_pos (by omega), Nat.add_sub_cancel_left])
  have c5 : cnt (fun i => (a + 256 * b + 65536 * c).testBit (8 + (8 + i))) 8 = cnt (fun i => c.testBit i) 8 := cnt_congr (fun i hi => by
    show (a + 256 * b + 65536 * c).testBit (8 + (8 + i)) = c.testBit i
    rw [t1, if_neg (by omega), t2, if_neg (by omega), Nat.add_sub_cancel_left, Nat.add_sub_cancel_left])
  rw [c1, c2, c3, c4, c5, Nat.add_assoc]
theorem cl_bits {x : Int32} {post : Int32 → Prop} (hx : ∀ i, bt x i = true → i < 24) (h : post (nI (cnt (bt x) 24))) : wp_J_bitCount x post := by
  have hN : x.toBitVec.toNat < 2 ^ 24 := by
    apply Nat.lt_pow_two_of_testBit
    intro i hi
    have e : bt x i = x.toBitVec.toNat.testBit i := rfl
    rw [← e]
    cases q : bt x i
    · rfl
    · exact absurd (hx i q) (by omega)
  have ex : x = nI x.toBitVec.toNat := by
    apply Int32.toBitVec_inj.1
    show x.toBitVec = BitVec.ofNat 32 x.toBitVec.toNat
    simp
  have ec : cnt (bt x) 24 = cnt (fun i => x.toBitVec.toNat.testBit i) 24 := cnt_congr (fun i _ => rfl)
  rw [ec] at h
  generalize x.toBitVec.toNat = N at hN ex h
  subst ex
  obtain ⟨a, b, c, ha, hb, hc, rfl⟩ : ∃ a b c, a < 256 ∧ b < 256 ∧ c < 256 ∧ N = a + 256 * b + 65536 * c := ⟨N % 256, N / 256 % 256, N / 65536, by omega, by omega, by omega, by omega⟩
  rw [pc_cnt ha hb, ← pc_l4 a ha, ← pc_l4 b hb, ← pc_l4 c hc] at h
  have d1 := f1_le ha
  have d2 := f1_le hb
  have d3 := f1_le hc
  have g1 := pc_l2d a ha
  have g2 := pc_l2d b hb
  have g3 := pc_l2d c hc
  have w1 : f3 (f2 (f1 a)) ≤ 8 := by rw [pc_l4 a ha]; exact cnt_le _ 8
  have w2 : f3 (f2 (f1 b)) ≤ 8 := by rw [pc_l4 b hb]; exact cnt_le _ 8
  have w3 : f3 (f2 (f1 c)) ≤ 8 := by rw [pc_l4 c hc]; exact cnt_le _ 8
  have hle : (a + 256 * b + 65536 * c) / 2 &&& 1431655765 ≤ a + 256 * b + 65536 * c := Nat.le_trans Nat.and_le_left (by omega)
  unfold wp_J_bitCount
  rw [pk_ushrN (by omega) 1 1 (by decide), show (1431655765 : Int32) = nI 1431655765 from rfl, nx_and, Nat.pow_one, pk_sub hle, pc_s1 ha hb hc]
  rw [pk_ushrN (by omega) 2 2 (by decide), show (858993459 : Int32) = nI 858993459 from rfl, nx_and, nx_and, nI_add, show 2 ^ 2 = 4 from rfl, pc_s2 d1 d2 d3]
  rw [pk_ushrN (by omega) 4 4 (by decide), show (252645135 : Int32) = nI 252645135 from rfl, nI_add, nx_and, show 2 ^ 4 = 16 from rfl, pc_s3 g1 g2 g3 (pc_l2e b hb) (pc_l2e c hc)]
  generalize f3 (f2 (f1 a)) = p at h w1 ⊢
  generalize f3 (f2 (f1 b)) = q at h w2 ⊢
  generalize f3 (f2 (f1 c)) = r at h w3 ⊢
  rw [pk_ushrN (by omega) 8 8 (by decide), nI_add, show 2 ^ 8 = 256 from rfl, pk_ushrN (by omega) 16 16 (by decide), nI_add, show 2 ^ 16 = 65536 from rfl, pk_andN (m := 63) (by omega) 6 (by decide), show 2 ^ 6 = 64 from rfl, show (p + 256 * q + 65536 * r) / 256 = q + 256 * r by omega, show (p + 256 * q + 65536 * r + (q + 256 * r)) / 65536 = r by omega, show (p + 256 * q + 65536 * r + (q + 256 * r) + r) % 64 = p + q + r by omega]
  exact h
def smf (f : Nat → Nat) : Nat → Nat
  | 0 => 0
  | n + 1 => smf f n + f n
theorem smf_le {f : Nat → Nat} {b : Nat} (h : ∀ i, f i ≤ b) : ∀ n, smf f n ≤ b * n := by
  intro n
  induction n with
  | zero => exact Nat.le_refl _
  | succ n ih =>
    show smf f n + f n ≤ b * (n + 1)
    have := h n
    rw [Nat.mul_succ]
    omega
theorem smf_ext {f : Nat → Nat} {a : Nat} : ∀ {n : Nat}, (∀ i, a ≤ i → i < a + n → f i = 0) → smf f (a + n) = smf f a := by
  intro n
  induction n with
  | zero => intro _; rfl
  | succ n ih =>
    intro h
    show smf f (a + n) + f (a + n) = smf f a
    rw [ih (fun i h1 h2 => h i h1 (by omega)), h (a + n) (by omega) (by omega)]
    rfl
theorem cl_pairs {S O R RC ST : Nat → Int32} {md rl : Int32} {nc : Nat} {post : Int32 → Prop} (hm : md = nI nc) (hn : nc ≤ 24) (hg : rg O nc nc) (h : post (nI (smf (fun c => cnt (bt (O c)) 24) nc))) : wp_C_pairs S O R RC ST md rl post := by
  subst hm
  unfold wp_C_pairs
  refine loop_0 (fun n i (v : Int32) => wl_C_pairs_4 O (nI nc) post n v (nI i)) (fun i v => v = nI (smf (fun c => cnt (bt (O c)) 24) i)) nc 0 rfl ?_ ?_
  · rintro n v rfl
    show wl_C_pairs_4 O (nI nc) post (n + 1) _ (nI nc)
    unfold wl_C_pairs_4
    exact pk_le nc nc (fun _ => h) (fun z => absurd z (by omega))
  · rintro n i v hi rfl hk
    show wl_C_pairs_4 O (nI nc) post (n + 1) _ (nI i)
    unfold wl_C_pairs_4
    rw [nI_clamp (by omega), nI_1]
    refine pk_le nc i (fun z => absurd z (by omega)) (fun _ => ⟨vp_in_nI (by omega) (by omega), cl_bits (fun k q => ?_) ?_⟩)
    · have := (hg i k (by omega) q).2
      omega
    · rw [nI_add]
      exact hk _ rfl
theorem md_pairs {O B : Nat → Int32} (ht : tab O B) : ∀ n, n ≤ 24 → cnt (fun k => decide (¬ B k = 0)) (24 * n) = smf (fun c => cnt (bt (O c)) 24) n := by
  intro n
  induction n with
  | zero => intro _; rfl
  | succ n ih =>
    intro hn
    show cnt _ (24 * (n + 1)) = smf _ n + cnt (bt (O n)) 24
    rw [show 24 * (n + 1) = 24 * n + 24 by omega, cnt_add, ih (by omega)]
    congr 1
    refine cnt_congr (fun i hi => ?_)
    rcases tab_isB ht (show n < 24 by omega) hi with ⟨e1, e2⟩ | ⟨e1, e2⟩
    · rw [e1, e2]; rfl
    · rw [e1]
      cases z : bt (O n) i
      · rfl
      · exact absurd z e2
theorem md_cnt {th pd sr cl op x1 : Int32} {B : Nat → Int32} {post : Int32 → Int32 → Prop} (h : ((x1 = 0 → (post pd th)) ∧ (¬ (x1 = 0) → ((x1 = (1 : Int32) → (post sr th)) ∧ (¬ (x1 = (1 : Int32)) → ((x1 = (2 : Int32) → (post cl th)) ∧ (¬ (x1 = (2 : Int32)) → ((x1 = (3 : Int32) → (post op th)) ∧ (¬ (x1 = (3 : Int32)) → (post (nI (cnt (fun k => decide (¬ B k = 0)) 576)) th)))))))))) : ∃ n9, wl_M_count_21 th pd sr cl B op x1 post n9 (0 : Int32) (0 : Int32) := by
  refine loop_0 (fun n i (v : Int32) => wl_M_count_21 th pd sr cl B op x1 post n v (nI i)) (fun i v => v = nI (cnt (fun k => decide (¬ B k = 0)) i)) 576 0 rfl ?_ ?_
  · rintro n v rfl
    show wl_M_count_21 th pd sr cl B op x1 post (n + 1) _ (nI 576)
    unfold wl_M_count_21
    exact pk_le 576 576 (fun _ => h) (fun z => absurd z (by omega))
  · rintro n i v hi rfl hk
    show wl_M_count_21 th pd sr cl B op x1 post (n + 1) _ (nI i)
    unfold wl_M_count_21
    rw [nI_clamp (by omega), nI_1, nI_1]
    refine pk_le 576 i (fun z => absurd z (by omega)) (fun _ => ⟨vp_in_nI hi (by omega), fun q => hk _ ?_, fun q => hk _ ?_⟩)
    · show nI (cnt (fun k => decide (¬ B k = 0)) i) = nI (cnt (fun k => decide (¬ B k = 0)) i + (if decide (¬ B i = 0) then 1 else 0))
      rw [if_neg (by rw [decide_eq_true_eq]; exact fun z => z q)]
      rfl
    · show nI (cnt (fun k => decide (¬ B k = 0)) i + 1) = nI (cnt (fun k => decide (¬ B k = 0)) i + (if decide (¬ B i = 0) then 1 else 0))
      rw [if_pos (by rw [decide_eq_true_eq]; exact q)]
