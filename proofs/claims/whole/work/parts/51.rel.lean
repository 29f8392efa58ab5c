/-! the relation between the class's variables and the reference's -/
def r_T (T_signs T_lengths : Nat → Int32) (M_padded : Int32) (M_pad M_lengths M_texts M_formLengths M_forms : Nat → Int32) (ns : Nat) : Prop :=
  (∃ np, np ≤ 60 ∧ M_padded = nI np ∧ T_lengths 28 = nI np ∧ ∀ j, j < np → T_signs (1680 + j) = M_pad j ∧ M_pad j ≠ -1) ∧
  (∀ i, i < ns → ∃ n, n ≤ 60 ∧ T_lengths i = nI n ∧ M_lengths i = nI n ∧ ∀ j, j < n → T_signs (60 * i + j) = M_texts (60 * i + j)) ∧
  (∀ f, f < 4 → ∃ n, n ≤ 60 ∧ T_lengths (24 + f) = nI n ∧ M_formLengths f = nI n ∧ ∀ j, j < n → T_signs (60 * (24 + f) + j) = M_forms (60 * f + j) ∧ M_forms (60 * f + j) ≠ -1)
def r_S (S_kinds S_days S_withdrawals : Nat → Int32) (S_made M_sources : Int32) (M_kinds M_days M_withdrawn : Nat → Int32) (ns : Nat) : Prop :=
  ns ≤ 24 ∧ S_made = nI ns ∧ M_sources = nI ns ∧ ∀ i, i < ns → S_kinds i = M_kinds i ∧ S_days i = M_days i ∧ S_withdrawals i = M_withdrawn i ∧ (∃ k, k ≤ 25 ∧ M_kinds i = nI k) ∧ (∃ d, d ≤ 100000 ∧ M_days i = nI d)
/-- Int32 by its bits -/
def bt (x : Int32) (i : Nat) : Bool := x.toBitVec.getLsbD i
/-- n steps along the pairs -/
def stp (E : Nat → Nat → Bool) : Nat → Nat → Nat → Prop
  | 0, a, b => a = b
  | n + 1, a, b => ∃ c, E a c = true ∧ stp E n c b
/-- who rests on whom, out of the class's sets -/
def on_C (C_otherSets : Nat → Int32) : Nat → Nat → Bool := fun a b => decide (a < 24) && bt (C_otherSets a) b
def r_C (C_sourceSets C_otherSets C_rules C_ringClaims : Nat → Int32) (C_made C_ringLength M_claims M_rings : Int32) (M_onSource M_onClaim M_rules M_ring : Nat → Int32) (ns nc : Nat) : Prop :=
  nc ≤ 24 ∧ C_made = nI nc ∧ M_claims = nI nc ∧
  (∀ c s, c < 24 → s < 24 → M_onSource (24 * c + s) = if bt (C_sourceSets c) s then 1 else 0) ∧ (∀ c s, c < 24 → bt (C_sourceSets c) s = true → c < nc ∧ s < ns) ∧
  (∀ c d, c < 24 → d < 24 → M_onClaim (24 * c + d) = if bt (C_otherSets c) d then 1 else 0) ∧ (∀ c d, c < 24 → bt (C_otherSets c) d = true → c < nc ∧ d < nc) ∧
  (∀ c, c < 24 → C_rules c = M_rules c ∧ ∃ k, k ≤ 2 ∧ M_rules c = nI k) ∧
  (∃ rl, rl ≤ 24 ∧ C_ringLength = nI rl ∧ M_rings = nI rl ∧ ∀ j, j < rl → C_ringClaims j = M_ring j) ∧
  (∀ n a, ¬ stp (on_C C_otherSets) (n + 1) a a)
def r_O (O_persons O_claimNumbers O_days O_values O_ranks : Nat → Int32) (O_made M_opinions : Int32) (M_persons M_ofClaims M_values M_when M_ranks : Nat → Int32) (no : Nat) : Prop :=
  no ≤ 300 ∧ O_made = nI no ∧ M_opinions = nI no ∧
  (∀ k, k < no → O_persons k = M_persons k ∧ O_claimNumbers k = M_ofClaims k ∧ O_days k = M_when k ∧ O_values k = M_values k ∧ O_ranks k = M_ranks k ∧
    (∃ p, p < 32 ∧ M_persons k = nI p) ∧ (∃ v, v < 100 ∧ M_values k = nI v) ∧ (∃ r, r ≤ 9 ∧ M_ranks k = nI r) ∧ (∃ d, d ≤ 100000 ∧ M_when k = nI d)) ∧
  (∀ k q, k < no → q < no → M_persons k = M_persons q → M_ofClaims k = M_ofClaims q → M_when k = M_when q → k = q)
