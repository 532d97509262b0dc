/-! longs; err -/
theorem l_tI {n : Nat} (h : n < 4611686018427387904) : (lN n).toInt = (n : Int) := lg_ofNat_toInt (by omega)
theorem l_inj {a b : Int64} (h : a.toInt = b.toInt) : a = b := Int64.toInt_inj.mp h
theorem l_div {a b : Nat} (ha : a < 4611686018427387904) (hb : b < 4611686018427387904) : lN a / lN b = lN (a / b) := by
  apply l_inj
  have := Nat.div_le_self a b
  rw [Int64.toInt_div, l_tI ha, l_tI hb, l_tI (by omega), ← Int.ofNat_tdiv]
  generalize a / b = q at this ⊢
  apply Int.bmod_eq_of_le <;> omega
theorem l_rem {a b : Nat} (ha : a < 4611686018427387904) (hb : b < 4611686018427387904) : lN a - lN a / lN b * lN b = lN (a % b) := by
  rw [l_div ha hb, lN_mul, lN_sub (Nat.div_mul_le_self a b)]
  congr 1
  have := Nat.div_add_mod a b
  rw [Nat.mul_comm] at this
  omega
theorem l_eq {a b : Nat} (ha : a < 4611686018427387904) (hb : b < 4611686018427387904) : (lN a = lN b) ↔ a = b := by
  rw [← Int64.toInt_inj, l_tI ha, l_tI hb]
  omega
theorem l_lt {a b : Nat} (ha : a < 4611686018427387904) (hb : b < 4611686018427387904) : (lN a < lN b) ↔ a < b := by
  rw [lt_J, l_tI ha, l_tI hb]
  omega
theorem l_0 : (0 : Int64) = lN 0 := rfl
theorem l_i2l {n : Nat} (h : n < 2147483648) : (nI n).toInt64 = lN n := by
  apply l_inj
  rw [Int32.toInt_toInt64, z_tI h, l_tI (by omega)]
theorem gcd_st (a b : Nat) : Nat.gcd b (a % b) = Nat.gcd a b := by
  rw [Nat.gcd_comm a b, Nat.gcd_rec b a, Nat.gcd_comm]
theorem gcd_dn {a b n : Nat} (h : b ≤ a) (h0 : 0 < b) (hn : a * b < 2 ^ (n + 1)) : b * (a % b) < 2 ^ n := by
  have h1 := Nat.mod_lt a h0
  have h2 := Nat.div_add_mod a b
  have h3 : 1 ≤ a / b := (Nat.one_le_div_iff h0).mpr h
  have h4 : b * 1 ≤ b * (a / b) := Nat.mul_le_mul_left b h3
  have h5 : b * (2 * (a % b)) ≤ b * a := Nat.mul_le_mul_left b (by omega)
  rw [Nat.mul_comm b a, Nat.mul_left_comm] at h5
  rw [Nat.pow_succ] at hn
  omega
theorem x_gcd_loop (σ : Sg) (d : Nat) (u v : Value) : ∀ n a b s, b ≤ a → a < 1000000000 → a * b < 2 ^ n → s + n + 1 ≤ 100 → ∀ x y : Value, exec d mX6_commonDivisor 9 [u, uu, v, uu, .long (lN a), uu, .long (lN b), uu, .int (nI s), x, y] [] σ = some (some (.long (lN (Nat.gcd a b))), σ)
  | 0, a, b, s, h, ha, hn, hs => by
    intro x y
    have hb : b = 0 := by
      rcases Nat.eq_zero_or_pos b with q | q
      · exact q
      · have := Nat.mul_pos (show 0 < a by omega) q
        omega
    subst hb
    rw [hX6_commonDivisor_9]
    simp (disch := omega) only [kX6_commonDivisor, eq_self, Nat.reduceEqDiff, Nat.one_ne_zero, Nat.zero_ne_one, z_0, z_lt, z_le, z_eq, z_add, z_mul, z_inb, z_cl, z_b0, z_b1, z_b01, z_b010, z_b011, kb_v, kb_n, List.cons_append, List.nil_append, if_true, if_false, ↓reduceIte, Bool.false_eq_true, Bool.true_eq_false, decide_eq_true_eq, decide_eq_false_iff_not, not_false_eq_true, cmp_eq0]
    rw [if_neg (by omega), Nat.gcd_zero_right]
  | n + 1, a, b, s, h, ha, hn, hs => by
    intro x y
    rcases Nat.eq_zero_or_pos b with q | q
    · subst q
      rw [hX6_commonDivisor_9]
      simp (disch := omega) only [kX6_commonDivisor, eq_self, Nat.reduceEqDiff, Nat.one_ne_zero, Nat.zero_ne_one, z_0, z_lt, z_le, z_eq, z_add, z_mul, z_inb, z_cl, z_b0, z_b1, z_b01, z_b010, z_b011, kb_v, kb_n, List.cons_append, List.nil_append, if_true, if_false, ↓reduceIte, Bool.false_eq_true, Bool.true_eq_false, decide_eq_true_eq, decide_eq_false_iff_not, not_false_eq_true, cmp_eq0]
      rw [if_neg (by omega), Nat.gcd_zero_right]
    · have h1 := Nat.mod_lt a q
      have ih := x_gcd_loop σ d u v n b (a % b) (s + 1) (by omega) (by omega) (gcd_dn h q hn) (by omega)
      rw [gcd_st] at ih
      rw [hX6_commonDivisor_9]
      simp (disch := omega) only [kX6_commonDivisor, eq_self, Nat.reduceEqDiff, Nat.one_ne_zero, Nat.zero_ne_one, z_0, z_lt, z_le, z_eq, z_add, z_mul, z_inb, z_cl, z_b0, z_b1, z_b01, z_b010, z_b011, kb_v, kb_n, List.cons_append, List.nil_append, if_true, if_false, ↓reduceIte, Bool.false_eq_true, Bool.true_eq_false, decide_eq_true_eq, decide_eq_false_iff_not, not_false_eq_true, cmp_eq0, l_0, l_eq, l_rem]
      rw [if_neg (by omega), if_neg (by omega), if_neg (by omega)]
      exact ih _ _
theorem x_gcd (σ : Sg) (d : Nat) {a b : Nat} (ha : a < 1000000000) (h0 : 0 < b) (hb : b ≤ 100000) : cal (d + 1) mX6_commonDivisor [.long (lN a), .long (lN b)] σ = some (some (.long (lN (Nat.gcd a b))), σ) := by
  have h1 := Nat.mod_lt a h0
  have h2 : b * (a % b) ≤ 100000 * 100000 := Nat.mul_le_mul hb (by omega)
  have ih := x_gcd_loop σ d (.long (lN a)) (.long (lN b)) 40 b (a % b) 1 (by omega) (by omega) (by omega) (by omega)
  rw [gcd_st] at ih
  rw [aX6_commonDivisor]
  simp (disch := omega) only [kX6_commonDivisor]
  rw [hX6_commonDivisor_9]
  simp (disch := omega) only [kX6_commonDivisor, eq_self, Nat.reduceEqDiff, Nat.one_ne_zero, Nat.zero_ne_one, z_0, z_lt, z_le, z_eq, z_add, z_mul, z_inb, z_cl, z_b0, z_b1, z_b01, z_b010, z_b011, kb_v, kb_n, List.cons_append, List.nil_append, if_true, if_false, ↓reduceIte, Bool.false_eq_true, Bool.true_eq_false, decide_eq_true_eq, decide_eq_false_iff_not, not_false_eq_true, cmp_eq0, l_0, l_eq, l_rem, Nat.reduceLeDiff]
  rw [if_neg (by omega), if_neg (by omega)]
  exact ih _ _
def prd (f : Nat → Nat) : Nat → Nat
  | 0 => 1
  | n + 1 => prd f n * f n
theorem prd_le {f : Nat → Nat} : ∀ n, (∀ i, i < n → f i ≤ 10) → prd f n ≤ 10 ^ n
  | 0, _ => by simp [prd]
  | n + 1, h => by
    rw [prd, Nat.pow_succ]
    exact Nat.mul_le_mul (prd_le n (fun i hi => h i (by omega))) (h n (by omega))
theorem t5_le {n : Nat} (h : n ≤ 5) : 10 ^ n ≤ 100000 := by
  have : 10 ^ n ≤ 10 ^ 5 := Nat.pow_le_pow_right (by omega) h
  omega
def wyf (p t : Nat) : Nat → Nat := fun e => if t.testBit e = true then p else 10 - p
def wyn (T : TT) (p t : Nat) : Nat := prd (wyf p t) (T 8)
theorem wyn_le {T : TT} (w : WF T) {p : Nat} (hp : p ≤ 10) (t : Nat) : wyn T p t ≤ 100000 := by
  have w1 := w.1
  have h1 := prd_le (f := wyf p t) (T 8) (fun i _ => by unfold wyf; split <;> omega)
  have h2 := t5_le (n := T 8) (by omega)
  unfold wyn
  omega
theorem x_cs_loop {σ : Sg} {T : TT} (h : XT σ 8 T) (w : WF T) (d : Nat) {t p : Nat} (ht : t < 128) (hp : p ≤ 10) : ∀ m k, k + m = T 8 → exec (d + 1) mX6_casesOf 5 [.ref 0, .int (nI t), .int (nI p), .long (lN (prd (wyf p t) k)), uu, .int (nI k)] [] σ = some (some (.long (lN (wyn T p t))), σ)
  | 0, k, hk => by
    have w1 := w.1
    obtain rfl : k = T 8 := by omega
    rw [hX6_casesOf_5]
    simp (disch := omega) only [kX6_casesOf, XT8 h, eq_self, Nat.reduceEqDiff, Nat.one_ne_zero, Nat.zero_ne_one, z_0, z_lt, z_le, z_eq, z_add, z_mul, z_inb, z_cl, z_b0, z_b1, z_b01, z_b010, z_b011, kb_v, kb_n, List.cons_append, List.nil_append, if_true, if_false, ↓reduceIte, Bool.false_eq_true, Bool.true_eq_false, decide_eq_true_eq, decide_eq_false_iff_not, not_false_eq_true, Nat.le_refl]
    rfl
  | m + 1, k, hk => by
    have w1 := w.1
    have ih := x_cs_loop h w d ht hp m (k + 1) (by omega)
    rw [prd] at ih
    rw [hX6_casesOf_5]
    simp (disch := omega) only [kX6_casesOf, XT8 h, eq_self, Nat.reduceEqDiff, Nat.one_ne_zero, Nat.zero_ne_one, z_0, z_lt, z_le, z_eq, z_add, z_mul, z_inb, z_cl, z_b0, z_b1, z_b01, z_b010, z_b011, kb_v, kb_n, List.cons_append, List.nil_append, if_true, if_false, ↓reduceIte, Bool.false_eq_true, Bool.true_eq_false, decide_eq_true_eq, decide_eq_false_iff_not, not_false_eq_true, e_bit, z_sub, l_i2l, lN_mul]
    rw [if_neg (by omega)]
    cases q : t.testBit k
    · rw [show wyf p t k = 10 - p by unfold wyf; rw [q]; rfl] at ih
      exact ih
    · rw [show wyf p t k = p by unfold wyf; rw [q]; rfl] at ih
      exact ih
theorem x_cs {σ : Sg} {T : TT} (h : XT σ 8 T) (w : WF T) (d : Nat) {t p : Nat} (ht : t < 128) (hp : p ≤ 10) : cal (d + 2) mX6_casesOf [.ref 0, .int (nI t), .int (nI p)] σ = some (some (.long (lN (wyn T p t))), σ) := by
  rw [aX6_casesOf_0]
  simp (disch := omega) only [kX6_casesOf]
  exact x_cs_loop h w d ht hp (T 8) 0 (by omega)
def abf (T : TT) (p : Nat) : Nat → Nat := fun t => if wns T (vot T (T 4) (T 5) ^^^ t) = true then wyn T p t else 0
def abv (T : TT) (p : Nat) : Nat := smn (abf T p) (2 ^ (T 8))
theorem abf_le {T : TT} (w : WF T) {p : Nat} (hp : p ≤ 10) {k : Nat} (hk : k ≤ 32) : smn (abf T p) k ≤ 3200000 := by
  have : smn (abf T p) k ≤ k * 100000 := smn_le k (fun i _ => by have := wyn_le w hp i; unfold abf; split <;> omega)
  omega
def ean (T : TT) (p : Nat) (c : Int32) : Int64 := if c = nI 0 then lN (abv T p / Nat.gcd (abv T p) (10 ^ (T 8))) else lN (10 ^ (T 8) / Nat.gcd (abv T p) (10 ^ (T 8)))
theorem gcd_b {a b : Nat} (hb : 0 < b) : 0 < Nat.gcd a b ∧ Nat.gcd a b ≤ b := ⟨Nat.gcd_pos_of_pos_right a hb, Nat.le_of_dvd hb (Nat.gcd_dvd_right a b)⟩
theorem x_e1_loop {σ : Sg} {T : TT} (h : XT σ 8 T) (w : WF T) (d : Nat) (p c v : Int32) : ∀ m k, k + m = T 8 → ∀ x : Value, exec (d + 3) mX6_err 66 [.ref 0, .int p, .int c, .int v, .long (lN 0), uu, .long (lN (10 ^ k)), uu, .int (nI k), x] [] σ = exec (d + 3) mX6_err 95 [.ref 0, .int p, .int c, .int v, .long (lN 0), uu, .long (lN (10 ^ (T 8))), uu, .int (nI 0), x] [] σ
  | 0, k, hk => by
    intro x
    have w1 := w.1
    obtain rfl : k = T 8 := by omega
    rw [hX6_err_66]
    simp (disch := omega) only [kX6_err_0, kX6_err_1, kX6_err_2, XT8 h, eq_self, Nat.reduceEqDiff, Nat.one_ne_zero, Nat.zero_ne_one, z_0, z_lt, z_le, z_eq, z_add, z_mul, z_inb, z_cl, z_b0, z_b1, z_b01, z_b010, z_b011, kb_v, kb_n, List.cons_append, List.nil_append, if_true, if_false, ↓reduceIte, Bool.false_eq_true, Bool.true_eq_false, decide_eq_true_eq, decide_eq_false_iff_not, not_false_eq_true, Nat.le_refl]
  | m + 1, k, hk => by
    intro x
    have w1 := w.1
    refine Eq.trans ?_ (x_e1_loop h w d p c v m (k + 1) (by omega) x)
    rw [hX6_err_66, Nat.pow_succ]
    simp (disch := omega) only [kX6_err_0, kX6_err_1, kX6_err_2, XT8 h, eq_self, Nat.reduceEqDiff, Nat.one_ne_zero, Nat.zero_ne_one, z_0, z_lt, z_le, z_eq, z_add, z_mul, z_inb, z_cl, z_b0, z_b1, z_b01, z_b010, z_b011, kb_v, kb_n, List.cons_append, List.nil_append, if_true, if_false, ↓reduceIte, Bool.false_eq_true, Bool.true_eq_false, decide_eq_true_eq, decide_eq_false_iff_not, not_false_eq_true, lN_mul]
    rw [if_neg (by omega)]
theorem x_e2_loop {σ : Sg} {T : TT} (h : XT σ 8 T) (w : WF T) (d : Nat) {p : Nat} (hp : p ≤ 10) (c : Int32) : ∀ m k, k + m = 2 ^ (T 8) → ∀ x : Value, exec (d + 3) mX6_err 95 [.ref 0, .int (nI p), .int c, .int (nI (vot T (T 4) (T 5))), .long (lN (smn (abf T p) k)), uu, .long (lN (10 ^ (T 8))), uu, .int (nI k), x] [] σ = some (some (.long (ean T p c)), σ)
  | 0, k, hk => by
    intro x
    have w1 := w.1
    have h5 := p5_le (n := T 8) (by omega)
    have ht := t5_le (n := T 8) (by omega)
    have hb : smn (abf T p) (2 ^ (T 8)) ≤ 3200000 := abf_le w hp (by omega)
    have h0 : 0 < 10 ^ (T 8) := Nat.pow_pos (by omega)
    obtain ⟨g1, g2⟩ := gcd_b (a := abv T p) h0
    obtain rfl : k = 2 ^ (T 8) := by omega
    rw [← abv] at hb ⊢
    rw [hX6_err_95]
    simp (disch := omega) only [kX6_err_0, kX6_err_1, kX6_err_2, XT8 h, eq_self, Nat.reduceEqDiff, Nat.one_ne_zero, Nat.zero_ne_one, z_0, z_lt, z_le, z_eq, z_add, z_mul, z_inb, z_cl, z_b0, z_b1, z_b01, z_b010, z_b011, kb_v, kb_n, List.cons_append, List.nil_append, if_true, if_false, ↓reduceIte, Bool.false_eq_true, Bool.true_eq_false, decide_eq_true_eq, decide_eq_false_iff_not, not_false_eq_true, Nat.le_refl, z_one, x_gcd, cmp_gt0, l_lt, l_div, l_0, l_eq]
    rw [if_pos g1]
    simp only [show ¬ (Nat.gcd (abv T p) (10 ^ T 8) = 0) by omega, if_false]
    unfold ean
    split <;> rfl
  | m + 1, k, hk => by
    intro x
    have w1 := w.1
    have h5 := p5_le (n := T 8) (by omega)
    have hv := vot_pw T (T 4) (T 5)
    have hx : vot T (T 4) (T 5) ^^^ k < 2 ^ (T 8) := Nat.xor_lt_two_pow hv (by omega)
    have ih := x_e2_loop h w d hp c m (k + 1) (by omega)
    rw [smn] at ih
    rw [hX6_err_95]
    simp (disch := omega) only [kX6_err_0, kX6_err_1, kX6_err_2, XT8 h, eq_self, Nat.reduceEqDiff, Nat.one_ne_zero, Nat.zero_ne_one, z_0, z_lt, z_le, z_eq, z_add, z_mul, z_inb, z_cl, z_b0, z_b1, z_b01, z_b010, z_b011, kb_v, kb_n, List.cons_append, List.nil_append, if_true, if_false, ↓reduceIte, Bool.false_eq_true, Bool.true_eq_false, decide_eq_true_eq, decide_eq_false_iff_not, not_false_eq_true, z_one, z_xor, x_wins h w, x_cs h w, lN_add]
    rw [if_neg (by omega)]
    cases q : wns T (vot T (T 4) (T 5) ^^^ k)
    · rw [show abf T p k = 0 by unfold abf; rw [q]; rfl] at ih
      exact ih _
    · rw [show abf T p k = wyn T p k by unfold abf; rw [q]; rfl] at ih
      exact ih _
theorem m_e1_loop {σ : Sg} {T : TT} (h : MT σ 0 T) (w : WF T) (d : Nat) (p c : Int32) : ∀ m k, k + m = T 8 → ∀ x y z u v : Value, exec (d + 4) mX7_err 45 [.ref 50, .int p, .int c, .long (lN 0), uu, .long (lN (10 ^ k)), uu, .int (nI k), x, y, z, u, v] [] σ = exec (d + 4) mX7_err 74 [.ref 50, .int p, .int c, .long (lN 0), uu, .long (lN (10 ^ (T 8))), uu, .int (nI 0), x, y, z, u, v] [] σ
  | 0, k, hk => by
    intro x y z u v
    have w1 := w.1
    obtain rfl : k = T 8 := by omega
    rw [hX7_err_45]
    simp (disch := omega) only [kX7_err_0, kX7_err_1, kX7_err_2, MT0 h, eq_self, Nat.reduceEqDiff, Nat.one_ne_zero, Nat.zero_ne_one, z_0, z_lt, z_le, z_eq, z_add, z_mul, z_inb, z_cl, z_b0, z_b1, z_b01, z_b010, z_b011, kb_v, kb_n, List.cons_append, List.nil_append, if_true, if_false, ↓reduceIte, Bool.false_eq_true, Bool.true_eq_false, decide_eq_true_eq, decide_eq_false_iff_not, not_false_eq_true, Nat.le_refl]
  | m + 1, k, hk => by
    intro x y z u v
    have w1 := w.1
    refine Eq.trans ?_ (m_e1_loop h w d p c m (k + 1) (by omega) x y z u v)
    rw [hX7_err_45, Nat.pow_succ]
    simp (disch := omega) only [kX7_err_0, kX7_err_1, kX7_err_2, MT0 h, eq_self, Nat.reduceEqDiff, Nat.one_ne_zero, Nat.zero_ne_one, z_0, z_lt, z_le, z_eq, z_add, z_mul, z_inb, z_cl, z_b0, z_b1, z_b01, z_b010, z_b011, kb_v, kb_n, List.cons_append, List.nil_append, if_true, if_false, ↓reduceIte, Bool.false_eq_true, Bool.true_eq_false, decide_eq_true_eq, decide_eq_false_iff_not, not_false_eq_true, lN_mul]
    rw [if_neg (by omega)]
theorem m_ej_loop {σ : Sg} {T : TT} (h : MT σ 0 T) (w : WF T) (d : Nat) {p t : Nat} (hp : p ≤ 10) (ht : t < 128) (c : Int32) (a b : Int64) : ∀ m k, k + m = T 8 → ∀ u v : Value, exec (d + 4) mX7_err 94 [.ref 50, .int (nI p), .int c, .long a, uu, .long b, uu, .int (nI t), .long (lN (prd (wyf p t) k)), uu, .int (nI k), u, v] [] σ = exec (d + 4) mX7_err 137 [.ref 50, .int (nI p), .int c, .long a, uu, .long b, uu, .int (nI t), .long (lN (wyn T p t)), uu, .int (nI (T 8)), u, v] [] σ
  | 0, k, hk => by
    intro u v
    have w1 := w.1
    obtain rfl : k = T 8 := by omega
    rw [hX7_err_94]
    simp (disch := omega) only [kX7_err_0, kX7_err_1, kX7_err_2, MT0 h, eq_self, Nat.reduceEqDiff, Nat.one_ne_zero, Nat.zero_ne_one, z_0, z_lt, z_le, z_eq, z_add, z_mul, z_inb, z_cl, z_b0, z_b1, z_b01, z_b010, z_b011, kb_v, kb_n, List.cons_append, List.nil_append, if_true, if_false, ↓reduceIte, Bool.false_eq_true, Bool.true_eq_false, decide_eq_true_eq, decide_eq_false_iff_not, not_false_eq_true, Nat.le_refl]
    rfl
  | m + 1, k, hk => by
    intro u v
    have w1 := w.1
    refine Eq.trans ?_ (m_ej_loop h w d hp ht c a b m (k + 1) (by omega) u v)
    rw [hX7_err_94, prd]
    simp (disch := omega) only [kX7_err_0, kX7_err_1, kX7_err_2, MT0 h, eq_self, Nat.reduceEqDiff, Nat.one_ne_zero, Nat.zero_ne_one, z_0, z_lt, z_le, z_eq, z_add, z_mul, z_inb, z_cl, z_b0, z_b1, z_b01, z_b010, z_b011, kb_v, kb_n, List.cons_append, List.nil_append, if_true, if_false, ↓reduceIte, Bool.false_eq_true, Bool.true_eq_false, decide_eq_true_eq, decide_eq_false_iff_not, not_false_eq_true, m_has, z_sub, l_i2l, lN_mul]
    rw [if_neg (by omega)]
    unfold wyf
    cases q : t.testBit k <;> rfl
theorem m_gcd_loop (σ : Sg) (d : Nat) (p c : Int32) (up0 dn0 : Nat) (hu : up0 < 1000000000) (hd : dn0 < 1000000000) : ∀ n a b, b ≤ a → 0 < a → a < 1000000000 → a * b < 2 ^ n → ∀ x y : Value, exec d mX7_err 173 [.ref 50, .int p, .int c, .long (lN up0), uu, .long (lN dn0), uu, .long (lN a), uu, .long (lN b), uu, x, y] [] σ = some (some (.long (if c = nI 0 then lN (up0 / Nat.gcd a b) else lN (dn0 / Nat.gcd a b))), σ)
  | 0, a, b, h, h0, ha, hn => by
    intro x y
    have hb : b = 0 := by
      rcases Nat.eq_zero_or_pos b with q | q
      · exact q
      · have := Nat.mul_pos (show 0 < a by omega) q
        omega
    subst hb
    rw [hX7_err_173, Nat.gcd_zero_right]
    simp (disch := omega) only [kX7_err_0, kX7_err_1, kX7_err_2, eq_self, Nat.reduceEqDiff, Nat.one_ne_zero, Nat.zero_ne_one, z_0, z_lt, z_le, z_eq, z_add, z_mul, z_inb, z_cl, z_b0, z_b1, z_b01, z_b010, z_b011, kb_v, kb_n, List.cons_append, List.nil_append, if_true, if_false, ↓reduceIte, Bool.false_eq_true, Bool.true_eq_false, decide_eq_true_eq, decide_eq_false_iff_not, not_false_eq_true, cmp_eq0, l_0, l_eq, l_div]
    simp only [show ¬ (a = 0) by omega, if_false]
    split <;> rfl
  | n + 1, a, b, h, h0, ha, hn => by
    intro x y
    rcases Nat.eq_zero_or_pos b with q | q
    · subst q
      rw [hX7_err_173, Nat.gcd_zero_right]
      simp (disch := omega) only [kX7_err_0, kX7_err_1, kX7_err_2, eq_self, Nat.reduceEqDiff, Nat.one_ne_zero, Nat.zero_ne_one, z_0, z_lt, z_le, z_eq, z_add, z_mul, z_inb, z_cl, z_b0, z_b1, z_b01, z_b010, z_b011, kb_v, kb_n, List.cons_append, List.nil_append, if_true, if_false, ↓reduceIte, Bool.false_eq_true, Bool.true_eq_false, decide_eq_true_eq, decide_eq_false_iff_not, not_false_eq_true, cmp_eq0, l_0, l_eq, l_div]
      simp only [show ¬ (a = 0) by omega, if_false]
      split <;> rfl
    · have h1 := Nat.mod_lt a q
      have ih := m_gcd_loop σ d p c up0 dn0 hu hd n b (a % b) (by omega) (by omega) (by omega) (gcd_dn h q hn)
      rw [gcd_st] at ih
      rw [hX7_err_173]
      simp (disch := omega) only [kX7_err_0, kX7_err_1, kX7_err_2, eq_self, Nat.reduceEqDiff, Nat.one_ne_zero, Nat.zero_ne_one, z_0, z_lt, z_le, z_eq, z_add, z_mul, z_inb, z_cl, z_b0, z_b1, z_b01, z_b010, z_b011, kb_v, kb_n, List.cons_append, List.nil_append, if_true, if_false, ↓reduceIte, Bool.false_eq_true, Bool.true_eq_false, decide_eq_true_eq, decide_eq_false_iff_not, not_false_eq_true, cmp_eq0, l_0, l_eq, l_rem]
      rw [if_neg (by omega), if_neg (by omega)]
      exact ih _ _
theorem m_e2_loop {σ : Sg} {T : TT} (h : MT σ 0 T) (w : WF T) (d : Nat) {p : Nat} (hp : p ≤ 10) (c : Int32) : ∀ m k, k + m = 2 ^ (T 8) → ∀ x y z u v : Value, exec (d + 4) mX7_err 74 [.ref 50, .int (nI p), .int c, .long (lN (smn (abf T p) k)), uu, .long (lN (10 ^ (T 8))), uu, .int (nI k), x, y, z, u, v] [] σ = some (some (.long (ean T p c)), σ)
  | 0, k, hk => by
    intro x y z u v
    have w1 := w.1
    have h5 := p5_le (n := T 8) (by omega)
    have ht := t5_le (n := T 8) (by omega)
    have hb : smn (abf T p) (2 ^ (T 8)) ≤ 3200000 := abf_le w hp (by omega)
    have h0 : 0 < 10 ^ (T 8) := Nat.pow_pos (by omega)
    obtain rfl : k = 2 ^ (T 8) := by omega
    rw [← abv] at hb ⊢
    have h1 := Nat.mod_lt (abv T p) h0
    have h2 : 10 ^ (T 8) * (abv T p % 10 ^ (T 8)) ≤ 100000 * 100000 := Nat.mul_le_mul ht (by omega)
    have e := m_gcd_loop σ (d + 4) (nI p) c (abv T p) (10 ^ (T 8)) (by omega) (by omega) 40 (10 ^ (T 8)) (abv T p % 10 ^ (T 8)) (by omega) h0 (by omega) (by omega)
    rw [gcd_st] at e
    rw [hX7_err_74]
    simp (disch := omega) only [kX7_err_0, kX7_err_1, kX7_err_2, MT0 h, eq_self, Nat.reduceEqDiff, Nat.one_ne_zero, Nat.zero_ne_one, z_0, z_lt, z_le, z_eq, z_add, z_mul, z_inb, z_cl, z_b0, z_b1, z_b01, z_b010, z_b011, kb_v, kb_n, List.cons_append, List.nil_append, if_true, if_false, ↓reduceIte, Bool.false_eq_true, Bool.true_eq_false, decide_eq_true_eq, decide_eq_false_iff_not, not_false_eq_true, Nat.le_refl, z_one]
    rw [hX7_err_173]
    simp (disch := omega) only [kX7_err_0, kX7_err_1, kX7_err_2, eq_self, Nat.reduceEqDiff, Nat.one_ne_zero, Nat.zero_ne_one, z_0, z_lt, z_le, z_eq, z_add, z_mul, z_inb, z_cl, z_b0, z_b1, z_b01, z_b010, z_b011, kb_v, kb_n, List.cons_append, List.nil_append, if_true, if_false, ↓reduceIte, Bool.false_eq_true, Bool.true_eq_false, decide_eq_true_eq, decide_eq_false_iff_not, not_false_eq_true, cmp_eq0, l_0, l_eq, l_rem]
    rw [if_neg (by omega), if_neg (by omega)]
    exact (e _ _).trans rfl
  | m + 1, k, hk => by
    intro x y z u v
    have w1 := w.1
    have h5 := p5_le (n := T 8) (by omega)
    have hv := vot_pw T (T 4) (T 5)
    have hx : vot T (T 4) (T 5) ^^^ k < 2 ^ (T 8) := Nat.xor_lt_two_pow hv (by omega)
    have ih := m_e2_loop h w d hp c m (k + 1) (by omega)
    rw [smn] at ih
    rw [hX7_err_74]
    simp (disch := omega) only [kX7_err_0, kX7_err_1, kX7_err_2, MT0 h, eq_self, Nat.reduceEqDiff, Nat.one_ne_zero, Nat.zero_ne_one, z_0, z_lt, z_le, z_eq, z_add, z_mul, z_inb, z_cl, z_b0, z_b1, z_b01, z_b010, z_b011, kb_v, kb_n, List.cons_append, List.nil_append, if_true, if_false, ↓reduceIte, Bool.false_eq_true, Bool.true_eq_false, decide_eq_true_eq, decide_eq_false_iff_not, not_false_eq_true, z_one]
    rw [if_neg (by omega)]
    refine (m_ej_loop h w d hp (t := k) (by omega) c _ _ (T 8) 0 (by omega) _ _).trans ?_
    simp (disch := omega) only [kX7_err_0, kX7_err_1, kX7_err_2, MT0 h, eq_self, Nat.reduceEqDiff, Nat.one_ne_zero, Nat.zero_ne_one, z_0, z_lt, z_le, z_eq, z_add, z_mul, z_inb, z_cl, z_b0, z_b1, z_b01, z_b010, z_b011, kb_v, kb_n, List.cons_append, List.nil_append, if_true, if_false, ↓reduceIte, Bool.false_eq_true, Bool.true_eq_false, decide_eq_true_eq, decide_eq_false_iff_not, not_false_eq_true, z_xor, m_isMost h w, m_votesNow h w, lN_add]
    cases q : wns T (vot T (T 4) (T 5) ^^^ k)
    · rw [show abf T p k = 0 by unfold abf; rw [q]; rfl] at ih
      exact ih _ _ _ _ _
    · rw [show abf T p k = wyn T p k by unfold abf; rw [q]; rfl] at ih
      exact ih _ _ _ _ _
theorem b_err (a c : Int32) : BO mX6_err mX7_err [.int a, .int c] := by
  rintro ⟨T, I0, I1, A, rz, rl, it, tn, tp, ft, fs, cn, ct⟩ ok
  have w : WF T := ok.1
  have w1 := w.1
  rcases (show T 6 = 0 ∨ T 6 = 1 by omega) with h6 | h6
  · refine ⟨.long (-1000002), _, XO_id fun σ d h => ?_, MO_id fun σ d h => ?_, ok⟩
    · have hT := h.1
      rw [aX6_err_0]
      simp (disch := omega) only [kX6_err_0, kX6_err_1, kX6_err_2, eq_self, Nat.reduceEqDiff, Nat.one_ne_zero, Nat.zero_ne_one, z_0, z_lt, z_le, z_eq, z_add, z_mul, z_inb, z_cl, z_b0, z_b1, z_b01, z_b010, z_b011, kb_v, kb_n, List.cons_append, List.nil_append, if_true, if_false, ↓reduceIte, Bool.false_eq_true, Bool.true_eq_false, decide_eq_true_eq, decide_eq_false_iff_not, not_false_eq_true, XT8 hT, h6]
    · have hT := h.1
      rw [aX7_err_50]
      simp (disch := omega) only [kX7_err_0, kX7_err_1, kX7_err_2, eq_self, Nat.reduceEqDiff, Nat.one_ne_zero, Nat.zero_ne_one, z_0, z_lt, z_le, z_eq, z_add, z_mul, z_inb, z_cl, z_b0, z_b1, z_b01, z_b010, z_b011, kb_v, kb_n, List.cons_append, List.nil_append, if_true, if_false, ↓reduceIte, Bool.false_eq_true, Bool.true_eq_false, decide_eq_true_eq, decide_eq_false_iff_not, not_false_eq_true, m_isTrial hT w, h6]
  by_cases hb : isin a 11 = true ∧ isin c 2 = true
  · obtain ⟨p, hp, rfl⟩ := (isin_t (by omega)).mp hb.1
    refine ⟨.long (ean T p c), _, XO_id fun σ d h => ?_, MO_id fun σ d h => ?_, ok⟩
    · have hT := h.1
      rw [aX6_err_0]
      simp (disch := omega) only [kX6_err_0, kX6_err_1, kX6_err_2, eq_self, Nat.reduceEqDiff, Nat.one_ne_zero, Nat.zero_ne_one, z_0, z_lt, z_le, z_eq, z_add, z_mul, z_inb, z_cl, z_b0, z_b1, z_b01, z_b010, z_b011, kb_v, kb_n, List.cons_append, List.nil_append, if_true, if_false, ↓reduceIte, Bool.false_eq_true, Bool.true_eq_false, decide_eq_true_eq, decide_eq_false_iff_not, not_false_eq_true, XT8 hT, h6, e_isOne, hb.2, x_votes hT w, Nat.not_lt_zero]
      rw [if_neg (by omega)]
      refine (x_e1_loop hT w (d + 26) (nI p) c _ (T 8) 0 (by omega) _).trans ?_
      exact x_e2_loop hT w (d + 26) (by omega) c (2 ^ (T 8)) 0 (by omega) _
    · have hT := h.1
      rw [aX7_err_50]
      simp (disch := omega) only [kX7_err_0, kX7_err_1, kX7_err_2, eq_self, Nat.reduceEqDiff, Nat.one_ne_zero, Nat.zero_ne_one, z_0, z_lt, z_le, z_eq, z_add, z_mul, z_inb, z_cl, z_b0, z_b1, z_b01, z_b010, z_b011, kb_v, kb_n, List.cons_append, List.nil_append, if_true, if_false, ↓reduceIte, Bool.false_eq_true, Bool.true_eq_false, decide_eq_true_eq, decide_eq_false_iff_not, not_false_eq_true, m_isTrial hT w, h6, m_inN, inr_0, hb.1, hb.2]
      refine (m_e1_loop hT w (d + 25) (nI p) c (T 8) 0 (by omega) _ _ _ _ _).trans ?_
      exact m_e2_loop hT w (d + 25) (by omega) c (2 ^ (T 8)) 0 (by omega) _ _ _ _ _
  · refine ⟨.long (-1000001), _, XO_id fun σ d h => ?_, MO_id fun σ d h => ?_, ok⟩
    · have hT := h.1
      rw [aX6_err_0]
      simp (disch := omega) only [kX6_err_0, kX6_err_1, kX6_err_2, eq_self, Nat.reduceEqDiff, Nat.one_ne_zero, Nat.zero_ne_one, z_0, z_lt, z_le, z_eq, z_add, z_mul, z_inb, z_cl, z_b0, z_b1, z_b01, z_b010, z_b011, kb_v, kb_n, List.cons_append, List.nil_append, if_true, if_false, ↓reduceIte, Bool.false_eq_true, Bool.true_eq_false, decide_eq_true_eq, decide_eq_false_iff_not, not_false_eq_true, XT8 hT, h6, e_isOne, lt_I, le_I, z_tI]
      by_cases q1 : isin a 11 = true
      · have q2 : isin c 2 = false := by
          cases q : isin c 2
          · rfl
          · exact absurd ⟨q1, q⟩ hb
        unfold isin at q1
        rw [decide_eq_true_iff] at q1
        rw [if_neg (by omega), if_neg (by omega), q2, if_pos rfl]
      · unfold isin at q1
        rw [decide_eq_true_iff] at q1
        split
        · rfl
        · rw [if_pos (by omega)]
    · have hT := h.1
      rw [aX7_err_50]
      simp (disch := omega) only [kX7_err_0, kX7_err_1, kX7_err_2, eq_self, Nat.reduceEqDiff, Nat.one_ne_zero, Nat.zero_ne_one, z_0, z_lt, z_le, z_eq, z_add, z_mul, z_inb, z_cl, z_b0, z_b1, z_b01, z_b010, z_b011, kb_v, kb_n, List.cons_append, List.nil_append, if_true, if_false, ↓reduceIte, Bool.false_eq_true, Bool.true_eq_false, decide_eq_true_eq, decide_eq_false_iff_not, not_false_eq_true, m_isTrial hT w, h6, m_inN, inr_0]
      cases q1 : isin a 11 <;> cases q2 : isin c 2 <;> simp_all
