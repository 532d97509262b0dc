/-! feasts -/
theorem m_inN (d : Nat) (σ : Sg) (a : Int32) {lo hi : Nat} (h1 : lo < 2147483648) (h2 : hi < 2147483648) : cal (d + 1) mX7_in [.long a.toInt64, .long (lN lo), .long (lN hi)] σ = some (some (.int (nI (inr a lo hi).toNat)), σ) := by
  rw [m_in]
  refine rB ?_
  unfold inr
  rw [lN_tI h1, lN_tI h2, Int32.toInt_toInt64]
theorem m_inI (d : Nat) (σ : Sg) (a : Int32) {lo hi : Nat} (h1 : lo < 2147483648) (h2 : hi < 2147483648) : cal (d + 1) mX7_in [.long a.toInt64, .long (nI lo).toInt64, .long (nI hi).toInt64] σ = some (some (.int (nI (inr a lo hi).toNat)), σ) := by
  rw [m_in]
  refine rB ?_
  unfold inr
  rw [Int32.toInt_toInt64, Int32.toInt_toInt64, Int32.toInt_toInt64, z_tI h1, z_tI h2]
theorem inr_0 (a : Int32) (n : Nat) : inr a 0 n = isin a (n + 1) := by
  unfold inr isin
  apply decide_eq_decide.mpr
  omega
theorem and_pw {a b n : Nat} (h : a < 2 ^ n) : a &&& b < 2 ^ n := Nat.lt_of_le_of_lt Nat.and_le_left h
theorem or_128 {a b : Nat} (ha : a < 128) (hb : b < 128) : a ||| b < 128 := Nat.or_lt_two_pow (n := 7) ha hb
theorem or_32 {a b : Nat} (ha : a < 32) (hb : b < 32) : a ||| b < 32 := Nat.or_lt_two_pow (n := 5) ha hb
theorem p5_le {n : Nat} (h : n ≤ 5) : 2 ^ n ≤ 32 := by
  have : 2 ^ n ≤ 2 ^ 5 := Nat.pow_le_pow_right (by omega) h
  omega
theorem p7_le {n : Nat} (h : n ≤ 7) : 2 ^ n ≤ 128 := by
  have : 2 ^ n ≤ 2 ^ 7 := Nat.pow_le_pow_right (by omega) h
  omega
theorem x_fe_loop {σ : Sg} {T : TT} (h : XT σ 8 T) (w : WF T) (d : Nat) : ∀ m k, k + m = 2 ^ (T 8) → ∀ a b c : Value, exec (d + 3) mX6_cheapestFeasts 10 [.ref 0, .int (opt (fbs T k)), .int (nI (fq1 T (fbs T k))), .int (nI (fq2 T (fbs T k))), .int (nI k), a, b, c] [] σ = some (some (.int (opt (fbs T (2 ^ (T 8))))), σ)
  | 0, k, hk => by
    intro a b c
    have w1 := w.1
    have h5 := p5_le (n := T 8) (by omega)
    rw [hX6_cheapestFeasts_10]
    simp (disch := omega) only [kX6_cheapestFeasts_0, kX6_cheapestFeasts_1, XT8 h, eq_self, Nat.reduceEqDiff, Nat.one_ne_zero, Nat.zero_ne_one, z_0, z_lt, z_le, z_eq, z_add, z_mul, z_inb, z_cl, z_b0, z_b1, z_b01, z_b010, z_b011, kb_v, kb_n, List.cons_append, List.nil_append, if_true, if_false, ↓reduceIte, Bool.false_eq_true, Bool.true_eq_false, decide_eq_true_eq, decide_eq_false_iff_not, not_false_eq_true, z_one]
    rw [if_pos (by omega), show k = 2 ^ (T 8) by omega]
  | m + 1, k, hk => by
    intro a b c
    have w1 := w.1
    have h5 := p5_le (n := T 8) (by omega)
    have hpk := pop_le k
    have hfk := fsc_le w k
    have hor := or_32 (a := T 5) (b := k) (by omega) (by omega)
    have hand : k &&& T 5 < 128 := Nat.lt_of_le_of_lt Nat.and_le_left (by omega)
    have hv := vot_lt T (T 4) (T 5 ||| k) (by omega)
    have ih := x_fe_loop h w d m (k + 1) (by omega)
    rw [hX6_cheapestFeasts_10]
    cases ho : fbs T k with
    | none =>
      simp (disch := omega) only [kX6_cheapestFeasts_0, kX6_cheapestFeasts_1, XT8 h, eq_self, Nat.reduceEqDiff, Nat.one_ne_zero, Nat.zero_ne_one, z_0, z_lt, z_le, z_eq, z_add, z_mul, z_inb, z_cl, z_b0, z_b1, z_b01, z_b010, z_b011, kb_v, kb_n, List.cons_append, List.nil_append, if_true, if_false, ↓reduceIte, Bool.false_eq_true, Bool.true_eq_false, decide_eq_true_eq, decide_eq_false_iff_not, not_false_eq_true, z_one, z_or, z_and, x_wins h w, x_votes h w, e_bitCount, x_fsc h w, opt]
      rw [if_neg (by omega)]
      simp only [fbs, ho, fls, fmy, Bool.and_true, Bool.and_eq_true, decide_eq_true_eq] at ih
      simp only [← Nat.not_le] at ih ⊢
      by_cases q1 : k &&& T 5 = 0 <;> by_cases q2 : fsc T k ≤ T 2 <;> cases q3 : wns T (vot T (T 4) (T 5 ||| k)) <;>
        (simp only [q1, q2, q3, and_true, true_and, and_false, false_and, if_true, if_false, not_true, not_false_eq_true, Bool.false_eq_true, Bool.true_eq_false, opt, fq1, fq2] at ih ⊢
         exact ih _ _ _)
    | some p =>
      have hp := fbs_lt T k p ho
      have hpp := pop_le p
      have hfp := fsc_le w p
      simp (disch := omega) only [kX6_cheapestFeasts_0, kX6_cheapestFeasts_1, XT8 h, eq_self, Nat.reduceEqDiff, Nat.one_ne_zero, Nat.zero_ne_one, z_0, z_lt, z_le, z_eq, z_add, z_mul, z_inb, z_cl, z_b0, z_b1, z_b01, z_b010, z_b011, kb_v, kb_n, List.cons_append, List.nil_append, if_true, if_false, ↓reduceIte, Bool.false_eq_true, Bool.true_eq_false, decide_eq_true_eq, decide_eq_false_iff_not, not_false_eq_true, z_one, z_or, z_and, x_wins h w, x_votes h w, e_bitCount, x_fsc h w, opt, fq1, fq2, neN]
      rw [if_neg (by omega)]
      simp only [fbs, ho, fls, fmy, Bool.and_eq_true, Bool.or_eq_true, decide_eq_true_eq] at ih
      simp only [← Nat.not_le] at ih ⊢
      by_cases q1 : k &&& T 5 = 0 <;> by_cases q2 : fsc T k ≤ T 2 <;> cases q3 : wns T (vot T (T 4) (T 5 ||| k)) <;> by_cases q4 : pop p ≤ pop k <;> by_cases q5 : pop k = pop p <;> by_cases q6 : fsc T p ≤ fsc T k <;> (first | replace q5 := eq_false q5 | replace q5 := eq_true q5) <;>
        (simp only [q1, q2, q3, q4, q5, q6, and_true, true_and, and_false, false_and, or_true, true_or, or_false, false_or, if_true, if_false, not_true, not_false_eq_true, Bool.false_eq_true, Bool.true_eq_false, opt, fq1, fq2] at ih ⊢
         exact ih _ _ _)
theorem x_fe {σ : Sg} {T : TT} (h : XT σ 8 T) (w : WF T) (d : Nat) : cal (d + 4) mX6_cheapestFeasts [.ref 0] σ = some (some (.int (opt (fbs T (2 ^ (T 8))))), σ) := by
  rw [aX6_cheapestFeasts_0]
  simp (disch := omega) only [kX6_cheapestFeasts_0, kX6_cheapestFeasts_1, eq_self, Nat.reduceEqDiff, Nat.one_ne_zero, Nat.zero_ne_one, z_0, z_lt, z_le, z_eq, z_add, z_mul, z_inb, z_cl, z_b0, z_b1, z_b01, z_b010, z_b011, kb_v, kb_n, List.cons_append, List.nil_append, if_true, if_false, ↓reduceIte, Bool.false_eq_true, Bool.true_eq_false, decide_eq_true_eq, decide_eq_false_iff_not, not_false_eq_true]
  exact x_fe_loop h w d (2 ^ (T 8)) 0 (by omega) _ _ _
def fan (o : Option Nat) (b : Int32) : Int32 := match o with
  | none => -1000000
  | some p => if b = nI 1 then nI p else nI (pop p)
theorem m_fe_loop {σ : Sg} {T : TT} (h : MT σ 0 T) (w : WF T) (d : Nat) (b : Int32) : ∀ m k, k + m = 2 ^ (T 8) → ∀ x y : Value, exec (d + 3) mX7_feasts 28 [.ref 50, .int b, .int (opt (fbs T k)), .int (nI k), x, y] [] σ = some (some (.int (fan (fbs T (2 ^ (T 8))) b)), σ)
  | 0, k, hk => by
    intro x y
    have w1 := w.1
    have h5 := p5_le (n := T 8) (by omega)
    rw [hX7_feasts_28]
    rw [show k = 2 ^ (T 8) by omega]
    cases ho : fbs T (2 ^ (T 8)) with
    | none =>
      simp (disch := omega) only [kX7_feasts_0, kX7_feasts_1, kX7_feasts_2, MT0 h, eq_self, Nat.reduceEqDiff, Nat.one_ne_zero, Nat.zero_ne_one, z_0, z_lt, z_le, z_eq, z_add, z_mul, z_inb, z_cl, z_b0, z_b1, z_b01, z_b010, z_b011, kb_v, kb_n, List.cons_append, List.nil_append, if_true, if_false, ↓reduceIte, Bool.false_eq_true, Bool.true_eq_false, decide_eq_true_eq, decide_eq_false_iff_not, not_false_eq_true, z_one, opt, fan]
      rw [if_pos (by omega)]
    | some p =>
      have hp := fbs_lt T _ p ho
      simp (disch := omega) only [kX7_feasts_0, kX7_feasts_1, kX7_feasts_2, MT0 h, eq_self, Nat.reduceEqDiff, Nat.one_ne_zero, Nat.zero_ne_one, z_0, z_lt, z_le, z_eq, z_add, z_mul, z_inb, z_cl, z_b0, z_b1, z_b01, z_b010, z_b011, kb_v, kb_n, List.cons_append, List.nil_append, if_true, if_false, ↓reduceIte, Bool.false_eq_true, Bool.true_eq_false, decide_eq_true_eq, decide_eq_false_iff_not, not_false_eq_true, z_one, opt, fan, neN, m_ones]
      rw [if_pos (by omega)]
      split <;> rfl
  | m + 1, k, hk => by
    intro x y
    have w1 := w.1
    have h5 := p5_le (n := T 8) (by omega)
    have hpk := pop_le k
    have hfk := fsc_le w k
    have hor := or_32 (a := T 5) (b := k) (by omega) (by omega)
    have hand : k &&& T 5 < 128 := Nat.lt_of_le_of_lt Nat.and_le_left (by omega)
    have hv := vot_lt T (T 4) (T 5 ||| k) (by omega)
    have ih := m_fe_loop h w d b m (k + 1) (by omega)
    rw [hX7_feasts_28]
    cases ho : fbs T k with
    | none =>
      simp (disch := omega) only [kX7_feasts_0, kX7_feasts_1, kX7_feasts_2, MT0 h, eq_self, Nat.reduceEqDiff, Nat.one_ne_zero, Nat.zero_ne_one, z_0, z_lt, z_le, z_eq, z_add, z_mul, z_inb, z_cl, z_b0, z_b1, z_b01, z_b010, z_b011, kb_v, kb_n, List.cons_append, List.nil_append, if_true, if_false, ↓reduceIte, Bool.false_eq_true, Bool.true_eq_false, decide_eq_true_eq, decide_eq_false_iff_not, not_false_eq_true, z_one, z_or, z_and, m_isMost h w, m_votes h w, m_ones, m_fsc h w, opt]
      rw [if_neg (by omega)]
      simp only [fbs, ho, fls, fmy, Bool.and_true, Bool.and_eq_true, decide_eq_true_eq] at ih
      simp only [← Nat.not_le] at ih ⊢
      by_cases q1 : k &&& T 5 = 0 <;> by_cases q2 : fsc T k ≤ T 2 <;> cases q3 : wns T (vot T (T 4) (T 5 ||| k)) <;>
        (simp only [q1, q2, q3, and_true, true_and, and_false, false_and, if_true, if_false, not_true, not_false_eq_true, Bool.false_eq_true, Bool.true_eq_false, opt, fq1, fq2] at ih ⊢
         exact ih _ _)
    | some p =>
      have hp := fbs_lt T k p ho
      have hpp := pop_le p
      have hfp := fsc_le w p
      simp (disch := omega) only [kX7_feasts_0, kX7_feasts_1, kX7_feasts_2, MT0 h, eq_self, Nat.reduceEqDiff, Nat.one_ne_zero, Nat.zero_ne_one, z_0, z_lt, z_le, z_eq, z_add, z_mul, z_inb, z_cl, z_b0, z_b1, z_b01, z_b010, z_b011, kb_v, kb_n, List.cons_append, List.nil_append, if_true, if_false, ↓reduceIte, Bool.false_eq_true, Bool.true_eq_false, decide_eq_true_eq, decide_eq_false_iff_not, not_false_eq_true, z_one, z_or, z_and, m_isMost h w, m_votes h w, m_ones, m_fsc h w, opt, neN]
      rw [if_neg (by omega)]
      simp only [fbs, ho, fls, fmy, Bool.and_eq_true, Bool.or_eq_true, decide_eq_true_eq] at ih
      simp only [← Nat.not_le] at ih ⊢
      by_cases q1 : k &&& T 5 = 0 <;> by_cases q2 : fsc T k ≤ T 2 <;> cases q3 : wns T (vot T (T 4) (T 5 ||| k)) <;> by_cases q4 : pop p ≤ pop k <;> by_cases q5 : pop k = pop p <;> by_cases q6 : fsc T p ≤ fsc T k <;> (first | replace q5 := eq_false q5 | replace q5 := eq_true q5) <;>
        (simp only [q1, q2, q3, q4, q5, q6, and_true, true_and, and_false, false_and, or_true, true_or, or_false, false_or, if_true, if_false, not_true, not_false_eq_true, Bool.false_eq_true, Bool.true_eq_false, opt, fq1, fq2] at ih ⊢
         exact ih _ _)
theorem b_feasts (b : Int32) : BO mX6_feasts mX7_feasts [.int b] := by
  rintro ⟨T, I0, I1, A, rz, rl, it, tn, tp, ft, fs, cn, ct⟩ ok
  have w : WF T := ok.1
  have w1 := w.1
  rcases (show T 6 = 0 ∨ T 6 = 1 by omega) with h6 | h6
  · refine ⟨.int (-1000002), _, XO_id fun σ d h => ?_, MO_id fun σ d h => ?_, ok⟩
    · have hT := h.1
      rw [aX6_feasts_0]
      simp (disch := omega) only [kX6_feasts, eq_self, Nat.reduceEqDiff, Nat.one_ne_zero, Nat.zero_ne_one, z_0, z_lt, z_le, z_eq, z_add, z_mul, z_inb, z_cl, z_b0, z_b1, z_b01, z_b010, z_b011, kb_v, kb_n, List.cons_append, List.nil_append, if_true, if_false, ↓reduceIte, Bool.false_eq_true, Bool.true_eq_false, decide_eq_true_eq, decide_eq_false_iff_not, not_false_eq_true, XT8 hT, h6]
    · have hT := h.1
      rw [aX7_feasts_50]
      simp (disch := omega) only [kX7_feasts_0, kX7_feasts_1, kX7_feasts_2, eq_self, Nat.reduceEqDiff, Nat.one_ne_zero, Nat.zero_ne_one, z_0, z_lt, z_le, z_eq, z_add, z_mul, z_inb, z_cl, z_b0, z_b1, z_b01, z_b010, z_b011, kb_v, kb_n, List.cons_append, List.nil_append, if_true, if_false, ↓reduceIte, Bool.false_eq_true, Bool.true_eq_false, decide_eq_true_eq, decide_eq_false_iff_not, not_false_eq_true, m_isTrial hT w, h6]
  · by_cases hb : isin b 2 = true
    · refine ⟨.int (fan (fbs T (2 ^ (T 8))) b), _, XO_id fun σ d h => ?_, MO_id fun σ d h => ?_, ok⟩
      · have hT := h.1
        have h5 := p5_le (n := T 8) (by omega)
        rw [aX6_feasts_0]
        simp (disch := omega) only [kX6_feasts, eq_self, Nat.reduceEqDiff, Nat.one_ne_zero, Nat.zero_ne_one, z_0, z_lt, z_le, z_eq, z_add, z_mul, z_inb, z_cl, z_b0, z_b1, z_b01, z_b010, z_b011, kb_v, kb_n, List.cons_append, List.nil_append, if_true, if_false, ↓reduceIte, Bool.false_eq_true, Bool.true_eq_false, decide_eq_true_eq, decide_eq_false_iff_not, not_false_eq_true, XT8 hT, h6, e_isOne, hb, x_fe hT w]
        cases ho : fbs T (2 ^ (T 8)) with
        | none => simp (disch := omega) only [opt, fan, eq_self, Nat.reduceEqDiff, Nat.one_ne_zero, Nat.zero_ne_one, z_0, z_lt, z_le, z_eq, z_add, z_mul, z_inb, z_cl, z_b0, z_b1, z_b01, z_b010, z_b011, kb_v, kb_n, List.cons_append, List.nil_append, if_true, if_false, ↓reduceIte, Bool.false_eq_true, Bool.true_eq_false, decide_eq_true_eq, decide_eq_false_iff_not, not_false_eq_true]
        | some p =>
          have hp := fbs_lt T _ p ho
          simp (disch := omega) only [opt, fan, eq_self, Nat.reduceEqDiff, Nat.one_ne_zero, Nat.zero_ne_one, z_0, z_lt, z_le, z_eq, z_add, z_mul, z_inb, z_cl, z_b0, z_b1, z_b01, z_b010, z_b011, kb_v, kb_n, List.cons_append, List.nil_append, if_true, if_false, ↓reduceIte, Bool.false_eq_true, Bool.true_eq_false, decide_eq_true_eq, decide_eq_false_iff_not, not_false_eq_true, neN, e_bitCount, kX6_feasts]
          split <;> rfl
      · have hT := h.1
        rw [aX7_feasts_50]
        simp (disch := omega) only [kX7_feasts_0, kX7_feasts_1, kX7_feasts_2, eq_self, Nat.reduceEqDiff, Nat.one_ne_zero, Nat.zero_ne_one, z_0, z_lt, z_le, z_eq, z_add, z_mul, z_inb, z_cl, z_b0, z_b1, z_b01, z_b010, z_b011, kb_v, kb_n, List.cons_append, List.nil_append, if_true, if_false, ↓reduceIte, Bool.false_eq_true, Bool.true_eq_false, decide_eq_true_eq, decide_eq_false_iff_not, not_false_eq_true, m_isTrial hT w, h6, m_inN, inr_0, hb]
        exact m_fe_loop hT w (d + 26) b (2 ^ (T 8)) 0 (by omega) _ _
    · have hb : isin b 2 = false := by simpa using hb
      refine ⟨.int (-1000001), _, XO_id fun σ d h => ?_, MO_id fun σ d h => ?_, ok⟩
      · have hT := h.1
        rw [aX6_feasts_0]
        simp (disch := omega) only [kX6_feasts, eq_self, Nat.reduceEqDiff, Nat.one_ne_zero, Nat.zero_ne_one, z_0, z_lt, z_le, z_eq, z_add, z_mul, z_inb, z_cl, z_b0, z_b1, z_b01, z_b010, z_b011, kb_v, kb_n, List.cons_append, List.nil_append, if_true, if_false, ↓reduceIte, Bool.false_eq_true, Bool.true_eq_false, decide_eq_true_eq, decide_eq_false_iff_not, not_false_eq_true, XT8 hT, h6, e_isOne, hb]
      · have hT := h.1
        rw [aX7_feasts_50]
        simp (disch := omega) only [kX7_feasts_0, kX7_feasts_1, kX7_feasts_2, eq_self, Nat.reduceEqDiff, Nat.one_ne_zero, Nat.zero_ne_one, z_0, z_lt, z_le, z_eq, z_add, z_mul, z_inb, z_cl, z_b0, z_b1, z_b01, z_b010, z_b011, kb_v, kb_n, List.cons_append, List.nil_append, if_true, if_false, ↓reduceIte, Bool.false_eq_true, Bool.true_eq_false, decide_eq_true_eq, decide_eq_false_iff_not, not_false_eq_true, m_isTrial hT w, h6, m_inN, inr_0, hb]
