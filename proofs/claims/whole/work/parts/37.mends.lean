/-! mends -/
theorem ndn_0 {a b : Nat} (h : ndn a b = 0) : a ≤ b := by
  apply Nat.le_of_testBit
  intro i hi
  have := ndn_bit a b i
  rw [h, hi] at this
  simpa using this
theorem T4_le {T : TT} (w : WF T) : T 4 ≤ T 3 := Nat.le_of_testBit w.2.2.1
theorem mdc_le {T : TT} (w : WF T) (s : Nat) : mdc T s ≤ 147 := by
  have w1 := w.1
  have : mdc T s ≤ T 7 * 21 := smn_le _ (fun i hi => by have := w.2.2.2.1 i hi; split <;> omega)
  omega
def mmy (T : TT) (s : Nat) : Bool := decide (ndn s (T 4) = 0) && (decide (mdc T s ≤ T 1) && wns T (vot T (ndn (T 4) s) (T 5)))
def mls (s : Nat) (o : Option Nat) : Bool := match o with
  | none => true
  | some b => decide (pop s < pop b)
def mbs (T : TT) : Nat → Option Nat
  | 0 => none
  | s + 1 => if (mmy T s && mls s (mbs T s)) = true then some s else mbs T s
theorem mbs_s (T : TT) (s : Nat) : mbs T (s + 1) = if (mmy T s && mls s (mbs T s)) = true then some s else mbs T s := rfl
theorem mbs_lt (T : TT) : ∀ s b, mbs T s = some b → b < s
  | 0, b, h => by simp [mbs] at h
  | s + 1, b, h => by
    unfold mbs at h
    split at h
    · cases h; omega
    · have := mbs_lt T s b h; omega
theorem mbs_hi (T : TT) : ∀ k, mbs T (T 4 + 1 + k) = mbs T (T 4 + 1)
  | 0 => rfl
  | k + 1 => by
    rw [← Nat.add_assoc, mbs, mbs_hi T k]
    have : mmy T (T 4 + 1 + k) = false := by
      unfold mmy
      rw [decide_eq_false (fun q => by have := ndn_0 q; omega)]
      rfl
    rw [this]
    rfl
theorem x_me_loop {σ : Sg} {T : TT} (h : XT σ 8 T) (w : WF T) (d : Nat) : ∀ m k, k + m = T 4 + 1 → ∀ a b : Value, exec (d + 3) mX6_leastMends 7 [.ref 0, .int (opt (mbs T k)), .int (nI (fq1 T (mbs T k))), .int (nI k), a, b] [] σ = some (some (.int (opt (mbs T (T 4 + 1)))), σ)
  | 0, k, hk => by
    intro a b
    have w1 := w.1
    rw [hX6_leastMends_7]
    simp (disch := omega) only [kX6_leastMends_0, kX6_leastMends_1, XT8 h, eq_self, Nat.reduceEqDiff, Nat.one_ne_zero, Nat.zero_ne_one, z_0, z_lt, z_le, z_eq, z_add, z_mul, z_inb, z_cl, z_b0, z_b1, z_b01, z_b010, z_b011, kb_v, kb_n, List.cons_append, List.nil_append, if_true, if_false, ↓reduceIte, Bool.false_eq_true, Bool.true_eq_false, decide_eq_true_eq, decide_eq_false_iff_not, not_false_eq_true]
    rw [if_pos (by omega), show k = T 4 + 1 by omega]
  | m + 1, k, hk => by
    intro a b
    have w1 := w.1
    have hpk := pop_le k
    have hmk := mdc_le w k
    have hn1 := ndn_le k (T 4)
    have hn2 := ndn_le (T 4) k
    have hv := vot_lt T (ndn (T 4) k) (T 5) (by omega)
    have ih := x_me_loop h w d m (k + 1) (by omega)
    rw [hX6_leastMends_7]
    cases ho : mbs T k with
    | none =>
      simp (disch := omega) only [kX6_leastMends_0, kX6_leastMends_1, XT8 h, eq_self, Nat.reduceEqDiff, Nat.one_ne_zero, Nat.zero_ne_one, z_0, z_lt, z_le, z_eq, z_add, z_mul, z_inb, z_cl, z_b0, z_b1, z_b01, z_b010, z_b011, kb_v, kb_n, List.cons_append, List.nil_append, if_true, if_false, ↓reduceIte, Bool.false_eq_true, Bool.true_eq_false, decide_eq_true_eq, decide_eq_false_iff_not, not_false_eq_true, z_one, z_nd, x_wins h w, x_votes h w, e_bitCount, x_mdc h w, opt]
      rw [if_neg (by omega)]
      simp only [mbs_s T k, ho, mls, mmy, Bool.and_true, Bool.and_eq_true, decide_eq_true_eq] at ih
      simp only [← Nat.not_le] at ih ⊢
      by_cases q1 : ndn k (T 4) = 0 <;> by_cases q2 : mdc T k ≤ T 1 <;> cases q3 : wns T (vot T (ndn (T 4) k) (T 5)) <;>
        (simp only [q1, q2, q3, and_true, true_and, and_false, false_and, if_true, if_false, not_true, not_false_eq_true, Bool.false_eq_true, Bool.true_eq_false, opt, fq1] at ih ⊢
         exact ih _ _)
    | some p =>
      have hp := mbs_lt T k p ho
      have hpp := pop_le p
      simp (disch := omega) only [kX6_leastMends_0, kX6_leastMends_1, XT8 h, eq_self, Nat.reduceEqDiff, Nat.one_ne_zero, Nat.zero_ne_one, z_0, z_lt, z_le, z_eq, z_add, z_mul, z_inb, z_cl, z_b0, z_b1, z_b01, z_b010, z_b011, kb_v, kb_n, List.cons_append, List.nil_append, if_true, if_false, ↓reduceIte, Bool.false_eq_true, Bool.true_eq_false, decide_eq_true_eq, decide_eq_false_iff_not, not_false_eq_true, z_one, z_nd, x_wins h w, x_votes h w, e_bitCount, x_mdc h w, opt, neN, fq1]
      rw [if_neg (by omega)]
      simp only [mbs_s T k, ho, mls, mmy, Bool.and_eq_true, decide_eq_true_eq] at ih
      simp only [← Nat.not_le] at ih ⊢
      by_cases q1 : ndn k (T 4) = 0 <;> by_cases q2 : mdc T k ≤ T 1 <;> cases q3 : wns T (vot T (ndn (T 4) k) (T 5)) <;> by_cases q4 : pop p ≤ pop k <;>
        (simp only [q1, q2, q3, q4, and_true, true_and, and_false, false_and, if_true, if_false, not_true, not_false_eq_true, Bool.false_eq_true, Bool.true_eq_false, opt, fq1] at ih ⊢
         exact ih _ _)
theorem x_me {σ : Sg} {T : TT} (h : XT σ 8 T) (w : WF T) (d : Nat) : cal (d + 4) mX6_leastMends [.ref 0] σ = some (some (.int (opt (mbs T (T 4 + 1)))), σ) := by
  rw [aX6_leastMends_0]
  simp (disch := omega) only [kX6_leastMends_0, kX6_leastMends_1, eq_self, Nat.reduceEqDiff, Nat.one_ne_zero, Nat.zero_ne_one, z_0, z_lt, z_le, z_eq, z_add, z_mul, z_inb, z_cl, z_b0, z_b1, z_b01, z_b010, z_b011, kb_v, kb_n, List.cons_append, List.nil_append, if_true, if_false, ↓reduceIte, Bool.false_eq_true, Bool.true_eq_false, decide_eq_true_eq, decide_eq_false_iff_not, not_false_eq_true]
  exact x_me_loop h w d (T 4 + 1) 0 (by omega) _ _
theorem m_mi_loop {σ : Sg} {T : TT} (h : MT σ 0 T) (w : WF T) (d : Nat) (b o : Int32) {s : Nat} (hs : s < 128) : ∀ m k, k + m = T 7 → exec (d + 3) mX7_mends 47 [.ref 50, .int b, .int o, .int (nI s), .int (nI (smn (fun p => if s.testBit p = true then T (23 + p) + 1 else 0) k)), .int (nI k)] [] σ = exec (d + 3) mX7_mends 95 [.ref 50, .int b, .int o, .int (nI s), .int (nI (mdc T s)), .int (nI (T 7))] [] σ
  | 0, k, hk => by
    have w1 := w.1
    obtain rfl : k = T 7 := by omega
    rw [hX7_mends_47]
    simp (disch := omega) only [kX7_mends_0, kX7_mends_1, kX7_mends_2, MT0 h, eq_self, Nat.reduceEqDiff, Nat.one_ne_zero, Nat.zero_ne_one, z_0, z_lt, z_le, z_eq, z_add, z_mul, z_inb, z_cl, z_b0, z_b1, z_b01, z_b010, z_b011, kb_v, kb_n, List.cons_append, List.nil_append, if_true, if_false, ↓reduceIte, Bool.false_eq_true, Bool.true_eq_false, decide_eq_true_eq, decide_eq_false_iff_not, not_false_eq_true, Nat.le_refl]
    rfl
  | m + 1, k, hk => by
    have w1 := w.1
    have wp := w.2.2.2.1 k (by omega)
    have hb : smn (fun p => if s.testBit p = true then T (23 + p) + 1 else 0) k ≤ k * 21 := smn_le k (fun i hi => by have := w.2.2.2.1 i (by omega); split <;> omega)
    refine Eq.trans ?_ (m_mi_loop h w d b o hs m (k + 1) (by omega))
    rw [hX7_mends_47, smn]
    simp (disch := omega) only [kX7_mends_0, kX7_mends_1, kX7_mends_2, MT0 h, eq_self, Nat.reduceEqDiff, Nat.one_ne_zero, Nat.zero_ne_one, z_0, z_lt, z_le, z_eq, z_add, z_mul, z_inb, z_cl, z_b0, z_b1, z_b01, z_b010, z_b011, kb_v, kb_n, List.cons_append, List.nil_append, if_true, if_false, ↓reduceIte, Bool.false_eq_true, Bool.true_eq_false, decide_eq_true_eq, decide_eq_false_iff_not, not_false_eq_true, m_has]
    rw [if_neg (by omega)]
    cases s.testBit k <;> rfl
theorem m_me_loop {σ : Sg} {T : TT} (h : MT σ 0 T) (w : WF T) (d : Nat) (b : Int32) : ∀ m k, k + m = 2 ^ (T 7) → ∀ x y : Value, exec (d + 3) mX7_mends 28 [.ref 50, .int b, .int (opt (mbs T k)), .int (nI k), x, y] [] σ = some (some (.int (fan (mbs T (2 ^ (T 7))) b)), σ)
  | 0, k, hk => by
    intro x y
    have w1 := w.1
    have h5 := p7_le (n := T 7) (by omega)
    rw [hX7_mends_28]
    rw [show k = 2 ^ (T 7) by omega]
    cases ho : mbs T (2 ^ (T 7)) with
    | none =>
      simp (disch := omega) only [kX7_mends_0, kX7_mends_1, kX7_mends_2, MT0 h, eq_self, Nat.reduceEqDiff, Nat.one_ne_zero, Nat.zero_ne_one, z_0, z_lt, z_le, z_eq, z_add, z_mul, z_inb, z_cl, z_b0, z_b1, z_b01, z_b010, z_b011, kb_v, kb_n, List.cons_append, List.nil_append, if_true, if_false, ↓reduceIte, Bool.false_eq_true, Bool.true_eq_false, decide_eq_true_eq, decide_eq_false_iff_not, not_false_eq_true, z_one, opt, fan]
      rw [if_pos (by omega)]
    | some p =>
      have hp := mbs_lt T _ p ho
      simp (disch := omega) only [kX7_mends_0, kX7_mends_1, kX7_mends_2, MT0 h, eq_self, Nat.reduceEqDiff, Nat.one_ne_zero, Nat.zero_ne_one, z_0, z_lt, z_le, z_eq, z_add, z_mul, z_inb, z_cl, z_b0, z_b1, z_b01, z_b010, z_b011, kb_v, kb_n, List.cons_append, List.nil_append, if_true, if_false, ↓reduceIte, Bool.false_eq_true, Bool.true_eq_false, decide_eq_true_eq, decide_eq_false_iff_not, not_false_eq_true, z_one, opt, fan, neN, m_ones]
      rw [if_pos (by omega)]
      split <;> rfl
  | m + 1, k, hk => by
    intro x y
    have w1 := w.1
    have h5 := p7_le (n := T 7) (by omega)
    have hpk := pop_le k
    have hmk := mdc_le w k
    have hn1 := ndn_le k (T 4)
    have hn2 := ndn_le (T 4) k
    have hv := vot_lt T (ndn (T 4) k) (T 5) (by omega)
    have ih := m_me_loop h w d b m (k + 1) (by omega)
    rw [hX7_mends_28]
    simp (disch := omega) only [kX7_mends_0, kX7_mends_1, kX7_mends_2, MT0 h, eq_self, Nat.reduceEqDiff, Nat.one_ne_zero, Nat.zero_ne_one, z_0, z_lt, z_le, z_eq, z_add, z_mul, z_inb, z_cl, z_b0, z_b1, z_b01, z_b010, z_b011, kb_v, kb_n, List.cons_append, List.nil_append, if_true, if_false, ↓reduceIte, Bool.false_eq_true, Bool.true_eq_false, decide_eq_true_eq, decide_eq_false_iff_not, not_false_eq_true, z_one]
    rw [if_neg (by omega)]
    refine (m_mi_loop h w d b _ (s := k) (by omega) (T 7) 0 (by omega)).trans ?_
    cases ho : mbs T k with
    | none =>
      simp (disch := omega) only [kX7_mends_0, kX7_mends_1, kX7_mends_2, MT0 h, eq_self, Nat.reduceEqDiff, Nat.one_ne_zero, Nat.zero_ne_one, z_0, z_lt, z_le, z_eq, z_add, z_mul, z_inb, z_cl, z_b0, z_b1, z_b01, z_b010, z_b011, kb_v, kb_n, List.cons_append, List.nil_append, if_true, if_false, ↓reduceIte, Bool.false_eq_true, Bool.true_eq_false, decide_eq_true_eq, decide_eq_false_iff_not, not_false_eq_true, z_one, z_nd, m_isMost h w, m_votes h w, m_ones, opt]
      simp only [mbs_s T k, ho, mls, mmy, Bool.and_true, Bool.and_eq_true, decide_eq_true_eq] at ih
      simp only [← Nat.not_le] at ih ⊢
      by_cases q1 : ndn k (T 4) = 0 <;> by_cases q2 : mdc T k ≤ T 1 <;> cases q3 : wns T (vot T (ndn (T 4) k) (T 5)) <;>
        (simp only [q1, q2, q3, and_true, true_and, and_false, false_and, if_true, if_false, not_true, not_false_eq_true, Bool.false_eq_true, Bool.true_eq_false, opt] at ih ⊢
         exact ih _ _)
    | some p =>
      have hp := mbs_lt T k p ho
      have hpp := pop_le p
      simp (disch := omega) only [kX7_mends_0, kX7_mends_1, kX7_mends_2, MT0 h, eq_self, Nat.reduceEqDiff, Nat.one_ne_zero, Nat.zero_ne_one, z_0, z_lt, z_le, z_eq, z_add, z_mul, z_inb, z_cl, z_b0, z_b1, z_b01, z_b010, z_b011, kb_v, kb_n, List.cons_append, List.nil_append, if_true, if_false, ↓reduceIte, Bool.false_eq_true, Bool.true_eq_false, decide_eq_true_eq, decide_eq_false_iff_not, not_false_eq_true, z_one, z_nd, m_isMost h w, m_votes h w, m_ones, opt, neN]
      simp only [mbs_s T k, ho, mls, mmy, Bool.and_eq_true, decide_eq_true_eq] at ih
      simp only [← Nat.not_le] at ih ⊢
      by_cases q1 : ndn k (T 4) = 0 <;> by_cases q2 : mdc T k ≤ T 1 <;> cases q3 : wns T (vot T (ndn (T 4) k) (T 5)) <;> by_cases q4 : pop p ≤ pop k <;>
        (simp only [q1, q2, q3, q4, and_true, true_and, and_false, false_and, if_true, if_false, not_true, not_false_eq_true, Bool.false_eq_true, Bool.true_eq_false, opt] at ih ⊢
         exact ih _ _)
theorem b_mends (b : Int32) : BO mX6_mends mX7_mends [.int b] := by
  rintro ⟨T, I0, I1, A, rz, rl, it, tn, tp, ft, fs, cn, ct⟩ ok
  have w : WF T := ok.1
  have w1 := w.1
  rcases (show T 6 = 0 ∨ T 6 = 1 by omega) with h6 | h6
  · refine ⟨.int (-1000002), _, XO_id fun σ d h => ?_, MO_id fun σ d h => ?_, ok⟩
    · have hT := h.1
      rw [aX6_mends_0]
      simp (disch := omega) only [kX6_mends, eq_self, Nat.reduceEqDiff, Nat.one_ne_zero, Nat.zero_ne_one, z_0, z_lt, z_le, z_eq, z_add, z_mul, z_inb, z_cl, z_b0, z_b1, z_b01, z_b010, z_b011, kb_v, kb_n, List.cons_append, List.nil_append, if_true, if_false, ↓reduceIte, Bool.false_eq_true, Bool.true_eq_false, decide_eq_true_eq, decide_eq_false_iff_not, not_false_eq_true, XT8 hT, h6]
    · have hT := h.1
      rw [aX7_mends_50]
      simp (disch := omega) only [kX7_mends_0, kX7_mends_1, kX7_mends_2, eq_self, Nat.reduceEqDiff, Nat.one_ne_zero, Nat.zero_ne_one, z_0, z_lt, z_le, z_eq, z_add, z_mul, z_inb, z_cl, z_b0, z_b1, z_b01, z_b010, z_b011, kb_v, kb_n, List.cons_append, List.nil_append, if_true, if_false, ↓reduceIte, Bool.false_eq_true, Bool.true_eq_false, decide_eq_true_eq, decide_eq_false_iff_not, not_false_eq_true, m_isTrial hT w, h6]
  · by_cases hb : isin b 2 = true
    · have h4 := T4_le w
      have h3 := w.2.1.1
      have hq : mbs T (2 ^ (T 7)) = mbs T (T 4 + 1) := by
        have := mbs_hi T (2 ^ (T 7) - (T 4 + 1))
        rwa [show T 4 + 1 + (2 ^ (T 7) - (T 4 + 1)) = 2 ^ (T 7) by omega] at this
      refine ⟨.int (fan (mbs T (2 ^ (T 7))) b), _, XO_id fun σ d h => ?_, MO_id fun σ d h => ?_, ok⟩
      · have hT := h.1
        have h5 := p7_le (n := T 7) (by omega)
        rw [aX6_mends_0]
        simp (disch := omega) only [kX6_mends, eq_self, Nat.reduceEqDiff, Nat.one_ne_zero, Nat.zero_ne_one, z_0, z_lt, z_le, z_eq, z_add, z_mul, z_inb, z_cl, z_b0, z_b1, z_b01, z_b010, z_b011, kb_v, kb_n, List.cons_append, List.nil_append, if_true, if_false, ↓reduceIte, Bool.false_eq_true, Bool.true_eq_false, decide_eq_true_eq, decide_eq_false_iff_not, not_false_eq_true, XT8 hT, h6, e_isOne, hb, x_me hT w]
        rw [← hq]
        cases ho : mbs T (2 ^ (T 7)) with
        | none => simp (disch := omega) only [opt, fan, eq_self, Nat.reduceEqDiff, Nat.one_ne_zero, Nat.zero_ne_one, z_0, z_lt, z_le, z_eq, z_add, z_mul, z_inb, z_cl, z_b0, z_b1, z_b01, z_b010, z_b011, kb_v, kb_n, List.cons_append, List.nil_append, if_true, if_false, ↓reduceIte, Bool.false_eq_true, Bool.true_eq_false, decide_eq_true_eq, decide_eq_false_iff_not, not_false_eq_true]
        | some p =>
          have hp := mbs_lt T _ p ho
          simp (disch := omega) only [opt, fan, eq_self, Nat.reduceEqDiff, Nat.one_ne_zero, Nat.zero_ne_one, z_0, z_lt, z_le, z_eq, z_add, z_mul, z_inb, z_cl, z_b0, z_b1, z_b01, z_b010, z_b011, kb_v, kb_n, List.cons_append, List.nil_append, if_true, if_false, ↓reduceIte, Bool.false_eq_true, Bool.true_eq_false, decide_eq_true_eq, decide_eq_false_iff_not, not_false_eq_true, neN, e_bitCount, kX6_mends]
          split <;> rfl
      · have hT := h.1
        rw [aX7_mends_50]
        simp (disch := omega) only [kX7_mends_0, kX7_mends_1, kX7_mends_2, eq_self, Nat.reduceEqDiff, Nat.one_ne_zero, Nat.zero_ne_one, z_0, z_lt, z_le, z_eq, z_add, z_mul, z_inb, z_cl, z_b0, z_b1, z_b01, z_b010, z_b011, kb_v, kb_n, List.cons_append, List.nil_append, if_true, if_false, ↓reduceIte, Bool.false_eq_true, Bool.true_eq_false, decide_eq_true_eq, decide_eq_false_iff_not, not_false_eq_true, m_isTrial hT w, h6, m_inN, inr_0, hb]
        exact m_me_loop hT w (d + 26) b (2 ^ (T 7)) 0 (by omega) _ _
    · have hb : isin b 2 = false := by simpa using hb
      refine ⟨.int (-1000001), _, XO_id fun σ d h => ?_, MO_id fun σ d h => ?_, ok⟩
      · have hT := h.1
        rw [aX6_mends_0]
        simp (disch := omega) only [kX6_mends, eq_self, Nat.reduceEqDiff, Nat.one_ne_zero, Nat.zero_ne_one, z_0, z_lt, z_le, z_eq, z_add, z_mul, z_inb, z_cl, z_b0, z_b1, z_b01, z_b010, z_b011, kb_v, kb_n, List.cons_append, List.nil_append, if_true, if_false, ↓reduceIte, Bool.false_eq_true, Bool.true_eq_false, decide_eq_true_eq, decide_eq_false_iff_not, not_false_eq_true, XT8 hT, h6, e_isOne, hb]
      · have hT := h.1
        rw [aX7_mends_50]
        simp (disch := omega) only [kX7_mends_0, kX7_mends_1, kX7_mends_2, eq_self, Nat.reduceEqDiff, Nat.one_ne_zero, Nat.zero_ne_one, z_0, z_lt, z_le, z_eq, z_add, z_mul, z_inb, z_cl, z_b0, z_b1, z_b01, z_b010, z_b011, kb_v, kb_n, List.cons_append, List.nil_append, if_true, if_false, ↓reduceIte, Bool.false_eq_true, Bool.true_eq_false, decide_eq_true_eq, decide_eq_false_iff_not, not_false_eq_true, m_isTrial hT w, h6, m_inN, inr_0, hb]
