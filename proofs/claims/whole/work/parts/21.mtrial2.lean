theorem m_isFound {σ : Sg} {T : TT} (h : MT σ 0 T) (w : WF T) (d : Nat) {e p : Nat} (he : e < T 8) (hp : p < T 7) : cal (d + 1) mX7_isFound [.ref 50, .int (nI e), .int (nI p)] σ = some (some (.int (nI (see (T (9 + p)) (T (16 + p)) (T (37 + e))).toNat)), σ) := by
  have w1 := w.1
  have wp := w.2.2.2.1 p hp
  have we := w.2.2.2.2.1 e he
  rw [aX7_isFound_50]
  simp (disch := omega) only [kX7_isFound_0, kX7_isFound_1, MT0 h, eq_self, Nat.reduceEqDiff, Nat.one_ne_zero, Nat.zero_ne_one, z_0, z_lt, z_le, z_eq, z_add, z_mul, z_inb, z_cl, z_b0, z_b1, z_b01, z_b010, z_b011, kb_v, kb_n, List.cons_append, List.nil_append, if_true, if_false, ↓reduceIte, Bool.false_eq_true, Bool.true_eq_false, decide_eq_true_eq, decide_eq_false_iff_not, not_false_eq_true]
  unfold see
  (repeat' split) <;> first | rfl | (exfalso; omega) | (rw [decide_eq_true (by omega)]; rfl) | (rw [decide_eq_false (by omega)]; rfl) | (simp_all; done) | (exfalso; simp_all; omega)
theorem m_finds_loop {σ : Sg} {T : TT} (h : MT σ 0 T) (w : WF T) (d : Nat) {e f : Nat} (he : e < T 8) (hf : f < 128) : ∀ n k, k + n = T 7 → exec (d + 1) mX7_findsOf 5 [.ref 50, .int (nI e), .int (nI f), .int (nI (cnt (fun p => f.testBit p && see (T (9 + p)) (T (16 + p)) (T (37 + e))) k)), .int (nI k)] [] σ = some (some (.int (nI (fnd T e f))), σ)
  | 0, k, hk => by
    have w1 := w.1
    rw [hX7_findsOf_5]
    simp (disch := omega) only [kX7_findsOf, MT0 h, eq_self, Nat.reduceEqDiff, Nat.one_ne_zero, Nat.zero_ne_one, z_0, z_lt, z_le, z_eq, z_add, z_mul, z_inb, z_cl, z_b0, z_b1, z_b01, z_b010, z_b011, kb_v, kb_n, List.cons_append, List.nil_append, if_true, if_false, ↓reduceIte, Bool.false_eq_true, Bool.true_eq_false, decide_eq_true_eq, decide_eq_false_iff_not, not_false_eq_true]
    rw [if_pos (by omega)]
    rw [show k = T 7 by omega]
    rfl
  | n + 1, k, hk => by
    have w1 := w.1
    have hc := cnt_le (fun p => f.testBit p && see (T (9 + p)) (T (16 + p)) (T (37 + e))) k
    rw [hX7_findsOf_5]
    simp (disch := omega) only [kX7_findsOf, MT0 h, eq_self, Nat.reduceEqDiff, Nat.one_ne_zero, Nat.zero_ne_one, z_0, z_lt, z_le, z_eq, z_add, z_mul, z_inb, z_cl, z_b0, z_b1, z_b01, z_b010, z_b011, kb_v, kb_n, List.cons_append, List.nil_append, if_true, if_false, ↓reduceIte, Bool.false_eq_true, Bool.true_eq_false, decide_eq_true_eq, decide_eq_false_iff_not, not_false_eq_true, m_has, m_isFound h w]
    rw [if_neg (by omega)]
    have ih := m_finds_loop h w d he hf n (k + 1) (by omega)
    rw [cnt] at ih
    cases hq : f.testBit k
    · simp only [hq, Bool.false_and, Bool.toNat_false, if_true, if_false, Bool.false_eq_true] at ih ⊢
      exact ih
    · cases hs : see (T (9 + k)) (T (16 + k)) (T (37 + e))
      · simp only [hq, hs, Bool.true_and, Bool.toNat_false, if_true, if_false, Bool.true_eq_false, Bool.false_eq_true] at ih ⊢
        exact ih
      · simp only [hq, hs, Bool.true_and, Bool.toNat_true, if_true, if_false, Bool.true_eq_false, Bool.false_eq_true] at ih ⊢
        exact ih
theorem m_finds {σ : Sg} {T : TT} (h : MT σ 0 T) (w : WF T) (d : Nat) {e f : Nat} (he : e < T 8) (hf : f < 128) : cal (d + 2) mX7_findsOf [.ref 50, .int (nI e), .int (nI f)] σ = some (some (.int (nI (fnd T e f))), σ) := by
  rw [aX7_findsOf_50]
  simp (disch := omega) only [kX7_findsOf, eq_self, Nat.reduceEqDiff, Nat.one_ne_zero, Nat.zero_ne_one, z_0, z_lt, z_le, z_eq, z_add, z_mul, z_inb, z_cl, z_b0, z_b1, z_b01, z_b010, z_b011, kb_v, kb_n, List.cons_append, List.nil_append, if_true, if_false, ↓reduceIte, Bool.false_eq_true, Bool.true_eq_false, decide_eq_true_eq, decide_eq_false_iff_not, not_false_eq_true]
  exact m_finds_loop h w d he hf (T 7) 0 (by omega)
theorem m_votes_loop {σ : Sg} {T : TT} (h : MT σ 0 T) (w : WF T) (d : Nat) {f g : Nat} (hf : f < 128) (hg : g < 128) : ∀ n k, k + n = T 8 → exec (d + 2) mX7_votesBy 5 [.ref 50, .int (nI g), .int (nI f), .int (nI (bse (fun e => g.testBit e || decide (fnd T e f ≤ T (42 + e))) k)), .int (nI k)] [] σ = some (some (.int (nI (vot T f g))), σ)
  | 0, k, hk => by
    have w1 := w.1
    rw [hX7_votesBy_5]
    simp (disch := omega) only [kX7_votesBy, MT0 h, eq_self, Nat.reduceEqDiff, Nat.one_ne_zero, Nat.zero_ne_one, z_0, z_lt, z_le, z_eq, z_add, z_mul, z_inb, z_cl, z_b0, z_b1, z_b01, z_b010, z_b011, kb_v, kb_n, List.cons_append, List.nil_append, if_true, if_false, ↓reduceIte, Bool.false_eq_true, Bool.true_eq_false, decide_eq_true_eq, decide_eq_false_iff_not, not_false_eq_true]
    rw [if_pos (by omega)]
    rw [show k = T 8 by omega]
    rfl
  | n + 1, k, hk => by
    have w1 := w.1
    have wp := w.2.2.2.2.1 k (by omega)
    have hfn := fnd_le T k f
    have hpw := pw_le5 (p := k) (by omega)
    rw [hX7_votesBy_5]
    simp (disch := omega) only [kX7_votesBy, MT0 h, eq_self, Nat.reduceEqDiff, Nat.one_ne_zero, Nat.zero_ne_one, z_0, z_lt, z_le, z_eq, z_add, z_mul, z_inb, z_cl, z_b0, z_b1, z_b01, z_b010, z_b011, kb_v, kb_n, List.cons_append, List.nil_append, if_true, if_false, ↓reduceIte, Bool.false_eq_true, Bool.true_eq_false, decide_eq_true_eq, decide_eq_false_iff_not, not_false_eq_true, m_has, m_finds h w, z_one, z_or]
    rw [if_neg (by omega)]
    have ih := m_votes_loop h w d hf hg n (k + 1) (by omega)
    rw [bse] at ih
    cases hq : g.testBit k
    · simp only [hq, Bool.false_or, decide_eq_true_eq, if_false, if_true] at ih ⊢
      by_cases hx : fnd T k f ≤ T (42 + k)
      · simp only [hx, if_true, show ¬ T (42 + k) < fnd T k f by omega, if_false] at ih ⊢
        exact ih
      · simp only [hx, if_false, show T (42 + k) < fnd T k f by omega, if_true, Nat.or_zero] at ih ⊢
        exact ih
    · simp only [hq, Bool.true_or, if_true, Bool.true_eq_false, if_false] at ih ⊢
      exact ih
theorem m_votes {σ : Sg} {T : TT} (h : MT σ 0 T) (w : WF T) (d : Nat) {f g : Nat} (hf : f < 128) (hg : g < 128) : cal (d + 3) mX7_votesBy [.ref 50, .int (nI g), .int (nI f)] σ = some (some (.int (nI (vot T f g))), σ) := by
  rw [aX7_votesBy_50]
  simp (disch := omega) only [kX7_votesBy, eq_self, Nat.reduceEqDiff, Nat.one_ne_zero, Nat.zero_ne_one, z_0, z_lt, z_le, z_eq, z_add, z_mul, z_inb, z_cl, z_b0, z_b1, z_b01, z_b010, z_b011, kb_v, kb_n, List.cons_append, List.nil_append, if_true, if_false, ↓reduceIte, Bool.false_eq_true, Bool.true_eq_false, decide_eq_true_eq, decide_eq_false_iff_not, not_false_eq_true]
  exact m_votes_loop h w d hf hg (T 8) 0 (by omega)
theorem m_votesNow {σ : Sg} {T : TT} (h : MT σ 0 T) (w : WF T) (d : Nat) : cal (d + 4) mX7_votesNow [.ref 50] σ = some (some (.int (nI (vot T (T 4) (T 5)))), σ) := by
  have w1 := w.1
  rw [aX7_votesNow_50]
  simp (disch := omega) only [kX7_votesNow, MT0 h, eq_self, Nat.reduceEqDiff, Nat.one_ne_zero, Nat.zero_ne_one, z_0, z_lt, z_le, z_eq, z_add, z_mul, z_inb, z_cl, z_b0, z_b1, z_b01, z_b010, z_b011, kb_v, kb_n, List.cons_append, List.nil_append, if_true, if_false, ↓reduceIte, Bool.false_eq_true, Bool.true_eq_false, decide_eq_true_eq, decide_eq_false_iff_not, not_false_eq_true, m_votes h w]
theorem m_isMost {σ : Sg} {T : TT} (h : MT σ 0 T) (w : WF T) (d : Nat) {v : Nat} (hv : v < 128) : cal (d + 2) mX7_isMost [.ref 50, .int (nI v)] σ = some (some (.int (nI (wns T v).toNat)), σ) := by
  have w1 := w.1
  have := pop_le v
  rw [aX7_isMost_50]
  simp (disch := omega) only [kX7_isMost, MT0 h, eq_self, Nat.reduceEqDiff, Nat.one_ne_zero, Nat.zero_ne_one, z_0, z_lt, z_le, z_eq, z_add, z_mul, z_inb, z_cl, z_b0, z_b1, z_b01, z_b010, z_b011, kb_v, kb_n, List.cons_append, List.nil_append, if_true, if_false, ↓reduceIte, Bool.false_eq_true, Bool.true_eq_false, decide_eq_true_eq, decide_eq_false_iff_not, not_false_eq_true, m_ones]
  unfold wns
  (repeat' split) <;> first | rfl | (exfalso; omega) | (rw [decide_eq_true (by omega)]; rfl) | (rw [decide_eq_false (by omega)]; rfl) | (simp_all; done) | (exfalso; simp_all; omega)
theorem m_isWhole {σ : Sg} {T : TT} (h : MT σ 0 T) (w : WF T) (d : Nat) : cal (d + 1) mX7_isWhole [.ref 50] σ = some (some (.int (nI (decide (T 3 = 2 ^ (T 7) - 1)).toNat)), σ) := by
  have w1 := w.1
  have hp : 2 ^ (T 7) ≤ 2 ^ 7 := Nat.pow_le_pow_right (by omega) (by omega)
  have hp1 : 1 ≤ 2 ^ (T 7) := Nat.one_le_two_pow
  rw [aX7_isWhole_50]
  simp (disch := omega) only [kX7_isWhole, MT0 h, eq_self, Nat.reduceEqDiff, Nat.one_ne_zero, Nat.zero_ne_one, z_0, z_lt, z_le, z_eq, z_add, z_mul, z_inb, z_cl, z_b0, z_b1, z_b01, z_b010, z_b011, kb_v, kb_n, List.cons_append, List.nil_append, if_true, if_false, ↓reduceIte, Bool.false_eq_true, Bool.true_eq_false, decide_eq_true_eq, decide_eq_false_iff_not, not_false_eq_true, z_one, z_sub]
  (repeat' split) <;> first | rfl | (exfalso; omega) | (rw [decide_eq_true (by omega)]; rfl) | (rw [decide_eq_false (by omega)]; rfl) | (simp_all; done) | (exfalso; simp_all; omega)
theorem m_fsc_loop {σ : Sg} {T : TT} (h : MT σ 0 T) (w : WF T) (d : Nat) {s : Nat} (hs : s < 128) : ∀ n k, k + n = T 8 → exec (d + 1) mX7_pricesOf 4 [.ref 50, .int (nI s), .int (nI (smn (fun e => if s.testBit e = true then T (47 + e) else 0) k)), .int (nI k)] [] σ = some (some (.int (nI (fsc T s))), σ)
  | 0, k, hk => by
    have w1 := w.1
    rw [hX7_pricesOf_4]
    simp (disch := omega) only [kX7_pricesOf, MT0 h, eq_self, Nat.reduceEqDiff, Nat.one_ne_zero, Nat.zero_ne_one, z_0, z_lt, z_le, z_eq, z_add, z_mul, z_inb, z_cl, z_b0, z_b1, z_b01, z_b010, z_b011, kb_v, kb_n, List.cons_append, List.nil_append, if_true, if_false, ↓reduceIte, Bool.false_eq_true, Bool.true_eq_false, decide_eq_true_eq, decide_eq_false_iff_not, not_false_eq_true]
    rw [if_pos (by omega)]
    rw [show k = T 8 by omega]
    rfl
  | n + 1, k, hk => by
    have w1 := w.1
    have wp := w.2.2.2.2.1 k (by omega)
    have hb : smn (fun e => if s.testBit e = true then T (47 + e) else 0) k ≤ k * 50 := smn_le k (fun i hi => by have := w.2.2.2.2.1 i (by omega); split <;> omega)
    rw [hX7_pricesOf_4]
    simp (disch := omega) only [kX7_pricesOf, MT0 h, eq_self, Nat.reduceEqDiff, Nat.one_ne_zero, Nat.zero_ne_one, z_0, z_lt, z_le, z_eq, z_add, z_mul, z_inb, z_cl, z_b0, z_b1, z_b01, z_b010, z_b011, kb_v, kb_n, List.cons_append, List.nil_append, if_true, if_false, ↓reduceIte, Bool.false_eq_true, Bool.true_eq_false, decide_eq_true_eq, decide_eq_false_iff_not, not_false_eq_true, m_has]
    rw [if_neg (by omega)]
    have ih := m_fsc_loop h w d hs n (k + 1) (by omega)
    rw [smn] at ih
    cases hq : s.testBit k
    · simp only [hq, Bool.false_eq_true, if_false, if_true] at ih ⊢
      exact ih
    · simp only [hq, if_true, Bool.true_eq_false, if_false] at ih ⊢
      exact ih
theorem m_fsc {σ : Sg} {T : TT} (h : MT σ 0 T) (w : WF T) (d : Nat) {s : Nat} (hs : s < 128) : cal (d + 2) mX7_pricesOf [.ref 50, .int (nI s)] σ = some (some (.int (nI (fsc T s))), σ) := by
  rw [aX7_pricesOf_50]
  simp (disch := omega) only [kX7_pricesOf, eq_self, Nat.reduceEqDiff, Nat.one_ne_zero, Nat.zero_ne_one, z_0, z_lt, z_le, z_eq, z_add, z_mul, z_inb, z_cl, z_b0, z_b1, z_b01, z_b010, z_b011, kb_v, kb_n, List.cons_append, List.nil_append, if_true, if_false, ↓reduceIte, Bool.false_eq_true, Bool.true_eq_false, decide_eq_true_eq, decide_eq_false_iff_not, not_false_eq_true]
  exact m_fsc_loop h w d hs (T 8) 0 (by omega)
