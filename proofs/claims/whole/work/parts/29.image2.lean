theorem x_cf1_17_8 (d : Nat) : ∀ (m k : Nat) (σ : Sg), k + m = 7 → ∃ σ', exec d mX5_copyFrom 74 [.ref 17, .ref 8, .int (nI k)] [] σ = exec d mX5_copyFrom 136 [.ref 17, .ref 8, .int (nI 0)] [] σ' ∧ (∀ i, 1 ≤ i → i ≤ 4 → ∀ p, k ≤ p → p < 7 → σ' (17 + i) p = σ (8 + i) p) ∧ (∀ i, 1 ≤ i → i ≤ 4 → ∀ p, p < k → σ' (17 + i) p = σ (17 + i) p) ∧ ∀ a, a < 18 ∨ 21 < a → σ' a = σ a
  | 0, k, σ, h => by
    refine ⟨σ, ?_, fun i _ _ p h1 h2 => absurd h2 (by omega), fun _ _ _ _ _ => rfl, fun _ _ => rfl⟩
    rw [hX5_copyFrom_74]
    simp (disch := omega) only [kX5_copyFrom_0, kX5_copyFrom_1, kX5_copyFrom_2, kX5_copyFrom_3, kX5_copyFrom_4, kX5_copyFrom_5, kX5_copyFrom_6, eq_self, Nat.reduceEqDiff, Nat.one_ne_zero, Nat.zero_ne_one, z_0, z_lt, z_le, z_eq, z_add, z_mul, z_inb, z_cl, z_b0, z_b1, z_b01, z_b010, z_b011, kb_v, kb_n, List.cons_append, List.nil_append, if_true, if_false, ↓reduceIte, Bool.false_eq_true, Bool.true_eq_false, decide_eq_true_eq, decide_eq_false_iff_not, not_false_eq_true]
    rw [if_pos (by omega)]
  | m + 1, k, σ, h => by
    obtain ⟨σ', h1, h2, h3, h4⟩ := x_cf1_17_8 d m (k + 1) (up (up (up (up σ 18 k (σ 9 k)) 19 k (σ 10 k)) 20 k (σ 11 k)) 21 k (σ 12 k)) (by omega)
    refine ⟨σ', ?_, fun i i1 i4 p p1 p2 => ?_, fun i i1 i4 p p1 => ?_, fun a ha => ?_⟩
    · rw [hX5_copyFrom_74]
      simp (disch := omega) only [kX5_copyFrom_0, kX5_copyFrom_1, kX5_copyFrom_2, kX5_copyFrom_3, kX5_copyFrom_4, kX5_copyFrom_5, kX5_copyFrom_6, eq_self, Nat.reduceEqDiff, Nat.one_ne_zero, Nat.zero_ne_one, z_0, z_lt, z_le, z_eq, z_add, z_mul, z_inb, z_cl, z_b0, z_b1, z_b01, z_b010, z_b011, kb_v, kb_n, List.cons_append, List.nil_append, if_true, if_false, ↓reduceIte, Bool.false_eq_true, Bool.true_eq_false, decide_eq_true_eq, decide_eq_false_iff_not, not_false_eq_true, up_s, up_k, up_j]
      rw [if_neg (by omega)]
      exact h1
    · by_cases e : p = k
      · subst e
        rw [h3 i i1 i4 p (by omega)]
        rcases (show i = 1 ∨ i = 2 ∨ i = 3 ∨ i = 4 by omega) with rfl | rfl | rfl | rfl <;> simp (disch := omega) only [up_s, up_k, up_j, Nat.reduceAdd]
      · rw [h2 i i1 i4 p (by omega) p2]
        simp (disch := omega) only [up_j]
    · rw [h3 i i1 i4 p (by omega)]
      simp (disch := omega) only [up_j]
    · rw [h4 a ha]
      simp (disch := omega) only [up_of]
theorem x_cf2_17_8 (d : Nat) : ∀ (m k : Nat) (σ : Sg), k + m = 5 → ∃ σ', exec d mX5_copyFrom 136 [.ref 17, .ref 8, .int (nI k)] [] σ = some (none, σ') ∧ (∀ i, 5 ≤ i → i ≤ 8 → ∀ p, k ≤ p → p < 5 → σ' (17 + i) p = σ (8 + i) p) ∧ (∀ i, 5 ≤ i → i ≤ 8 → ∀ p, p < k → σ' (17 + i) p = σ (17 + i) p) ∧ ∀ a, a < 22 ∨ 25 < a → σ' a = σ a
  | 0, k, σ, h => by
    refine ⟨σ, ?_, fun i _ _ p h1 h2 => absurd h2 (by omega), fun _ _ _ _ _ => rfl, fun _ _ => rfl⟩
    rw [hX5_copyFrom_136]
    simp (disch := omega) only [kX5_copyFrom_0, kX5_copyFrom_1, kX5_copyFrom_2, kX5_copyFrom_3, kX5_copyFrom_4, kX5_copyFrom_5, kX5_copyFrom_6, eq_self, Nat.reduceEqDiff, Nat.one_ne_zero, Nat.zero_ne_one, z_0, z_lt, z_le, z_eq, z_add, z_mul, z_inb, z_cl, z_b0, z_b1, z_b01, z_b010, z_b011, kb_v, kb_n, List.cons_append, List.nil_append, if_true, if_false, ↓reduceIte, Bool.false_eq_true, Bool.true_eq_false, decide_eq_true_eq, decide_eq_false_iff_not, not_false_eq_true]
    rw [if_pos (by omega)]
  | m + 1, k, σ, h => by
    obtain ⟨σ', h1, h2, h3, h4⟩ := x_cf2_17_8 d m (k + 1) (up (up (up (up σ 22 k (σ 13 k)) 23 k (σ 14 k)) 24 k (σ 15 k)) 25 k (σ 16 k)) (by omega)
    refine ⟨σ', ?_, fun i i1 i4 p p1 p2 => ?_, fun i i1 i4 p p1 => ?_, fun a ha => ?_⟩
    · rw [hX5_copyFrom_136]
      simp (disch := omega) only [kX5_copyFrom_0, kX5_copyFrom_1, kX5_copyFrom_2, kX5_copyFrom_3, kX5_copyFrom_4, kX5_copyFrom_5, kX5_copyFrom_6, eq_self, Nat.reduceEqDiff, Nat.one_ne_zero, Nat.zero_ne_one, z_0, z_lt, z_le, z_eq, z_add, z_mul, z_inb, z_cl, z_b0, z_b1, z_b01, z_b010, z_b011, kb_v, kb_n, List.cons_append, List.nil_append, if_true, if_false, ↓reduceIte, Bool.false_eq_true, Bool.true_eq_false, decide_eq_true_eq, decide_eq_false_iff_not, not_false_eq_true, up_s, up_k, up_j]
      rw [if_neg (by omega)]
      exact h1
    · by_cases e : p = k
      · subst e
        rw [h3 i i1 i4 p (by omega)]
        rcases (show i = 5 ∨ i = 6 ∨ i = 7 ∨ i = 8 by omega) with rfl | rfl | rfl | rfl <;> simp (disch := omega) only [up_s, up_k, up_j, Nat.reduceAdd]
      · rw [h2 i i1 i4 p (by omega) p2]
        simp (disch := omega) only [up_j]
    · rw [h3 i i1 i4 p (by omega)]
      simp (disch := omega) only [up_j]
    · rw [h4 a ha]
      simp (disch := omega) only [up_of]
theorem x_cf_17_8 {σ : Sg} {T : TT} (h : XT σ 8 T) (w : WF T) (d : Nat) : ∃ σ', cal (d + 1) mX5_copyFrom [.ref 17, .ref 8] σ = some (none, σ') ∧ XT σ' 17 T ∧ ∀ a, a < 17 ∨ 25 < a → σ' a = σ a := by
  have w1 := w.1
  obtain ⟨g0, g1, g2, g3, g4, g5, g6, g7, g8, q1, q2, q3, q4, q5, q6, q7, q8⟩ := XT8 h
  have hb : b01 (nI (T 6)) = true := by
    rcases (show T 6 = 0 ∨ T 6 = 1 by omega) with e | e <;> rw [e] <;> decide
  obtain ⟨σ1, a1, a2, a3, a4⟩ := x_cf1_17_8 d 7 0 (up (up (up (up (up (up (up (up (up σ 17 0 (nI (T 6))) 17 1 (nI (T 0))) 17 2 (nI (T 1))) 17 3 (nI (T 2))) 17 4 (nI (T 7))) 17 5 (nI (T 8))) 17 6 (nI (T 3))) 17 7 (nI (T 4))) 17 8 (nI (T 5))) (by omega)
  obtain ⟨σ2, b1, b2, b3, b4⟩ := x_cf2_17_8 d 5 0 σ1 (by omega)
  refine ⟨σ2, ?_, ?_, fun a ha => ?_⟩
  · rw [aX5_copyFrom_17_8]
    simp (disch := omega) only [kX5_copyFrom_0, kX5_copyFrom_1, kX5_copyFrom_2, kX5_copyFrom_3, kX5_copyFrom_4, kX5_copyFrom_5, kX5_copyFrom_6, eq_self, Nat.reduceEqDiff, Nat.one_ne_zero, Nat.zero_ne_one, z_0, z_lt, z_le, z_eq, z_add, z_mul, z_inb, z_cl, z_b0, z_b1, z_b01, z_b010, z_b011, kb_v, kb_n, List.cons_append, List.nil_append, if_true, if_false, ↓reduceIte, Bool.false_eq_true, Bool.true_eq_false, decide_eq_true_eq, decide_eq_false_iff_not, not_false_eq_true, up_s, up_k, up_j, g0, g1, g2, g3, g4, g5, g6, g7, g8, hb]
    exact a1.trans b1
  · have hn : σ2 17 = _ := (b4 17 (by omega)).trans (a4 17 (by omega))
    unfold XT
    rw [hn]
    simp (disch := omega) only [up_s, up_k, up_j]
    refine ⟨trivial, trivial, trivial, trivial, trivial, trivial, trivial, trivial, trivial, fun p hp => ?_, fun p hp => ?_, fun p hp => ?_, fun p hp => ?_, fun p hp => ?_, fun p hp => ?_, fun p hp => ?_, fun p hp => ?_⟩
    · rw [b4 (17 + 1) (by omega), a2 1 (by omega) (by omega) p (by omega) (by omega)]
      simp (disch := omega) only [up_of]
      exact q1 p hp
    · rw [b4 (17 + 2) (by omega), a2 2 (by omega) (by omega) p (by omega) (by omega)]
      simp (disch := omega) only [up_of]
      exact q2 p hp
    · rw [b4 (17 + 3) (by omega), a2 3 (by omega) (by omega) p (by omega) (by omega)]
      simp (disch := omega) only [up_of]
      exact q3 p hp
    · rw [b4 (17 + 4) (by omega), a2 4 (by omega) (by omega) p (by omega) (by omega)]
      simp (disch := omega) only [up_of]
      exact q4 p hp
    · rw [b2 5 (by omega) (by omega) p (by omega) (by omega), a4 (8 + 5) (by omega)]
      simp (disch := omega) only [up_of]
      exact q5 p hp
    · rw [b2 6 (by omega) (by omega) p (by omega) (by omega), a4 (8 + 6) (by omega)]
      simp (disch := omega) only [up_of]
      exact q6 p hp
    · rw [b2 7 (by omega) (by omega) p (by omega) (by omega), a4 (8 + 7) (by omega)]
      simp (disch := omega) only [up_of]
      exact q7 p hp
    · rw [b2 8 (by omega) (by omega) p (by omega) (by omega), a4 (8 + 8) (by omega)]
      simp (disch := omega) only [up_of]
      exact q8 p hp
  · rw [b4 a (by omega), a4 a (by omega)]
    simp (disch := omega) only [up_of]
theorem x_cf1_26_8 (d : Nat) : ∀ (m k : Nat) (σ : Sg), k + m = 7 → ∃ σ', exec d mX5_copyFrom 74 [.ref 26, .ref 8, .int (nI k)] [] σ = exec d mX5_copyFrom 136 [.ref 26, .ref 8, .int (nI 0)] [] σ' ∧ (∀ i, 1 ≤ i → i ≤ 4 → ∀ p, k ≤ p → p < 7 → σ' (26 + i) p = σ (8 + i) p) ∧ (∀ i, 1 ≤ i → i ≤ 4 → ∀ p, p < k → σ' (26 + i) p = σ (26 + i) p) ∧ ∀ a, a < 27 ∨ 30 < a → σ' a = σ a
  | 0, k, σ, h => by
    refine ⟨σ, ?_, fun i _ _ p h1 h2 => absurd h2 (by omega), fun _ _ _ _ _ => rfl, fun _ _ => rfl⟩
    rw [hX5_copyFrom_74]
    simp (disch := omega) only [kX5_copyFrom_0, kX5_copyFrom_1, kX5_copyFrom_2, kX5_copyFrom_3, kX5_copyFrom_4, kX5_copyFrom_5, kX5_copyFrom_6, eq_self, Nat.reduceEqDiff, Nat.one_ne_zero, Nat.zero_ne_one, z_0, z_lt, z_le, z_eq, z_add, z_mul, z_inb, z_cl, z_b0, z_b1, z_b01, z_b010, z_b011, kb_v, kb_n, List.cons_append, List.nil_append, if_true, if_false, ↓reduceIte, Bool.false_eq_true, Bool.true_eq_false, decide_eq_true_eq, decide_eq_false_iff_not, not_false_eq_true]
    rw [if_pos (by omega)]
  | m + 1, k, σ, h => by
    obtain ⟨σ', h1, h2, h3, h4⟩ := x_cf1_26_8 d m (k + 1) (up (up (up (up σ 27 k (σ 9 k)) 28 k (σ 10 k)) 29 k (σ 11 k)) 30 k (σ 12 k)) (by omega)
    refine ⟨σ', ?_, fun i i1 i4 p p1 p2 => ?_, fun i i1 i4 p p1 => ?_, fun a ha => ?_⟩
    · rw [hX5_copyFrom_74]
      simp (disch := omega) only [kX5_copyFrom_0, kX5_copyFrom_1, kX5_copyFrom_2, kX5_copyFrom_3, kX5_copyFrom_4, kX5_copyFrom_5, kX5_copyFrom_6, eq_self, Nat.reduceEqDiff, Nat.one_ne_zero, Nat.zero_ne_one, z_0, z_lt, z_le, z_eq, z_add, z_mul, z_inb, z_cl, z_b0, z_b1, z_b01, z_b010, z_b011, kb_v, kb_n, List.cons_append, List.nil_append, if_true, if_false, ↓reduceIte, Bool.false_eq_true, Bool.true_eq_false, decide_eq_true_eq, decide_eq_false_iff_not, not_false_eq_true, up_s, up_k, up_j]
      rw [if_neg (by omega)]
      exact h1
    · by_cases e : p = k
      · subst e
        rw [h3 i i1 i4 p (by omega)]
        rcases (show i = 1 ∨ i = 2 ∨ i = 3 ∨ i = 4 by omega) with rfl | rfl | rfl | rfl <;> simp (disch := omega) only [up_s, up_k, up_j, Nat.reduceAdd]
      · rw [h2 i i1 i4 p (by omega) p2]
        simp (disch := omega) only [up_j]
    · rw [h3 i i1 i4 p (by omega)]
      simp (disch := omega) only [up_j]
    · rw [h4 a ha]
      simp (disch := omega) only [up_of]
theorem x_cf2_26_8 (d : Nat) : ∀ (m k : Nat) (σ : Sg), k + m = 5 → ∃ σ', exec d mX5_copyFrom 136 [.ref 26, .ref 8, .int (nI k)] [] σ = some (none, σ') ∧ (∀ i, 5 ≤ i → i ≤ 8 → ∀ p, k ≤ p → p < 5 → σ' (26 + i) p = σ (8 + i) p) ∧ (∀ i, 5 ≤ i → i ≤ 8 → ∀ p, p < k → σ' (26 + i) p = σ (26 + i) p) ∧ ∀ a, a < 31 ∨ 34 < a → σ' a = σ a
  | 0, k, σ, h => by
    refine ⟨σ, ?_, fun i _ _ p h1 h2 => absurd h2 (by omega), fun _ _ _ _ _ => rfl, fun _ _ => rfl⟩
    rw [hX5_copyFrom_136]
    simp (disch := omega) only [kX5_copyFrom_0, kX5_copyFrom_1, kX5_copyFrom_2, kX5_copyFrom_3, kX5_copyFrom_4, kX5_copyFrom_5, kX5_copyFrom_6, eq_self, Nat.reduceEqDiff, Nat.one_ne_zero, Nat.zero_ne_one, z_0, z_lt, z_le, z_eq, z_add, z_mul, z_inb, z_cl, z_b0, z_b1, z_b01, z_b010, z_b011, kb_v, kb_n, List.cons_append, List.nil_append, if_true, if_false, ↓reduceIte, Bool.false_eq_true, Bool.true_eq_false, decide_eq_true_eq, decide_eq_false_iff_not, not_false_eq_true]
    rw [if_pos (by omega)]
  | m + 1, k, σ, h => by
    obtain ⟨σ', h1, h2, h3, h4⟩ := x_cf2_26_8 d m (k + 1) (up (up (up (up σ 31 k (σ 13 k)) 32 k (σ 14 k)) 33 k (σ 15 k)) 34 k (σ 16 k)) (by omega)
    refine ⟨σ', ?_, fun i i1 i4 p p1 p2 => ?_, fun i i1 i4 p p1 => ?_, fun a ha => ?_⟩
    · rw [hX5_copyFrom_136]
      simp (disch := omega) only [kX5_copyFrom_0, kX5_copyFrom_1, kX5_copyFrom_2, kX5_copyFrom_3, kX5_copyFrom_4, kX5_copyFrom_5, kX5_copyFrom_6, eq_self, Nat.reduceEqDiff, Nat.one_ne_zero, Nat.zero_ne_one, z_0, z_lt, z_le, z_eq, z_add, z_mul, z_inb, z_cl, z_b0, z_b1, z_b01, z_b010, z_b011, kb_v, kb_n, List.cons_append, List.nil_append, if_true, if_false, ↓reduceIte, Bool.false_eq_true, Bool.true_eq_false, decide_eq_true_eq, decide_eq_false_iff_not, not_false_eq_true, up_s, up_k, up_j]
      rw [if_neg (by omega)]
      exact h1
    · by_cases e : p = k
      · subst e
        rw [h3 i i1 i4 p (by omega)]
        rcases (show i = 5 ∨ i = 6 ∨ i = 7 ∨ i = 8 by omega) with rfl | rfl | rfl | rfl <;> simp (disch := omega) only [up_s, up_k, up_j, Nat.reduceAdd]
      · rw [h2 i i1 i4 p (by omega) p2]
        simp (disch := omega) only [up_j]
    · rw [h3 i i1 i4 p (by omega)]
      simp (disch := omega) only [up_j]
    · rw [h4 a ha]
      simp (disch := omega) only [up_of]
theorem x_cf_26_8 {σ : Sg} {T : TT} (h : XT σ 8 T) (w : WF T) (d : Nat) : ∃ σ', cal (d + 1) mX5_copyFrom [.ref 26, .ref 8] σ = some (none, σ') ∧ XT σ' 26 T ∧ ∀ a, a < 26 ∨ 34 < a → σ' a = σ a := by
  have w1 := w.1
  obtain ⟨g0, g1, g2, g3, g4, g5, g6, g7, g8, q1, q2, q3, q4, q5, q6, q7, q8⟩ := XT8 h
  have hb : b01 (nI (T 6)) = true := by
    rcases (show T 6 = 0 ∨ T 6 = 1 by omega) with e | e <;> rw [e] <;> decide
  obtain ⟨σ1, a1, a2, a3, a4⟩ := x_cf1_26_8 d 7 0 (up (up (up (up (up (up (up (up (up σ 26 0 (nI (T 6))) 26 1 (nI (T 0))) 26 2 (nI (T 1))) 26 3 (nI (T 2))) 26 4 (nI (T 7))) 26 5 (nI (T 8))) 26 6 (nI (T 3))) 26 7 (nI (T 4))) 26 8 (nI (T 5))) (by omega)
  obtain ⟨σ2, b1, b2, b3, b4⟩ := x_cf2_26_8 d 5 0 σ1 (by omega)
  refine ⟨σ2, ?_, ?_, fun a ha => ?_⟩
  · rw [aX5_copyFrom_26_8]
    simp (disch := omega) only [kX5_copyFrom_0, kX5_copyFrom_1, kX5_copyFrom_2, kX5_copyFrom_3, kX5_copyFrom_4, kX5_copyFrom_5, kX5_copyFrom_6, eq_self, Nat.reduceEqDiff, Nat.one_ne_zero, Nat.zero_ne_one, z_0, z_lt, z_le, z_eq, z_add, z_mul, z_inb, z_cl, z_b0, z_b1, z_b01, z_b010, z_b011, kb_v, kb_n, List.cons_append, List.nil_append, if_true, if_false, ↓reduceIte, Bool.false_eq_true, Bool.true_eq_false, decide_eq_true_eq, decide_eq_false_iff_not, not_false_eq_true, up_s, up_k, up_j, g0, g1, g2, g3, g4, g5, g6, g7, g8, hb]
    exact a1.trans b1
  · have hn : σ2 26 = _ := (b4 26 (by omega)).trans (a4 26 (by omega))
    unfold XT
    rw [hn]
    simp (disch := omega) only [up_s, up_k, up_j]
    refine ⟨trivial, trivial, trivial, trivial, trivial, trivial, trivial, trivial, trivial, fun p hp => ?_, fun p hp => ?_, fun p hp => ?_, fun p hp => ?_, fun p hp => ?_, fun p hp => ?_, fun p hp => ?_, fun p hp => ?_⟩
    · rw [b4 (26 + 1) (by omega), a2 1 (by omega) (by omega) p (by omega) (by omega)]
      simp (disch := omega) only [up_of]
      exact q1 p hp
    · rw [b4 (26 + 2) (by omega), a2 2 (by omega) (by omega) p (by omega) (by omega)]
      simp (disch := omega) only [up_of]
      exact q2 p hp
    · rw [b4 (26 + 3) (by omega), a2 3 (by omega) (by omega) p (by omega) (by omega)]
      simp (disch := omega) only [up_of]
      exact q3 p hp
    · rw [b4 (26 + 4) (by omega), a2 4 (by omega) (by omega) p (by omega) (by omega)]
      simp (disch := omega) only [up_of]
      exact q4 p hp
    · rw [b2 5 (by omega) (by omega) p (by omega) (by omega), a4 (8 + 5) (by omega)]
      simp (disch := omega) only [up_of]
      exact q5 p hp
    · rw [b2 6 (by omega) (by omega) p (by omega) (by omega), a4 (8 + 6) (by omega)]
      simp (disch := omega) only [up_of]
      exact q6 p hp
    · rw [b2 7 (by omega) (by omega) p (by omega) (by omega), a4 (8 + 7) (by omega)]
      simp (disch := omega) only [up_of]
      exact q7 p hp
    · rw [b2 8 (by omega) (by omega) p (by omega) (by omega), a4 (8 + 8) (by omega)]
      simp (disch := omega) only [up_of]
      exact q8 p hp
  · rw [b4 a (by omega), a4 a (by omega)]
    simp (disch := omega) only [up_of]
theorem x_cf1_8_17 (d : Nat) : ∀ (m k : Nat) (σ : Sg), k + m = 7 → ∃ σ', exec d mX5_copyFrom 74 [.ref 8, .ref 17, .int (nI k)] [] σ = exec d mX5_copyFrom 136 [.ref 8, .ref 17, .int (nI 0)] [] σ' ∧ (∀ i, 1 ≤ i → i ≤ 4 → ∀ p, k ≤ p → p < 7 → σ' (8 + i) p = σ (17 + i) p) ∧ (∀ i, 1 ≤ i → i ≤ 4 → ∀ p, p < k → σ' (8 + i) p = σ (8 + i) p) ∧ ∀ a, a < 9 ∨ 12 < a → σ' a = σ a
  | 0, k, σ, h => by
    refine ⟨σ, ?_, fun i _ _ p h1 h2 => absurd h2 (by omega), fun _ _ _ _ _ => rfl, fun _ _ => rfl⟩
    rw [hX5_copyFrom_74]
    simp (disch := omega) only [kX5_copyFrom_0, kX5_copyFrom_1, kX5_copyFrom_2, kX5_copyFrom_3, kX5_copyFrom_4, kX5_copyFrom_5, kX5_copyFrom_6, eq_self, Nat.reduceEqDiff, Nat.one_ne_zero, Nat.zero_ne_one, z_0, z_lt, z_le, z_eq, z_add, z_mul, z_inb, z_cl, z_b0, z_b1, z_b01, z_b010, z_b011, kb_v, kb_n, List.cons_append, List.nil_append, if_true, if_false, ↓reduceIte, Bool.false_eq_true, Bool.true_eq_false, decide_eq_true_eq, decide_eq_false_iff_not, not_false_eq_true]
    rw [if_pos (by omega)]
  | m + 1, k, σ, h => by
    obtain ⟨σ', h1, h2, h3, h4⟩ := x_cf1_8_17 d m (k + 1) (up (up (up (up σ 9 k (σ 18 k)) 10 k (σ 19 k)) 11 k (σ 20 k)) 12 k (σ 21 k)) (by omega)
    refine ⟨σ', ?_, fun i i1 i4 p p1 p2 => ?_, fun i i1 i4 p p1 => ?_, fun a ha => ?_⟩
    · rw [hX5_copyFrom_74]
      simp (disch := omega) only [kX5_copyFrom_0, kX5_copyFrom_1, kX5_copyFrom_2, kX5_copyFrom_3, kX5_copyFrom_4, kX5_copyFrom_5, kX5_copyFrom_6, eq_self, Nat.reduceEqDiff, Nat.one_ne_zero, Nat.zero_ne_one, z_0, z_lt, z_le, z_eq, z_add, z_mul, z_inb, z_cl, z_b0, z_b1, z_b01, z_b010, z_b011, kb_v, kb_n, List.cons_append, List.nil_append, if_true, if_false, ↓reduceIte, Bool.false_eq_true, Bool.true_eq_false, decide_eq_true_eq, decide_eq_false_iff_not, not_false_eq_true, up_s, up_k, up_j]
      rw [if_neg (by omega)]
      exact h1
    · by_cases e : p = k
      · subst e
        rw [h3 i i1 i4 p (by omega)]
        rcases (show i = 1 ∨ i = 2 ∨ i = 3 ∨ i = 4 by omega) with rfl | rfl | rfl | rfl <;> simp (disch := omega) only [up_s, up_k, up_j, Nat.reduceAdd]
      · rw [h2 i i1 i4 p (by omega) p2]
        simp (disch := omega) only [up_j]
    · rw [h3 i i1 i4 p (by omega)]
      simp (disch := omega) only [up_j]
    · rw [h4 a ha]
      simp (disch := omega) only [up_of]
theorem x_cf2_8_17 (d : Nat) : ∀ (m k : Nat) (σ : Sg), k + m = 5 → ∃ σ', exec d mX5_copyFrom 136 [.ref 8, .ref 17, .int (nI k)] [] σ = some (none, σ') ∧ (∀ i, 5 ≤ i → i ≤ 8 → ∀ p, k ≤ p → p < 5 → σ' (8 + i) p = σ (17 + i) p) ∧ (∀ i, 5 ≤ i → i ≤ 8 → ∀ p, p < k → σ' (8 + i) p = σ (8 + i) p) ∧ ∀ a, a < 13 ∨ 16 < a → σ' a = σ a
  | 0, k, σ, h => by
    refine ⟨σ, ?_, fun i _ _ p h1 h2 => absurd h2 (by omega), fun _ _ _ _ _ => rfl, fun _ _ => rfl⟩
    rw [hX5_copyFrom_136]
    simp (disch := omega) only [kX5_copyFrom_0, kX5_copyFrom_1, kX5_copyFrom_2, kX5_copyFrom_3, kX5_copyFrom_4, kX5_copyFrom_5, kX5_copyFrom_6, eq_self, Nat.reduceEqDiff, Nat.one_ne_zero, Nat.zero_ne_one, z_0, z_lt, z_le, z_eq, z_add, z_mul, z_inb, z_cl, z_b0, z_b1, z_b01, z_b010, z_b011, kb_v, kb_n, List.cons_append, List.nil_append, if_true, if_false, ↓reduceIte, Bool.false_eq_true, Bool.true_eq_false, decide_eq_true_eq, decide_eq_false_iff_not, not_false_eq_true]
    rw [if_pos (by omega)]
  | m + 1, k, σ, h => by
    obtain ⟨σ', h1, h2, h3, h4⟩ := x_cf2_8_17 d m (k + 1) (up (up (up (up σ 13 k (σ 22 k)) 14 k (σ 23 k)) 15 k (σ 24 k)) 16 k (σ 25 k)) (by omega)
    refine ⟨σ', ?_, fun i i1 i4 p p1 p2 => ?_, fun i i1 i4 p p1 => ?_, fun a ha => ?_⟩
    · rw [hX5_copyFrom_136]
      simp (disch := omega) only [kX5_copyFrom_0, kX5_copyFrom_1, kX5_copyFrom_2, kX5_copyFrom_3, kX5_copyFrom_4, kX5_copyFrom_5, kX5_copyFrom_6, eq_self, Nat.reduceEqDiff, Nat.one_ne_zero, Nat.zero_ne_one, z_0, z_lt, z_le, z_eq, z_add, z_mul, z_inb, z_cl, z_b0, z_b1, z_b01, z_b010, z_b011, kb_v, kb_n, List.cons_append, List.nil_append, if_true, if_false, ↓reduceIte, Bool.false_eq_true, Bool.true_eq_false, decide_eq_true_eq, decide_eq_false_iff_not, not_false_eq_true, up_s, up_k, up_j]
      rw [if_neg (by omega)]
      exact h1
    · by_cases e : p = k
      · subst e
        rw [h3 i i1 i4 p (by omega)]
        rcases (show i = 5 ∨ i = 6 ∨ i = 7 ∨ i = 8 by omega) with rfl | rfl | rfl | rfl <;> simp (disch := omega) only [up_s, up_k, up_j, Nat.reduceAdd]
      · rw [h2 i i1 i4 p (by omega) p2]
        simp (disch := omega) only [up_j]
    · rw [h3 i i1 i4 p (by omega)]
      simp (disch := omega) only [up_j]
    · rw [h4 a ha]
      simp (disch := omega) only [up_of]
theorem x_cf_8_17 {σ : Sg} {T : TT} (h : XT σ 17 T) (w : WF T) (d : Nat) : ∃ σ', cal (d + 1) mX5_copyFrom [.ref 8, .ref 17] σ = some (none, σ') ∧ XT σ' 8 T ∧ ∀ a, a < 8 ∨ 16 < a → σ' a = σ a := by
  have w1 := w.1
  obtain ⟨g0, g1, g2, g3, g4, g5, g6, g7, g8, q1, q2, q3, q4, q5, q6, q7, q8⟩ := XT17 h
  have hb : b01 (nI (T 6)) = true := by
    rcases (show T 6 = 0 ∨ T 6 = 1 by omega) with e | e <;> rw [e] <;> decide
  obtain ⟨σ1, a1, a2, a3, a4⟩ := x_cf1_8_17 d 7 0 (up (up (up (up (up (up (up (up (up σ 8 0 (nI (T 6))) 8 1 (nI (T 0))) 8 2 (nI (T 1))) 8 3 (nI (T 2))) 8 4 (nI (T 7))) 8 5 (nI (T 8))) 8 6 (nI (T 3))) 8 7 (nI (T 4))) 8 8 (nI (T 5))) (by omega)
  obtain ⟨σ2, b1, b2, b3, b4⟩ := x_cf2_8_17 d 5 0 σ1 (by omega)
  refine ⟨σ2, ?_, ?_, fun a ha => ?_⟩
  · rw [aX5_copyFrom_8_17]
    simp (disch := omega) only [kX5_copyFrom_0, kX5_copyFrom_1, kX5_copyFrom_2, kX5_copyFrom_3, kX5_copyFrom_4, kX5_copyFrom_5, kX5_copyFrom_6, eq_self, Nat.reduceEqDiff, Nat.one_ne_zero, Nat.zero_ne_one, z_0, z_lt, z_le, z_eq, z_add, z_mul, z_inb, z_cl, z_b0, z_b1, z_b01, z_b010, z_b011, kb_v, kb_n, List.cons_append, List.nil_append, if_true, if_false, ↓reduceIte, Bool.false_eq_true, Bool.true_eq_false, decide_eq_true_eq, decide_eq_false_iff_not, not_false_eq_true, up_s, up_k, up_j, g0, g1, g2, g3, g4, g5, g6, g7, g8, hb]
    exact a1.trans b1
  · have hn : σ2 8 = _ := (b4 8 (by omega)).trans (a4 8 (by omega))
    unfold XT
    rw [hn]
    simp (disch := omega) only [up_s, up_k, up_j]
    refine ⟨trivial, trivial, trivial, trivial, trivial, trivial, trivial, trivial, trivial, fun p hp => ?_, fun p hp => ?_, fun p hp => ?_, fun p hp => ?_, fun p hp => ?_, fun p hp => ?_, fun p hp => ?_, fun p hp => ?_⟩
    · rw [b4 (8 + 1) (by omega), a2 1 (by omega) (by omega) p (by omega) (by omega)]
      simp (disch := omega) only [up_of]
      exact q1 p hp
    · rw [b4 (8 + 2) (by omega), a2 2 (by omega) (by omega) p (by omega) (by omega)]
      simp (disch := omega) only [up_of]
      exact q2 p hp
    · rw [b4 (8 + 3) (by omega), a2 3 (by omega) (by omega) p (by omega) (by omega)]
      simp (disch := omega) only [up_of]
      exact q3 p hp
    · rw [b4 (8 + 4) (by omega), a2 4 (by omega) (by omega) p (by omega) (by omega)]
      simp (disch := omega) only [up_of]
      exact q4 p hp
    · rw [b2 5 (by omega) (by omega) p (by omega) (by omega), a4 (17 + 5) (by omega)]
      simp (disch := omega) only [up_of]
      exact q5 p hp
    · rw [b2 6 (by omega) (by omega) p (by omega) (by omega), a4 (17 + 6) (by omega)]
      simp (disch := omega) only [up_of]
      exact q6 p hp
    · rw [b2 7 (by omega) (by omega) p (by omega) (by omega), a4 (17 + 7) (by omega)]
      simp (disch := omega) only [up_of]
      exact q7 p hp
    · rw [b2 8 (by omega) (by omega) p (by omega) (by omega), a4 (17 + 8) (by omega)]
      simp (disch := omega) only [up_of]
      exact q8 p hp
  · rw [b4 a (by omega), a4 a (by omega)]
    simp (disch := omega) only [up_of]
theorem x_cf1_8_26 (d : Nat) : ∀ (m k : Nat) (σ : Sg), k + m = 7 → ∃ σ', exec d mX5_copyFrom 74 [.ref 8, .ref 26, .int (nI k)] [] σ = exec d mX5_copyFrom 136 [.ref 8, .ref 26, .int (nI 0)] [] σ' ∧ (∀ i, 1 ≤ i → i ≤ 4 → ∀ p, k ≤ p → p < 7 → σ' (8 + i) p = σ (26 + i) p) ∧ (∀ i, 1 ≤ i → i ≤ 4 → ∀ p, p < k → σ' (8 + i) p = σ (8 + i) p) ∧ ∀ a, a < 9 ∨ 12 < a → σ' a = σ a
  | 0, k, σ, h => by
    refine ⟨σ, ?_, fun i _ _ p h1 h2 => absurd h2 (by omega), fun _ _ _ _ _ => rfl, fun _ _ => rfl⟩
    rw [hX5_copyFrom_74]
    simp (disch := omega) only [kX5_copyFrom_0, kX5_copyFrom_1, kX5_copyFrom_2, kX5_copyFrom_3, kX5_copyFrom_4, kX5_copyFrom_5, kX5_copyFrom_6, eq_self, Nat.reduceEqDiff, Nat.one_ne_zero, Nat.zero_ne_one, z_0, z_lt, z_le, z_eq, z_add, z_mul, z_inb, z_cl, z_b0, z_b1, z_b01, z_b010, z_b011, kb_v, kb_n, List.cons_append, List.nil_append, if_true, if_false, ↓reduceIte, Bool.false_eq_true, Bool.true_eq_false, decide_eq_true_eq, decide_eq_false_iff_not, not_false_eq_true]
    rw [if_pos (by omega)]
  | m + 1, k, σ, h => by
    obtain ⟨σ', h1, h2, h3, h4⟩ := x_cf1_8_26 d m (k + 1) (up (up (up (up σ 9 k (σ 27 k)) 10 k (σ 28 k)) 11 k (σ 29 k)) 12 k (σ 30 k)) (by omega)
    refine ⟨σ', ?_, fun i i1 i4 p p1 p2 => ?_, fun i i1 i4 p p1 => ?_, fun a ha => ?_⟩
    · rw [hX5_copyFrom_74]
      simp (disch := omega) only [kX5_copyFrom_0, kX5_copyFrom_1, kX5_copyFrom_2, kX5_copyFrom_3, kX5_copyFrom_4, kX5_copyFrom_5, kX5_copyFrom_6, eq_self, Nat.reduceEqDiff, Nat.one_ne_zero, Nat.zero_ne_one, z_0, z_lt, z_le, z_eq, z_add, z_mul, z_inb, z_cl, z_b0, z_b1, z_b01, z_b010, z_b011, kb_v, kb_n, List.cons_append, List.nil_append, if_true, if_false, ↓reduceIte, Bool.false_eq_true, Bool.true_eq_false, decide_eq_true_eq, decide_eq_false_iff_not, not_false_eq_true, up_s, up_k, up_j]
      rw [if_neg (by omega)]
      exact h1
    · by_cases e : p = k
      · subst e
        rw [h3 i i1 i4 p (by omega)]
        rcases (show i = 1 ∨ i = 2 ∨ i = 3 ∨ i = 4 by omega) with rfl | rfl | rfl | rfl <;> simp (disch := omega) only [up_s, up_k, up_j, Nat.reduceAdd]
      · rw [h2 i i1 i4 p (by omega) p2]
        simp (disch := omega) only [up_j]
    · rw [h3 i i1 i4 p (by omega)]
      simp (disch := omega) only [up_j]
    · rw [h4 a ha]
      simp (disch := omega) only [up_of]
theorem x_cf2_8_26 (d : Nat) : ∀ (m k : Nat) (σ : Sg), k + m = 5 → ∃ σ', exec d mX5_copyFrom 136 [.ref 8, .ref 26, .int (nI k)] [] σ = some (none, σ') ∧ (∀ i, 5 ≤ i → i ≤ 8 → ∀ p, k ≤ p → p < 5 → σ' (8 + i) p = σ (26 + i) p) ∧ (∀ i, 5 ≤ i → i ≤ 8 → ∀ p, p < k → σ' (8 + i) p = σ (8 + i) p) ∧ ∀ a, a < 13 ∨ 16 < a → σ' a = σ a
  | 0, k, σ, h => by
    refine ⟨σ, ?_, fun i _ _ p h1 h2 => absurd h2 (by omega), fun _ _ _ _ _ => rfl, fun _ _ => rfl⟩
    rw [hX5_copyFrom_136]
    simp (disch := omega) only [kX5_copyFrom_0, kX5_copyFrom_1, kX5_copyFrom_2, kX5_copyFrom_3, kX5_copyFrom_4, kX5_copyFrom_5, kX5_copyFrom_6, eq_self, Nat.reduceEqDiff, Nat.one_ne_zero, Nat.zero_ne_one, z_0, z_lt, z_le, z_eq, z_add, z_mul, z_inb, z_cl, z_b0, z_b1, z_b01, z_b010, z_b011, kb_v, kb_n, List.cons_append, List.nil_append, if_true, if_false, ↓reduceIte, Bool.false_eq_true, Bool.true_eq_false, decide_eq_true_eq, decide_eq_false_iff_not, not_false_eq_true]
    rw [if_pos (by omega)]
  | m + 1, k, σ, h => by
    obtain ⟨σ', h1, h2, h3, h4⟩ := x_cf2_8_26 d m (k + 1) (up (up (up (up σ 13 k (σ 31 k)) 14 k (σ 32 k)) 15 k (σ 33 k)) 16 k (σ 34 k)) (by omega)
    refine ⟨σ', ?_, fun i i1 i4 p p1 p2 => ?_, fun i i1 i4 p p1 => ?_, fun a ha => ?_⟩
    · rw [hX5_copyFrom_136]
      simp (disch := omega) only [kX5_copyFrom_0, kX5_copyFrom_1, kX5_copyFrom_2, kX5_copyFrom_3, kX5_copyFrom_4, kX5_copyFrom_5, kX5_copyFrom_6, eq_self, Nat.reduceEqDiff, Nat.one_ne_zero, Nat.zero_ne_one, z_0, z_lt, z_le, z_eq, z_add, z_mul, z_inb, z_cl, z_b0, z_b1, z_b01, z_b010, z_b011, kb_v, kb_n, List.cons_append, List.nil_append, if_true, if_false, ↓reduceIte, Bool.false_eq_true, Bool.true_eq_false, decide_eq_true_eq, decide_eq_false_iff_not, not_false_eq_true, up_s, up_k, up_j]
      rw [if_neg (by omega)]
      exact h1
    · by_cases e : p = k
      · subst e
        rw [h3 i i1 i4 p (by omega)]
        rcases (show i = 5 ∨ i = 6 ∨ i = 7 ∨ i = 8 by omega) with rfl | rfl | rfl | rfl <;> simp (disch := omega) only [up_s, up_k, up_j, Nat.reduceAdd]
      · rw [h2 i i1 i4 p (by omega) p2]
        simp (disch := omega) only [up_j]
    · rw [h3 i i1 i4 p (by omega)]
      simp (disch := omega) only [up_j]
    · rw [h4 a ha]
      simp (disch := omega) only [up_of]
theorem x_cf_8_26 {σ : Sg} {T : TT} (h : XT σ 26 T) (w : WF T) (d : Nat) : ∃ σ', cal (d + 1) mX5_copyFrom [.ref 8, .ref 26] σ = some (none, σ') ∧ XT σ' 8 T ∧ ∀ a, a < 8 ∨ 16 < a → σ' a = σ a := by
  have w1 := w.1
  obtain ⟨g0, g1, g2, g3, g4, g5, g6, g7, g8, q1, q2, q3, q4, q5, q6, q7, q8⟩ := XT26 h
  have hb : b01 (nI (T 6)) = true := by
    rcases (show T 6 = 0 ∨ T 6 = 1 by omega) with e | e <;> rw [e] <;> decide
  obtain ⟨σ1, a1, a2, a3, a4⟩ := x_cf1_8_26 d 7 0 (up (up (up (up (up (up (up (up (up σ 8 0 (nI (T 6))) 8 1 (nI (T 0))) 8 2 (nI (T 1))) 8 3 (nI (T 2))) 8 4 (nI (T 7))) 8 5 (nI (T 8))) 8 6 (nI (T 3))) 8 7 (nI (T 4))) 8 8 (nI (T 5))) (by omega)
  obtain ⟨σ2, b1, b2, b3, b4⟩ := x_cf2_8_26 d 5 0 σ1 (by omega)
  refine ⟨σ2, ?_, ?_, fun a ha => ?_⟩
  · rw [aX5_copyFrom_8_26]
    simp (disch := omega) only [kX5_copyFrom_0, kX5_copyFrom_1, kX5_copyFrom_2, kX5_copyFrom_3, kX5_copyFrom_4, kX5_copyFrom_5, kX5_copyFrom_6, eq_self, Nat.reduceEqDiff, Nat.one_ne_zero, Nat.zero_ne_one, z_0, z_lt, z_le, z_eq, z_add, z_mul, z_inb, z_cl, z_b0, z_b1, z_b01, z_b010, z_b011, kb_v, kb_n, List.cons_append, List.nil_append, if_true, if_false, ↓reduceIte, Bool.false_eq_true, Bool.true_eq_false, decide_eq_true_eq, decide_eq_false_iff_not, not_false_eq_true, up_s, up_k, up_j, g0, g1, g2, g3, g4, g5, g6, g7, g8, hb]
    exact a1.trans b1
  · have hn : σ2 8 = _ := (b4 8 (by omega)).trans (a4 8 (by omega))
    unfold XT
    rw [hn]
    simp (disch := omega) only [up_s, up_k, up_j]
    refine ⟨trivial, trivial, trivial, trivial, trivial, trivial, trivial, trivial, trivial, fun p hp => ?_, fun p hp => ?_, fun p hp => ?_, fun p hp => ?_, fun p hp => ?_, fun p hp => ?_, fun p hp => ?_, fun p hp => ?_⟩
    · rw [b4 (8 + 1) (by omega), a2 1 (by omega) (by omega) p (by omega) (by omega)]
      simp (disch := omega) only [up_of]
      exact q1 p hp
    · rw [b4 (8 + 2) (by omega), a2 2 (by omega) (by omega) p (by omega) (by omega)]
      simp (disch := omega) only [up_of]
      exact q2 p hp
    · rw [b4 (8 + 3) (by omega), a2 3 (by omega) (by omega) p (by omega) (by omega)]
      simp (disch := omega) only [up_of]
      exact q3 p hp
    · rw [b4 (8 + 4) (by omega), a2 4 (by omega) (by omega) p (by omega) (by omega)]
      simp (disch := omega) only [up_of]
      exact q4 p hp
    · rw [b2 5 (by omega) (by omega) p (by omega) (by omega), a4 (26 + 5) (by omega)]
      simp (disch := omega) only [up_of]
      exact q5 p hp
    · rw [b2 6 (by omega) (by omega) p (by omega) (by omega), a4 (26 + 6) (by omega)]
      simp (disch := omega) only [up_of]
      exact q6 p hp
    · rw [b2 7 (by omega) (by omega) p (by omega) (by omega), a4 (26 + 7) (by omega)]
      simp (disch := omega) only [up_of]
      exact q7 p hp
    · rw [b2 8 (by omega) (by omega) p (by omega) (by omega), a4 (26 + 8) (by omega)]
      simp (disch := omega) only [up_of]
      exact q8 p hp
  · rw [b4 a (by omega), a4 a (by omega)]
    simp (disch := omega) only [up_of]
theorem x_cf1_8_35 (d : Nat) : ∀ (m k : Nat) (σ : Sg), k + m = 7 → ∃ σ', exec d mX5_copyFrom 74 [.ref 8, .ref 35, .int (nI k)] [] σ = exec d mX5_copyFrom 136 [.ref 8, .ref 35, .int (nI 0)] [] σ' ∧ (∀ i, 1 ≤ i → i ≤ 4 → ∀ p, k ≤ p → p < 7 → σ' (8 + i) p = σ (35 + i) p) ∧ (∀ i, 1 ≤ i → i ≤ 4 → ∀ p, p < k → σ' (8 + i) p = σ (8 + i) p) ∧ ∀ a, a < 9 ∨ 12 < a → σ' a = σ a
  | 0, k, σ, h => by
    refine ⟨σ, ?_, fun i _ _ p h1 h2 => absurd h2 (by omega), fun _ _ _ _ _ => rfl, fun _ _ => rfl⟩
    rw [hX5_copyFrom_74]
    simp (disch := omega) only [kX5_copyFrom_0, kX5_copyFrom_1, kX5_copyFrom_2, kX5_copyFrom_3, kX5_copyFrom_4, kX5_copyFrom_5, kX5_copyFrom_6, eq_self, Nat.reduceEqDiff, Nat.one_ne_zero, Nat.zero_ne_one, z_0, z_lt, z_le, z_eq, z_add, z_mul, z_inb, z_cl, z_b0, z_b1, z_b01, z_b010, z_b011, kb_v, kb_n, List.cons_append, List.nil_append, if_true, if_false, ↓reduceIte, Bool.false_eq_true, Bool.true_eq_false, decide_eq_true_eq, decide_eq_false_iff_not, not_false_eq_true]
    rw [if_pos (by omega)]
  | m + 1, k, σ, h => by
    obtain ⟨σ', h1, h2, h3, h4⟩ := x_cf1_8_35 d m (k + 1) (up (up (up (up σ 9 k (σ 36 k)) 10 k (σ 37 k)) 11 k (σ 38 k)) 12 k (σ 39 k)) (by omega)
    refine ⟨σ', ?_, fun i i1 i4 p p1 p2 => ?_, fun i i1 i4 p p1 => ?_, fun a ha => ?_⟩
    · rw [hX5_copyFrom_74]
      simp (disch := omega) only [kX5_copyFrom_0, kX5_copyFrom_1, kX5_copyFrom_2, kX5_copyFrom_3, kX5_copyFrom_4, kX5_copyFrom_5, kX5_copyFrom_6, eq_self, Nat.reduceEqDiff, Nat.one_ne_zero, Nat.zero_ne_one, z_0, z_lt, z_le, z_eq, z_add, z_mul, z_inb, z_cl, z_b0, z_b1, z_b01, z_b010, z_b011, kb_v, kb_n, List.cons_append, List.nil_append, if_true, if_false, ↓reduceIte, Bool.false_eq_true, Bool.true_eq_false, decide_eq_true_eq, decide_eq_false_iff_not, not_false_eq_true, up_s, up_k, up_j]
      rw [if_neg (by omega)]
      exact h1
    · by_cases e : p = k
      · subst e
        rw [h3 i i1 i4 p (by omega)]
        rcases (show i = 1 ∨ i = 2 ∨ i = 3 ∨ i = 4 by omega) with rfl | rfl | rfl | rfl <;> simp (disch := omega) only [up_s, up_k, up_j, Nat.reduceAdd]
      · rw [h2 i i1 i4 p (by omega) p2]
        simp (disch := omega) only [up_j]
    · rw [h3 i i1 i4 p (by omega)]
      simp (disch := omega) only [up_j]
    · rw [h4 a ha]
      simp (disch := omega) only [up_of]
theorem x_cf2_8_35 (d : Nat) : ∀ (m k : Nat) (σ : Sg), k + m = 5 → ∃ σ', exec d mX5_copyFrom 136 [.ref 8, .ref 35, .int (nI k)] [] σ = some (none, σ') ∧ (∀ i, 5 ≤ i → i ≤ 8 → ∀ p, k ≤ p → p < 5 → σ' (8 + i) p = σ (35 + i) p) ∧ (∀ i, 5 ≤ i → i ≤ 8 → ∀ p, p < k → σ' (8 + i) p = σ (8 + i) p) ∧ ∀ a, a < 13 ∨ 16 < a → σ' a = σ a
  | 0, k, σ, h => by
    refine ⟨σ, ?_, fun i _ _ p h1 h2 => absurd h2 (by omega), fun _ _ _ _ _ => rfl, fun _ _ => rfl⟩
    rw [hX5_copyFrom_136]
    simp (disch := omega) only [kX5_copyFrom_0, kX5_copyFrom_1, kX5_copyFrom_2, kX5_copyFrom_3, kX5_copyFrom_4, kX5_copyFrom_5, kX5_copyFrom_6, eq_self, Nat.reduceEqDiff, Nat.one_ne_zero, Nat.zero_ne_one, z_0, z_lt, z_le, z_eq, z_add, z_mul, z_inb, z_cl, z_b0, z_b1, z_b01, z_b010, z_b011, kb_v, kb_n, List.cons_append, List.nil_append, if_true, if_false, ↓reduceIte, Bool.false_eq_true, Bool.true_eq_false, decide_eq_true_eq, decide_eq_false_iff_not, not_false_eq_true]
    rw [if_pos (by omega)]
  | m + 1, k, σ, h => by
    obtain ⟨σ', h1, h2, h3, h4⟩ := x_cf2_8_35 d m (k + 1) (up (up (up (up σ 13 k (σ 40 k)) 14 k (σ 41 k)) 15 k (σ 42 k)) 16 k (σ 43 k)) (by omega)
    refine ⟨σ', ?_, fun i i1 i4 p p1 p2 => ?_, fun i i1 i4 p p1 => ?_, fun a ha => ?_⟩
    · rw [hX5_copyFrom_136]
      simp (disch := omega) only [kX5_copyFrom_0, kX5_copyFrom_1, kX5_copyFrom_2, kX5_copyFrom_3, kX5_copyFrom_4, kX5_copyFrom_5, kX5_copyFrom_6, eq_self, Nat.reduceEqDiff, Nat.one_ne_zero, Nat.zero_ne_one, z_0, z_lt, z_le, z_eq, z_add, z_mul, z_inb, z_cl, z_b0, z_b1, z_b01, z_b010, z_b011, kb_v, kb_n, List.cons_append, List.nil_append, if_true, if_false, ↓reduceIte, Bool.false_eq_true, Bool.true_eq_false, decide_eq_true_eq, decide_eq_false_iff_not, not_false_eq_true, up_s, up_k, up_j]
      rw [if_neg (by omega)]
      exact h1
    · by_cases e : p = k
      · subst e
        rw [h3 i i1 i4 p (by omega)]
        rcases (show i = 5 ∨ i = 6 ∨ i = 7 ∨ i = 8 by omega) with rfl | rfl | rfl | rfl <;> simp (disch := omega) only [up_s, up_k, up_j, Nat.reduceAdd]
      · rw [h2 i i1 i4 p (by omega) p2]
        simp (disch := omega) only [up_j]
    · rw [h3 i i1 i4 p (by omega)]
      simp (disch := omega) only [up_j]
    · rw [h4 a ha]
      simp (disch := omega) only [up_of]
theorem x_cf_8_35 {σ : Sg} {T : TT} (h : XT σ 35 T) (w : WF T) (d : Nat) : ∃ σ', cal (d + 1) mX5_copyFrom [.ref 8, .ref 35] σ = some (none, σ') ∧ XT σ' 8 T ∧ ∀ a, a < 8 ∨ 16 < a → σ' a = σ a := by
  have w1 := w.1
  obtain ⟨g0, g1, g2, g3, g4, g5, g6, g7, g8, q1, q2, q3, q4, q5, q6, q7, q8⟩ := XT35 h
  have hb : b01 (nI (T 6)) = true := by
    rcases (show T 6 = 0 ∨ T 6 = 1 by omega) with e | e <;> rw [e] <;> decide
  obtain ⟨σ1, a1, a2, a3, a4⟩ := x_cf1_8_35 d 7 0 (up (up (up (up (up (up (up (up (up σ 8 0 (nI (T 6))) 8 1 (nI (T 0))) 8 2 (nI (T 1))) 8 3 (nI (T 2))) 8 4 (nI (T 7))) 8 5 (nI (T 8))) 8 6 (nI (T 3))) 8 7 (nI (T 4))) 8 8 (nI (T 5))) (by omega)
  obtain ⟨σ2, b1, b2, b3, b4⟩ := x_cf2_8_35 d 5 0 σ1 (by omega)
  refine ⟨σ2, ?_, ?_, fun a ha => ?_⟩
  · rw [aX5_copyFrom_8_35]
    simp (disch := omega) only [kX5_copyFrom_0, kX5_copyFrom_1, kX5_copyFrom_2, kX5_copyFrom_3, kX5_copyFrom_4, kX5_copyFrom_5, kX5_copyFrom_6, eq_self, Nat.reduceEqDiff, Nat.one_ne_zero, Nat.zero_ne_one, z_0, z_lt, z_le, z_eq, z_add, z_mul, z_inb, z_cl, z_b0, z_b1, z_b01, z_b010, z_b011, kb_v, kb_n, List.cons_append, List.nil_append, if_true, if_false, ↓reduceIte, Bool.false_eq_true, Bool.true_eq_false, decide_eq_true_eq, decide_eq_false_iff_not, not_false_eq_true, up_s, up_k, up_j, g0, g1, g2, g3, g4, g5, g6, g7, g8, hb]
    exact a1.trans b1
  · have hn : σ2 8 = _ := (b4 8 (by omega)).trans (a4 8 (by omega))
    unfold XT
    rw [hn]
    simp (disch := omega) only [up_s, up_k, up_j]
    refine ⟨trivial, trivial, trivial, trivial, trivial, trivial, trivial, trivial, trivial, fun p hp => ?_, fun p hp => ?_, fun p hp => ?_, fun p hp => ?_, fun p hp => ?_, fun p hp => ?_, fun p hp => ?_, fun p hp => ?_⟩
    · rw [b4 (8 + 1) (by omega), a2 1 (by omega) (by omega) p (by omega) (by omega)]
      simp (disch := omega) only [up_of]
      exact q1 p hp
    · rw [b4 (8 + 2) (by omega), a2 2 (by omega) (by omega) p (by omega) (by omega)]
      simp (disch := omega) only [up_of]
      exact q2 p hp
    · rw [b4 (8 + 3) (by omega), a2 3 (by omega) (by omega) p (by omega) (by omega)]
      simp (disch := omega) only [up_of]
      exact q3 p hp
    · rw [b4 (8 + 4) (by omega), a2 4 (by omega) (by omega) p (by omega) (by omega)]
      simp (disch := omega) only [up_of]
      exact q4 p hp
    · rw [b2 5 (by omega) (by omega) p (by omega) (by omega), a4 (35 + 5) (by omega)]
      simp (disch := omega) only [up_of]
      exact q5 p hp
    · rw [b2 6 (by omega) (by omega) p (by omega) (by omega), a4 (35 + 6) (by omega)]
      simp (disch := omega) only [up_of]
      exact q6 p hp
    · rw [b2 7 (by omega) (by omega) p (by omega) (by omega), a4 (35 + 7) (by omega)]
      simp (disch := omega) only [up_of]
      exact q7 p hp
    · rw [b2 8 (by omega) (by omega) p (by omega) (by omega), a4 (35 + 8) (by omega)]
      simp (disch := omega) only [up_of]
      exact q8 p hp
  · rw [b4 a (by omega), a4 a (by omega)]
    simp (disch := omega) only [up_of]
theorem x_cf1_35_8 (d : Nat) : ∀ (m k : Nat) (σ : Sg), k + m = 7 → ∃ σ', exec d mX5_copyFrom 74 [.ref 35, .ref 8, .int (nI k)] [] σ = exec d mX5_copyFrom 136 [.ref 35, .ref 8, .int (nI 0)] [] σ' ∧ (∀ i, 1 ≤ i → i ≤ 4 → ∀ p, k ≤ p → p < 7 → σ' (35 + i) p = σ (8 + i) p) ∧ (∀ i, 1 ≤ i → i ≤ 4 → ∀ p, p < k → σ' (35 + i) p = σ (35 + i) p) ∧ ∀ a, a < 36 ∨ 39 < a → σ' a = σ a
  | 0, k, σ, h => by
    refine ⟨σ, ?_, fun i _ _ p h1 h2 => absurd h2 (by omega), fun _ _ _ _ _ => rfl, fun _ _ => rfl⟩
    rw [hX5_copyFrom_74]
    simp (disch := omega) only [kX5_copyFrom_0, kX5_copyFrom_1, kX5_copyFrom_2, kX5_copyFrom_3, kX5_copyFrom_4, kX5_copyFrom_5, kX5_copyFrom_6, eq_self, Nat.reduceEqDiff, Nat.one_ne_zero, Nat.zero_ne_one, z_0, z_lt, z_le, z_eq, z_add, z_mul, z_inb, z_cl, z_b0, z_b1, z_b01, z_b010, z_b011, kb_v, kb_n, List.cons_append, List.nil_append, if_true, if_false, ↓reduceIte, Bool.false_eq_true, Bool.true_eq_false, decide_eq_true_eq, decide_eq_false_iff_not, not_false_eq_true]
    rw [if_pos (by omega)]
  | m + 1, k, σ, h => by
    obtain ⟨σ', h1, h2, h3, h4⟩ := x_cf1_35_8 d m (k + 1) (up (up (up (up σ 36 k (σ 9 k)) 37 k (σ 10 k)) 38 k (σ 11 k)) 39 k (σ 12 k)) (by omega)
    refine ⟨σ', ?_, fun i i1 i4 p p1 p2 => ?_, fun i i1 i4 p p1 => ?_, fun a ha => ?_⟩
    · rw [hX5_copyFrom_74]
      simp (disch := omega) only [kX5_copyFrom_0, kX5_copyFrom_1, kX5_copyFrom_2, kX5_copyFrom_3, kX5_copyFrom_4, kX5_copyFrom_5, kX5_copyFrom_6, eq_self, Nat.reduceEqDiff, Nat.one_ne_zero, Nat.zero_ne_one, z_0, z_lt, z_le, z_eq, z_add, z_mul, z_inb, z_cl, z_b0, z_b1, z_b01, z_b010, z_b011, kb_v, kb_n, List.cons_append, List.nil_append, if_true, if_false, ↓reduceIte, Bool.false_eq_true, Bool.true_eq_false, decide_eq_true_eq, decide_eq_false_iff_not, not_false_eq_true, up_s, up_k, up_j]
      rw [if_neg (by omega)]
      exact h1
    · by_cases e : p = k
      · subst e
        rw [h3 i i1 i4 p (by omega)]
        rcases (show i = 1 ∨ i = 2 ∨ i = 3 ∨ i = 4 by omega) with rfl | rfl | rfl | rfl <;> simp (disch := omega) only [up_s, up_k, up_j, Nat.reduceAdd]
      · rw [h2 i i1 i4 p (by omega) p2]
        simp (disch := omega) only [up_j]
    · rw [h3 i i1 i4 p (by omega)]
      simp (disch := omega) only [up_j]
    · rw [h4 a ha]
      simp (disch := omega) only [up_of]
theorem x_cf2_35_8 (d : Nat) : ∀ (m k : Nat) (σ : Sg), k + m = 5 → ∃ σ', exec d mX5_copyFrom 136 [.ref 35, .ref 8, .int (nI k)] [] σ = some (none, σ') ∧ (∀ i, 5 ≤ i → i ≤ 8 → ∀ p, k ≤ p → p < 5 → σ' (35 + i) p = σ (8 + i) p) ∧ (∀ i, 5 ≤ i → i ≤ 8 → ∀ p, p < k → σ' (35 + i) p = σ (35 + i) p) ∧ ∀ a, a < 40 ∨ 43 < a → σ' a = σ a
  | 0, k, σ, h => by
    refine ⟨σ, ?_, fun i _ _ p h1 h2 => absurd h2 (by omega), fun _ _ _ _ _ => rfl, fun _ _ => rfl⟩
    rw [hX5_copyFrom_136]
    simp (disch := omega) only [kX5_copyFrom_0, kX5_copyFrom_1, kX5_copyFrom_2, kX5_copyFrom_3, kX5_copyFrom_4, kX5_copyFrom_5, kX5_copyFrom_6, eq_self, Nat.reduceEqDiff, Nat.one_ne_zero, Nat.zero_ne_one, z_0, z_lt, z_le, z_eq, z_add, z_mul, z_inb, z_cl, z_b0, z_b1, z_b01, z_b010, z_b011, kb_v, kb_n, List.cons_append, List.nil_append, if_true, if_false, ↓reduceIte, Bool.false_eq_true, Bool.true_eq_false, decide_eq_true_eq, decide_eq_false_iff_not, not_false_eq_true]
    rw [if_pos (by omega)]
  | m + 1, k, σ, h => by
    obtain ⟨σ', h1, h2, h3, h4⟩ := x_cf2_35_8 d m (k + 1) (up (up (up (up σ 40 k (σ 13 k)) 41 k (σ 14 k)) 42 k (σ 15 k)) 43 k (σ 16 k)) (by omega)
    refine ⟨σ', ?_, fun i i1 i4 p p1 p2 => ?_, fun i i1 i4 p p1 => ?_, fun a ha => ?_⟩
    · rw [hX5_copyFrom_136]
      simp (disch := omega) only [kX5_copyFrom_0, kX5_copyFrom_1, kX5_copyFrom_2, kX5_copyFrom_3, kX5_copyFrom_4, kX5_copyFrom_5, kX5_copyFrom_6, eq_self, Nat.reduceEqDiff, Nat.one_ne_zero, Nat.zero_ne_one, z_0, z_lt, z_le, z_eq, z_add, z_mul, z_inb, z_cl, z_b0, z_b1, z_b01, z_b010, z_b011, kb_v, kb_n, List.cons_append, List.nil_append, if_true, if_false, ↓reduceIte, Bool.false_eq_true, Bool.true_eq_false, decide_eq_true_eq, decide_eq_false_iff_not, not_false_eq_true, up_s, up_k, up_j]
      rw [if_neg (by omega)]
      exact h1
    · by_cases e : p = k
      · subst e
        rw [h3 i i1 i4 p (by omega)]
        rcases (show i = 5 ∨ i = 6 ∨ i = 7 ∨ i = 8 by omega) with rfl | rfl | rfl | rfl <;> simp (disch := omega) only [up_s, up_k, up_j, Nat.reduceAdd]
      · rw [h2 i i1 i4 p (by omega) p2]
        simp (disch := omega) only [up_j]
    · rw [h3 i i1 i4 p (by omega)]
      simp (disch := omega) only [up_j]
    · rw [h4 a ha]
      simp (disch := omega) only [up_of]
theorem x_cf_35_8 {σ : Sg} {T : TT} (h : XT σ 8 T) (w : WF T) (d : Nat) : ∃ σ', cal (d + 1) mX5_copyFrom [.ref 35, .ref 8] σ = some (none, σ') ∧ XT σ' 35 T ∧ ∀ a, a < 35 ∨ 43 < a → σ' a = σ a := by
  have w1 := w.1
  obtain ⟨g0, g1, g2, g3, g4, g5, g6, g7, g8, q1, q2, q3, q4, q5, q6, q7, q8⟩ := XT8 h
  have hb : b01 (nI (T 6)) = true := by
    rcases (show T 6 = 0 ∨ T 6 = 1 by omega) with e | e <;> rw [e] <;> decide
  obtain ⟨σ1, a1, a2, a3, a4⟩ := x_cf1_35_8 d 7 0 (up (up (up (up (up (up (up (up (up σ 35 0 (nI (T 6))) 35 1 (nI (T 0))) 35 2 (nI (T 1))) 35 3 (nI (T 2))) 35 4 (nI (T 7))) 35 5 (nI (T 8))) 35 6 (nI (T 3))) 35 7 (nI (T 4))) 35 8 (nI (T 5))) (by omega)
  obtain ⟨σ2, b1, b2, b3, b4⟩ := x_cf2_35_8 d 5 0 σ1 (by omega)
  refine ⟨σ2, ?_, ?_, fun a ha => ?_⟩
  · rw [aX5_copyFrom_35_8]
    simp (disch := omega) only [kX5_copyFrom_0, kX5_copyFrom_1, kX5_copyFrom_2, kX5_copyFrom_3, kX5_copyFrom_4, kX5_copyFrom_5, kX5_copyFrom_6, eq_self, Nat.reduceEqDiff, Nat.one_ne_zero, Nat.zero_ne_one, z_0, z_lt, z_le, z_eq, z_add, z_mul, z_inb, z_cl, z_b0, z_b1, z_b01, z_b010, z_b011, kb_v, kb_n, List.cons_append, List.nil_append, if_true, if_false, ↓reduceIte, Bool.false_eq_true, Bool.true_eq_false, decide_eq_true_eq, decide_eq_false_iff_not, not_false_eq_true, up_s, up_k, up_j, g0, g1, g2, g3, g4, g5, g6, g7, g8, hb]
    exact a1.trans b1
  · have hn : σ2 35 = _ := (b4 35 (by omega)).trans (a4 35 (by omega))
    unfold XT
    rw [hn]
    simp (disch := omega) only [up_s, up_k, up_j]
    refine ⟨trivial, trivial, trivial, trivial, trivial, trivial, trivial, trivial, trivial, fun p hp => ?_, fun p hp => ?_, fun p hp => ?_, fun p hp => ?_, fun p hp => ?_, fun p hp => ?_, fun p hp => ?_, fun p hp => ?_⟩
    · rw [b4 (35 + 1) (by omega), a2 1 (by omega) (by omega) p (by omega) (by omega)]
      simp (disch := omega) only [up_of]
      exact q1 p hp
    · rw [b4 (35 + 2) (by omega), a2 2 (by omega) (by omega) p (by omega) (by omega)]
      simp (disch := omega) only [up_of]
      exact q2 p hp
    · rw [b4 (35 + 3) (by omega), a2 3 (by omega) (by omega) p (by omega) (by omega)]
      simp (disch := omega) only [up_of]
      exact q3 p hp
    · rw [b4 (35 + 4) (by omega), a2 4 (by omega) (by omega) p (by omega) (by omega)]
      simp (disch := omega) only [up_of]
      exact q4 p hp
    · rw [b2 5 (by omega) (by omega) p (by omega) (by omega), a4 (8 + 5) (by omega)]
      simp (disch := omega) only [up_of]
      exact q5 p hp
    · rw [b2 6 (by omega) (by omega) p (by omega) (by omega), a4 (8 + 6) (by omega)]
      simp (disch := omega) only [up_of]
      exact q6 p hp
    · rw [b2 7 (by omega) (by omega) p (by omega) (by omega), a4 (8 + 7) (by omega)]
      simp (disch := omega) only [up_of]
      exact q7 p hp
    · rw [b2 8 (by omega) (by omega) p (by omega) (by omega), a4 (8 + 8) (by omega)]
      simp (disch := omega) only [up_of]
      exact q8 p hp
  · rw [b4 a (by omega), a4 a (by omega)]
    simp (disch := omega) only [up_of]
theorem m_ca_loop (d : Nat) {f t : Nat} (hf : f + 52 ≤ 208) (ht : t + 52 ≤ 208) (hd : f + 52 ≤ t ∨ t + 52 ≤ f) : ∀ (m k : Nat) (σ : Sg), k + m = 52 → ∃ σ', exec d mX7_copyAll 2 [.ref 50, .int (nI f), .int (nI t), .int (nI k)] [] σ = some (none, σ') ∧ (∀ j, k ≤ j → j < 52 → σ' 51 (t + j) = σ 51 (f + j)) ∧ (∀ j, j < t + k ∨ t + 52 ≤ j → σ' 51 j = σ 51 j) ∧ ∀ a, a ≠ 51 → σ' a = σ a
  | 0, k, σ, h => by
    refine ⟨σ, ?_, fun j h1 h2 => absurd h2 (by omega), fun _ _ => rfl, fun _ _ => rfl⟩
    rw [hX7_copyAll_2]
    simp (disch := omega) only [kX7_copyAll, eq_self, Nat.reduceEqDiff, Nat.one_ne_zero, Nat.zero_ne_one, z_0, z_lt, z_le, z_eq, z_add, z_mul, z_inb, z_cl, z_b0, z_b1, z_b01, z_b010, z_b011, kb_v, kb_n, List.cons_append, List.nil_append, if_true, if_false, ↓reduceIte, Bool.false_eq_true, Bool.true_eq_false, decide_eq_true_eq, decide_eq_false_iff_not, not_false_eq_true]
    rw [if_pos (by omega)]
  | m + 1, k, σ, h => by
    obtain ⟨σ', h1, h2, h3, h4⟩ := m_ca_loop d hf ht hd m (k + 1) (up σ 51 (t + k) (σ 51 (f + k))) (by omega)
    refine ⟨σ', ?_, fun j j1 j2 => ?_, fun j j1 => ?_, fun a ha => ?_⟩
    · rw [hX7_copyAll_2]
      simp (disch := omega) only [kX7_copyAll, eq_self, Nat.reduceEqDiff, Nat.one_ne_zero, Nat.zero_ne_one, z_0, z_lt, z_le, z_eq, z_add, z_mul, z_inb, z_cl, z_b0, z_b1, z_b01, z_b010, z_b011, kb_v, kb_n, List.cons_append, List.nil_append, if_true, if_false, ↓reduceIte, Bool.false_eq_true, Bool.true_eq_false, decide_eq_true_eq, decide_eq_false_iff_not, not_false_eq_true]
      rw [if_neg (by omega)]
      exact h1
    · by_cases e : j = k
      · subst e
        rw [h3 (t + j) (by omega), up_s]
      · rw [h2 j (by omega) j2, up_j (by omega)]
    · rw [h3 j (by omega), up_j (by omega)]
    · rw [h4 a ha, up_of ha]
theorem m_ca (d : Nat) {f t : Nat} (hf : f + 52 ≤ 208) (ht : t + 52 ≤ 208) (hd : f + 52 ≤ t ∨ t + 52 ≤ f) (σ : Sg) : ∃ σ', cal (d + 1) mX7_copyAll [.ref 50, .int (nI f), .int (nI t)] σ = some (none, σ') ∧ (∀ j, j < 52 → σ' 51 (t + j) = σ 51 (f + j)) ∧ (∀ j, j < t ∨ t + 52 ≤ j → σ' 51 j = σ 51 j) ∧ ∀ a, a ≠ 51 → σ' a = σ a := by
  obtain ⟨σ', h1, h2, h3, h4⟩ := m_ca_loop d hf ht hd 52 0 σ (by omega)
  refine ⟨σ', ?_, fun j hj => h2 j (by omega) hj, fun j hj => h3 j (by omega), h4⟩
  rw [aX7_copyAll_50]
  simp (disch := omega) only [kX7_copyAll]
  exact h1
theorem MT_mv {σ σ' : Sg} {f t : Nat} {T : TT} (h7 : T 7 ≤ 7) (h8 : T 8 ≤ 5) (h : MT σ f T) (hc : ∀ j, j < 52 → σ' 51 (t + j) = σ 51 (f + j)) : MT σ' t T := by
  obtain ⟨a0, a1, a2, a3, a4, a5, a6, a7⟩ := h
  refine ⟨fun k hk => ?_, fun p hp => ?_, fun p hp => ?_, fun p hp => ?_, fun p hp => ?_, fun p hp => ?_, fun p hp => ?_, fun p hp => ?_⟩
  · rw [hc _ (by omega)]; exact a0 k hk
  · rw [hc _ (by omega)]; exact a1 p hp
  · rw [hc _ (by omega)]; exact a2 p hp
  · rw [hc _ (by omega)]; exact a3 p hp
  · rw [hc _ (by omega)]; exact a4 p hp
  · rw [hc _ (by omega)]; exact a5 p hp
  · rw [hc _ (by omega)]; exact a6 p hp
  · rw [hc _ (by omega)]; exact a7 p hp
theorem x_imageOf0 (d : Nat) (σ : Sg) : cal (d + 1) mX6_imageOf [.ref 0, .int (nI 0)] σ = some (some (.ref 17), σ) := by
  rw [aX6_imageOf_0]
  simp (disch := omega) only [kX6_imageOf, eq_self, Nat.reduceEqDiff, Nat.one_ne_zero, Nat.zero_ne_one, z_0, z_lt, z_le, z_eq, z_add, z_mul, z_inb, z_cl, z_b0, z_b1, z_b01, z_b010, z_b011, kb_v, kb_n, List.cons_append, List.nil_append, if_true, if_false, ↓reduceIte, Bool.false_eq_true, Bool.true_eq_false, decide_eq_true_eq, decide_eq_false_iff_not, not_false_eq_true]
theorem x_imageOf1 (d : Nat) (σ : Sg) : cal (d + 1) mX6_imageOf [.ref 0, .int (nI 1)] σ = some (some (.ref 26), σ) := by
  rw [aX6_imageOf_0]
  simp (disch := omega) only [kX6_imageOf, eq_self, Nat.reduceEqDiff, Nat.one_ne_zero, Nat.zero_ne_one, z_0, z_lt, z_le, z_eq, z_add, z_mul, z_inb, z_cl, z_b0, z_b1, z_b01, z_b010, z_b011, kb_v, kb_n, List.cons_append, List.nil_append, if_true, if_false, ↓reduceIte, Bool.false_eq_true, Bool.true_eq_false, decide_eq_true_eq, decide_eq_false_iff_not, not_false_eq_true]
theorem b_image (a : Int32) : BO mX6_image mX7_image [.int a] := by
  rintro ⟨T, I0, I1, A, rz, rl, it, tn, tp, ft, fs, cn, ct⟩ ok
  have w : WF T := ok.1
  have w1 := w.1
  have w2 := ok.2.1.1
  have w3 := ok.2.2.1.1
  by_cases ha : isin a 2 = true
  · obtain ⟨k, hk, rfl⟩ := (isin_t (by omega)).mp ha
    by_cases h6 : T 6 = 0
    · refine ⟨.int (-1000002), _, XO_id fun σ d h => ?_, MO_id fun σ d h => ?_, ok⟩
      · have hT : XT σ 8 T := h.1
        rw [aX6_image_0]
        simp (disch := omega) only [kX6_image, eq_self, Nat.reduceEqDiff, Nat.one_ne_zero, Nat.zero_ne_one, z_0, z_lt, z_le, z_eq, z_add, z_mul, z_inb, z_cl, z_b0, z_b1, z_b01, z_b010, z_b011, kb_v, kb_n, List.cons_append, List.nil_append, if_true, if_false, ↓reduceIte, Bool.false_eq_true, Bool.true_eq_false, decide_eq_true_eq, decide_eq_false_iff_not, not_false_eq_true, e_isOne, ha, XT8 hT, h6]
      · have hT : MT σ 0 T := h.1
        rw [aX7_image_50]
        simp (disch := omega) only [kX7_image, eq_self, Nat.reduceEqDiff, Nat.one_ne_zero, Nat.zero_ne_one, z_0, z_lt, z_le, z_eq, z_add, z_mul, z_inb, z_cl, z_b0, z_b1, z_b01, z_b010, z_b011, kb_v, kb_n, List.cons_append, List.nil_append, if_true, if_false, ↓reduceIte, Bool.false_eq_true, Bool.true_eq_false, decide_eq_true_eq, decide_eq_false_iff_not, not_false_eq_true, m_in, lN_tI, Int32.toInt_toInt64, z_tI, m_isTrial hT w, h6]
        (repeat' split) <;> first | rfl | (exfalso; omega)
    · have h6 : T 6 = 1 := by omega
      rcases (show k = 0 ∨ k = 1 by omega) with rfl | rfl
      · refine ⟨.int (nI 1), (T, T, I1, A, rz, rl, it, tn, tp, ft, fs, cn, ct), fun σ d h => ?_, fun σ d h => ?_, ?_⟩
        · obtain ⟨g1, g2, g3, g4, g5, g6, g7, g8, g9⟩ := h
          obtain ⟨σ', e1, e2, e3⟩ := x_cf_17_8 g1 w (d + 28)
          refine ⟨σ', ?_, ⟨XT_cg g1 (fun a _ _ => e3 a (by omega)), e2, XT_cg g3 (fun a _ _ => e3 a (by omega)), ?_, ?_, ?_, ?_, ?_, ?_⟩, fun a ha => e3 a (by omega)⟩
          · rw [aX6_image_0]
            simp (disch := omega) only [kX6_image, eq_self, Nat.reduceEqDiff, Nat.one_ne_zero, Nat.zero_ne_one, z_0, z_lt, z_le, z_eq, z_add, z_mul, z_inb, z_cl, z_b0, z_b1, z_b01, z_b010, z_b011, kb_v, kb_n, List.cons_append, List.nil_append, if_true, if_false, ↓reduceIte, Bool.false_eq_true, Bool.true_eq_false, decide_eq_true_eq, decide_eq_false_iff_not, not_false_eq_true, e_isOne, ha, XT8 g1, h6, x_imageOf0, e1]
          · unfold XA; rw [e3 44 (by omega), e3 45 (by omega)]; exact g4
          · unfold XW; rw [e3 2 (by omega), e3 3 (by omega), e3 4 (by omega), e3 5 (by omega)]; exact g5
          · unfold XP; rw [e3 6 (by omega), e3 7 (by omega)]; exact g6
          · rw [e3 0 (by omega)]; exact g7
          · rw [e3 0 (by omega)]; exact g8
          · unfold XC; rw [e3 48 (by omega), e3 49 (by omega)]; exact g9
        · obtain ⟨g1, g2, g3, g4, g5, g6, g7, g8, g9, g10⟩ := h
          obtain ⟨σ', e1, e2, e3, e4⟩ := m_ca (d + 28) (f := 0) (t := 52) (by omega) (by omega) (by omega) σ
          refine ⟨up σ' 52 0 (nI 1), ?_, ⟨MT_same (MT_cg (by omega) (by omega) g1 (fun j _ _ => e3 j (by omega))) (up_of (by omega)), MT_same (MT_mv (by omega) (by omega) g1 e2) (up_of (by omega)), MT_same (MT_cg (by omega) (by omega) g3 (fun j _ _ => e3 j (by omega))) (up_of (by omega)), ⟨by rw [up_s, h6], by rw [up_j (by omega), e4 52 (by omega)]; exact g4.2⟩, ?_, ?_, ?_, ?_, ?_, ?_⟩, fun a ha => by rw [up_of (by omega), e4 a (by omega)]⟩
          · rw [aX7_image_50]
            simp (disch := omega) only [kX7_image, eq_self, Nat.reduceEqDiff, Nat.one_ne_zero, Nat.zero_ne_one, z_0, z_lt, z_le, z_eq, z_add, z_mul, z_inb, z_cl, z_b0, z_b1, z_b01, z_b010, z_b011, kb_v, kb_n, List.cons_append, List.nil_append, if_true, if_false, ↓reduceIte, Bool.false_eq_true, Bool.true_eq_false, decide_eq_true_eq, decide_eq_false_iff_not, not_false_eq_true, m_in, lN_tI, Int32.toInt_toInt64, z_tI, m_isTrial g1 w, h6, Nat.mul_zero, Nat.mul_one, Nat.add_zero, Nat.reduceAdd, Nat.reduceMul, e1, and_self]
            (repeat' split) <;> first | rfl | (exfalso; omega)
          · unfold MA; rw [up_of (by omega), up_of (by omega), e4 50 (by omega), e4 53 (by omega)]; exact g5
          · unfold MW; rw [up_of (by omega), up_of (by omega), up_of (by omega), e4 54 (by omega), e4 55 (by omega), e4 56 (by omega)]; exact g6
          · unfold MP; rw [up_of (by omega), up_of (by omega), e4 50 (by omega), e4 57 (by omega)]; exact g7
          · rw [up_of (by omega), e4 50 (by omega)]; exact g8
          · rw [up_of (by omega), e4 50 (by omega)]; exact g9
          · unfold MC; rw [up_of (by omega), up_of (by omega), e4 50 (by omega), e4 58 (by omega)]; exact g10
        · obtain ⟨h1, h2, h3, h4, h5, h6, h7, h8, h9, h10, h11, h12⟩ := ok
          exact ⟨h1, h1, h3, h4, h5, h6, h7, h8, h9, h10, h11, h12⟩
      · refine ⟨.int (nI 1), (T, I0, T, A, rz, rl, it, tn, tp, ft, fs, cn, ct), fun σ d h => ?_, fun σ d h => ?_, ?_⟩
        · obtain ⟨g1, g2, g3, g4, g5, g6, g7, g8, g9⟩ := h
          obtain ⟨σ', e1, e2, e3⟩ := x_cf_26_8 g1 w (d + 28)
          refine ⟨σ', ?_, ⟨XT_cg g1 (fun a _ _ => e3 a (by omega)), XT_cg g2 (fun a _ _ => e3 a (by omega)), e2, ?_, ?_, ?_, ?_, ?_, ?_⟩, fun a ha => e3 a (by omega)⟩
          · rw [aX6_image_0]
            simp (disch := omega) only [kX6_image, eq_self, Nat.reduceEqDiff, Nat.one_ne_zero, Nat.zero_ne_one, z_0, z_lt, z_le, z_eq, z_add, z_mul, z_inb, z_cl, z_b0, z_b1, z_b01, z_b010, z_b011, kb_v, kb_n, List.cons_append, List.nil_append, if_true, if_false, ↓reduceIte, Bool.false_eq_true, Bool.true_eq_false, decide_eq_true_eq, decide_eq_false_iff_not, not_false_eq_true, e_isOne, ha, XT8 g1, h6, x_imageOf1, e1]
          · unfold XA; rw [e3 44 (by omega), e3 45 (by omega)]; exact g4
          · unfold XW; rw [e3 2 (by omega), e3 3 (by omega), e3 4 (by omega), e3 5 (by omega)]; exact g5
          · unfold XP; rw [e3 6 (by omega), e3 7 (by omega)]; exact g6
          · rw [e3 0 (by omega)]; exact g7
          · rw [e3 0 (by omega)]; exact g8
          · unfold XC; rw [e3 48 (by omega), e3 49 (by omega)]; exact g9
        · obtain ⟨g1, g2, g3, g4, g5, g6, g7, g8, g9, g10⟩ := h
          obtain ⟨σ', e1, e2, e3, e4⟩ := m_ca (d + 28) (f := 0) (t := 104) (by omega) (by omega) (by omega) σ
          refine ⟨up σ' 52 1 (nI 1), ?_, ⟨MT_same (MT_cg (by omega) (by omega) g1 (fun j _ _ => e3 j (by omega))) (up_of (by omega)), MT_same (MT_cg (by omega) (by omega) g2 (fun j _ _ => e3 j (by omega))) (up_of (by omega)), MT_same (MT_mv (by omega) (by omega) g1 e2) (up_of (by omega)), ⟨by rw [up_j (by omega), e4 52 (by omega)]; exact g4.1, by rw [up_s, h6]⟩, ?_, ?_, ?_, ?_, ?_, ?_⟩, fun a ha => by rw [up_of (by omega), e4 a (by omega)]⟩
          · rw [aX7_image_50]
            simp (disch := omega) only [kX7_image, eq_self, Nat.reduceEqDiff, Nat.one_ne_zero, Nat.zero_ne_one, z_0, z_lt, z_le, z_eq, z_add, z_mul, z_inb, z_cl, z_b0, z_b1, z_b01, z_b010, z_b011, kb_v, kb_n, List.cons_append, List.nil_append, if_true, if_false, ↓reduceIte, Bool.false_eq_true, Bool.true_eq_false, decide_eq_true_eq, decide_eq_false_iff_not, not_false_eq_true, m_in, lN_tI, Int32.toInt_toInt64, z_tI, m_isTrial g1 w, h6, Nat.mul_zero, Nat.mul_one, Nat.add_zero, Nat.reduceAdd, Nat.reduceMul, e1, and_self]
            (repeat' split) <;> first | rfl | (exfalso; omega)
          · unfold MA; rw [up_of (by omega), up_of (by omega), e4 50 (by omega), e4 53 (by omega)]; exact g5
          · unfold MW; rw [up_of (by omega), up_of (by omega), up_of (by omega), e4 54 (by omega), e4 55 (by omega), e4 56 (by omega)]; exact g6
          · unfold MP; rw [up_of (by omega), up_of (by omega), e4 50 (by omega), e4 57 (by omega)]; exact g7
          · rw [up_of (by omega), e4 50 (by omega)]; exact g8
          · rw [up_of (by omega), e4 50 (by omega)]; exact g9
          · unfold MC; rw [up_of (by omega), up_of (by omega), e4 50 (by omega), e4 58 (by omega)]; exact g10
        · obtain ⟨h1, h2, h3, h4, h5, h6, h7, h8, h9, h10, h11, h12⟩ := ok
          exact ⟨h1, h2, h1, h4, h5, h6, h7, h8, h9, h10, h11, h12⟩
  · have ha' : ¬ (0 ≤ a.toInt ∧ a.toInt < ((2 : Nat) : Int)) := fun q => ha (decide_eq_true q)
    have ha : isin a 2 = false := by simpa using ha
    refine ⟨.int (-1000001), _, XO_id fun σ d h => ?_, MO_id fun σ d h => ?_, ok⟩
    · rw [aX6_image_0]
      simp (disch := omega) only [kX6_image, eq_self, Nat.reduceEqDiff, Nat.one_ne_zero, Nat.zero_ne_one, z_0, z_lt, z_le, z_eq, z_add, z_mul, z_inb, z_cl, z_b0, z_b1, z_b01, z_b010, z_b011, kb_v, kb_n, List.cons_append, List.nil_append, if_true, if_false, ↓reduceIte, Bool.false_eq_true, Bool.true_eq_false, decide_eq_true_eq, decide_eq_false_iff_not, not_false_eq_true, e_isOne, ha]
    · have hT : MT σ 0 T := h.1
      rw [aX7_image_50]
      simp (disch := omega) only [kX7_image, eq_self, Nat.reduceEqDiff, Nat.one_ne_zero, Nat.zero_ne_one, z_0, z_lt, z_le, z_eq, z_add, z_mul, z_inb, z_cl, z_b0, z_b1, z_b01, z_b010, z_b011, kb_v, kb_n, List.cons_append, List.nil_append, if_true, if_false, ↓reduceIte, Bool.false_eq_true, Bool.true_eq_false, decide_eq_true_eq, decide_eq_false_iff_not, not_false_eq_true, m_in, lN_tI, Int32.toInt_toInt64]
      rw [if_pos (by omega)]
