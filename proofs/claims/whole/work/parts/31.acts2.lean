theorem m_shift (d : Nat) : ∀ (m k : Nat) (σ : Sg), k + m = 138 → ∃ σ', exec d mX7_minds 11 [.ref 50, .int (nI k)] [] σ = exec d mX7_minds 51 [.ref 50, .int (nI 0)] [] (up σ' 50 3 (σ 50 3 - nI 1)) ∧ (∀ j, k ≤ j → j < 138 → σ' 53 j = σ 53 (j + 6)) ∧ (∀ j, j < k → σ' 53 j = σ 53 j) ∧ ∀ a, a ≠ 53 → σ' a = σ a
  | 0, k, σ, h => by
    refine ⟨σ, ?_, fun j h1 h2 => absurd h2 (by omega), fun _ _ => rfl, fun _ _ => rfl⟩
    rw [hX7_minds_11]
    simp (disch := omega) only [kX7_minds_0, kX7_minds_1, eq_self, Nat.reduceEqDiff, Nat.one_ne_zero, Nat.zero_ne_one, z_0, z_lt, z_le, z_eq, z_add, z_mul, z_inb, z_cl, z_b0, z_b1, z_b01, z_b010, z_b011, kb_v, kb_n, List.cons_append, List.nil_append, if_true, if_false, ↓reduceIte, Bool.false_eq_true, Bool.true_eq_false, decide_eq_true_eq, decide_eq_false_iff_not, not_false_eq_true]
    rw [if_pos (by omega)]
  | m + 1, k, σ, h => by
    obtain ⟨σ', h1, h2, h3, h4⟩ := m_shift d m (k + 1) (up σ 53 k (σ 53 (k + 6))) (by omega)
    refine ⟨σ', ?_, fun j j1 j2 => ?_, fun j j1 => ?_, fun a ha => ?_⟩
    · rw [hX7_minds_11]
      simp (disch := omega) only [kX7_minds_0, kX7_minds_1, eq_self, Nat.reduceEqDiff, Nat.one_ne_zero, Nat.zero_ne_one, z_0, z_lt, z_le, z_eq, z_add, z_mul, z_inb, z_cl, z_b0, z_b1, z_b01, z_b010, z_b011, kb_v, kb_n, List.cons_append, List.nil_append, if_true, if_false, ↓reduceIte, Bool.false_eq_true, Bool.true_eq_false, decide_eq_true_eq, decide_eq_false_iff_not, not_false_eq_true]
      rw [if_neg (by omega), h1, up_k (by omega)]
    · by_cases e : j = k
      · subst e
        rw [h3 j (by omega), up_s]
      · rw [h2 j (by omega) j2, up_j (by omega)]
    · rw [h3 j (by omega), up_j (by omega)]
    · rw [h4 a ha, up_of ha]
theorem m_store (d : Nat) {n : Nat} (hn : n < 24) : ∀ (m k : Nat) (σ : Sg), k + m = 6 → σ 50 3 = nI n → ∃ σ', exec d mX7_minds 51 [.ref 50, .int (nI k)] [] σ = some (none, σ') ∧ (∀ q, k ≤ q → q < 6 → σ' 53 (6 * n + q) = σ 51 q) ∧ (∀ j, j < 6 * n + k ∨ 6 * n + 6 ≤ j → σ' 53 j = σ 53 j) ∧ σ' 50 3 = nI (n + 1) ∧ (∀ q, q ≠ 3 → σ' 50 q = σ 50 q) ∧ ∀ a, a ≠ 50 → a ≠ 53 → σ' a = σ a
  | 0, k, σ, h, hs => by
    refine ⟨up σ 50 3 (nI (n + 1)), ?_, fun q h1 h2 => absurd h2 (by omega), fun _ _ => up_k (by omega), up_s, fun q hq => up_j hq, fun a h1 _ => up_of h1⟩
    rw [hX7_minds_51]
    simp (disch := omega) only [kX7_minds_0, kX7_minds_1, eq_self, Nat.reduceEqDiff, Nat.one_ne_zero, Nat.zero_ne_one, z_0, z_lt, z_le, z_eq, z_add, z_mul, z_inb, z_cl, z_b0, z_b1, z_b01, z_b010, z_b011, kb_v, kb_n, List.cons_append, List.nil_append, if_true, if_false, ↓reduceIte, Bool.false_eq_true, Bool.true_eq_false, decide_eq_true_eq, decide_eq_false_iff_not, not_false_eq_true, hs]
    rw [if_pos (by omega)]
  | m + 1, k, σ, h, hs => by
    obtain ⟨σ', h1, h2, h3, h4, h5, h6⟩ := m_store d hn m (k + 1) (up σ 53 (6 * n + k) (σ 51 k)) (by omega) (by rw [up_k (by omega)]; exact hs)
    refine ⟨σ', ?_, fun q q1 q2 => ?_, fun j j1 => ?_, h4, fun q hq => ?_, fun a a1 a2 => ?_⟩
    · rw [hX7_minds_51]
      simp (disch := omega) only [kX7_minds_0, kX7_minds_1, eq_self, Nat.reduceEqDiff, Nat.one_ne_zero, Nat.zero_ne_one, z_0, z_lt, z_le, z_eq, z_add, z_mul, z_inb, z_cl, z_b0, z_b1, z_b01, z_b010, z_b011, kb_v, kb_n, List.cons_append, List.nil_append, if_true, if_false, ↓reduceIte, Bool.false_eq_true, Bool.true_eq_false, decide_eq_true_eq, decide_eq_false_iff_not, not_false_eq_true, hs]
      rw [if_neg (by omega), h1]
    · by_cases e : q = k
      · subst e
        rw [h3 _ (by omega), up_s]
      · rw [h2 q (by omega) q2, up_k (by omega)]
    · rw [h3 j (by omega), up_j (by omega)]
    · rw [h5 q hq, up_k (by omega)]
    · rw [h6 a a1 a2, up_of a2]
theorem m_minds {σ : Sg} {T : TT} {A : List TT} (h : ∀ k, k < 6 → σ 51 k = nI (T k)) (hA : MA σ A) (hl : A.length ≤ 24) (d : Nat) : ∃ σ', cal (d + 1) mX7_minds [.ref 50] σ = some (none, σ') ∧ MA σ' (psh A T) ∧ (∀ q, q ≠ 3 → σ' 50 q = σ 50 q) ∧ ∀ a, a ≠ 50 → a ≠ 53 → σ' a = σ a := by
  obtain ⟨a1, a2⟩ := hA
  by_cases e : A.length = 24
  · obtain ⟨σ1, b1, b2, -, b4⟩ := m_shift d 138 0 σ (by omega)
    rw [a1, z_sub (by omega), e] at b1
    obtain ⟨σ', c1, c2, c3, c4, c5, c6⟩ := m_store d (n := 23) (by omega) 6 0 (up σ1 50 3 (nI (24 - 1))) (by omega) up_s
    refine ⟨σ', ?_, ⟨?_, fun j hj k hk => ?_⟩, fun q hq => ?_, fun a q1 q2 => ?_⟩
    · rw [aX7_minds_50]
      simp (disch := omega) only [kX7_minds_0, kX7_minds_1, eq_self, Nat.reduceEqDiff, Nat.one_ne_zero, Nat.zero_ne_one, z_0, z_lt, z_le, z_eq, z_add, z_mul, z_inb, z_cl, z_b0, z_b1, z_b01, z_b010, z_b011, kb_v, kb_n, List.cons_append, List.nil_append, if_true, if_false, ↓reduceIte, Bool.false_eq_true, Bool.true_eq_false, decide_eq_true_eq, decide_eq_false_iff_not, not_false_eq_true, a1, e]
      rw [b1, c1]
    · rw [c4, psh_len, e]; rfl
    · rw [psh_len, e] at hj ⊢
      have hmin : min 24 (24 + 1) = 24 := rfl
      rw [hmin] at hj ⊢
      cases j with
      | zero =>
        rw [psh_0, show 6 * (24 - 1 - 0) + k = 6 * 23 + k by omega, c2 k (by omega) hk, up_k (by omega), b4 51 (by omega)]
        exact h k hk
      | succ j =>
        rw [psh_s (by omega), c3 _ (by omega), up_k (by omega), b2 _ (by omega) (by omega)]
        have := a2 j (by omega) k hk
        rw [← this, e]
        congr 1
        omega
    · rw [c5 q hq, up_j hq, b4 50 (by omega)]
    · rw [c6 a q1 q2, up_of q1, b4 a q2]
  · obtain ⟨σ', c1, c2, c3, c4, c5, c6⟩ := m_store d (n := A.length) (by omega) 6 0 σ (by omega) a1
    refine ⟨σ', ?_, ⟨?_, fun j hj k hk => ?_⟩, c5, c6⟩
    · rw [aX7_minds_50]
      simp (disch := omega) only [kX7_minds_0, kX7_minds_1, eq_self, Nat.reduceEqDiff, Nat.one_ne_zero, Nat.zero_ne_one, z_0, z_lt, z_le, z_eq, z_add, z_mul, z_inb, z_cl, z_b0, z_b1, z_b01, z_b010, z_b011, kb_v, kb_n, List.cons_append, List.nil_append, if_true, if_false, ↓reduceIte, Bool.false_eq_true, Bool.true_eq_false, decide_eq_true_eq, decide_eq_false_iff_not, not_false_eq_true, a1]
      rw [if_neg e, c1]
    · rw [c4, psh_len]; congr 1; omega
    · rw [psh_len] at hj ⊢
      have hmin : min 24 (A.length + 1) = A.length + 1 := by omega
      rw [hmin] at hj ⊢
      cases j with
      | zero =>
        rw [psh_0, show 6 * (A.length + 1 - 1 - 0) + k = 6 * A.length + k by omega, c2 k (by omega) hk]
        exact h k hk
      | succ j =>
        rw [psh_s (by omega), c3 _ (by omega)]
        have := a2 j (by omega) k hk
        rw [← this]
        congr 1
        omega
theorem m_undo_loop (d : Nat) {n : Nat} (hn : n < 24) : ∀ (m k : Nat) (σ : Sg), k + m = 6 → σ 50 3 = nI n → ∃ σ', exec d mX7_undo 22 [.ref 50, .int (nI k)] [] σ = some (some (.int (nI n)), σ') ∧ (∀ q, k ≤ q → q < 6 → σ' 51 q = σ 53 (6 * n + q)) ∧ (∀ j, j < k ∨ 6 ≤ j → σ' 51 j = σ 51 j) ∧ ∀ a, a ≠ 51 → σ' a = σ a
  | 0, k, σ, h, hs => by
    refine ⟨σ, ?_, fun q h1 h2 => absurd h2 (by omega), fun _ _ => rfl, fun _ _ => rfl⟩
    rw [hX7_undo_22]
    simp (disch := omega) only [kX7_undo, eq_self, Nat.reduceEqDiff, Nat.one_ne_zero, Nat.zero_ne_one, z_0, z_lt, z_le, z_eq, z_add, z_mul, z_inb, z_cl, z_b0, z_b1, z_b01, z_b010, z_b011, kb_v, kb_n, List.cons_append, List.nil_append, if_true, if_false, ↓reduceIte, Bool.false_eq_true, Bool.true_eq_false, decide_eq_true_eq, decide_eq_false_iff_not, not_false_eq_true, hs]
    rw [if_pos (by omega)]
  | m + 1, k, σ, h, hs => by
    obtain ⟨σ', h1, h2, h3, h4⟩ := m_undo_loop d hn m (k + 1) (up σ 51 k (σ 53 (6 * n + k))) (by omega) (by rw [up_k (by omega)]; exact hs)
    refine ⟨σ', ?_, fun q q1 q2 => ?_, fun j j1 => ?_, fun a ha => ?_⟩
    · rw [hX7_undo_22]
      simp (disch := omega) only [kX7_undo, eq_self, Nat.reduceEqDiff, Nat.one_ne_zero, Nat.zero_ne_one, z_0, z_lt, z_le, z_eq, z_add, z_mul, z_inb, z_cl, z_b0, z_b1, z_b01, z_b010, z_b011, kb_v, kb_n, List.cons_append, List.nil_append, if_true, if_false, ↓reduceIte, Bool.false_eq_true, Bool.true_eq_false, decide_eq_true_eq, decide_eq_false_iff_not, not_false_eq_true, hs]
      rw [if_neg (by omega), h1]
    · by_cases e : q = k
      · subst e
        rw [h3 _ (by omega), up_s]
      · rw [h2 q (by omega) q2, up_k (by omega)]
    · rw [h3 j (by omega), up_j (by omega)]
    · rw [h4 a ha, up_of ha]
theorem rst_rst {T a b : TT} : rst (rst T a) b = rst T b := by
  funext k
  unfold rst
  by_cases h : k < 6 <;> simp [h]
theorem b_undo : BO mX6_undo mX7_undo [] := by
  rintro ⟨T, I0, I1, A, rz, rl, it, tn, tp, ft, fs, cn, ct⟩ ok
  have w : WF T := ok.1
  have w1 := w.1
  have hl : A.length ≤ 24 := ok.2.2.2.1
  cases A with
  | nil =>
    refine ⟨.int (-1000002), _, XO_id fun σ d h => ?_, MO_id fun σ d h => ?_, ok⟩
    · have hA := h.2.2.2.1.1
      rw [aX6_undo_0]
      simp (disch := omega) only [kX6_undo, eq_self, Nat.reduceEqDiff, Nat.one_ne_zero, Nat.zero_ne_one, z_0, z_lt, z_le, z_eq, z_add, z_mul, z_inb, z_cl, z_b0, z_b1, z_b01, z_b010, z_b011, kb_v, kb_n, List.cons_append, List.nil_append, if_true, if_false, ↓reduceIte, Bool.false_eq_true, Bool.true_eq_false, decide_eq_true_eq, decide_eq_false_iff_not, not_false_eq_true, hA, List.length_nil, Nat.lt_irrefl]
    · have hA := h.2.2.2.2.1.1
      rw [aX7_undo_50]
      simp (disch := omega) only [kX7_undo, eq_self, Nat.reduceEqDiff, Nat.one_ne_zero, Nat.zero_ne_one, z_0, z_lt, z_le, z_eq, z_add, z_mul, z_inb, z_cl, z_b0, z_b1, z_b01, z_b010, z_b011, kb_v, kb_n, List.cons_append, List.nil_append, if_true, if_false, ↓reduceIte, Bool.false_eq_true, Bool.true_eq_false, decide_eq_true_eq, decide_eq_false_iff_not, not_false_eq_true, hA, List.length_nil]
  | cons a A =>
    have hl1 : (a :: A).length = A.length + 1 := rfl
    rw [hl1] at hl
    have wa : WF (rst T a) := ok.2.2.2.2.1 0 (by simp)
    refine ⟨.int (nI A.length), (rst T a, I0, I1, A, rz, rl, it, tn, tp, ft, fs, cn, ct), fun σ d h => ?_, fun σ d h => ?_, ?_⟩
    · obtain ⟨g1, g2, g3, g4, g5, g6, g7, g8, g9⟩ := h
      obtain ⟨σ', e1, e2, e3, e4⟩ := x_back g1 g4 (by omega) (d + 28)
      refine ⟨σ', ?_, ⟨e3, XT_cg g2 (fun q _ _ => e4 q (by omega) (by omega)), XT_cg g3 (fun q _ _ => e4 q (by omega) (by omega)), e2, ?_, ?_, ?_, ?_, ?_⟩, fun q hq => e4 q (by omega) (by omega)⟩
      · rw [aX6_undo_0]
        simp (disch := omega) only [kX6_undo, eq_self, Nat.reduceEqDiff, Nat.one_ne_zero, Nat.zero_ne_one, z_0, z_lt, z_le, z_eq, z_add, z_mul, z_inb, z_cl, z_b0, z_b1, z_b01, z_b010, z_b011, kb_v, kb_n, List.cons_append, List.nil_append, if_true, if_false, ↓reduceIte, Bool.false_eq_true, Bool.true_eq_false, decide_eq_true_eq, decide_eq_false_iff_not, not_false_eq_true, g4.1, hl1, e1]
        repeat first | rw [if_neg (by omega)] | rw [if_pos (by omega)]
      · unfold XW; rw [e4 2 (by omega) (by omega), e4 3 (by omega) (by omega), e4 4 (by omega) (by omega), e4 5 (by omega) (by omega)]; exact g5
      · unfold XP; rw [e4 6 (by omega) (by omega), e4 7 (by omega) (by omega)]; exact g6
      · rw [e4 0 (by omega) (by omega)]; exact g7
      · rw [e4 0 (by omega) (by omega)]; exact g8
      · unfold XC; rw [e4 48 (by omega) (by omega), e4 49 (by omega) (by omega)]; exact g9
    · obtain ⟨g1, g2, g3, g4, ⟨g5, g5'⟩, g6, g7, g8, g9, g10⟩ := h
      rw [hl1] at g5 g5'
      obtain ⟨σ', e1, e2, e3, e4⟩ := m_undo_loop (d + 29) (n := A.length) (by omega) 6 0 (up σ 50 3 (nI A.length)) (by omega) up_s
      have w2 := ok.2.1.1
      have w3 := ok.2.2.1.1
      refine ⟨σ', ?_, ⟨MT_mk (by omega) (by omega) g1 (fun k hk => if_neg (by omega)) (fun j h1 _ => by rw [e3 j (by omega), up_k (by omega)]) (fun k hk => ?_), MT_cg (by omega) (by omega) g2 (fun j _ _ => by rw [e3 j (by omega), up_k (by omega)]), MT_cg (by omega) (by omega) g3 (fun j _ _ => by rw [e3 j (by omega), up_k (by omega)]), ?_, ⟨?_, fun j hj k hk => ?_⟩, ?_, ?_, ?_, ?_, ?_⟩, fun q hq => ?_⟩
      · rw [aX7_undo_50]
        simp (disch := omega) only [kX7_undo, eq_self, Nat.reduceEqDiff, Nat.one_ne_zero, Nat.zero_ne_one, z_0, z_lt, z_le, z_eq, z_add, z_mul, z_inb, z_cl, z_b0, z_b1, z_b01, z_b010, z_b011, kb_v, kb_n, List.cons_append, List.nil_append, if_true, if_false, ↓reduceIte, Bool.false_eq_true, Bool.true_eq_false, decide_eq_true_eq, decide_eq_false_iff_not, not_false_eq_true, g5, z_sub, Nat.add_sub_cancel]
        exact e1
      · rw [e2 k (by omega) hk, up_k (by omega)]
        have := g5' 0 (by omega) k hk
        rw [show A.length + 1 - 1 - 0 = A.length by omega] at this
        rw [this]
        show nI (a k) = nI (if k < 6 then a k else T k)
        rw [if_pos hk]
      · rw [e4 52 (by omega), up_of (by omega)]; exact g4
      · rw [e4 50 (by omega), up_s]
      · rw [e4 53 (by omega), up_k (by omega)]
        have := g5' (j + 1) (by omega) k hk
        rw [show A.length + 1 - 1 - (j + 1) = A.length - 1 - j by omega] at this
        rw [this]
        rfl
      · unfold MW; rw [e4 54 (by omega), e4 55 (by omega), e4 56 (by omega)]; simp (disch := omega) only [up_of]; exact g6
      · unfold MP; rw [e4 50 (by omega), e4 57 (by omega)]; simp (disch := omega) only [up_of, up_j]; exact g7
      · rw [e4 50 (by omega), up_j (by omega)]; exact g8
      · rw [e4 50 (by omega), up_j (by omega)]; exact g9
      · unfold MC; rw [e4 50 (by omega), e4 58 (by omega)]; simp (disch := omega) only [up_of, up_j]; exact g10
      · rw [e4 q (by omega), up_of (by omega)]
    · obtain ⟨h1, h2, h3, h4, h5, h6, h7, h8, h9, h10, h11, h12⟩ := ok
      refine ⟨wa, h2, h3, by omega, fun j hj => ?_, h6, h7, h8, h9, h10, h11, h12⟩
      rw [rst_rst]
      exact h5 (j + 1) (by omega)
