/-! the law calls, one by one -/
theorem law_0 {σ : Sg} {N : Nat} (h : LwS σ N) (d : Nat) {i : Nat} (hi : i + 6 ≤ N) : ∃ σ', exec (d + 30) mL_law 188 [.ref 66, .ref 0, .ref 50, .int (nI i)] [] σ = exec (d + 30) mL_law 18 [.ref 66, .ref 0, .ref 50, .int (nI (i + 6))] [] σ' ∧ LwS σ' N := by
  obtain ⟨⟨V, h1, h2, ok⟩, hN, hNl⟩ := h
  obtain ⟨r, σ1, σ2, V', e1, e2, g1, g2, g3, g4, g5⟩ := bo_int (b_row (σ 66 (i + 1)) (σ 66 (i + 2)) (σ 66 (i + 3))) rfl h1 h2 ok d
  have k6 := g4 66 (by omega)
  have k7 := g4 67 (by omega)
  have l7 := g5 67 (by omega)
  refine ⟨σ2, ?_, ⟨V', g1, g2, g3⟩, by rw [l7]; exact hN, hNl⟩
  simp (disch := omega) only [kL_law_0, kL_law_1, kL_law_2, kL_law_3, kL_law_4, kL_law_5, kL_law_6, kL_law_7, kL_law_8, kL_law_9, kL_law_10, kL_law_11, kL_law_12, kL_law_13, kL_law_14, kL_law_15, kL_law_16, kL_law_17, kL_law_18, kL_law_19, eq_self, Nat.reduceEqDiff, Nat.one_ne_zero, Nat.zero_ne_one, z_0, z_lt, z_le, z_eq, z_add, z_mul, z_inb, z_cl, z_b0, z_b1, z_b01, z_b010, z_b011, kb_v, kb_n, List.cons_append, List.nil_append, if_true, if_false, ↓reduceIte, Bool.false_eq_true, Bool.true_eq_false, decide_eq_true_eq, decide_eq_false_iff_not, not_false_eq_true, hN, e1, e2, k6, k7]
theorem law_1 {σ : Sg} {N : Nat} (h : LwS σ N) (d : Nat) {i : Nat} (hi : i + 6 ≤ N) : ∃ σ', exec (d + 30) mL_law 231 [.ref 66, .ref 0, .ref 50, .int (nI i)] [] σ = exec (d + 30) mL_law 18 [.ref 66, .ref 0, .ref 50, .int (nI (i + 6))] [] σ' ∧ LwS σ' N := by
  obtain ⟨⟨V, h1, h2, ok⟩, hN, hNl⟩ := h
  obtain ⟨r, σ1, σ2, V', e1, e2, g1, g2, g3, g4, g5⟩ := bo_int (b_set (σ 66 (i + 1)) (σ 66 (i + 2)) (σ 66 (i + 3))) rfl h1 h2 ok d
  have k6 := g4 66 (by omega)
  have k7 := g4 67 (by omega)
  have l7 := g5 67 (by omega)
  refine ⟨σ2, ?_, ⟨V', g1, g2, g3⟩, by rw [l7]; exact hN, hNl⟩
  simp (disch := omega) only [kL_law_0, kL_law_1, kL_law_2, kL_law_3, kL_law_4, kL_law_5, kL_law_6, kL_law_7, kL_law_8, kL_law_9, kL_law_10, kL_law_11, kL_law_12, kL_law_13, kL_law_14, kL_law_15, kL_law_16, kL_law_17, kL_law_18, kL_law_19, eq_self, Nat.reduceEqDiff, Nat.one_ne_zero, Nat.zero_ne_one, z_0, z_lt, z_le, z_eq, z_add, z_mul, z_inb, z_cl, z_b0, z_b1, z_b01, z_b010, z_b011, kb_v, kb_n, List.cons_append, List.nil_append, if_true, if_false, ↓reduceIte, Bool.false_eq_true, Bool.true_eq_false, decide_eq_true_eq, decide_eq_false_iff_not, not_false_eq_true, hN, e1, e2, k6, k7]
theorem law_2 {σ : Sg} {N : Nat} (h : LwS σ N) (d : Nat) {i : Nat} (hi : i + 6 ≤ N) : ∃ σ', exec (d + 30) mL_law 274 [.ref 66, .ref 0, .ref 50, .int (nI i)] [] σ = exec (d + 30) mL_law 18 [.ref 66, .ref 0, .ref 50, .int (nI (i + 6))] [] σ' ∧ LwS σ' N := by
  obtain ⟨⟨V, h1, h2, ok⟩, hN, hNl⟩ := h
  obtain ⟨r, σ1, σ2, V', e1, e2, g1, g2, g3, g4, g5⟩ := bo_int (b_copy (σ 66 (i + 1)) (σ 66 (i + 2)) (σ 66 (i + 3)) (σ 66 (i + 4)) (σ 66 (i + 5))) rfl h1 h2 ok d
  have k6 := g4 66 (by omega)
  have k7 := g4 67 (by omega)
  have l7 := g5 67 (by omega)
  refine ⟨σ2, ?_, ⟨V', g1, g2, g3⟩, by rw [l7]; exact hN, hNl⟩
  simp (disch := omega) only [kL_law_0, kL_law_1, kL_law_2, kL_law_3, kL_law_4, kL_law_5, kL_law_6, kL_law_7, kL_law_8, kL_law_9, kL_law_10, kL_law_11, kL_law_12, kL_law_13, kL_law_14, kL_law_15, kL_law_16, kL_law_17, kL_law_18, kL_law_19, eq_self, Nat.reduceEqDiff, Nat.one_ne_zero, Nat.zero_ne_one, z_0, z_lt, z_le, z_eq, z_add, z_mul, z_inb, z_cl, z_b0, z_b1, z_b01, z_b010, z_b011, kb_v, kb_n, List.cons_append, List.nil_append, if_true, if_false, ↓reduceIte, Bool.false_eq_true, Bool.true_eq_false, decide_eq_true_eq, decide_eq_false_iff_not, not_false_eq_true, hN, e1, e2, k6, k7]
theorem law_3 {σ : Sg} {N : Nat} (h : LwS σ N) (d : Nat) {i : Nat} (hi : i + 6 ≤ N) : ∃ σ', exec (d + 30) mL_law 337 [.ref 66, .ref 0, .ref 50, .int (nI i)] [] σ = exec (d + 30) mL_law 18 [.ref 66, .ref 0, .ref 50, .int (nI (i + 6))] [] σ' ∧ LwS σ' N := by
  obtain ⟨⟨V, h1, h2, ok⟩, hN, hNl⟩ := h
  obtain ⟨r, σ1, σ2, V', e1, e2, g1, g2, g3, g4, g5⟩ := bo_int (b_drop (σ 66 (i + 1))) rfl h1 h2 ok d
  have k6 := g4 66 (by omega)
  have k7 := g4 67 (by omega)
  have l7 := g5 67 (by omega)
  refine ⟨σ2, ?_, ⟨V', g1, g2, g3⟩, by rw [l7]; exact hN, hNl⟩
  simp (disch := omega) only [kL_law_0, kL_law_1, kL_law_2, kL_law_3, kL_law_4, kL_law_5, kL_law_6, kL_law_7, kL_law_8, kL_law_9, kL_law_10, kL_law_11, kL_law_12, kL_law_13, kL_law_14, kL_law_15, kL_law_16, kL_law_17, kL_law_18, kL_law_19, eq_self, Nat.reduceEqDiff, Nat.one_ne_zero, Nat.zero_ne_one, z_0, z_lt, z_le, z_eq, z_add, z_mul, z_inb, z_cl, z_b0, z_b1, z_b01, z_b010, z_b011, kb_v, kb_n, List.cons_append, List.nil_append, if_true, if_false, ↓reduceIte, Bool.false_eq_true, Bool.true_eq_false, decide_eq_true_eq, decide_eq_false_iff_not, not_false_eq_true, hN, e1, e2, k6, k7]
theorem law_4 {σ : Sg} {N : Nat} (h : LwS σ N) (d : Nat) {i : Nat} (hi : i + 6 ≤ N) : ∃ σ', exec (d + 30) mL_law 360 [.ref 66, .ref 0, .ref 50, .int (nI i)] [] σ = exec (d + 30) mL_law 18 [.ref 66, .ref 0, .ref 50, .int (nI (i + 6))] [] σ' ∧ LwS σ' N := by
  obtain ⟨⟨V, h1, h2, ok⟩, hN, hNl⟩ := h
  obtain ⟨r, σ1, σ2, V', e1, e2, g1, g2, g3, g4, g5⟩ := bo_int (b_feed (σ 66 (i + 1))) rfl h1 h2 ok d
  have k6 := g4 66 (by omega)
  have k7 := g4 67 (by omega)
  have l7 := g5 67 (by omega)
  refine ⟨σ2, ?_, ⟨V', g1, g2, g3⟩, by rw [l7]; exact hN, hNl⟩
  simp (disch := omega) only [kL_law_0, kL_law_1, kL_law_2, kL_law_3, kL_law_4, kL_law_5, kL_law_6, kL_law_7, kL_law_8, kL_law_9, kL_law_10, kL_law_11, kL_law_12, kL_law_13, kL_law_14, kL_law_15, kL_law_16, kL_law_17, kL_law_18, kL_law_19, eq_self, Nat.reduceEqDiff, Nat.one_ne_zero, Nat.zero_ne_one, z_0, z_lt, z_le, z_eq, z_add, z_mul, z_inb, z_cl, z_b0, z_b1, z_b01, z_b010, z_b011, kb_v, kb_n, List.cons_append, List.nil_append, if_true, if_false, ↓reduceIte, Bool.false_eq_true, Bool.true_eq_false, decide_eq_true_eq, decide_eq_false_iff_not, not_false_eq_true, hN, e1, e2, k6, k7]
theorem law_5 {σ : Sg} {N : Nat} (h : LwS σ N) (d : Nat) {i : Nat} (hi : i + 6 ≤ N) : ∃ σ', exec (d + 30) mL_law 383 [.ref 66, .ref 0, .ref 50, .int (nI i)] [] σ = exec (d + 30) mL_law 18 [.ref 66, .ref 0, .ref 50, .int (nI (i + 6))] [] σ' ∧ LwS σ' N := by
  obtain ⟨⟨V, h1, h2, ok⟩, hN, hNl⟩ := h
  obtain ⟨r, σ1, σ2, V', e1, e2, g1, g2, g3, g4, g5⟩ := bo_int (b_trial ) rfl h1 h2 ok d
  have k6 := g4 66 (by omega)
  have k7 := g4 67 (by omega)
  have l7 := g5 67 (by omega)
  refine ⟨σ2, ?_, ⟨V', g1, g2, g3⟩, by rw [l7]; exact hN, hNl⟩
  simp (disch := omega) only [kL_law_0, kL_law_1, kL_law_2, kL_law_3, kL_law_4, kL_law_5, kL_law_6, kL_law_7, kL_law_8, kL_law_9, kL_law_10, kL_law_11, kL_law_12, kL_law_13, kL_law_14, kL_law_15, kL_law_16, kL_law_17, kL_law_18, kL_law_19, eq_self, Nat.reduceEqDiff, Nat.one_ne_zero, Nat.zero_ne_one, z_0, z_lt, z_le, z_eq, z_add, z_mul, z_inb, z_cl, z_b0, z_b1, z_b01, z_b010, z_b011, kb_v, kb_n, List.cons_append, List.nil_append, if_true, if_false, ↓reduceIte, Bool.false_eq_true, Bool.true_eq_false, decide_eq_true_eq, decide_eq_false_iff_not, not_false_eq_true, hN, e1, e2, k6, k7]
theorem law_6 {σ : Sg} {N : Nat} (h : LwS σ N) (d : Nat) {i : Nat} (hi : i + 6 ≤ N) : ∃ σ', exec (d + 30) mL_law 396 [.ref 66, .ref 0, .ref 50, .int (nI i)] [] σ = exec (d + 30) mL_law 18 [.ref 66, .ref 0, .ref 50, .int (nI (i + 6))] [] σ' ∧ LwS σ' N := by
  obtain ⟨⟨V, h1, h2, ok⟩, hN, hNl⟩ := h
  obtain ⟨r, σ1, σ2, V', e1, e2, g1, g2, g3, g4, g5⟩ := bo_int (b_fault ) rfl h1 h2 ok d
  have k6 := g4 66 (by omega)
  have k7 := g4 67 (by omega)
  have l7 := g5 67 (by omega)
  refine ⟨σ2, ?_, ⟨V', g1, g2, g3⟩, by rw [l7]; exact hN, hNl⟩
  simp (disch := omega) only [kL_law_0, kL_law_1, kL_law_2, kL_law_3, kL_law_4, kL_law_5, kL_law_6, kL_law_7, kL_law_8, kL_law_9, kL_law_10, kL_law_11, kL_law_12, kL_law_13, kL_law_14, kL_law_15, kL_law_16, kL_law_17, kL_law_18, kL_law_19, eq_self, Nat.reduceEqDiff, Nat.one_ne_zero, Nat.zero_ne_one, z_0, z_lt, z_le, z_eq, z_add, z_mul, z_inb, z_cl, z_b0, z_b1, z_b01, z_b010, z_b011, kb_v, kb_n, List.cons_append, List.nil_append, if_true, if_false, ↓reduceIte, Bool.false_eq_true, Bool.true_eq_false, decide_eq_true_eq, decide_eq_false_iff_not, not_false_eq_true, hN, e1, e2, k6, k7]
theorem law_7 {σ : Sg} {N : Nat} (h : LwS σ N) (d : Nat) {i : Nat} (hi : i + 6 ≤ N) : ∃ σ', exec (d + 30) mL_law 409 [.ref 66, .ref 0, .ref 50, .int (nI i)] [] σ = exec (d + 30) mL_law 18 [.ref 66, .ref 0, .ref 50, .int (nI (i + 6))] [] σ' ∧ LwS σ' N := by
  obtain ⟨⟨V, h1, h2, ok⟩, hN, hNl⟩ := h
  obtain ⟨r, σ1, σ2, V', e1, e2, g1, g2, g3, g4, g5⟩ := bo_int (b_undo ) rfl h1 h2 ok d
  have k6 := g4 66 (by omega)
  have k7 := g4 67 (by omega)
  have l7 := g5 67 (by omega)
  refine ⟨σ2, ?_, ⟨V', g1, g2, g3⟩, by rw [l7]; exact hN, hNl⟩
  simp (disch := omega) only [kL_law_0, kL_law_1, kL_law_2, kL_law_3, kL_law_4, kL_law_5, kL_law_6, kL_law_7, kL_law_8, kL_law_9, kL_law_10, kL_law_11, kL_law_12, kL_law_13, kL_law_14, kL_law_15, kL_law_16, kL_law_17, kL_law_18, kL_law_19, eq_self, Nat.reduceEqDiff, Nat.one_ne_zero, Nat.zero_ne_one, z_0, z_lt, z_le, z_eq, z_add, z_mul, z_inb, z_cl, z_b0, z_b1, z_b01, z_b010, z_b011, kb_v, kb_n, List.cons_append, List.nil_append, if_true, if_false, ↓reduceIte, Bool.false_eq_true, Bool.true_eq_false, decide_eq_true_eq, decide_eq_false_iff_not, not_false_eq_true, hN, e1, e2, k6, k7]
theorem law_8 {σ : Sg} {N : Nat} (h : LwS σ N) (d : Nat) {i : Nat} (hi : i + 6 ≤ N) : ∃ σ', exec (d + 30) mL_law 422 [.ref 66, .ref 0, .ref 50, .int (nI i)] [] σ = exec (d + 30) mL_law 18 [.ref 66, .ref 0, .ref 50, .int (nI (i + 6))] [] σ' ∧ LwS σ' N := by
  obtain ⟨⟨V, h1, h2, ok⟩, hN, hNl⟩ := h
  obtain ⟨r, σ1, σ2, V', e1, e2, g1, g2, g3, g4, g5⟩ := bo_int (b_make (σ 66 (i + 1))) rfl h1 h2 ok d
  have k6 := g4 66 (by omega)
  have k7 := g4 67 (by omega)
  have l7 := g5 67 (by omega)
  refine ⟨σ2, ?_, ⟨V', g1, g2, g3⟩, by rw [l7]; exact hN, hNl⟩
  simp (disch := omega) only [kL_law_0, kL_law_1, kL_law_2, kL_law_3, kL_law_4, kL_law_5, kL_law_6, kL_law_7, kL_law_8, kL_law_9, kL_law_10, kL_law_11, kL_law_12, kL_law_13, kL_law_14, kL_law_15, kL_law_16, kL_law_17, kL_law_18, kL_law_19, eq_self, Nat.reduceEqDiff, Nat.one_ne_zero, Nat.zero_ne_one, z_0, z_lt, z_le, z_eq, z_add, z_mul, z_inb, z_cl, z_b0, z_b1, z_b01, z_b010, z_b011, kb_v, kb_n, List.cons_append, List.nil_append, if_true, if_false, ↓reduceIte, Bool.false_eq_true, Bool.true_eq_false, decide_eq_true_eq, decide_eq_false_iff_not, not_false_eq_true, hN, e1, e2, k6, k7]
theorem law_9 {σ : Sg} {N : Nat} (h : LwS σ N) (d : Nat) {i : Nat} (hi : i + 6 ≤ N) : ∃ σ', exec (d + 30) mL_law 445 [.ref 66, .ref 0, .ref 50, .int (nI i)] [] σ = exec (d + 30) mL_law 18 [.ref 66, .ref 0, .ref 50, .int (nI (i + 6))] [] σ' ∧ LwS σ' N := by
  obtain ⟨⟨V, h1, h2, ok⟩, hN, hNl⟩ := h
  obtain ⟨r, σ1, σ2, V', e1, e2, g1, g2, g3, g4, g5⟩ := bo_int (b_mend (σ 66 (i + 1))) rfl h1 h2 ok d
  have k6 := g4 66 (by omega)
  have k7 := g4 67 (by omega)
  have l7 := g5 67 (by omega)
  refine ⟨σ2, ?_, ⟨V', g1, g2, g3⟩, by rw [l7]; exact hN, hNl⟩
  simp (disch := omega) only [kL_law_0, kL_law_1, kL_law_2, kL_law_3, kL_law_4, kL_law_5, kL_law_6, kL_law_7, kL_law_8, kL_law_9, kL_law_10, kL_law_11, kL_law_12, kL_law_13, kL_law_14, kL_law_15, kL_law_16, kL_law_17, kL_law_18, kL_law_19, eq_self, Nat.reduceEqDiff, Nat.one_ne_zero, Nat.zero_ne_one, z_0, z_lt, z_le, z_eq, z_add, z_mul, z_inb, z_cl, z_b0, z_b1, z_b01, z_b010, z_b011, kb_v, kb_n, List.cons_append, List.nil_append, if_true, if_false, ↓reduceIte, Bool.false_eq_true, Bool.true_eq_false, decide_eq_true_eq, decide_eq_false_iff_not, not_false_eq_true, hN, e1, e2, k6, k7]
theorem law_10 {σ : Sg} {N : Nat} (h : LwS σ N) (d : Nat) {i : Nat} (hi : i + 6 ≤ N) : ∃ σ', exec (d + 30) mL_law 468 [.ref 66, .ref 0, .ref 50, .int (nI i)] [] σ = exec (d + 30) mL_law 18 [.ref 66, .ref 0, .ref 50, .int (nI (i + 6))] [] σ' ∧ LwS σ' N := by
  obtain ⟨⟨V, h1, h2, ok⟩, hN, hNl⟩ := h
  obtain ⟨r, σ1, σ2, V', e1, e2, g1, g2, g3, g4, g5⟩ := bo_int (b_feast (σ 66 (i + 1))) rfl h1 h2 ok d
  have k6 := g4 66 (by omega)
  have k7 := g4 67 (by omega)
  have l7 := g5 67 (by omega)
  refine ⟨σ2, ?_, ⟨V', g1, g2, g3⟩, by rw [l7]; exact hN, hNl⟩
  simp (disch := omega) only [kL_law_0, kL_law_1, kL_law_2, kL_law_3, kL_law_4, kL_law_5, kL_law_6, kL_law_7, kL_law_8, kL_law_9, kL_law_10, kL_law_11, kL_law_12, kL_law_13, kL_law_14, kL_law_15, kL_law_16, kL_law_17, kL_law_18, kL_law_19, eq_self, Nat.reduceEqDiff, Nat.one_ne_zero, Nat.zero_ne_one, z_0, z_lt, z_le, z_eq, z_add, z_mul, z_inb, z_cl, z_b0, z_b1, z_b01, z_b010, z_b011, kb_v, kb_n, List.cons_append, List.nil_append, if_true, if_false, ↓reduceIte, Bool.false_eq_true, Bool.true_eq_false, decide_eq_true_eq, decide_eq_false_iff_not, not_false_eq_true, hN, e1, e2, k6, k7]
theorem law_11 {σ : Sg} {N : Nat} (h : LwS σ N) (d : Nat) {i : Nat} (hi : i + 6 ≤ N) : ∃ σ', exec (d + 30) mL_law 491 [.ref 66, .ref 0, .ref 50, .int (nI i)] [] σ = exec (d + 30) mL_law 18 [.ref 66, .ref 0, .ref 50, .int (nI (i + 6))] [] σ' ∧ LwS σ' N := by
  obtain ⟨⟨V, h1, h2, ok⟩, hN, hNl⟩ := h
  obtain ⟨r, σ1, σ2, V', e1, e2, g1, g2, g3, g4, g5⟩ := bo_int (b_idle (σ 66 (i + 1))) rfl h1 h2 ok d
  have k6 := g4 66 (by omega)
  have k7 := g4 67 (by omega)
  have l7 := g5 67 (by omega)
  refine ⟨σ2, ?_, ⟨V', g1, g2, g3⟩, by rw [l7]; exact hN, hNl⟩
  simp (disch := omega) only [kL_law_0, kL_law_1, kL_law_2, kL_law_3, kL_law_4, kL_law_5, kL_law_6, kL_law_7, kL_law_8, kL_law_9, kL_law_10, kL_law_11, kL_law_12, kL_law_13, kL_law_14, kL_law_15, kL_law_16, kL_law_17, kL_law_18, kL_law_19, eq_self, Nat.reduceEqDiff, Nat.one_ne_zero, Nat.zero_ne_one, z_0, z_lt, z_le, z_eq, z_add, z_mul, z_inb, z_cl, z_b0, z_b1, z_b01, z_b010, z_b011, kb_v, kb_n, List.cons_append, List.nil_append, if_true, if_false, ↓reduceIte, Bool.false_eq_true, Bool.true_eq_false, decide_eq_true_eq, decide_eq_false_iff_not, not_false_eq_true, hN, e1, e2, k6, k7]
theorem law_12 {σ : Sg} {N : Nat} (h : LwS σ N) (d : Nat) {i : Nat} (hi : i + 6 ≤ N) : ∃ σ', exec (d + 30) mL_law 514 [.ref 66, .ref 0, .ref 50, .int (nI i)] [] σ = exec (d + 30) mL_law 18 [.ref 66, .ref 0, .ref 50, .int (nI (i + 6))] [] σ' ∧ LwS σ' N := by
  obtain ⟨⟨V, h1, h2, ok⟩, hN, hNl⟩ := h
  obtain ⟨r, σ1, σ2, V', e1, e2, g1, g2, g3, g4, g5⟩ := bo_int (b_lesson ) rfl h1 h2 ok d
  have k6 := g4 66 (by omega)
  have k7 := g4 67 (by omega)
  have l7 := g5 67 (by omega)
  refine ⟨σ2, ?_, ⟨V', g1, g2, g3⟩, by rw [l7]; exact hN, hNl⟩
  simp (disch := omega) only [kL_law_0, kL_law_1, kL_law_2, kL_law_3, kL_law_4, kL_law_5, kL_law_6, kL_law_7, kL_law_8, kL_law_9, kL_law_10, kL_law_11, kL_law_12, kL_law_13, kL_law_14, kL_law_15, kL_law_16, kL_law_17, kL_law_18, kL_law_19, eq_self, Nat.reduceEqDiff, Nat.one_ne_zero, Nat.zero_ne_one, z_0, z_lt, z_le, z_eq, z_add, z_mul, z_inb, z_cl, z_b0, z_b1, z_b01, z_b010, z_b011, kb_v, kb_n, List.cons_append, List.nil_append, if_true, if_false, ↓reduceIte, Bool.false_eq_true, Bool.true_eq_false, decide_eq_true_eq, decide_eq_false_iff_not, not_false_eq_true, hN, e1, e2, k6, k7]
theorem law_13 {σ : Sg} {N : Nat} (h : LwS σ N) (d : Nat) {i : Nat} (hi : i + 6 ≤ N) : ∃ σ', exec (d + 30) mL_law 527 [.ref 66, .ref 0, .ref 50, .int (nI i)] [] σ = exec (d + 30) mL_law 18 [.ref 66, .ref 0, .ref 50, .int (nI (i + 6))] [] σ' ∧ LwS σ' N := by
  obtain ⟨⟨V, h1, h2, ok⟩, hN, hNl⟩ := h
  obtain ⟨r, σ1, σ2, V', e1, e2, g1, g2, g3, g4, g5⟩ := bo_int (b_part (σ 66 (i + 1)) (σ 66 (i + 2))) rfl h1 h2 ok d
  have k6 := g4 66 (by omega)
  have k7 := g4 67 (by omega)
  have l7 := g5 67 (by omega)
  refine ⟨σ2, ?_, ⟨V', g1, g2, g3⟩, by rw [l7]; exact hN, hNl⟩
  simp (disch := omega) only [kL_law_0, kL_law_1, kL_law_2, kL_law_3, kL_law_4, kL_law_5, kL_law_6, kL_law_7, kL_law_8, kL_law_9, kL_law_10, kL_law_11, kL_law_12, kL_law_13, kL_law_14, kL_law_15, kL_law_16, kL_law_17, kL_law_18, kL_law_19, eq_self, Nat.reduceEqDiff, Nat.one_ne_zero, Nat.zero_ne_one, z_0, z_lt, z_le, z_eq, z_add, z_mul, z_inb, z_cl, z_b0, z_b1, z_b01, z_b010, z_b011, kb_v, kb_n, List.cons_append, List.nil_append, if_true, if_false, ↓reduceIte, Bool.false_eq_true, Bool.true_eq_false, decide_eq_true_eq, decide_eq_false_iff_not, not_false_eq_true, hN, e1, e2, k6, k7]
theorem law_14 {σ : Sg} {N : Nat} (h : LwS σ N) (d : Nat) {i : Nat} (hi : i + 6 ≤ N) : ∃ σ', exec (d + 30) mL_law 560 [.ref 66, .ref 0, .ref 50, .int (nI i)] [] σ = exec (d + 30) mL_law 18 [.ref 66, .ref 0, .ref 50, .int (nI (i + 6))] [] σ' ∧ LwS σ' N := by
  obtain ⟨⟨V, h1, h2, ok⟩, hN, hNl⟩ := h
  obtain ⟨r, σ1, σ2, V', e1, e2, g1, g2, g3, g4, g5⟩ := bo_int (b_elder (σ 66 (i + 1)) (σ 66 (i + 2))) rfl h1 h2 ok d
  have k6 := g4 66 (by omega)
  have k7 := g4 67 (by omega)
  have l7 := g5 67 (by omega)
  refine ⟨σ2, ?_, ⟨V', g1, g2, g3⟩, by rw [l7]; exact hN, hNl⟩
  simp (disch := omega) only [kL_law_0, kL_law_1, kL_law_2, kL_law_3, kL_law_4, kL_law_5, kL_law_6, kL_law_7, kL_law_8, kL_law_9, kL_law_10, kL_law_11, kL_law_12, kL_law_13, kL_law_14, kL_law_15, kL_law_16, kL_law_17, kL_law_18, kL_law_19, eq_self, Nat.reduceEqDiff, Nat.one_ne_zero, Nat.zero_ne_one, z_0, z_lt, z_le, z_eq, z_add, z_mul, z_inb, z_cl, z_b0, z_b1, z_b01, z_b010, z_b011, kb_v, kb_n, List.cons_append, List.nil_append, if_true, if_false, ↓reduceIte, Bool.false_eq_true, Bool.true_eq_false, decide_eq_true_eq, decide_eq_false_iff_not, not_false_eq_true, hN, e1, e2, k6, k7]
theorem law_15 {σ : Sg} {N : Nat} (h : LwS σ N) (d : Nat) {i : Nat} (hi : i + 6 ≤ N) : ∃ σ', exec (d + 30) mL_law 593 [.ref 66, .ref 0, .ref 50, .int (nI i)] [] σ = exec (d + 30) mL_law 18 [.ref 66, .ref 0, .ref 50, .int (nI (i + 6))] [] σ' ∧ LwS σ' N := by
  obtain ⟨⟨V, h1, h2, ok⟩, hN, hNl⟩ := h
  obtain ⟨r, σ1, σ2, V', e1, e2, g1, g2, g3, g4, g5⟩ := bo_int (b_stand (σ 66 (i + 1))) rfl h1 h2 ok d
  have k6 := g4 66 (by omega)
  have k7 := g4 67 (by omega)
  have l7 := g5 67 (by omega)
  refine ⟨σ2, ?_, ⟨V', g1, g2, g3⟩, by rw [l7]; exact hN, hNl⟩
  simp (disch := omega) only [kL_law_0, kL_law_1, kL_law_2, kL_law_3, kL_law_4, kL_law_5, kL_law_6, kL_law_7, kL_law_8, kL_law_9, kL_law_10, kL_law_11, kL_law_12, kL_law_13, kL_law_14, kL_law_15, kL_law_16, kL_law_17, kL_law_18, kL_law_19, eq_self, Nat.reduceEqDiff, Nat.one_ne_zero, Nat.zero_ne_one, z_0, z_lt, z_le, z_eq, z_add, z_mul, z_inb, z_cl, z_b0, z_b1, z_b01, z_b010, z_b011, kb_v, kb_n, List.cons_append, List.nil_append, if_true, if_false, ↓reduceIte, Bool.false_eq_true, Bool.true_eq_false, decide_eq_true_eq, decide_eq_false_iff_not, not_false_eq_true, hN, e1, e2, k6, k7]
theorem law_16 {σ : Sg} {N : Nat} (h : LwS σ N) (d : Nat) {i : Nat} (hi : i + 6 ≤ N) : ∃ σ', exec (d + 30) mL_law 616 [.ref 66, .ref 0, .ref 50, .int (nI i)] [] σ = exec (d + 30) mL_law 18 [.ref 66, .ref 0, .ref 50, .int (nI (i + 6))] [] σ' ∧ LwS σ' N := by
  obtain ⟨⟨V, h1, h2, ok⟩, hN, hNl⟩ := h
  obtain ⟨r, σ1, σ2, V', e1, e2, g1, g2, g3, g4, g5⟩ := bo_int (b_fewest (σ 66 (i + 1))) rfl h1 h2 ok d
  have k6 := g4 66 (by omega)
  have k7 := g4 67 (by omega)
  have l7 := g5 67 (by omega)
  refine ⟨σ2, ?_, ⟨V', g1, g2, g3⟩, by rw [l7]; exact hN, hNl⟩
  simp (disch := omega) only [kL_law_0, kL_law_1, kL_law_2, kL_law_3, kL_law_4, kL_law_5, kL_law_6, kL_law_7, kL_law_8, kL_law_9, kL_law_10, kL_law_11, kL_law_12, kL_law_13, kL_law_14, kL_law_15, kL_law_16, kL_law_17, kL_law_18, kL_law_19, eq_self, Nat.reduceEqDiff, Nat.one_ne_zero, Nat.zero_ne_one, z_0, z_lt, z_le, z_eq, z_add, z_mul, z_inb, z_cl, z_b0, z_b1, z_b01, z_b010, z_b011, kb_v, kb_n, List.cons_append, List.nil_append, if_true, if_false, ↓reduceIte, Bool.false_eq_true, Bool.true_eq_false, decide_eq_true_eq, decide_eq_false_iff_not, not_false_eq_true, hN, e1, e2, k6, k7]
theorem law_17 {σ : Sg} {N : Nat} (h : LwS σ N) (d : Nat) {i : Nat} (hi : i + 6 ≤ N) : ∃ σ', exec (d + 30) mL_law 639 [.ref 66, .ref 0, .ref 50, .int (nI i)] [] σ = exec (d + 30) mL_law 18 [.ref 66, .ref 0, .ref 50, .int (nI (i + 6))] [] σ' ∧ LwS σ' N := by
  obtain ⟨⟨V, h1, h2, ok⟩, hN, hNl⟩ := h
  obtain ⟨r, σ1, σ2, V', e1, e2, g1, g2, g3, g4, g5⟩ := bo_int (b_can ) rfl h1 h2 ok d
  have k6 := g4 66 (by omega)
  have k7 := g4 67 (by omega)
  have l7 := g5 67 (by omega)
  refine ⟨σ2, ?_, ⟨V', g1, g2, g3⟩, by rw [l7]; exact hN, hNl⟩
  simp (disch := omega) only [kL_law_0, kL_law_1, kL_law_2, kL_law_3, kL_law_4, kL_law_5, kL_law_6, kL_law_7, kL_law_8, kL_law_9, kL_law_10, kL_law_11, kL_law_12, kL_law_13, kL_law_14, kL_law_15, kL_law_16, kL_law_17, kL_law_18, kL_law_19, eq_self, Nat.reduceEqDiff, Nat.one_ne_zero, Nat.zero_ne_one, z_0, z_lt, z_le, z_eq, z_add, z_mul, z_inb, z_cl, z_b0, z_b1, z_b01, z_b010, z_b011, kb_v, kb_n, List.cons_append, List.nil_append, if_true, if_false, ↓reduceIte, Bool.false_eq_true, Bool.true_eq_false, decide_eq_true_eq, decide_eq_false_iff_not, not_false_eq_true, hN, e1, e2, k6, k7]
theorem law_18 {σ : Sg} {N : Nat} (h : LwS σ N) (d : Nat) {i : Nat} (hi : i + 6 ≤ N) : ∃ σ', exec (d + 30) mL_law 652 [.ref 66, .ref 0, .ref 50, .int (nI i)] [] σ = exec (d + 30) mL_law 18 [.ref 66, .ref 0, .ref 50, .int (nI (i + 6))] [] σ' ∧ LwS σ' N := by
  obtain ⟨⟨V, h1, h2, ok⟩, hN, hNl⟩ := h
  obtain ⟨r, σ1, σ2, V', e1, e2, g1, g2, g3, g4, g5⟩ := bo_int (b_feasts (σ 66 (i + 1))) rfl h1 h2 ok d
  have k6 := g4 66 (by omega)
  have k7 := g4 67 (by omega)
  have l7 := g5 67 (by omega)
  refine ⟨σ2, ?_, ⟨V', g1, g2, g3⟩, by rw [l7]; exact hN, hNl⟩
  simp (disch := omega) only [kL_law_0, kL_law_1, kL_law_2, kL_law_3, kL_law_4, kL_law_5, kL_law_6, kL_law_7, kL_law_8, kL_law_9, kL_law_10, kL_law_11, kL_law_12, kL_law_13, kL_law_14, kL_law_15, kL_law_16, kL_law_17, kL_law_18, kL_law_19, eq_self, Nat.reduceEqDiff, Nat.one_ne_zero, Nat.zero_ne_one, z_0, z_lt, z_le, z_eq, z_add, z_mul, z_inb, z_cl, z_b0, z_b1, z_b01, z_b010, z_b011, kb_v, kb_n, List.cons_append, List.nil_append, if_true, if_false, ↓reduceIte, Bool.false_eq_true, Bool.true_eq_false, decide_eq_true_eq, decide_eq_false_iff_not, not_false_eq_true, hN, e1, e2, k6, k7]
theorem law_19 {σ : Sg} {N : Nat} (h : LwS σ N) (d : Nat) {i : Nat} (hi : i + 6 ≤ N) : ∃ σ', exec (d + 30) mL_law 675 [.ref 66, .ref 0, .ref 50, .int (nI i)] [] σ = exec (d + 30) mL_law 18 [.ref 66, .ref 0, .ref 50, .int (nI (i + 6))] [] σ' ∧ LwS σ' N := by
  obtain ⟨⟨V, h1, h2, ok⟩, hN, hNl⟩ := h
  obtain ⟨r, σ1, σ2, V', e1, e2, g1, g2, g3, g4, g5⟩ := bo_int (b_mends (σ 66 (i + 1))) rfl h1 h2 ok d
  have k6 := g4 66 (by omega)
  have k7 := g4 67 (by omega)
  have l7 := g5 67 (by omega)
  refine ⟨σ2, ?_, ⟨V', g1, g2, g3⟩, by rw [l7]; exact hN, hNl⟩
  simp (disch := omega) only [kL_law_0, kL_law_1, kL_law_2, kL_law_3, kL_law_4, kL_law_5, kL_law_6, kL_law_7, kL_law_8, kL_law_9, kL_law_10, kL_law_11, kL_law_12, kL_law_13, kL_law_14, kL_law_15, kL_law_16, kL_law_17, kL_law_18, kL_law_19, eq_self, Nat.reduceEqDiff, Nat.one_ne_zero, Nat.zero_ne_one, z_0, z_lt, z_le, z_eq, z_add, z_mul, z_inb, z_cl, z_b0, z_b1, z_b01, z_b010, z_b011, kb_v, kb_n, List.cons_append, List.nil_append, if_true, if_false, ↓reduceIte, Bool.false_eq_true, Bool.true_eq_false, decide_eq_true_eq, decide_eq_false_iff_not, not_false_eq_true, hN, e1, e2, k6, k7]
theorem law_20 {σ : Sg} {N : Nat} (h : LwS σ N) (d : Nat) {i : Nat} (hi : i + 6 ≤ N) : ∃ σ', exec (d + 30) mL_law 698 [.ref 66, .ref 0, .ref 50, .int (nI i)] [] σ = exec (d + 30) mL_law 18 [.ref 66, .ref 0, .ref 50, .int (nI (i + 6))] [] σ' ∧ LwS σ' N := by
  obtain ⟨⟨V, h1, h2, ok⟩, hN, hNl⟩ := h
  obtain ⟨r, σ1, σ2, V', e1, e2, g1, g2, g3, g4, g5⟩ := bo_int (b_decides ) rfl h1 h2 ok d
  have k6 := g4 66 (by omega)
  have k7 := g4 67 (by omega)
  have l7 := g5 67 (by omega)
  refine ⟨σ2, ?_, ⟨V', g1, g2, g3⟩, by rw [l7]; exact hN, hNl⟩
  simp (disch := omega) only [kL_law_0, kL_law_1, kL_law_2, kL_law_3, kL_law_4, kL_law_5, kL_law_6, kL_law_7, kL_law_8, kL_law_9, kL_law_10, kL_law_11, kL_law_12, kL_law_13, kL_law_14, kL_law_15, kL_law_16, kL_law_17, kL_law_18, kL_law_19, eq_self, Nat.reduceEqDiff, Nat.one_ne_zero, Nat.zero_ne_one, z_0, z_lt, z_le, z_eq, z_add, z_mul, z_inb, z_cl, z_b0, z_b1, z_b01, z_b010, z_b011, kb_v, kb_n, List.cons_append, List.nil_append, if_true, if_false, ↓reduceIte, Bool.false_eq_true, Bool.true_eq_false, decide_eq_true_eq, decide_eq_false_iff_not, not_false_eq_true, hN, e1, e2, k6, k7]
theorem law_21 {σ : Sg} {N : Nat} (h : LwS σ N) (d : Nat) {i : Nat} (hi : i + 6 ≤ N) : ∃ σ', exec (d + 30) mL_law 711 [.ref 66, .ref 0, .ref 50, .int (nI i)] [] σ = exec (d + 30) mL_law 18 [.ref 66, .ref 0, .ref 50, .int (nI (i + 6))] [] σ' ∧ LwS σ' N := by
  obtain ⟨⟨V, h1, h2, ok⟩, hN, hNl⟩ := h
  obtain ⟨r, σ1, σ2, V', e1, e2, g1, g2, g3, g4, g5⟩ := bo_int (b_whereIs (σ 66 (i + 1)) (σ 66 (i + 2)) (σ 66 (i + 3))) rfl h1 h2 ok d
  have k6 := g4 66 (by omega)
  have k7 := g4 67 (by omega)
  have l7 := g5 67 (by omega)
  refine ⟨σ2, ?_, ⟨V', g1, g2, g3⟩, by rw [l7]; exact hN, hNl⟩
  simp (disch := omega) only [kL_law_0, kL_law_1, kL_law_2, kL_law_3, kL_law_4, kL_law_5, kL_law_6, kL_law_7, kL_law_8, kL_law_9, kL_law_10, kL_law_11, kL_law_12, kL_law_13, kL_law_14, kL_law_15, kL_law_16, kL_law_17, kL_law_18, kL_law_19, eq_self, Nat.reduceEqDiff, Nat.one_ne_zero, Nat.zero_ne_one, z_0, z_lt, z_le, z_eq, z_add, z_mul, z_inb, z_cl, z_b0, z_b1, z_b01, z_b010, z_b011, kb_v, kb_n, List.cons_append, List.nil_append, if_true, if_false, ↓reduceIte, Bool.false_eq_true, Bool.true_eq_false, decide_eq_true_eq, decide_eq_false_iff_not, not_false_eq_true, hN, e1, e2, k6, k7]
theorem law_22 {σ : Sg} {N : Nat} (h : LwS σ N) (d : Nat) {i : Nat} (hi : i + 6 ≤ N) : ∃ σ', exec (d + 30) mL_law 754 [.ref 66, .ref 0, .ref 50, .int (nI i)] [] σ = exec (d + 30) mL_law 18 [.ref 66, .ref 0, .ref 50, .int (nI (i + 6))] [] σ' ∧ LwS σ' N := by
  obtain ⟨⟨V, h1, h2, ok⟩, hN, hNl⟩ := h
  obtain ⟨r, σ1, σ2, V', e1, e2, g1, g2, g3, g4, g5⟩ := bo_int (b_skills (σ 66 (i + 1)) (σ 66 (i + 2)) (σ 66 (i + 3))) rfl h1 h2 ok d
  have k6 := g4 66 (by omega)
  have k7 := g4 67 (by omega)
  have l7 := g5 67 (by omega)
  refine ⟨σ2, ?_, ⟨V', g1, g2, g3⟩, by rw [l7]; exact hN, hNl⟩
  simp (disch := omega) only [kL_law_0, kL_law_1, kL_law_2, kL_law_3, kL_law_4, kL_law_5, kL_law_6, kL_law_7, kL_law_8, kL_law_9, kL_law_10, kL_law_11, kL_law_12, kL_law_13, kL_law_14, kL_law_15, kL_law_16, kL_law_17, kL_law_18, kL_law_19, eq_self, Nat.reduceEqDiff, Nat.one_ne_zero, Nat.zero_ne_one, z_0, z_lt, z_le, z_eq, z_add, z_mul, z_inb, z_cl, z_b0, z_b1, z_b01, z_b010, z_b011, kb_v, kb_n, List.cons_append, List.nil_append, if_true, if_false, ↓reduceIte, Bool.false_eq_true, Bool.true_eq_false, decide_eq_true_eq, decide_eq_false_iff_not, not_false_eq_true, hN, e1, e2, k6, k7]
theorem law_23 {σ : Sg} {N : Nat} (h : LwS σ N) (d : Nat) {i : Nat} (hi : i + 6 ≤ N) : ∃ σ', exec (d + 30) mL_law 797 [.ref 66, .ref 0, .ref 50, .int (nI i)] [] σ = exec (d + 30) mL_law 18 [.ref 66, .ref 0, .ref 50, .int (nI (i + 6))] [] σ' ∧ LwS σ' N := by
  obtain ⟨⟨V, h1, h2, ok⟩, hN, hNl⟩ := h
  obtain ⟨r, σ1, σ2, V', e1, e2, g1, g2, g3, g4, g5⟩ := bo_int (b_who (σ 66 (i + 1)) (σ 66 (i + 2)) (σ 66 (i + 3)) (σ 66 (i + 4))) rfl h1 h2 ok d
  have k6 := g4 66 (by omega)
  have k7 := g4 67 (by omega)
  have l7 := g5 67 (by omega)
  refine ⟨σ2, ?_, ⟨V', g1, g2, g3⟩, by rw [l7]; exact hN, hNl⟩
  simp (disch := omega) only [kL_law_0, kL_law_1, kL_law_2, kL_law_3, kL_law_4, kL_law_5, kL_law_6, kL_law_7, kL_law_8, kL_law_9, kL_law_10, kL_law_11, kL_law_12, kL_law_13, kL_law_14, kL_law_15, kL_law_16, kL_law_17, kL_law_18, kL_law_19, eq_self, Nat.reduceEqDiff, Nat.one_ne_zero, Nat.zero_ne_one, z_0, z_lt, z_le, z_eq, z_add, z_mul, z_inb, z_cl, z_b0, z_b1, z_b01, z_b010, z_b011, kb_v, kb_n, List.cons_append, List.nil_append, if_true, if_false, ↓reduceIte, Bool.false_eq_true, Bool.true_eq_false, decide_eq_true_eq, decide_eq_false_iff_not, not_false_eq_true, hN, e1, e2, k6, k7]
theorem law_24 {σ : Sg} {N : Nat} (h : LwS σ N) (d : Nat) {i : Nat} (hi : i + 6 ≤ N) : ∃ σ', exec (d + 30) mL_law 850 [.ref 66, .ref 0, .ref 50, .int (nI i)] [] σ = exec (d + 30) mL_law 18 [.ref 66, .ref 0, .ref 50, .int (nI (i + 6))] [] σ' ∧ LwS σ' N := by
  obtain ⟨⟨V, h1, h2, ok⟩, hN, hNl⟩ := h
  obtain ⟨r, σ1, σ2, V', e1, e2, g1, g2, g3, g4, g5⟩ := bo_long (b_err (σ 66 (i + 1)) (σ 66 (i + 2))) rfl h1 h2 ok d
  have k6 := g4 66 (by omega)
  have k7 := g4 67 (by omega)
  have l7 := g5 67 (by omega)
  refine ⟨σ2, ?_, ⟨V', g1, g2, g3⟩, by rw [l7]; exact hN, hNl⟩
  simp (disch := omega) only [kL_law_0, kL_law_1, kL_law_2, kL_law_3, kL_law_4, kL_law_5, kL_law_6, kL_law_7, kL_law_8, kL_law_9, kL_law_10, kL_law_11, kL_law_12, kL_law_13, kL_law_14, kL_law_15, kL_law_16, kL_law_17, kL_law_18, kL_law_19, eq_self, Nat.reduceEqDiff, Nat.one_ne_zero, Nat.zero_ne_one, z_0, z_lt, z_le, z_eq, z_add, z_mul, z_inb, z_cl, z_b0, z_b1, z_b01, z_b010, z_b011, kb_v, kb_n, List.cons_append, List.nil_append, if_true, if_false, ↓reduceIte, Bool.false_eq_true, Bool.true_eq_false, decide_eq_true_eq, decide_eq_false_iff_not, not_false_eq_true, hN, e1, e2, k6, k7, cmp_eq0]
theorem law_25 {σ : Sg} {N : Nat} (h : LwS σ N) (d : Nat) {i : Nat} (hi : i + 6 ≤ N) : ∃ σ', exec (d + 30) mL_law 884 [.ref 66, .ref 0, .ref 50, .int (nI i)] [] σ = exec (d + 30) mL_law 18 [.ref 66, .ref 0, .ref 50, .int (nI (i + 6))] [] σ' ∧ LwS σ' N := by
  obtain ⟨⟨V, h1, h2, ok⟩, hN, hNl⟩ := h
  obtain ⟨r, σ1, σ2, V', e1, e2, g1, g2, g3, g4, g5⟩ := bo_int (b_worth (σ 66 (i + 1))) rfl h1 h2 ok d
  have k6 := g4 66 (by omega)
  have k7 := g4 67 (by omega)
  have l7 := g5 67 (by omega)
  refine ⟨σ2, ?_, ⟨V', g1, g2, g3⟩, by rw [l7]; exact hN, hNl⟩
  simp (disch := omega) only [kL_law_0, kL_law_1, kL_law_2, kL_law_3, kL_law_4, kL_law_5, kL_law_6, kL_law_7, kL_law_8, kL_law_9, kL_law_10, kL_law_11, kL_law_12, kL_law_13, kL_law_14, kL_law_15, kL_law_16, kL_law_17, kL_law_18, kL_law_19, eq_self, Nat.reduceEqDiff, Nat.one_ne_zero, Nat.zero_ne_one, z_0, z_lt, z_le, z_eq, z_add, z_mul, z_inb, z_cl, z_b0, z_b1, z_b01, z_b010, z_b011, kb_v, kb_n, List.cons_append, List.nil_append, if_true, if_false, ↓reduceIte, Bool.false_eq_true, Bool.true_eq_false, decide_eq_true_eq, decide_eq_false_iff_not, not_false_eq_true, hN, e1, e2, k6, k7]
theorem law_26 {σ : Sg} {N : Nat} (h : LwS σ N) (d : Nat) {i : Nat} (hi : i + 6 ≤ N) : ∃ σ', exec (d + 30) mL_law 907 [.ref 66, .ref 0, .ref 50, .int (nI i)] [] σ = exec (d + 30) mL_law 18 [.ref 66, .ref 0, .ref 50, .int (nI (i + 6))] [] σ' ∧ LwS σ' N := by
  obtain ⟨⟨V, h1, h2, ok⟩, hN, hNl⟩ := h
  obtain ⟨r, σ1, σ2, V', e1, e2, g1, g2, g3, g4, g5⟩ := bo_int (b_drawn (σ 66 (i + 1)) (σ 66 (i + 2)) (σ 66 (i + 3))) rfl h1 h2 ok d
  have k6 := g4 66 (by omega)
  have k7 := g4 67 (by omega)
  have l7 := g5 67 (by omega)
  refine ⟨σ2, ?_, ⟨V', g1, g2, g3⟩, by rw [l7]; exact hN, hNl⟩
  simp (disch := omega) only [kL_law_0, kL_law_1, kL_law_2, kL_law_3, kL_law_4, kL_law_5, kL_law_6, kL_law_7, kL_law_8, kL_law_9, kL_law_10, kL_law_11, kL_law_12, kL_law_13, kL_law_14, kL_law_15, kL_law_16, kL_law_17, kL_law_18, kL_law_19, eq_self, Nat.reduceEqDiff, Nat.one_ne_zero, Nat.zero_ne_one, z_0, z_lt, z_le, z_eq, z_add, z_mul, z_inb, z_cl, z_b0, z_b1, z_b01, z_b010, z_b011, kb_v, kb_n, List.cons_append, List.nil_append, if_true, if_false, ↓reduceIte, Bool.false_eq_true, Bool.true_eq_false, decide_eq_true_eq, decide_eq_false_iff_not, not_false_eq_true, hN, e1, e2, k6, k7]
theorem law_27 {σ : Sg} {N : Nat} (h : LwS σ N) (d : Nat) {i : Nat} (hi : i + 6 ≤ N) : ∃ σ', exec (d + 30) mL_law 950 [.ref 66, .ref 0, .ref 50, .int (nI i)] [] σ = exec (d + 30) mL_law 18 [.ref 66, .ref 0, .ref 50, .int (nI (i + 6))] [] σ' ∧ LwS σ' N := by
  obtain ⟨⟨V, h1, h2, ok⟩, hN, hNl⟩ := h
  obtain ⟨r, σ1, σ2, V', e1, e2, g1, g2, g3, g4, g5⟩ := bo_int (b_image (σ 66 (i + 1))) rfl h1 h2 ok d
  have k6 := g4 66 (by omega)
  have k7 := g4 67 (by omega)
  have l7 := g5 67 (by omega)
  refine ⟨σ2, ?_, ⟨V', g1, g2, g3⟩, by rw [l7]; exact hN, hNl⟩
  simp (disch := omega) only [kL_law_0, kL_law_1, kL_law_2, kL_law_3, kL_law_4, kL_law_5, kL_law_6, kL_law_7, kL_law_8, kL_law_9, kL_law_10, kL_law_11, kL_law_12, kL_law_13, kL_law_14, kL_law_15, kL_law_16, kL_law_17, kL_law_18, kL_law_19, eq_self, Nat.reduceEqDiff, Nat.one_ne_zero, Nat.zero_ne_one, z_0, z_lt, z_le, z_eq, z_add, z_mul, z_inb, z_cl, z_b0, z_b1, z_b01, z_b010, z_b011, kb_v, kb_n, List.cons_append, List.nil_append, if_true, if_false, ↓reduceIte, Bool.false_eq_true, Bool.true_eq_false, decide_eq_true_eq, decide_eq_false_iff_not, not_false_eq_true, hN, e1, e2, k6, k7]
theorem law_28 {σ : Sg} {N : Nat} (h : LwS σ N) (d : Nat) {i : Nat} (hi : i + 6 ≤ N) : ∃ σ', exec (d + 30) mL_law 973 [.ref 66, .ref 0, .ref 50, .int (nI i)] [] σ = exec (d + 30) mL_law 18 [.ref 66, .ref 0, .ref 50, .int (nI (i + 6))] [] σ' ∧ LwS σ' N := by
  obtain ⟨⟨V, h1, h2, ok⟩, hN, hNl⟩ := h
  obtain ⟨r, σ1, σ2, V', e1, e2, g1, g2, g3, g4, g5⟩ := bo_int (b_restore (σ 66 (i + 1))) rfl h1 h2 ok d
  have k6 := g4 66 (by omega)
  have k7 := g4 67 (by omega)
  have l7 := g5 67 (by omega)
  refine ⟨σ2, ?_, ⟨V', g1, g2, g3⟩, by rw [l7]; exact hN, hNl⟩
  simp (disch := omega) only [kL_law_0, kL_law_1, kL_law_2, kL_law_3, kL_law_4, kL_law_5, kL_law_6, kL_law_7, kL_law_8, kL_law_9, kL_law_10, kL_law_11, kL_law_12, kL_law_13, kL_law_14, kL_law_15, kL_law_16, kL_law_17, kL_law_18, kL_law_19, eq_self, Nat.reduceEqDiff, Nat.one_ne_zero, Nat.zero_ne_one, z_0, z_lt, z_le, z_eq, z_add, z_mul, z_inb, z_cl, z_b0, z_b1, z_b01, z_b010, z_b011, kb_v, kb_n, List.cons_append, List.nil_append, if_true, if_false, ↓reduceIte, Bool.false_eq_true, Bool.true_eq_false, decide_eq_true_eq, decide_eq_false_iff_not, not_false_eq_true, hN, e1, e2, k6, k7]
theorem law_29 {σ : Sg} {N : Nat} (h : LwS σ N) (d : Nat) {i : Nat} (hi : i + 6 ≤ N) : ∃ σ', exec (d + 30) mL_law 996 [.ref 66, .ref 0, .ref 50, .int (nI i)] [] σ = exec (d + 30) mL_law 18 [.ref 66, .ref 0, .ref 50, .int (nI (i + 6))] [] σ' ∧ LwS σ' N := by
  obtain ⟨⟨V, h1, h2, ok⟩, hN, hNl⟩ := h
  obtain ⟨r, σ1, σ2, V', e1, e2, g1, g2, g3, g4, g5⟩ := bo_int (b_kind (σ 66 (i + 1))) rfl h1 h2 ok d
  have k6 := g4 66 (by omega)
  have k7 := g4 67 (by omega)
  have l7 := g5 67 (by omega)
  refine ⟨σ2, ?_, ⟨V', g1, g2, g3⟩, by rw [l7]; exact hN, hNl⟩
  simp (disch := omega) only [kL_law_0, kL_law_1, kL_law_2, kL_law_3, kL_law_4, kL_law_5, kL_law_6, kL_law_7, kL_law_8, kL_law_9, kL_law_10, kL_law_11, kL_law_12, kL_law_13, kL_law_14, kL_law_15, kL_law_16, kL_law_17, kL_law_18, kL_law_19, eq_self, Nat.reduceEqDiff, Nat.one_ne_zero, Nat.zero_ne_one, z_0, z_lt, z_le, z_eq, z_add, z_mul, z_inb, z_cl, z_b0, z_b1, z_b01, z_b010, z_b011, kb_v, kb_n, List.cons_append, List.nil_append, if_true, if_false, ↓reduceIte, Bool.false_eq_true, Bool.true_eq_false, decide_eq_true_eq, decide_eq_false_iff_not, not_false_eq_true, hN, e1, e2, k6, k7]
theorem law_30 {σ : Sg} {N : Nat} (h : LwS σ N) (d : Nat) {i : Nat} (hi : i + 6 ≤ N) : ∃ σ', exec (d + 30) mL_law 1019 [.ref 66, .ref 0, .ref 50, .int (nI i)] [] σ = exec (d + 30) mL_law 18 [.ref 66, .ref 0, .ref 50, .int (nI (i + 6))] [] σ' ∧ LwS σ' N := by
  obtain ⟨⟨V, h1, h2, ok⟩, hN, hNl⟩ := h
  obtain ⟨r, σ1, σ2, V', e1, e2, g1, g2, g3, g4, g5⟩ := bo_int (b_as (σ 66 (i + 1)) (σ 66 (i + 2))) rfl h1 h2 ok d
  have k6 := g4 66 (by omega)
  have k7 := g4 67 (by omega)
  have l7 := g5 67 (by omega)
  refine ⟨σ2, ?_, ⟨V', g1, g2, g3⟩, by rw [l7]; exact hN, hNl⟩
  simp (disch := omega) only [kL_law_0, kL_law_1, kL_law_2, kL_law_3, kL_law_4, kL_law_5, kL_law_6, kL_law_7, kL_law_8, kL_law_9, kL_law_10, kL_law_11, kL_law_12, kL_law_13, kL_law_14, kL_law_15, kL_law_16, kL_law_17, kL_law_18, kL_law_19, eq_self, Nat.reduceEqDiff, Nat.one_ne_zero, Nat.zero_ne_one, z_0, z_lt, z_le, z_eq, z_add, z_mul, z_inb, z_cl, z_b0, z_b1, z_b01, z_b010, z_b011, kb_v, kb_n, List.cons_append, List.nil_append, if_true, if_false, ↓reduceIte, Bool.false_eq_true, Bool.true_eq_false, decide_eq_true_eq, decide_eq_false_iff_not, not_false_eq_true, hN, e1, e2, k6, k7]
theorem law_31 {σ : Sg} {N : Nat} (h : LwS σ N) (d : Nat) {i : Nat} (hi : i + 6 ≤ N) : ∃ σ', exec (d + 30) mL_law 1052 [.ref 66, .ref 0, .ref 50, .int (nI i)] [] σ = exec (d + 30) mL_law 18 [.ref 66, .ref 0, .ref 50, .int (nI (i + 6))] [] σ' ∧ LwS σ' N := by
  obtain ⟨⟨V, h1, h2, ok⟩, hN, hNl⟩ := h
  obtain ⟨r, σ1, σ2, V', e1, e2, g1, g2, g3, g4, g5⟩ := bo_int (b_ask (σ 66 (i + 1)) (σ 66 (i + 2))) rfl h1 h2 ok d
  have k6 := g4 66 (by omega)
  have k7 := g4 67 (by omega)
  have l7 := g5 67 (by omega)
  refine ⟨σ2, ?_, ⟨V', g1, g2, g3⟩, by rw [l7]; exact hN, hNl⟩
  simp (disch := omega) only [kL_law_0, kL_law_1, kL_law_2, kL_law_3, kL_law_4, kL_law_5, kL_law_6, kL_law_7, kL_law_8, kL_law_9, kL_law_10, kL_law_11, kL_law_12, kL_law_13, kL_law_14, kL_law_15, kL_law_16, kL_law_17, kL_law_18, kL_law_19, eq_self, Nat.reduceEqDiff, Nat.one_ne_zero, Nat.zero_ne_one, z_0, z_lt, z_le, z_eq, z_add, z_mul, z_inb, z_cl, z_b0, z_b1, z_b01, z_b010, z_b011, kb_v, kb_n, List.cons_append, List.nil_append, if_true, if_false, ↓reduceIte, Bool.false_eq_true, Bool.true_eq_false, decide_eq_true_eq, decide_eq_false_iff_not, not_false_eq_true, hN, e1, e2, k6, k7]
theorem law_32 {σ : Sg} {N : Nat} (h : LwS σ N) (d : Nat) {i : Nat} (hi : i + 6 ≤ N) : ∃ σ', exec (d + 30) mL_law 1085 [.ref 66, .ref 0, .ref 50, .int (nI i)] [] σ = exec (d + 30) mL_law 18 [.ref 66, .ref 0, .ref 50, .int (nI (i + 6))] [] σ' ∧ LwS σ' N := by
  obtain ⟨⟨V, h1, h2, ok⟩, hN, hNl⟩ := h
  obtain ⟨r, σ1, σ2, V', e1, e2, g1, g2, g3, g4, g5⟩ := bo_int (b_trace (σ 66 (i + 1))) rfl h1 h2 ok d
  have k6 := g4 66 (by omega)
  have k7 := g4 67 (by omega)
  have l7 := g5 67 (by omega)
  refine ⟨σ2, ?_, ⟨V', g1, g2, g3⟩, by rw [l7]; exact hN, hNl⟩
  simp (disch := omega) only [kL_law_0, kL_law_1, kL_law_2, kL_law_3, kL_law_4, kL_law_5, kL_law_6, kL_law_7, kL_law_8, kL_law_9, kL_law_10, kL_law_11, kL_law_12, kL_law_13, kL_law_14, kL_law_15, kL_law_16, kL_law_17, kL_law_18, kL_law_19, eq_self, Nat.reduceEqDiff, Nat.one_ne_zero, Nat.zero_ne_one, z_0, z_lt, z_le, z_eq, z_add, z_mul, z_inb, z_cl, z_b0, z_b1, z_b01, z_b010, z_b011, kb_v, kb_n, List.cons_append, List.nil_append, if_true, if_false, ↓reduceIte, Bool.false_eq_true, Bool.true_eq_false, decide_eq_true_eq, decide_eq_false_iff_not, not_false_eq_true, hN, e1, e2, k6, k7]
theorem law_33 {σ : Sg} {N : Nat} (h : LwS σ N) (d : Nat) {i : Nat} (hi : i + 6 ≤ N) : ∃ σ', exec (d + 30) mL_law 1108 [.ref 66, .ref 0, .ref 50, .int (nI i)] [] σ = exec (d + 30) mL_law 18 [.ref 66, .ref 0, .ref 50, .int (nI (i + 6))] [] σ' ∧ LwS σ' N := by
  obtain ⟨⟨V, h1, h2, ok⟩, hN, hNl⟩ := h
  obtain ⟨r, σ1, σ2, V', e1, e2, g1, g2, g3, g4, g5⟩ := bo_int (b_count (σ 66 (i + 1))) rfl h1 h2 ok d
  have k6 := g4 66 (by omega)
  have k7 := g4 67 (by omega)
  have l7 := g5 67 (by omega)
  refine ⟨σ2, ?_, ⟨V', g1, g2, g3⟩, by rw [l7]; exact hN, hNl⟩
  simp (disch := omega) only [kL_law_0, kL_law_1, kL_law_2, kL_law_3, kL_law_4, kL_law_5, kL_law_6, kL_law_7, kL_law_8, kL_law_9, kL_law_10, kL_law_11, kL_law_12, kL_law_13, kL_law_14, kL_law_15, kL_law_16, kL_law_17, kL_law_18, kL_law_19, eq_self, Nat.reduceEqDiff, Nat.one_ne_zero, Nat.zero_ne_one, z_0, z_lt, z_le, z_eq, z_add, z_mul, z_inb, z_cl, z_b0, z_b1, z_b01, z_b010, z_b011, kb_v, kb_n, List.cons_append, List.nil_append, if_true, if_false, ↓reduceIte, Bool.false_eq_true, Bool.true_eq_false, decide_eq_true_eq, decide_eq_false_iff_not, not_false_eq_true, hN, e1, e2, k6, k7]
theorem law_34 {σ : Sg} {N : Nat} (h : LwS σ N) (d : Nat) {i : Nat} (hi : i + 6 ≤ N) : ∃ σ', exec (d + 30) mL_law 1131 [.ref 66, .ref 0, .ref 50, .int (nI i)] [] σ = exec (d + 30) mL_law 18 [.ref 66, .ref 0, .ref 50, .int (nI (i + 6))] [] σ' ∧ LwS σ' N := by
  obtain ⟨⟨V, h1, h2, ok⟩, hN, hNl⟩ := h
  obtain ⟨r, σ1, σ2, V', e1, e2, g1, g2, g3, g4, g5⟩ := bo_int (b_status ) rfl h1 h2 ok d
  have k6 := g4 66 (by omega)
  have k7 := g4 67 (by omega)
  have l7 := g5 67 (by omega)
  refine ⟨σ2, ?_, ⟨V', g1, g2, g3⟩, by rw [l7]; exact hN, hNl⟩
  simp (disch := omega) only [kL_law_0, kL_law_1, kL_law_2, kL_law_3, kL_law_4, kL_law_5, kL_law_6, kL_law_7, kL_law_8, kL_law_9, kL_law_10, kL_law_11, kL_law_12, kL_law_13, kL_law_14, kL_law_15, kL_law_16, kL_law_17, kL_law_18, kL_law_19, eq_self, Nat.reduceEqDiff, Nat.one_ne_zero, Nat.zero_ne_one, z_0, z_lt, z_le, z_eq, z_add, z_mul, z_inb, z_cl, z_b0, z_b1, z_b01, z_b010, z_b011, kb_v, kb_n, List.cons_append, List.nil_append, if_true, if_false, ↓reduceIte, Bool.false_eq_true, Bool.true_eq_false, decide_eq_true_eq, decide_eq_false_iff_not, not_false_eq_true, hN, e1, e2, k6, k7]
