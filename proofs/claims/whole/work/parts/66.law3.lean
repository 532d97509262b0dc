/-! the law's loop, whole -/
theorem and63 (a : Int32) : ∃ j, j < 64 ∧ a &&& nI 63 = nI j := by
  have ha : a = nI a.toBitVec.toNat := by
    apply Int32.toBitVec_inj.1
    show a.toBitVec = BitVec.ofNat 32 a.toBitVec.toNat
    simp
  refine ⟨a.toBitVec.toNat &&& 63, ?_, ?_⟩
  · have : a.toBitVec.toNat &&& 63 ≤ 63 := Nat.and_le_right
    omega
  · conv => lhs; rw [ha]
    exact z_and _ _
theorem sub6 {N : Nat} (h : N < 2147483648) : (nI N - nI 6).toInt = (N : Int) - 6 := by
  by_cases q : 6 ≤ N
  · rw [z_sub q, z_tI (by omega)]; omega
  · rcases (show N = 0 ∨ N = 1 ∨ N = 2 ∨ N = 3 ∨ N = 4 ∨ N = 5 by omega) with rfl | rfl | rfl | rfl | rfl | rfl <;> decide
theorem law_go {σ : Sg} {N : Nat} (h : LwS σ N) (d : Nat) {i : Nat} (hi : i + 6 ≤ N) : ∃ σ', exec (d + 30) mL_law 18 [.ref 66, .ref 0, .ref 50, .int (nI i)] [] σ = exec (d + 30) mL_law 18 [.ref 66, .ref 0, .ref 50, .int (nI (i + 6))] [] σ' ∧ LwS σ' N := by
  have hN := h.2.1
  have hNl := h.2.2
  have hlt : (nI N - nI 6 < nI i) = False := eq_false (by rw [lt_I, sub6 hNl, z_tI (by omega)]; omega)
  obtain ⟨op, hop1, hop⟩ := and63 (σ 66 i)
  rcases (show op = 0 ∨ op = 1 ∨ op = 2 ∨ op = 3 ∨ op = 4 ∨ op = 5 ∨ op = 6 ∨ op = 7 ∨ op = 8 ∨ op = 9 ∨ op = 10 ∨ op = 11 ∨ op = 12 ∨ op = 13 ∨ op = 14 ∨ op = 15 ∨ op = 16 ∨ op = 17 ∨ op = 18 ∨ op = 19 ∨ op = 20 ∨ op = 21 ∨ op = 22 ∨ op = 23 ∨ op = 24 ∨ op = 25 ∨ op = 26 ∨ op = 27 ∨ op = 28 ∨ op = 29 ∨ op = 30 ∨ op = 31 ∨ op = 32 ∨ op = 33 ∨ op = 34 ∨ 35 ≤ op by omega) with rfl | rfl | rfl | rfl | rfl | rfl | rfl | rfl | rfl | rfl | rfl | rfl | rfl | rfl | rfl | rfl | rfl | rfl | rfl | rfl | rfl | rfl | rfl | rfl | rfl | rfl | rfl | rfl | rfl | rfl | rfl | rfl | rfl | rfl | rfl | hge
  · obtain ⟨σ', e, hl⟩ := law_0 h d hi
    refine ⟨σ', Eq.trans ?_ e, hl⟩
    rw [hL_law_18]
    simp (disch := omega) only [kL_law_0, kL_law_1, kL_law_2, kL_law_3, kL_law_4, kL_law_5, kL_law_6, kL_law_7, kL_law_8, kL_law_9, kL_law_10, kL_law_11, kL_law_12, kL_law_13, kL_law_14, kL_law_15, kL_law_16, kL_law_17, kL_law_18, kL_law_19, eq_self, Nat.reduceEqDiff, Nat.one_ne_zero, Nat.zero_ne_one, z_0, z_lt, z_le, z_eq, z_add, z_mul, z_inb, z_cl, z_b0, z_b1, z_b01, z_b010, z_b011, kb_v, kb_n, List.cons_append, List.nil_append, if_true, if_false, ↓reduceIte, Bool.false_eq_true, Bool.true_eq_false, decide_eq_true_eq, decide_eq_false_iff_not, not_false_eq_true, hN, hop, hlt]
  · obtain ⟨σ', e, hl⟩ := law_1 h d hi
    refine ⟨σ', Eq.trans ?_ e, hl⟩
    rw [hL_law_18]
    simp (disch := omega) only [kL_law_0, kL_law_1, kL_law_2, kL_law_3, kL_law_4, kL_law_5, kL_law_6, kL_law_7, kL_law_8, kL_law_9, kL_law_10, kL_law_11, kL_law_12, kL_law_13, kL_law_14, kL_law_15, kL_law_16, kL_law_17, kL_law_18, kL_law_19, eq_self, Nat.reduceEqDiff, Nat.one_ne_zero, Nat.zero_ne_one, z_0, z_lt, z_le, z_eq, z_add, z_mul, z_inb, z_cl, z_b0, z_b1, z_b01, z_b010, z_b011, kb_v, kb_n, List.cons_append, List.nil_append, if_true, if_false, ↓reduceIte, Bool.false_eq_true, Bool.true_eq_false, decide_eq_true_eq, decide_eq_false_iff_not, not_false_eq_true, hN, hop, hlt]
  · obtain ⟨σ', e, hl⟩ := law_2 h d hi
    refine ⟨σ', Eq.trans ?_ e, hl⟩
    rw [hL_law_18]
    simp (disch := omega) only [kL_law_0, kL_law_1, kL_law_2, kL_law_3, kL_law_4, kL_law_5, kL_law_6, kL_law_7, kL_law_8, kL_law_9, kL_law_10, kL_law_11, kL_law_12, kL_law_13, kL_law_14, kL_law_15, kL_law_16, kL_law_17, kL_law_18, kL_law_19, eq_self, Nat.reduceEqDiff, Nat.one_ne_zero, Nat.zero_ne_one, z_0, z_lt, z_le, z_eq, z_add, z_mul, z_inb, z_cl, z_b0, z_b1, z_b01, z_b010, z_b011, kb_v, kb_n, List.cons_append, List.nil_append, if_true, if_false, ↓reduceIte, Bool.false_eq_true, Bool.true_eq_false, decide_eq_true_eq, decide_eq_false_iff_not, not_false_eq_true, hN, hop, hlt]
  · obtain ⟨σ', e, hl⟩ := law_3 h d hi
    refine ⟨σ', Eq.trans ?_ e, hl⟩
    rw [hL_law_18]
    simp (disch := omega) only [kL_law_0, kL_law_1, kL_law_2, kL_law_3, kL_law_4, kL_law_5, kL_law_6, kL_law_7, kL_law_8, kL_law_9, kL_law_10, kL_law_11, kL_law_12, kL_law_13, kL_law_14, kL_law_15, kL_law_16, kL_law_17, kL_law_18, kL_law_19, eq_self, Nat.reduceEqDiff, Nat.one_ne_zero, Nat.zero_ne_one, z_0, z_lt, z_le, z_eq, z_add, z_mul, z_inb, z_cl, z_b0, z_b1, z_b01, z_b010, z_b011, kb_v, kb_n, List.cons_append, List.nil_append, if_true, if_false, ↓reduceIte, Bool.false_eq_true, Bool.true_eq_false, decide_eq_true_eq, decide_eq_false_iff_not, not_false_eq_true, hN, hop, hlt]
  · obtain ⟨σ', e, hl⟩ := law_4 h d hi
    refine ⟨σ', Eq.trans ?_ e, hl⟩
    rw [hL_law_18]
    simp (disch := omega) only [kL_law_0, kL_law_1, kL_law_2, kL_law_3, kL_law_4, kL_law_5, kL_law_6, kL_law_7, kL_law_8, kL_law_9, kL_law_10, kL_law_11, kL_law_12, kL_law_13, kL_law_14, kL_law_15, kL_law_16, kL_law_17, kL_law_18, kL_law_19, eq_self, Nat.reduceEqDiff, Nat.one_ne_zero, Nat.zero_ne_one, z_0, z_lt, z_le, z_eq, z_add, z_mul, z_inb, z_cl, z_b0, z_b1, z_b01, z_b010, z_b011, kb_v, kb_n, List.cons_append, List.nil_append, if_true, if_false, ↓reduceIte, Bool.false_eq_true, Bool.true_eq_false, decide_eq_true_eq, decide_eq_false_iff_not, not_false_eq_true, hN, hop, hlt]
  · obtain ⟨σ', e, hl⟩ := law_5 h d hi
    refine ⟨σ', Eq.trans ?_ e, hl⟩
    rw [hL_law_18]
    simp (disch := omega) only [kL_law_0, kL_law_1, kL_law_2, kL_law_3, kL_law_4, kL_law_5, kL_law_6, kL_law_7, kL_law_8, kL_law_9, kL_law_10, kL_law_11, kL_law_12, kL_law_13, kL_law_14, kL_law_15, kL_law_16, kL_law_17, kL_law_18, kL_law_19, eq_self, Nat.reduceEqDiff, Nat.one_ne_zero, Nat.zero_ne_one, z_0, z_lt, z_le, z_eq, z_add, z_mul, z_inb, z_cl, z_b0, z_b1, z_b01, z_b010, z_b011, kb_v, kb_n, List.cons_append, List.nil_append, if_true, if_false, ↓reduceIte, Bool.false_eq_true, Bool.true_eq_false, decide_eq_true_eq, decide_eq_false_iff_not, not_false_eq_true, hN, hop, hlt]
  · obtain ⟨σ', e, hl⟩ := law_6 h d hi
    refine ⟨σ', Eq.trans ?_ e, hl⟩
    rw [hL_law_18]
    simp (disch := omega) only [kL_law_0, kL_law_1, kL_law_2, kL_law_3, kL_law_4, kL_law_5, kL_law_6, kL_law_7, kL_law_8, kL_law_9, kL_law_10, kL_law_11, kL_law_12, kL_law_13, kL_law_14, kL_law_15, kL_law_16, kL_law_17, kL_law_18, kL_law_19, eq_self, Nat.reduceEqDiff, Nat.one_ne_zero, Nat.zero_ne_one, z_0, z_lt, z_le, z_eq, z_add, z_mul, z_inb, z_cl, z_b0, z_b1, z_b01, z_b010, z_b011, kb_v, kb_n, List.cons_append, List.nil_append, if_true, if_false, ↓reduceIte, Bool.false_eq_true, Bool.true_eq_false, decide_eq_true_eq, decide_eq_false_iff_not, not_false_eq_true, hN, hop, hlt]
  · obtain ⟨σ', e, hl⟩ := law_7 h d hi
    refine ⟨σ', Eq.trans ?_ e, hl⟩
    rw [hL_law_18]
    simp (disch := omega) only [kL_law_0, kL_law_1, kL_law_2, kL_law_3, kL_law_4, kL_law_5, kL_law_6, kL_law_7, kL_law_8, kL_law_9, kL_law_10, kL_law_11, kL_law_12, kL_law_13, kL_law_14, kL_law_15, kL_law_16, kL_law_17, kL_law_18, kL_law_19, eq_self, Nat.reduceEqDiff, Nat.one_ne_zero, Nat.zero_ne_one, z_0, z_lt, z_le, z_eq, z_add, z_mul, z_inb, z_cl, z_b0, z_b1, z_b01, z_b010, z_b011, kb_v, kb_n, List.cons_append, List.nil_append, if_true, if_false, ↓reduceIte, Bool.false_eq_true, Bool.true_eq_false, decide_eq_true_eq, decide_eq_false_iff_not, not_false_eq_true, hN, hop, hlt]
  · obtain ⟨σ', e, hl⟩ := law_8 h d hi
    refine ⟨σ', Eq.trans ?_ e, hl⟩
    rw [hL_law_18]
    simp (disch := omega) only [kL_law_0, kL_law_1, kL_law_2, kL_law_3, kL_law_4, kL_law_5, kL_law_6, kL_law_7, kL_law_8, kL_law_9, kL_law_10, kL_law_11, kL_law_12, kL_law_13, kL_law_14, kL_law_15, kL_law_16, kL_law_17, kL_law_18, kL_law_19, eq_self, Nat.reduceEqDiff, Nat.one_ne_zero, Nat.zero_ne_one, z_0, z_lt, z_le, z_eq, z_add, z_mul, z_inb, z_cl, z_b0, z_b1, z_b01, z_b010, z_b011, kb_v, kb_n, List.cons_append, List.nil_append, if_true, if_false, ↓reduceIte, Bool.false_eq_true, Bool.true_eq_false, decide_eq_true_eq, decide_eq_false_iff_not, not_false_eq_true, hN, hop, hlt]
  · obtain ⟨σ', e, hl⟩ := law_9 h d hi
    refine ⟨σ', Eq.trans ?_ e, hl⟩
    rw [hL_law_18]
    simp (disch := omega) only [kL_law_0, kL_law_1, kL_law_2, kL_law_3, kL_law_4, kL_law_5, kL_law_6, kL_law_7, kL_law_8, kL_law_9, kL_law_10, kL_law_11, kL_law_12, kL_law_13, kL_law_14, kL_law_15, kL_law_16, kL_law_17, kL_law_18, kL_law_19, eq_self, Nat.reduceEqDiff, Nat.one_ne_zero, Nat.zero_ne_one, z_0, z_lt, z_le, z_eq, z_add, z_mul, z_inb, z_cl, z_b0, z_b1, z_b01, z_b010, z_b011, kb_v, kb_n, List.cons_append, List.nil_append, if_true, if_false, ↓reduceIte, Bool.false_eq_true, Bool.true_eq_false, decide_eq_true_eq, decide_eq_false_iff_not, not_false_eq_true, hN, hop, hlt]
  · obtain ⟨σ', e, hl⟩ := law_10 h d hi
    refine ⟨σ', Eq.trans ?_ e, hl⟩
    rw [hL_law_18]
    simp (disch := omega) only [kL_law_0, kL_law_1, kL_law_2, kL_law_3, kL_law_4, kL_law_5, kL_law_6, kL_law_7, kL_law_8, kL_law_9, kL_law_10, kL_law_11, kL_law_12, kL_law_13, kL_law_14, kL_law_15, kL_law_16, kL_law_17, kL_law_18, kL_law_19, eq_self, Nat.reduceEqDiff, Nat.one_ne_zero, Nat.zero_ne_one, z_0, z_lt, z_le, z_eq, z_add, z_mul, z_inb, z_cl, z_b0, z_b1, z_b01, z_b010, z_b011, kb_v, kb_n, List.cons_append, List.nil_append, if_true, if_false, ↓reduceIte, Bool.false_eq_true, Bool.true_eq_false, decide_eq_true_eq, decide_eq_false_iff_not, not_false_eq_true, hN, hop, hlt]
  · obtain ⟨σ', e, hl⟩ := law_11 h d hi
    refine ⟨σ', Eq.trans ?_ e, hl⟩
    rw [hL_law_18]
    simp (disch := omega) only [kL_law_0, kL_law_1, kL_law_2, kL_law_3, kL_law_4, kL_law_5, kL_law_6, kL_law_7, kL_law_8, kL_law_9, kL_law_10, kL_law_11, kL_law_12, kL_law_13, kL_law_14, kL_law_15, kL_law_16, kL_law_17, kL_law_18, kL_law_19, eq_self, Nat.reduceEqDiff, Nat.one_ne_zero, Nat.zero_ne_one, z_0, z_lt, z_le, z_eq, z_add, z_mul, z_inb, z_cl, z_b0, z_b1, z_b01, z_b010, z_b011, kb_v, kb_n, List.cons_append, List.nil_append, if_true, if_false, ↓reduceIte, Bool.false_eq_true, Bool.true_eq_false, decide_eq_true_eq, decide_eq_false_iff_not, not_false_eq_true, hN, hop, hlt]
  · obtain ⟨σ', e, hl⟩ := law_12 h d hi
    refine ⟨σ', Eq.trans ?_ e, hl⟩
    rw [hL_law_18]
    simp (disch := omega) only [kL_law_0, kL_law_1, kL_law_2, kL_law_3, kL_law_4, kL_law_5, kL_law_6, kL_law_7, kL_law_8, kL_law_9, kL_law_10, kL_law_11, kL_law_12, kL_law_13, kL_law_14, kL_law_15, kL_law_16, kL_law_17, kL_law_18, kL_law_19, eq_self, Nat.reduceEqDiff, Nat.one_ne_zero, Nat.zero_ne_one, z_0, z_lt, z_le, z_eq, z_add, z_mul, z_inb, z_cl, z_b0, z_b1, z_b01, z_b010, z_b011, kb_v, kb_n, List.cons_append, List.nil_append, if_true, if_false, ↓reduceIte, Bool.false_eq_true, Bool.true_eq_false, decide_eq_true_eq, decide_eq_false_iff_not, not_false_eq_true, hN, hop, hlt]
  · obtain ⟨σ', e, hl⟩ := law_13 h d hi
    refine ⟨σ', Eq.trans ?_ e, hl⟩
    rw [hL_law_18]
    simp (disch := omega) only [kL_law_0, kL_law_1, kL_law_2, kL_law_3, kL_law_4, kL_law_5, kL_law_6, kL_law_7, kL_law_8, kL_law_9, kL_law_10, kL_law_11, kL_law_12, kL_law_13, kL_law_14, kL_law_15, kL_law_16, kL_law_17, kL_law_18, kL_law_19, eq_self, Nat.reduceEqDiff, Nat.one_ne_zero, Nat.zero_ne_one, z_0, z_lt, z_le, z_eq, z_add, z_mul, z_inb, z_cl, z_b0, z_b1, z_b01, z_b010, z_b011, kb_v, kb_n, List.cons_append, List.nil_append, if_true, if_false, ↓reduceIte, Bool.false_eq_true, Bool.true_eq_false, decide_eq_true_eq, decide_eq_false_iff_not, not_false_eq_true, hN, hop, hlt]
  · obtain ⟨σ', e, hl⟩ := law_14 h d hi
    refine ⟨σ', Eq.trans ?_ e, hl⟩
    rw [hL_law_18]
    simp (disch := omega) only [kL_law_0, kL_law_1, kL_law_2, kL_law_3, kL_law_4, kL_law_5, kL_law_6, kL_law_7, kL_law_8, kL_law_9, kL_law_10, kL_law_11, kL_law_12, kL_law_13, kL_law_14, kL_law_15, kL_law_16, kL_law_17, kL_law_18, kL_law_19, eq_self, Nat.reduceEqDiff, Nat.one_ne_zero, Nat.zero_ne_one, z_0, z_lt, z_le, z_eq, z_add, z_mul, z_inb, z_cl, z_b0, z_b1, z_b01, z_b010, z_b011, kb_v, kb_n, List.cons_append, List.nil_append, if_true, if_false, ↓reduceIte, Bool.false_eq_true, Bool.true_eq_false, decide_eq_true_eq, decide_eq_false_iff_not, not_false_eq_true, hN, hop, hlt]
  · obtain ⟨σ', e, hl⟩ := law_15 h d hi
    refine ⟨σ', Eq.trans ?_ e, hl⟩
    rw [hL_law_18]
    simp (disch := omega) only [kL_law_0, kL_law_1, kL_law_2, kL_law_3, kL_law_4, kL_law_5, kL_law_6, kL_law_7, kL_law_8, kL_law_9, kL_law_10, kL_law_11, kL_law_12, kL_law_13, kL_law_14, kL_law_15, kL_law_16, kL_law_17, kL_law_18, kL_law_19, eq_self, Nat.reduceEqDiff, Nat.one_ne_zero, Nat.zero_ne_one, z_0, z_lt, z_le, z_eq, z_add, z_mul, z_inb, z_cl, z_b0, z_b1, z_b01, z_b010, z_b011, kb_v, kb_n, List.cons_append, List.nil_append, if_true, if_false, ↓reduceIte, Bool.false_eq_true, Bool.true_eq_false, decide_eq_true_eq, decide_eq_false_iff_not, not_false_eq_true, hN, hop, hlt]
  · obtain ⟨σ', e, hl⟩ := law_16 h d hi
    refine ⟨σ', Eq.trans ?_ e, hl⟩
    rw [hL_law_18]
    simp (disch := omega) only [kL_law_0, kL_law_1, kL_law_2, kL_law_3, kL_law_4, kL_law_5, kL_law_6, kL_law_7, kL_law_8, kL_law_9, kL_law_10, kL_law_11, kL_law_12, kL_law_13, kL_law_14, kL_law_15, kL_law_16, kL_law_17, kL_law_18, kL_law_19, eq_self, Nat.reduceEqDiff, Nat.one_ne_zero, Nat.zero_ne_one, z_0, z_lt, z_le, z_eq, z_add, z_mul, z_inb, z_cl, z_b0, z_b1, z_b01, z_b010, z_b011, kb_v, kb_n, List.cons_append, List.nil_append, if_true, if_false, ↓reduceIte, Bool.false_eq_true, Bool.true_eq_false, decide_eq_true_eq, decide_eq_false_iff_not, not_false_eq_true, hN, hop, hlt]
  · obtain ⟨σ', e, hl⟩ := law_17 h d hi
    refine ⟨σ', Eq.trans ?_ e, hl⟩
    rw [hL_law_18]
    simp (disch := omega) only [kL_law_0, kL_law_1, kL_law_2, kL_law_3, kL_law_4, kL_law_5, kL_law_6, kL_law_7, kL_law_8, kL_law_9, kL_law_10, kL_law_11, kL_law_12, kL_law_13, kL_law_14, kL_law_15, kL_law_16, kL_law_17, kL_law_18, kL_law_19, eq_self, Nat.reduceEqDiff, Nat.one_ne_zero, Nat.zero_ne_one, z_0, z_lt, z_le, z_eq, z_add, z_mul, z_inb, z_cl, z_b0, z_b1, z_b01, z_b010, z_b011, kb_v, kb_n, List.cons_append, List.nil_append, if_true, if_false, ↓reduceIte, Bool.false_eq_true, Bool.true_eq_false, decide_eq_true_eq, decide_eq_false_iff_not, not_false_eq_true, hN, hop, hlt]
  · obtain ⟨σ', e, hl⟩ := law_18 h d hi
    refine ⟨σ', Eq.trans ?_ e, hl⟩
    rw [hL_law_18]
    simp (disch := omega) only [kL_law_0, kL_law_1, kL_law_2, kL_law_3, kL_law_4, kL_law_5, kL_law_6, kL_law_7, kL_law_8, kL_law_9, kL_law_10, kL_law_11, kL_law_12, kL_law_13, kL_law_14, kL_law_15, kL_law_16, kL_law_17, kL_law_18, kL_law_19, eq_self, Nat.reduceEqDiff, Nat.one_ne_zero, Nat.zero_ne_one, z_0, z_lt, z_le, z_eq, z_add, z_mul, z_inb, z_cl, z_b0, z_b1, z_b01, z_b010, z_b011, kb_v, kb_n, List.cons_append, List.nil_append, if_true, if_false, ↓reduceIte, Bool.false_eq_true, Bool.true_eq_false, decide_eq_true_eq, decide_eq_false_iff_not, not_false_eq_true, hN, hop, hlt]
  · obtain ⟨σ', e, hl⟩ := law_19 h d hi
    refine ⟨σ', Eq.trans ?_ e, hl⟩
    rw [hL_law_18]
    simp (disch := omega) only [kL_law_0, kL_law_1, kL_law_2, kL_law_3, kL_law_4, kL_law_5, kL_law_6, kL_law_7, kL_law_8, kL_law_9, kL_law_10, kL_law_11, kL_law_12, kL_law_13, kL_law_14, kL_law_15, kL_law_16, kL_law_17, kL_law_18, kL_law_19, eq_self, Nat.reduceEqDiff, Nat.one_ne_zero, Nat.zero_ne_one, z_0, z_lt, z_le, z_eq, z_add, z_mul, z_inb, z_cl, z_b0, z_b1, z_b01, z_b010, z_b011, kb_v, kb_n, List.cons_append, List.nil_append, if_true, if_false, ↓reduceIte, Bool.false_eq_true, Bool.true_eq_false, decide_eq_true_eq, decide_eq_false_iff_not, not_false_eq_true, hN, hop, hlt]
  · obtain ⟨σ', e, hl⟩ := law_20 h d hi
    refine ⟨σ', Eq.trans ?_ e, hl⟩
    rw [hL_law_18]
    simp (disch := omega) only [kL_law_0, kL_law_1, kL_law_2, kL_law_3, kL_law_4, kL_law_5, kL_law_6, kL_law_7, kL_law_8, kL_law_9, kL_law_10, kL_law_11, kL_law_12, kL_law_13, kL_law_14, kL_law_15, kL_law_16, kL_law_17, kL_law_18, kL_law_19, eq_self, Nat.reduceEqDiff, Nat.one_ne_zero, Nat.zero_ne_one, z_0, z_lt, z_le, z_eq, z_add, z_mul, z_inb, z_cl, z_b0, z_b1, z_b01, z_b010, z_b011, kb_v, kb_n, List.cons_append, List.nil_append, if_true, if_false, ↓reduceIte, Bool.false_eq_true, Bool.true_eq_false, decide_eq_true_eq, decide_eq_false_iff_not, not_false_eq_true, hN, hop, hlt]
  · obtain ⟨σ', e, hl⟩ := law_21 h d hi
    refine ⟨σ', Eq.trans ?_ e, hl⟩
    rw [hL_law_18]
    simp (disch := omega) only [kL_law_0, kL_law_1, kL_law_2, kL_law_3, kL_law_4, kL_law_5, kL_law_6, kL_law_7, kL_law_8, kL_law_9, kL_law_10, kL_law_11, kL_law_12, kL_law_13, kL_law_14, kL_law_15, kL_law_16, kL_law_17, kL_law_18, kL_law_19, eq_self, Nat.reduceEqDiff, Nat.one_ne_zero, Nat.zero_ne_one, z_0, z_lt, z_le, z_eq, z_add, z_mul, z_inb, z_cl, z_b0, z_b1, z_b01, z_b010, z_b011, kb_v, kb_n, List.cons_append, List.nil_append, if_true, if_false, ↓reduceIte, Bool.false_eq_true, Bool.true_eq_false, decide_eq_true_eq, decide_eq_false_iff_not, not_false_eq_true, hN, hop, hlt]
  · obtain ⟨σ', e, hl⟩ := law_22 h d hi
    refine ⟨σ', Eq.trans ?_ e, hl⟩
    rw [hL_law_18]
    simp (disch := omega) only [kL_law_0, kL_law_1, kL_law_2, kL_law_3, kL_law_4, kL_law_5, kL_law_6, kL_law_7, kL_law_8, kL_law_9, kL_law_10, kL_law_11, kL_law_12, kL_law_13, kL_law_14, kL_law_15, kL_law_16, kL_law_17, kL_law_18, kL_law_19, eq_self, Nat.reduceEqDiff, Nat.one_ne_zero, Nat.zero_ne_one, z_0, z_lt, z_le, z_eq, z_add, z_mul, z_inb, z_cl, z_b0, z_b1, z_b01, z_b010, z_b011, kb_v, kb_n, List.cons_append, List.nil_append, if_true, if_false, ↓reduceIte, Bool.false_eq_true, Bool.true_eq_false, decide_eq_true_eq, decide_eq_false_iff_not, not_false_eq_true, hN, hop, hlt]
  · obtain ⟨σ', e, hl⟩ := law_23 h d hi
    refine ⟨σ', Eq.trans ?_ e, hl⟩
    rw [hL_law_18]
    simp (disch := omega) only [kL_law_0, kL_law_1, kL_law_2, kL_law_3, kL_law_4, kL_law_5, kL_law_6, kL_law_7, kL_law_8, kL_law_9, kL_law_10, kL_law_11, kL_law_12, kL_law_13, kL_law_14, kL_law_15, kL_law_16, kL_law_17, kL_law_18, kL_law_19, eq_self, Nat.reduceEqDiff, Nat.one_ne_zero, Nat.zero_ne_one, z_0, z_lt, z_le, z_eq, z_add, z_mul, z_inb, z_cl, z_b0, z_b1, z_b01, z_b010, z_b011, kb_v, kb_n, List.cons_append, List.nil_append, if_true, if_false, ↓reduceIte, Bool.false_eq_true, Bool.true_eq_false, decide_eq_true_eq, decide_eq_false_iff_not, not_false_eq_true, hN, hop, hlt]
  · obtain ⟨σ', e, hl⟩ := law_24 h d hi
    refine ⟨σ', Eq.trans ?_ e, hl⟩
    rw [hL_law_18]
    simp (disch := omega) only [kL_law_0, kL_law_1, kL_law_2, kL_law_3, kL_law_4, kL_law_5, kL_law_6, kL_law_7, kL_law_8, kL_law_9, kL_law_10, kL_law_11, kL_law_12, kL_law_13, kL_law_14, kL_law_15, kL_law_16, kL_law_17, kL_law_18, kL_law_19, eq_self, Nat.reduceEqDiff, Nat.one_ne_zero, Nat.zero_ne_one, z_0, z_lt, z_le, z_eq, z_add, z_mul, z_inb, z_cl, z_b0, z_b1, z_b01, z_b010, z_b011, kb_v, kb_n, List.cons_append, List.nil_append, if_true, if_false, ↓reduceIte, Bool.false_eq_true, Bool.true_eq_false, decide_eq_true_eq, decide_eq_false_iff_not, not_false_eq_true, hN, hop, hlt]
  · obtain ⟨σ', e, hl⟩ := law_25 h d hi
    refine ⟨σ', Eq.trans ?_ e, hl⟩
    rw [hL_law_18]
    simp (disch := omega) only [kL_law_0, kL_law_1, kL_law_2, kL_law_3, kL_law_4, kL_law_5, kL_law_6, kL_law_7, kL_law_8, kL_law_9, kL_law_10, kL_law_11, kL_law_12, kL_law_13, kL_law_14, kL_law_15, kL_law_16, kL_law_17, kL_law_18, kL_law_19, eq_self, Nat.reduceEqDiff, Nat.one_ne_zero, Nat.zero_ne_one, z_0, z_lt, z_le, z_eq, z_add, z_mul, z_inb, z_cl, z_b0, z_b1, z_b01, z_b010, z_b011, kb_v, kb_n, List.cons_append, List.nil_append, if_true, if_false, ↓reduceIte, Bool.false_eq_true, Bool.true_eq_false, decide_eq_true_eq, decide_eq_false_iff_not, not_false_eq_true, hN, hop, hlt]
  · obtain ⟨σ', e, hl⟩ := law_26 h d hi
    refine ⟨σ', Eq.trans ?_ e, hl⟩
    rw [hL_law_18]
    simp (disch := omega) only [kL_law_0, kL_law_1, kL_law_2, kL_law_3, kL_law_4, kL_law_5, kL_law_6, kL_law_7, kL_law_8, kL_law_9, kL_law_10, kL_law_11, kL_law_12, kL_law_13, kL_law_14, kL_law_15, kL_law_16, kL_law_17, kL_law_18, kL_law_19, eq_self, Nat.reduceEqDiff, Nat.one_ne_zero, Nat.zero_ne_one, z_0, z_lt, z_le, z_eq, z_add, z_mul, z_inb, z_cl, z_b0, z_b1, z_b01, z_b010, z_b011, kb_v, kb_n, List.cons_append, List.nil_append, if_true, if_false, ↓reduceIte, Bool.false_eq_true, Bool.true_eq_false, decide_eq_true_eq, decide_eq_false_iff_not, not_false_eq_true, hN, hop, hlt]
  · obtain ⟨σ', e, hl⟩ := law_27 h d hi
    refine ⟨σ', Eq.trans ?_ e, hl⟩
    rw [hL_law_18]
    simp (disch := omega) only [kL_law_0, kL_law_1, kL_law_2, kL_law_3, kL_law_4, kL_law_5, kL_law_6, kL_law_7, kL_law_8, kL_law_9, kL_law_10, kL_law_11, kL_law_12, kL_law_13, kL_law_14, kL_law_15, kL_law_16, kL_law_17, kL_law_18, kL_law_19, eq_self, Nat.reduceEqDiff, Nat.one_ne_zero, Nat.zero_ne_one, z_0, z_lt, z_le, z_eq, z_add, z_mul, z_inb, z_cl, z_b0, z_b1, z_b01, z_b010, z_b011, kb_v, kb_n, List.cons_append, List.nil_append, if_true, if_false, ↓reduceIte, Bool.false_eq_true, Bool.true_eq_false, decide_eq_true_eq, decide_eq_false_iff_not, not_false_eq_true, hN, hop, hlt]
  · obtain ⟨σ', e, hl⟩ := law_28 h d hi
    refine ⟨σ', Eq.trans ?_ e, hl⟩
    rw [hL_law_18]
    simp (disch := omega) only [kL_law_0, kL_law_1, kL_law_2, kL_law_3, kL_law_4, kL_law_5, kL_law_6, kL_law_7, kL_law_8, kL_law_9, kL_law_10, kL_law_11, kL_law_12, kL_law_13, kL_law_14, kL_law_15, kL_law_16, kL_law_17, kL_law_18, kL_law_19, eq_self, Nat.reduceEqDiff, Nat.one_ne_zero, Nat.zero_ne_one, z_0, z_lt, z_le, z_eq, z_add, z_mul, z_inb, z_cl, z_b0, z_b1, z_b01, z_b010, z_b011, kb_v, kb_n, List.cons_append, List.nil_append, if_true, if_false, ↓reduceIte, Bool.false_eq_true, Bool.true_eq_false, decide_eq_true_eq, decide_eq_false_iff_not, not_false_eq_true, hN, hop, hlt]
  · obtain ⟨σ', e, hl⟩ := law_29 h d hi
    refine ⟨σ', Eq.trans ?_ e, hl⟩
    rw [hL_law_18]
    simp (disch := omega) only [kL_law_0, kL_law_1, kL_law_2, kL_law_3, kL_law_4, kL_law_5, kL_law_6, kL_law_7, kL_law_8, kL_law_9, kL_law_10, kL_law_11, kL_law_12, kL_law_13, kL_law_14, kL_law_15, kL_law_16, kL_law_17, kL_law_18, kL_law_19, eq_self, Nat.reduceEqDiff, Nat.one_ne_zero, Nat.zero_ne_one, z_0, z_lt, z_le, z_eq, z_add, z_mul, z_inb, z_cl, z_b0, z_b1, z_b01, z_b010, z_b011, kb_v, kb_n, List.cons_append, List.nil_append, if_true, if_false, ↓reduceIte, Bool.false_eq_true, Bool.true_eq_false, decide_eq_true_eq, decide_eq_false_iff_not, not_false_eq_true, hN, hop, hlt]
  · obtain ⟨σ', e, hl⟩ := law_30 h d hi
    refine ⟨σ', Eq.trans ?_ e, hl⟩
    rw [hL_law_18]
    simp (disch := omega) only [kL_law_0, kL_law_1, kL_law_2, kL_law_3, kL_law_4, kL_law_5, kL_law_6, kL_law_7, kL_law_8, kL_law_9, kL_law_10, kL_law_11, kL_law_12, kL_law_13, kL_law_14, kL_law_15, kL_law_16, kL_law_17, kL_law_18, kL_law_19, eq_self, Nat.reduceEqDiff, Nat.one_ne_zero, Nat.zero_ne_one, z_0, z_lt, z_le, z_eq, z_add, z_mul, z_inb, z_cl, z_b0, z_b1, z_b01, z_b010, z_b011, kb_v, kb_n, List.cons_append, List.nil_append, if_true, if_false, ↓reduceIte, Bool.false_eq_true, Bool.true_eq_false, decide_eq_true_eq, decide_eq_false_iff_not, not_false_eq_true, hN, hop, hlt]
  · obtain ⟨σ', e, hl⟩ := law_31 h d hi
    refine ⟨σ', Eq.trans ?_ e, hl⟩
    rw [hL_law_18]
    simp (disch := omega) only [kL_law_0, kL_law_1, kL_law_2, kL_law_3, kL_law_4, kL_law_5, kL_law_6, kL_law_7, kL_law_8, kL_law_9, kL_law_10, kL_law_11, kL_law_12, kL_law_13, kL_law_14, kL_law_15, kL_law_16, kL_law_17, kL_law_18, kL_law_19, eq_self, Nat.reduceEqDiff, Nat.one_ne_zero, Nat.zero_ne_one, z_0, z_lt, z_le, z_eq, z_add, z_mul, z_inb, z_cl, z_b0, z_b1, z_b01, z_b010, z_b011, kb_v, kb_n, List.cons_append, List.nil_append, if_true, if_false, ↓reduceIte, Bool.false_eq_true, Bool.true_eq_false, decide_eq_true_eq, decide_eq_false_iff_not, not_false_eq_true, hN, hop, hlt]
  · obtain ⟨σ', e, hl⟩ := law_32 h d hi
    refine ⟨σ', Eq.trans ?_ e, hl⟩
    rw [hL_law_18]
    simp (disch := omega) only [kL_law_0, kL_law_1, kL_law_2, kL_law_3, kL_law_4, kL_law_5, kL_law_6, kL_law_7, kL_law_8, kL_law_9, kL_law_10, kL_law_11, kL_law_12, kL_law_13, kL_law_14, kL_law_15, kL_law_16, kL_law_17, kL_law_18, kL_law_19, eq_self, Nat.reduceEqDiff, Nat.one_ne_zero, Nat.zero_ne_one, z_0, z_lt, z_le, z_eq, z_add, z_mul, z_inb, z_cl, z_b0, z_b1, z_b01, z_b010, z_b011, kb_v, kb_n, List.cons_append, List.nil_append, if_true, if_false, ↓reduceIte, Bool.false_eq_true, Bool.true_eq_false, decide_eq_true_eq, decide_eq_false_iff_not, not_false_eq_true, hN, hop, hlt]
  · obtain ⟨σ', e, hl⟩ := law_33 h d hi
    refine ⟨σ', Eq.trans ?_ e, hl⟩
    rw [hL_law_18]
    simp (disch := omega) only [kL_law_0, kL_law_1, kL_law_2, kL_law_3, kL_law_4, kL_law_5, kL_law_6, kL_law_7, kL_law_8, kL_law_9, kL_law_10, kL_law_11, kL_law_12, kL_law_13, kL_law_14, kL_law_15, kL_law_16, kL_law_17, kL_law_18, kL_law_19, eq_self, Nat.reduceEqDiff, Nat.one_ne_zero, Nat.zero_ne_one, z_0, z_lt, z_le, z_eq, z_add, z_mul, z_inb, z_cl, z_b0, z_b1, z_b01, z_b010, z_b011, kb_v, kb_n, List.cons_append, List.nil_append, if_true, if_false, ↓reduceIte, Bool.false_eq_true, Bool.true_eq_false, decide_eq_true_eq, decide_eq_false_iff_not, not_false_eq_true, hN, hop, hlt]
  · obtain ⟨σ', e, hl⟩ := law_34 h d hi
    refine ⟨σ', Eq.trans ?_ e, hl⟩
    rw [hL_law_18]
    simp (disch := omega) only [kL_law_0, kL_law_1, kL_law_2, kL_law_3, kL_law_4, kL_law_5, kL_law_6, kL_law_7, kL_law_8, kL_law_9, kL_law_10, kL_law_11, kL_law_12, kL_law_13, kL_law_14, kL_law_15, kL_law_16, kL_law_17, kL_law_18, kL_law_19, eq_self, Nat.reduceEqDiff, Nat.one_ne_zero, Nat.zero_ne_one, z_0, z_lt, z_le, z_eq, z_add, z_mul, z_inb, z_cl, z_b0, z_b1, z_b01, z_b010, z_b011, kb_v, kb_n, List.cons_append, List.nil_append, if_true, if_false, ↓reduceIte, Bool.false_eq_true, Bool.true_eq_false, decide_eq_true_eq, decide_eq_false_iff_not, not_false_eq_true, hN, hop, hlt]
  · refine ⟨σ, ?_, h⟩
    have f0 : (op = 0) = False := eq_false (by omega)
    have f1 : (op = 1) = False := eq_false (by omega)
    have f2 : (op = 2) = False := eq_false (by omega)
    have f3 : (op = 3) = False := eq_false (by omega)
    have f4 : (op = 4) = False := eq_false (by omega)
    have f5 : (op = 5) = False := eq_false (by omega)
    have f6 : (op = 6) = False := eq_false (by omega)
    have f7 : (op = 7) = False := eq_false (by omega)
    have f8 : (op = 8) = False := eq_false (by omega)
    have f9 : (op = 9) = False := eq_false (by omega)
    have f10 : (op = 10) = False := eq_false (by omega)
    have f11 : (op = 11) = False := eq_false (by omega)
    have f12 : (op = 12) = False := eq_false (by omega)
    have f13 : (op = 13) = False := eq_false (by omega)
    have f14 : (op = 14) = False := eq_false (by omega)
    have f15 : (op = 15) = False := eq_false (by omega)
    have f16 : (op = 16) = False := eq_false (by omega)
    have f17 : (op = 17) = False := eq_false (by omega)
    have f18 : (op = 18) = False := eq_false (by omega)
    have f19 : (op = 19) = False := eq_false (by omega)
    have f20 : (op = 20) = False := eq_false (by omega)
    have f21 : (op = 21) = False := eq_false (by omega)
    have f22 : (op = 22) = False := eq_false (by omega)
    have f23 : (op = 23) = False := eq_false (by omega)
    have f24 : (op = 24) = False := eq_false (by omega)
    have f25 : (op = 25) = False := eq_false (by omega)
    have f26 : (op = 26) = False := eq_false (by omega)
    have f27 : (op = 27) = False := eq_false (by omega)
    have f28 : (op = 28) = False := eq_false (by omega)
    have f29 : (op = 29) = False := eq_false (by omega)
    have f30 : (op = 30) = False := eq_false (by omega)
    have f31 : (op = 31) = False := eq_false (by omega)
    have f32 : (op = 32) = False := eq_false (by omega)
    have f33 : (op = 33) = False := eq_false (by omega)
    have f34 : (op = 34) = False := eq_false (by omega)
    rw [hL_law_18]
    simp (disch := omega) only [kL_law_0, kL_law_1, kL_law_2, kL_law_3, kL_law_4, kL_law_5, kL_law_6, kL_law_7, kL_law_8, kL_law_9, kL_law_10, kL_law_11, kL_law_12, kL_law_13, kL_law_14, kL_law_15, kL_law_16, kL_law_17, kL_law_18, kL_law_19, eq_self, Nat.reduceEqDiff, Nat.one_ne_zero, Nat.zero_ne_one, z_0, z_lt, z_le, z_eq, z_add, z_mul, z_inb, z_cl, z_b0, z_b1, z_b01, z_b010, z_b011, kb_v, kb_n, List.cons_append, List.nil_append, if_true, if_false, ↓reduceIte, Bool.false_eq_true, Bool.true_eq_false, decide_eq_true_eq, decide_eq_false_iff_not, not_false_eq_true, hN, hop, hlt, f0, f1, f2, f3, f4, f5, f6, f7, f8, f9, f10, f11, f12, f13, f14, f15, f16, f17, f18, f19, f20, f21, f22, f23, f24, f25, f26, f27, f28, f29, f30, f31, f32, f33, f34]
theorem law_loop {N : Nat} (d : Nat) : ∀ m i (σ : Sg), N ≤ i + m → i ≤ N → LwS σ N → ∃ σ', exec (d + 30) mL_law 18 [.ref 66, .ref 0, .ref 50, .int (nI i)] [] σ = some (some (.int (nI 1)), σ')
  | m, i, σ, hm, hi, h => by
    have hN := h.2.1
    have hNl := h.2.2
    by_cases q : i + 6 ≤ N
    · match m, hm with
      | 0, hm => omega
      | m + 1, hm =>
        obtain ⟨σ1, e1, h1⟩ := law_go h d q
        obtain ⟨σ2, e2⟩ := law_loop d m (i + 6) σ1 (by omega) q h1
        exact ⟨σ2, e1.trans e2⟩
    · refine ⟨σ, ?_⟩
      have hlt : (nI N - nI 6 < nI i) = True := eq_true (by rw [lt_I, sub6 hNl, z_tI (by omega)]; omega)
      rw [hL_law_18]
      simp (disch := omega) only [kL_law_0, kL_law_1, kL_law_2, kL_law_3, kL_law_4, kL_law_5, kL_law_6, kL_law_7, kL_law_8, kL_law_9, kL_law_10, kL_law_11, kL_law_12, kL_law_13, kL_law_14, kL_law_15, kL_law_16, kL_law_17, kL_law_18, kL_law_19, eq_self, Nat.reduceEqDiff, Nat.one_ne_zero, Nat.zero_ne_one, z_0, z_lt, z_le, z_eq, z_add, z_mul, z_inb, z_cl, z_b0, z_b1, z_b01, z_b010, z_b011, kb_v, kb_n, List.cons_append, List.nil_append, if_true, if_false, ↓reduceIte, Bool.false_eq_true, Bool.true_eq_false, decide_eq_true_eq, decide_eq_false_iff_not, not_false_eq_true, hN, hlt]
