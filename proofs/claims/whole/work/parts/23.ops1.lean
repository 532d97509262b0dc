/-! calls that only read -/
theorem b_fault : BO mX6_fault mX7_fault [] := by
  rintro ⟨T, I0, I1, A, rz, rl, it, tn, tp, ft, fs, cn, ct⟩ ok
  refine ⟨.int (nI ft), _, fun σ d h => ⟨σ, ?_, h, fun _ _ => rfl⟩, fun σ d h => ⟨σ, ?_, h, fun _ _ => rfl⟩, ok⟩
  · rw [aX6_fault_0]
    simp only [kX6_fault, show σ 0 9 = nI ft from h.2.2.2.2.2.2.1]
  · rw [aX7_fault_50]
    simp only [kX7_fault, show σ 50 10 = nI ft from h.2.2.2.2.2.2.2.1]
theorem b_status : BO mX6_status mX7_status [] := by
  rintro ⟨T, I0, I1, A, rz, rl, it, tn, tp, ft, fs, cn, ct⟩ ok
  refine ⟨.int (nI fs), _, fun σ d h => ⟨σ, ?_, h, fun _ _ => rfl⟩, fun σ d h => ⟨σ, ?_, h, fun _ _ => rfl⟩, ok⟩
  · rw [aX6_status_0]
    simp only [kX6_status, show σ 0 10 = nI fs from h.2.2.2.2.2.2.2.1]
  · rw [aX7_status_50]
    simp only [kX7_status, show σ 50 7 = nI fs from h.2.2.2.2.2.2.2.2.1]
theorem b_kind (a : Int32) : BO mX6_kind mX7_kind [.int a] := by
  rintro ⟨T, I0, I1, A, rz, rl, it, tn, tp, ft, fs, cn, ct⟩ ok
  have w : WF T := ok.1
  have w1 := w.1
  by_cases ha : isin a (T 7) = true
  · obtain ⟨p, hp, rfl⟩ := (isin_t (by omega)).mp ha
    refine ⟨.int (nI (T (9 + p))), _, fun σ d h => ⟨σ, ?_, h, fun _ _ => rfl⟩, fun σ d h => ⟨σ, ?_, h, fun _ _ => rfl⟩, ok⟩
    · have hT : XT σ 8 T := h.1
      rw [aX6_kind_0]
      simp (disch := omega) only [kX6_kind, eq_self, Nat.reduceEqDiff, Nat.one_ne_zero, Nat.zero_ne_one, z_0, z_lt, z_le, z_eq, z_add, z_mul, z_inb, z_cl, z_b0, z_b1, z_b01, z_b010, z_b011, kb_v, kb_n, List.cons_append, List.nil_append, if_true, if_false, ↓reduceIte, Bool.false_eq_true, Bool.true_eq_false, decide_eq_true_eq, decide_eq_false_iff_not, not_false_eq_true, x_isPart hT w, ha, XT8 hT]
    · have hT : MT σ 0 T := h.1
      rw [aX7_kind_50]
      simp (disch := omega) only [kX7_kind, eq_self, Nat.reduceEqDiff, Nat.one_ne_zero, Nat.zero_ne_one, z_0, z_lt, z_le, z_eq, z_add, z_mul, z_inb, z_cl, z_b0, z_b1, z_b01, z_b010, z_b011, kb_v, kb_n, List.cons_append, List.nil_append, if_true, if_false, ↓reduceIte, Bool.false_eq_true, Bool.true_eq_false, decide_eq_true_eq, decide_eq_false_iff_not, not_false_eq_true, m_isPart hT w, ha, MT0 hT]
  · have ha : isin a (T 7) = false := by simpa using ha
    refine ⟨.int (-1000001), _, fun σ d h => ⟨σ, ?_, h, fun _ _ => rfl⟩, fun σ d h => ⟨σ, ?_, h, fun _ _ => rfl⟩, ok⟩
    · have hT : XT σ 8 T := h.1
      rw [aX6_kind_0]
      simp (disch := omega) only [kX6_kind, eq_self, Nat.reduceEqDiff, Nat.one_ne_zero, Nat.zero_ne_one, z_0, z_lt, z_le, z_eq, z_add, z_mul, z_inb, z_cl, z_b0, z_b1, z_b01, z_b010, z_b011, kb_v, kb_n, List.cons_append, List.nil_append, if_true, if_false, ↓reduceIte, Bool.false_eq_true, Bool.true_eq_false, decide_eq_true_eq, decide_eq_false_iff_not, not_false_eq_true, x_isPart hT w, ha]
    · have hT : MT σ 0 T := h.1
      rw [aX7_kind_50]
      simp (disch := omega) only [kX7_kind, eq_self, Nat.reduceEqDiff, Nat.one_ne_zero, Nat.zero_ne_one, z_0, z_lt, z_le, z_eq, z_add, z_mul, z_inb, z_cl, z_b0, z_b1, z_b01, z_b010, z_b011, kb_v, kb_n, List.cons_append, List.nil_append, if_true, if_false, ↓reduceIte, Bool.false_eq_true, Bool.true_eq_false, decide_eq_true_eq, decide_eq_false_iff_not, not_false_eq_true, m_isPart hT w, ha]
theorem b_part (a b : Int32) : BO mX6_part mX7_part [.int a, .int b] := by
  rintro ⟨T, I0, I1, A, rz, rl, it, tn, tp, ft, fs, cn, ct⟩ ok
  have w : WF T := ok.1
  have w1 := w.1
  by_cases ha : isin a (T 7) = true
  · obtain ⟨p, hp, rfl⟩ := (isin_t (by omega)).mp ha
    have wp := w.2.2.2.1 p hp
    have hc := cst_le w (sk := T 0) hp
    refine ⟨.int (if b = nI 0 then nI (T (16 + p)) else if b = nI 1 then nI (T (23 + p)) else if b = nI 2 then (if T (30 + p) = 7 then -1000000 else nI (T (30 + p))) else if b = nI 3 then nI ((T 3).testBit p).toNat else if b = nI 4 then nI ((T 4).testBit p).toNat else if b = nI 5 then nI (cst T p (T 0)) else if b = nI 6 then nI (flt T p (T 0)).toNat else if b = nI 7 then nI (may T p (T 3) (T 0) (T 1) (T 2)).toNat else -1000001), _, fun σ d h => ⟨σ, ?_, h, fun _ _ => rfl⟩, fun σ d h => ⟨σ, ?_, h, fun _ _ => rfl⟩, ok⟩
    · have hT : XT σ 8 T := h.1
      rw [aX6_part_0]
      simp (disch := omega) only [kX6_part_0, kX6_part_1, kX6_part_2, eq_self, Nat.reduceEqDiff, Nat.one_ne_zero, Nat.zero_ne_one, z_0, z_lt, z_le, z_eq, z_add, z_mul, z_inb, z_cl, z_b0, z_b1, z_b01, z_b010, z_b011, kb_v, kb_n, List.cons_append, List.nil_append, if_true, if_false, ↓reduceIte, Bool.false_eq_true, Bool.true_eq_false, decide_eq_true_eq, decide_eq_false_iff_not, not_false_eq_true, x_isPart hT w, ha, XT8 hT, e_bit, e_taken, e_flawed, x_mayBuild_8 hT w]
      (repeat' split) <;> first | rfl | (exfalso; omega) | (cases hq : flt T p (T 0) <;> simp_all [flt]; done) | (cases hq : may T p (T 3) (T 0) (T 1) (T 2) <;> simp_all; done)
    · have hT : MT σ 0 T := h.1
      rw [aX7_part_50]
      simp (disch := omega) only [kX7_part_0, kX7_part_1, kX7_part_2, eq_self, Nat.reduceEqDiff, Nat.one_ne_zero, Nat.zero_ne_one, z_0, z_lt, z_le, z_eq, z_add, z_mul, z_inb, z_cl, z_b0, z_b1, z_b01, z_b010, z_b011, kb_v, kb_n, List.cons_append, List.nil_append, if_true, if_false, ↓reduceIte, Bool.false_eq_true, Bool.true_eq_false, decide_eq_true_eq, decide_eq_false_iff_not, not_false_eq_true, m_isPart hT w, ha, MT0 hT, z_bit, m_takesNow hT w, m_isFaultyNow hT w, m_mayNow hT w]
      (repeat' split) <;> first | rfl | (exfalso; omega) | (cases hq : flt T p (T 0) <;> simp_all [flt]; done) | (cases hq : may T p (T 3) (T 0) (T 1) (T 2) <;> simp_all; done)
  · have ha : isin a (T 7) = false := by simpa using ha
    refine ⟨.int (-1000001), _, fun σ d h => ⟨σ, ?_, h, fun _ _ => rfl⟩, fun σ d h => ⟨σ, ?_, h, fun _ _ => rfl⟩, ok⟩
    · have hT : XT σ 8 T := h.1
      rw [aX6_part_0]
      simp (disch := omega) only [kX6_part_0, kX6_part_1, kX6_part_2, eq_self, Nat.reduceEqDiff, Nat.one_ne_zero, Nat.zero_ne_one, z_0, z_lt, z_le, z_eq, z_add, z_mul, z_inb, z_cl, z_b0, z_b1, z_b01, z_b010, z_b011, kb_v, kb_n, List.cons_append, List.nil_append, if_true, if_false, ↓reduceIte, Bool.false_eq_true, Bool.true_eq_false, decide_eq_true_eq, decide_eq_false_iff_not, not_false_eq_true, x_isPart hT w, ha]
    · have hT : MT σ 0 T := h.1
      rw [aX7_part_50]
      simp (disch := omega) only [kX7_part_0, kX7_part_1, kX7_part_2, eq_self, Nat.reduceEqDiff, Nat.one_ne_zero, Nat.zero_ne_one, z_0, z_lt, z_le, z_eq, z_add, z_mul, z_inb, z_cl, z_b0, z_b1, z_b01, z_b010, z_b011, kb_v, kb_n, List.cons_append, List.nil_append, if_true, if_false, ↓reduceIte, Bool.false_eq_true, Bool.true_eq_false, decide_eq_true_eq, decide_eq_false_iff_not, not_false_eq_true, m_isPart hT w, ha]
