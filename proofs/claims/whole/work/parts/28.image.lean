/-! feed, count, images -/
theorem b_feed (a : Int32) : BO mX6_feed mX7_feed [.int a] := by
  rintro ⟨T, I0, I1, A, rz, rl, it, tn, tp, ft, fs, cn, ct⟩ ok
  have htn : tn ≤ 120 := ok.2.2.2.2.2.2.1
  by_cases ha : isin a 256 = true
  · obtain ⟨x, hx, rfl⟩ := (isin_t (by omega)).mp ha
    by_cases hf : tn = 120
    · refine ⟨.int (-1000003), _, XO_id fun σ d h => ?_, MO_id fun σ d h => ?_, ok⟩
      · have hp := h.2.2.2.2.2.1.1
        rw [aX6_feed_0]
        simp (disch := omega) only [kX6_feed, eq_self, Nat.reduceEqDiff, Nat.one_ne_zero, Nat.zero_ne_one, z_0, z_lt, z_le, z_eq, z_add, z_mul, z_inb, z_cl, z_b0, z_b1, z_b01, z_b010, z_b011, kb_v, kb_n, List.cons_append, List.nil_append, if_true, if_false, ↓reduceIte, Bool.false_eq_true, Bool.true_eq_false, decide_eq_true_eq, decide_eq_false_iff_not, not_false_eq_true, hp]
        repeat first | rw [if_neg (by omega)] | rw [if_pos (by omega)]
      · have hp := h.2.2.2.2.2.2.1.1
        rw [aX7_feed_50]
        simp (disch := omega) only [kX7_feed, eq_self, Nat.reduceEqDiff, Nat.one_ne_zero, Nat.zero_ne_one, z_0, z_lt, z_le, z_eq, z_add, z_mul, z_inb, z_cl, z_b0, z_b1, z_b01, z_b010, z_b011, kb_v, kb_n, List.cons_append, List.nil_append, if_true, if_false, ↓reduceIte, Bool.false_eq_true, Bool.true_eq_false, decide_eq_true_eq, decide_eq_false_iff_not, not_false_eq_true, hp, m_in, lN_tI, Int32.toInt_toInt64, z_tI]
        repeat first | rw [if_neg (by omega)] | rw [if_pos (by omega)]
    · refine ⟨.int (nI (tn + 1)), (T, I0, I1, A, rz, rl, it, tn + 1, sR tp tn x, ft, fs, cn, ct), fun σ d h => ?_, fun σ d h => ?_, ?_⟩
      · obtain ⟨g1, g2, g3, g4, g5, ⟨p1, p2⟩, g7, g8, g9⟩ := h
        refine ⟨up (up σ 7 tn (nI x)) 6 1 (nI (tn + 1)), ?_, ⟨XT_cg g1 (fun a _ _ => ?_), XT_cg g2 (fun a _ _ => ?_), XT_cg g3 (fun a _ _ => ?_), ?_, ?_, ⟨up_s, fun j hj => ?_⟩, ?_, ?_, ?_⟩, fun a ha => ?_⟩
        · rw [aX6_feed_0]
          simp (disch := omega) only [kX6_feed, eq_self, Nat.reduceEqDiff, Nat.one_ne_zero, Nat.zero_ne_one, z_0, z_lt, z_le, z_eq, z_add, z_mul, z_inb, z_cl, z_b0, z_b1, z_b01, z_b010, z_b011, kb_v, kb_n, List.cons_append, List.nil_append, if_true, if_false, ↓reduceIte, Bool.false_eq_true, Bool.true_eq_false, decide_eq_true_eq, decide_eq_false_iff_not, not_false_eq_true, p1]
          repeat first | rw [if_neg (by omega)] | rw [if_pos (by omega)]
          rw [aX4_append_6]
          simp (disch := omega) only [kX4_append, kX6_feed, eq_self, Nat.reduceEqDiff, Nat.one_ne_zero, Nat.zero_ne_one, z_0, z_lt, z_le, z_eq, z_add, z_mul, z_inb, z_cl, z_b0, z_b1, z_b01, z_b010, z_b011, kb_v, kb_n, List.cons_append, List.nil_append, if_true, if_false, ↓reduceIte, Bool.false_eq_true, Bool.true_eq_false, decide_eq_true_eq, decide_eq_false_iff_not, not_false_eq_true, up_s, up_k, up_j, p1]
        · simp (disch := omega) only [up_of]
        · simp (disch := omega) only [up_of]
        · simp (disch := omega) only [up_of]
        · unfold XA; simp (disch := omega) only [up_of]; exact g4
        · unfold XW; simp (disch := omega) only [up_of]; exact g5
        · rw [up_of (by omega)]
          by_cases e : j = tn
          · subst e; rw [up_s, sR_s]
          · rw [up_j e, sR_n e]; exact p2 j (by omega)
        · simp (disch := omega) only [up_of]; exact g7
        · simp (disch := omega) only [up_of]; exact g8
        · unfold XC; simp (disch := omega) only [up_of]; exact g9
        · simp (disch := omega) only [up_of]
      · obtain ⟨g1, g2, g3, g4, g5, g6, ⟨p1, p2⟩, g8, g9, g10⟩ := h
        refine ⟨up (up σ 57 tn (nI x)) 50 9 (nI (tn + 1)), ?_, ⟨MT_same g1 ?_, MT_same g2 ?_, MT_same g3 ?_, ?_, ?_, ?_, ⟨up_s, fun j hj => ?_⟩, ?_, ?_, ?_⟩, fun a ha => ?_⟩
        · rw [aX7_feed_50]
          simp (disch := omega) only [kX7_feed, eq_self, Nat.reduceEqDiff, Nat.one_ne_zero, Nat.zero_ne_one, z_0, z_lt, z_le, z_eq, z_add, z_mul, z_inb, z_cl, z_b0, z_b1, z_b01, z_b010, z_b011, kb_v, kb_n, List.cons_append, List.nil_append, if_true, if_false, ↓reduceIte, Bool.false_eq_true, Bool.true_eq_false, decide_eq_true_eq, decide_eq_false_iff_not, not_false_eq_true, up_s, up_k, up_j, p1, m_in, lN_tI, Int32.toInt_toInt64, z_tI]
          repeat first | rw [if_neg (by omega)] | rw [if_pos (by omega)]
        · simp (disch := omega) only [up_of]
        · simp (disch := omega) only [up_of]
        · simp (disch := omega) only [up_of]
        · simp (disch := omega) only [up_of]; exact g4
        · unfold MA; simp (disch := omega) only [up_s, up_k, up_j, up_of]; exact g5
        · unfold MW; simp (disch := omega) only [up_of]; exact g6
        · rw [up_of (by omega)]
          by_cases e : j = tn
          · subst e; rw [up_s, sR_s]
          · rw [up_j e, sR_n e]; exact p2 j (by omega)
        · simp (disch := omega) only [up_s, up_k, up_j]; exact g8
        · simp (disch := omega) only [up_s, up_k, up_j]; exact g9
        · unfold MC; simp (disch := omega) only [up_s, up_k, up_j, up_of]; exact g10
        · simp (disch := omega) only [up_of]
      · obtain ⟨h1, h2, h3, h4, h5, h6, h7, h8, h9, h10, h11, h12⟩ := ok
        refine ⟨h1, h2, h3, h4, h5, h6, by omega, fun j hj => ?_, h9, h10, h11, h12⟩
        by_cases e : j = tn
        · subst e; rw [sR_s]; exact hx
        · rw [sR_n e]; exact h8 j (by omega)
  · have ha' : ¬ (0 ≤ a.toInt ∧ a.toInt < ((256 : Nat) : Int)) := fun q => ha (decide_eq_true q)
    refine ⟨.int (-1000001), _, XO_id fun σ d h => ?_, MO_id fun σ d h => ?_, ok⟩
    · rw [aX6_feed_0]
      simp (disch := omega) only [kX6_feed, lt_I, le_I, z_tI]
      (repeat' split) <;> first | rfl | (exfalso; omega)
    · rw [aX7_feed_50]
      simp (disch := omega) only [kX7_feed, eq_self, Nat.reduceEqDiff, Nat.one_ne_zero, Nat.zero_ne_one, z_0, z_lt, z_le, z_eq, z_add, z_mul, z_inb, z_cl, z_b0, z_b1, z_b01, z_b010, z_b011, kb_v, kb_n, List.cons_append, List.nil_append, if_true, if_false, ↓reduceIte, Bool.false_eq_true, Bool.true_eq_false, decide_eq_true_eq, decide_eq_false_iff_not, not_false_eq_true, m_in, lN_tI, Int32.toInt_toInt64]
      (repeat' split) <;> first | rfl | (exfalso; omega)
def hmr (rz : TT) : Nat := cnt (fun r => decide (rz r ≠ 0)) 8
theorem x_how_loop {σ : Sg} {rz rl : TT} {it : Nat → Nat → Int32} (h : XW σ rz rl it) (d : Nat) : ∀ m k, k + m = 8 → exec d mX3_howMany 4 [.ref 1, .int (nI (cnt (fun r => decide (rz r ≠ 0)) k)), .int (nI k)] [] σ = some (some (.int (nI (hmr rz))), σ)
  | 0, k, hk => by
    rw [hX3_howMany_4]
    simp (disch := omega) only [kX3_howMany, eq_self, Nat.reduceEqDiff, Nat.one_ne_zero, Nat.zero_ne_one, z_0, z_lt, z_le, z_eq, z_add, z_mul, z_inb, z_cl, z_b0, z_b1, z_b01, z_b010, z_b011, kb_v, kb_n, List.cons_append, List.nil_append, if_true, if_false, ↓reduceIte, Bool.false_eq_true, Bool.true_eq_false, decide_eq_true_eq, decide_eq_false_iff_not, not_false_eq_true]
    rw [if_pos (by omega), show k = 8 by omega]
    rfl
  | m + 1, k, hk => by
    have hc := cnt_le (fun r => decide (rz r ≠ 0)) k
    have w := h.1 k (by omega)
    have ih := x_how_loop h d m (k + 1) (by omega)
    rw [cnt] at ih
    rw [hX3_howMany_4]
    by_cases e : rz k = 0
    · simp only [e, if_true] at w
      simp (disch := omega) only [kX3_howMany, eq_self, Nat.reduceEqDiff, Nat.one_ne_zero, Nat.zero_ne_one, z_0, z_lt, z_le, z_eq, z_add, z_mul, z_inb, z_cl, z_b0, z_b1, z_b01, z_b010, z_b011, kb_v, kb_n, List.cons_append, List.nil_append, if_true, if_false, ↓reduceIte, Bool.false_eq_true, Bool.true_eq_false, decide_eq_true_eq, decide_eq_false_iff_not, not_false_eq_true, w]
      rw [if_neg (by omega)]
      simp only [e, ne_eq, not_true_eq_false, decide_false, Bool.toNat_false] at ih
      exact ih
    · simp only [e, if_false] at w
      simp (disch := omega) only [kX3_howMany, eq_self, Nat.reduceEqDiff, Nat.one_ne_zero, Nat.zero_ne_one, z_0, z_lt, z_le, z_eq, z_add, z_mul, z_inb, z_cl, z_b0, z_b1, z_b01, z_b010, z_b011, kb_v, kb_n, List.cons_append, List.nil_append, if_true, if_false, ↓reduceIte, Bool.false_eq_true, Bool.true_eq_false, decide_eq_true_eq, decide_eq_false_iff_not, not_false_eq_true, w]
      rw [if_neg (by omega)]
      simp only [e, ne_eq, not_false_eq_true, decide_true, Bool.toNat_true] at ih
      exact ih
theorem m_how_loop {σ : Sg} {rz rl : TT} {it : Nat → Nat → Int32} (h : MW σ rz rl it) (hz : ∀ r, r < 8 → rz r ≤ 41 ∧ rl r ≤ 2) (d : Nat) (a : Int32) : ∀ m k, k + m = 8 → exec d mX7_count 52 [.ref 50, .int a, .int (nI (cnt (fun r => decide (rz r ≠ 0)) k)), .int (nI k)] [] σ = some (some (.int (nI (hmr rz))), σ)
  | 0, k, hk => by
    rw [hX7_count_52]
    simp (disch := omega) only [kX7_count_0, kX7_count_1, eq_self, Nat.reduceEqDiff, Nat.one_ne_zero, Nat.zero_ne_one, z_0, z_lt, z_le, z_eq, z_add, z_mul, z_inb, z_cl, z_b0, z_b1, z_b01, z_b010, z_b011, kb_v, kb_n, List.cons_append, List.nil_append, if_true, if_false, ↓reduceIte, Bool.false_eq_true, Bool.true_eq_false, decide_eq_true_eq, decide_eq_false_iff_not, not_false_eq_true]
    rw [if_pos (by omega), show k = 8 by omega]
    rfl
  | m + 1, k, hk => by
    have hc := cnt_le (fun r => decide (rz r ≠ 0)) k
    have w := h.1 k (by omega)
    have hzk := hz k (by omega)
    have ih := m_how_loop h hz d a m (k + 1) (by omega)
    rw [cnt] at ih
    rw [hX7_count_52]
    by_cases e : rz k = 0
    · simp only [e, if_true] at w
      simp (disch := omega) only [kX7_count_0, kX7_count_1, eq_self, Nat.reduceEqDiff, Nat.one_ne_zero, Nat.zero_ne_one, z_0, z_lt, z_le, z_eq, z_add, z_mul, z_inb, z_cl, z_b0, z_b1, z_b01, z_b010, z_b011, kb_v, kb_n, List.cons_append, List.nil_append, if_true, if_false, ↓reduceIte, Bool.false_eq_true, Bool.true_eq_false, decide_eq_true_eq, decide_eq_false_iff_not, not_false_eq_true, w, m1_lt, m1_ge]
      rw [if_neg (by omega)]
      simp only [e, ne_eq, not_true_eq_false, decide_false, Bool.toNat_false] at ih
      exact ih
    · simp only [e, if_false] at w
      simp (disch := omega) only [kX7_count_0, kX7_count_1, eq_self, Nat.reduceEqDiff, Nat.one_ne_zero, Nat.zero_ne_one, z_0, z_lt, z_le, z_eq, z_add, z_mul, z_inb, z_cl, z_b0, z_b1, z_b01, z_b010, z_b011, kb_v, kb_n, List.cons_append, List.nil_append, if_true, if_false, ↓reduceIte, Bool.false_eq_true, Bool.true_eq_false, decide_eq_true_eq, decide_eq_false_iff_not, not_false_eq_true, w]
      repeat first | rw [if_neg (by omega)] | rw [if_pos (by omega)]
      simp only [e, ne_eq, not_false_eq_true, decide_true, Bool.toNat_true] at ih
      exact ih
theorem b_count (b : Int32) : BO mX6_count mX7_count [.int b] := by
  rintro ⟨T, I0, I1, A, rz, rl, it, tn, tp, ft, fs, cn, ct⟩ ok
  refine ⟨.int (if b = nI 0 then nI (hmr rz) else if b = nI 1 then nI (T 7) else if b = nI 2 then nI (T 8) else if b = nI 3 then nI (T 3) else if b = nI 4 then nI (T 1) else if b = nI 5 then nI (T 2) else if b = nI 6 then nI A.length else if b = nI 7 then nI tn else -1000001), _, XO_id fun σ d h => ?_, MO_id fun σ d h => ?_, ok⟩
  · have hT : XT σ 8 T := h.1
    have hA := h.2.2.2.1.1
    have hw := h.2.2.2.2.1
    have hp := h.2.2.2.2.2.1.1
    have e : ∀ d, cal (d + 1) mX3_howMany [.ref 1] σ = some (some (.int (nI (hmr rz))), σ) := fun d => by
      rw [aX3_howMany_1]
      simp (disch := omega) only [kX3_howMany]
      exact x_how_loop hw d 8 0 rfl
    rw [aX6_count_0]
    simp (disch := omega) only [kX6_count, kb_v, List.cons_append, List.nil_append, e, XT8 hT, hA, hp]
    (repeat' split) <;> rfl
  · have hT : MT σ 0 T := h.1
    have hA := h.2.2.2.2.1.1
    have hw := h.2.2.2.2.2.1
    have hp := h.2.2.2.2.2.2.1.1
    have e : ∀ d a, exec d mX7_count 52 [.ref 50, .int a, .int (nI 0), .int (nI 0)] [] σ = some (some (.int (nI (hmr rz))), σ) := fun d a => m_how_loop hw ok.2.2.2.2.2.1 d a 8 0 rfl
    rw [aX7_count_50]
    simp (disch := omega) only [kX7_count_0, kX7_count_1, z_inb, z_cl, if_true, MT0 hT, hA, hp, e]
    (repeat' split) <;> rfl
