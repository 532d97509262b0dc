theorem XR_w {σ σ' : Sg} {T I0 I1 : TT} {A : List TT} {rz rl rz' rl' : TT} {it it' : Nat → Nat → Int32} {tn : Nat} {tp : TT} {ft fs cn : Nat} {ct : TT} (fs' : Nat) (h : XR σ (T, I0, I1, A, rz, rl, it, tn, tp, ft, fs, cn, ct)) (hs : ∀ a, (6 ≤ a ∧ a < 35) ∨ a = 44 ∨ a = 45 ∨ a = 48 ∨ a = 49 → σ' a = σ a) (h9 : σ' 0 9 = σ 0 9) (h10 : σ' 0 10 = nI fs') (hw : XW σ' rz' rl' it') : XR σ' (T, I0, I1, A, rz', rl', it', tn, tp, ft, fs', cn, ct) := by
  obtain ⟨g1, g2, g3, g4, g5, g6, g7, g8, g9⟩ := h
  refine ⟨XT_cg g1 (fun a _ _ => hs a (by omega)), XT_cg g2 (fun a _ _ => hs a (by omega)), XT_cg g3 (fun a _ _ => hs a (by omega)), ?_, hw, ?_, ?_, h10, ?_⟩
  · unfold XA; rw [hs 44 (by omega), hs 45 (by omega)]; exact g4
  · unfold XP; rw [hs 6 (by omega), hs 7 (by omega)]; exact g6
  · rw [h9]; exact g7
  · unfold XC; rw [hs 48 (by omega), hs 49 (by omega)]; exact g9
theorem MR_w {σ σ' : Sg} {T I0 I1 : TT} {A : List TT} {rz rl rz' rl' : TT} {it it' : Nat → Nat → Int32} {tn : Nat} {tp : TT} {ft fs cn : Nat} {ct : TT} (fs' : Nat) (h : MR σ (T, I0, I1, A, rz, rl, it, tn, tp, ft, fs, cn, ct)) (hs : ∀ a, 51 ≤ a ∧ a < 54 ∨ a = 57 ∨ a = 58 → σ' a = σ a) (h3 : σ' 50 3 = σ 50 3) (h9 : σ' 50 9 = σ 50 9) (h10 : σ' 50 10 = σ 50 10) (h12 : σ' 50 12 = σ 50 12) (h7 : σ' 50 7 = nI fs') (hw : MW σ' rz' rl' it') : MR σ' (T, I0, I1, A, rz', rl', it', tn, tp, ft, fs', cn, ct) := by
  obtain ⟨g1, g2, g3, g4, g5, g6, g7, g8, g9, g10⟩ := h
  refine ⟨MT_same g1 (hs 51 (by omega)), MT_same g2 (hs 51 (by omega)), MT_same g3 (hs 51 (by omega)), ?_, ?_, hw, ?_, ?_, h7, ?_⟩
  · rw [hs 52 (by omega)]; exact g4
  · unfold MA; rw [h3, hs 53 (by omega)]; exact g5
  · unfold MP; rw [h9, hs 57 (by omega)]; exact g7
  · rw [h10]; exact g8
  · unfold MC; rw [h12, hs 58 (by omega)]; exact g10
def nar (l : Nat) (v : Int32) : Int32 := if l = 0 then v.toInt8.toInt32 else if l = 1 then v.toInt16.toInt32 else v
theorem m1_lt : ((-1 : Int32) < nI 0) ↔ True := by decide
theorem m1_ge : (nI 0 ≤ (-1 : Int32)) ↔ False := by decide
theorem b_set (a b v : Int32) : BO mX6_set mX7_set [.int a, .int b, .int v] := by
  rintro ⟨T, I0, I1, A, rz, rl, it, tn, tp, ft, fs, cn, ct⟩ ok
  by_cases ha : isin a 8 = true
  · obtain ⟨r, hr, rfl⟩ := (isin_t (by omega)).mp ha
    have hz := ok.2.2.2.2.2.1 r hr
    by_cases h0 : rz r = 0
    · refine ⟨.int (-1000010 - nI 1), _, XO_st 1 fun σ d h => ?_, MO_st ok 1 fun σ d h => ?_, OK_st ok (by omega)⟩
      · have hw := h.2.2.2.2.1
        have w1 := hw.1 r hr
        simp only [h0, if_true] at w1
        rw [aX6_set_0]
        simp (disch := omega) only [kX6_set, eq_self, Nat.reduceEqDiff, Nat.one_ne_zero, Nat.zero_ne_one, z_0, z_lt, z_le, z_eq, z_add, z_mul, z_inb, z_cl, z_b0, z_b1, z_b01, z_b010, z_b011, kb_v, kb_n, List.cons_append, List.nil_append, if_true, if_false, ↓reduceIte, Bool.false_eq_true, Bool.true_eq_false, decide_eq_true_eq, decide_eq_false_iff_not, not_false_eq_true, e_isRow, ha, w1, x_finding]
      · have hw := h.2.2.2.2.2.1
        have w1 := hw.1 r hr
        simp only [h0, if_true] at w1
        rw [aX7_set_50]
        simp (disch := omega) only [kX7_set_0, kX7_set_1, eq_self, Nat.reduceEqDiff, Nat.one_ne_zero, Nat.zero_ne_one, z_0, z_lt, z_le, z_eq, z_add, z_mul, z_inb, z_cl, z_b0, z_b1, z_b01, z_b010, z_b011, kb_v, kb_n, List.cons_append, List.nil_append, if_true, if_false, ↓reduceIte, Bool.false_eq_true, Bool.true_eq_false, decide_eq_true_eq, decide_eq_false_iff_not, not_false_eq_true, m_isRow, ha, w1, m1_lt, m1_ge, m_found]
    · by_cases hb : isin b (rz r - 1) = true
      · obtain ⟨i, hi, rfl⟩ := (isin_t (by omega)).mp hb
        refine ⟨.int (nar (rl r) v), (T, I0, I1, A, rz, rl, sR it r (sR (it r) i (nar (rl r) v)), tn, tp, ft, 0, cn, ct), fun σ d h => ?_, fun σ d h => ?_, OK_st ok (by omega)⟩
        · have hw := h.2.2.2.2.1
          have hld1 : hld (rz r - 1) (nI i) (nI 1) = true := by
            unfold hld
            simp (disch := omega) only [z_tI]
            exact decide_eq_true ⟨by omega, by omega, by omega⟩
          have w1 := hw.1 r hr
          simp only [h0, if_false] at w1
          have w2 := hw.2.1 r hr h0
          refine ⟨up (up σ 5 (r * 40 + i) (nar (rl r) v)) 0 10 (nI 0), ?_, XR_w 0 h (fun a ha => by simp (disch := omega) only [up_of]) (by simp (disch := omega) only [up_s, up_k, up_j]) up_s ⟨fun q hq => ?_, fun q hq h0 => ?_, fun q hq h0 => ?_, fun q hq j hj => ?_⟩, fun a ha => by simp (disch := omega) only [up_of]⟩
          · rw [aX6_set_0]
            simp (disch := omega) only [kX6_set, eq_self, Nat.reduceEqDiff, Nat.one_ne_zero, Nat.zero_ne_one, z_0, z_lt, z_le, z_eq, z_add, z_mul, z_inb, z_cl, z_b0, z_b1, z_b01, z_b010, z_b011, kb_v, kb_n, List.cons_append, List.nil_append, if_true, if_false, ↓reduceIte, Bool.false_eq_true, Bool.true_eq_false, decide_eq_true_eq, decide_eq_false_iff_not, not_false_eq_true, e_isRow, ha, w1, x_holds hw, hld1]
            rw [aX3_put_1]
            simp (disch := omega) only [kX3_put, eq_self, Nat.reduceEqDiff, Nat.one_ne_zero, Nat.zero_ne_one, z_0, z_lt, z_le, z_eq, z_add, z_mul, z_inb, z_cl, z_b0, z_b1, z_b01, z_b010, z_b011, kb_v, kb_n, List.cons_append, List.nil_append, if_true, if_false, ↓reduceIte, Bool.false_eq_true, Bool.true_eq_false, decide_eq_true_eq, decide_eq_false_iff_not, not_false_eq_true, w2]
            unfold nar
            (repeat' split) <;> try simp (disch := omega) only [kX3_put, kX6_set, eq_self, Nat.reduceEqDiff, Nat.one_ne_zero, Nat.zero_ne_one, z_0, z_lt, z_le, z_eq, z_add, z_mul, z_inb, z_cl, z_b0, z_b1, z_b01, z_b010, z_b011, kb_v, kb_n, List.cons_append, List.nil_append, if_true, if_false, ↓reduceIte, Bool.false_eq_true, Bool.true_eq_false, decide_eq_true_eq, decide_eq_false_iff_not, not_false_eq_true, x_clean]
            all_goals first | rfl | (exfalso; omega)
          · simp (disch := omega) only [up_of]; exact hw.1 q hq
          · simp (disch := omega) only [up_of]; exact hw.2.1 q hq h0
          · simp (disch := omega) only [up_of]; exact hw.2.2.1 q hq h0
          · have hzq := ok.2.2.2.2.2.1 q hq
            simp (disch := omega) only [up_of]
            by_cases e : q = r
            · subst e
              rw [sR_s]
              by_cases e2 : j = i
              · subst e2; rw [up_s, sR_s]
              · rw [up_j (by omega), sR_n e2]; exact hw.2.2.2 q hq j hj
            · rw [sR_n e, up_j (by omega)]; exact hw.2.2.2 q hq j hj
        · have hw := h.2.2.2.2.2.1
          have w1 := hw.1 r hr
          simp only [h0, if_false] at w1
          have w2 := hw.2.1 r hr h0
          refine ⟨up (up σ 54 (40 * r + i) (nar (rl r) v)) 50 7 (nI 0), ?_, MR_w 0 h (fun a ha => by simp (disch := omega) only [up_of]) (by simp (disch := omega) only [up_s, up_k, up_j]) (by simp (disch := omega) only [up_s, up_k, up_j]) (by simp (disch := omega) only [up_s, up_k, up_j]) (by simp (disch := omega) only [up_s, up_k, up_j]) up_s ⟨fun q hq => ?_, fun q hq h0 => ?_, fun q hq j hj => ?_⟩, fun a ha => by simp (disch := omega) only [up_of]⟩
          · rw [aX7_set_50]
            simp (disch := omega) only [kX7_set_0, kX7_set_1, eq_self, Nat.reduceEqDiff, Nat.one_ne_zero, Nat.zero_ne_one, z_0, z_lt, z_le, z_eq, z_add, z_mul, z_inb, z_cl, z_b0, z_b1, z_b01, z_b010, z_b011, kb_v, kb_n, List.cons_append, List.nil_append, if_true, if_false, ↓reduceIte, Bool.false_eq_true, Bool.true_eq_false, decide_eq_true_eq, decide_eq_false_iff_not, not_false_eq_true, m_isRow, ha, w1, w2, m_in, lN_tI, Int32.toInt_toInt64, sub1_tI, z_tI]
            repeat first | rw [if_neg (by omega)] | rw [if_pos (by omega)]
            unfold nar
            (repeat' split) <;> try simp (disch := omega) only [kX7_set_0, kX7_set_1, eq_self, Nat.reduceEqDiff, Nat.one_ne_zero, Nat.zero_ne_one, z_0, z_lt, z_le, z_eq, z_add, z_mul, z_inb, z_cl, z_b0, z_b1, z_b01, z_b010, z_b011, kb_v, kb_n, List.cons_append, List.nil_append, if_true, if_false, ↓reduceIte, Bool.false_eq_true, Bool.true_eq_false, decide_eq_true_eq, decide_eq_false_iff_not, not_false_eq_true, m_good, up_s]
            all_goals first | rfl | (exfalso; omega)
          · simp (disch := omega) only [up_of]; exact hw.1 q hq
          · simp (disch := omega) only [up_of]; exact hw.2.1 q hq h0
          · have hzq := ok.2.2.2.2.2.1 q hq
            simp (disch := omega) only [up_of]
            by_cases e : q = r
            · subst e
              rw [sR_s]
              by_cases e2 : j = i
              · subst e2; rw [up_s, sR_s]
              · rw [up_j (by omega), sR_n e2]; exact hw.2.2 q hq j hj
            · rw [sR_n e, up_j (by omega)]; exact hw.2.2 q hq j hj
      · have hb' : ¬ (0 ≤ b.toInt ∧ b.toInt < ((rz r - 1 : Nat) : Int)) := fun q => hb (decide_eq_true q)
        refine ⟨.int (-1000010 - nI 2), _, XO_st 2 fun σ d h => ?_, MO_st ok 2 fun σ d h => ?_, OK_st ok (by omega)⟩
        · have hw := h.2.2.2.2.1
          have w1 := hw.1 r hr
          simp only [h0, if_false] at w1
          have hq : hld (rz r - 1) b (nI 1) = false := by
            unfold hld
            simp (disch := omega) only [z_tI]
            exact decide_eq_false (by omega)
          rw [aX6_set_0]
          simp (disch := omega) only [kX6_set, eq_self, Nat.reduceEqDiff, Nat.one_ne_zero, Nat.zero_ne_one, z_0, z_lt, z_le, z_eq, z_add, z_mul, z_inb, z_cl, z_b0, z_b1, z_b01, z_b010, z_b011, kb_v, kb_n, List.cons_append, List.nil_append, if_true, if_false, ↓reduceIte, Bool.false_eq_true, Bool.true_eq_false, decide_eq_true_eq, decide_eq_false_iff_not, not_false_eq_true, e_isRow, ha, w1, x_holds hw, hq, x_finding]
        · have hw := h.2.2.2.2.2.1
          have w1 := hw.1 r hr
          simp only [h0, if_false] at w1
          rw [aX7_set_50]
          simp (disch := omega) only [kX7_set_0, kX7_set_1, eq_self, Nat.reduceEqDiff, Nat.one_ne_zero, Nat.zero_ne_one, z_0, z_lt, z_le, z_eq, z_add, z_mul, z_inb, z_cl, z_b0, z_b1, z_b01, z_b010, z_b011, kb_v, kb_n, List.cons_append, List.nil_append, if_true, if_false, ↓reduceIte, Bool.false_eq_true, Bool.true_eq_false, decide_eq_true_eq, decide_eq_false_iff_not, not_false_eq_true, m_isRow, ha, w1, m_in, lN_tI, Int32.toInt_toInt64, sub1_tI, z_tI]
          repeat first | rw [if_neg (by omega)] | rw [if_pos (by omega)]
          simp (disch := omega) only [kX7_set_0, kX7_set_1, eq_self, Nat.reduceEqDiff, Nat.one_ne_zero, Nat.zero_ne_one, z_0, z_lt, z_le, z_eq, z_add, z_mul, z_inb, z_cl, z_b0, z_b1, z_b01, z_b010, z_b011, kb_v, kb_n, List.cons_append, List.nil_append, if_true, if_false, ↓reduceIte, Bool.false_eq_true, Bool.true_eq_false, decide_eq_true_eq, decide_eq_false_iff_not, not_false_eq_true, m_found]
  · have ha : isin a 8 = false := by simpa using ha
    refine ⟨.int (-1000001), _, XO_id fun σ d h => ?_, MO_id fun σ d h => ?_, ok⟩
    · rw [aX6_set_0]
      simp (disch := omega) only [kX6_set, eq_self, Nat.reduceEqDiff, Nat.one_ne_zero, Nat.zero_ne_one, z_0, z_lt, z_le, z_eq, z_add, z_mul, z_inb, z_cl, z_b0, z_b1, z_b01, z_b010, z_b011, kb_v, kb_n, List.cons_append, List.nil_append, if_true, if_false, ↓reduceIte, Bool.false_eq_true, Bool.true_eq_false, decide_eq_true_eq, decide_eq_false_iff_not, not_false_eq_true, e_isRow, ha]
    · rw [aX7_set_50]
      simp (disch := omega) only [kX7_set_0, kX7_set_1, eq_self, Nat.reduceEqDiff, Nat.one_ne_zero, Nat.zero_ne_one, z_0, z_lt, z_le, z_eq, z_add, z_mul, z_inb, z_cl, z_b0, z_b1, z_b01, z_b010, z_b011, kb_v, kb_n, List.cons_append, List.nil_append, if_true, if_false, ↓reduceIte, Bool.false_eq_true, Bool.true_eq_false, decide_eq_true_eq, decide_eq_false_iff_not, not_false_eq_true, m_isRow, ha]
theorem b_drop (a : Int32) : BO mX6_drop mX7_drop [.int a] := by
  rintro ⟨T, I0, I1, A, rz, rl, it, tn, tp, ft, fs, cn, ct⟩ ok
  by_cases ha : isin a 8 = true
  · obtain ⟨r, hr, rfl⟩ := (isin_t (by omega)).mp ha
    have hz := ok.2.2.2.2.2.1 r hr
    by_cases h0 : rz r = 0
    · refine ⟨.int (-1000010 - nI 1), _, XO_st 1 fun σ d h => ?_, MO_st ok 1 fun σ d h => ?_, OK_st ok (by omega)⟩
      · have hw := h.2.2.2.2.1
        have w1 := hw.1 r hr
        simp only [h0, if_true] at w1
        rw [aX6_drop_0]
        simp (disch := omega) only [kX6_drop, eq_self, Nat.reduceEqDiff, Nat.one_ne_zero, Nat.zero_ne_one, z_0, z_lt, z_le, z_eq, z_add, z_mul, z_inb, z_cl, z_b0, z_b1, z_b01, z_b010, z_b011, kb_v, kb_n, List.cons_append, List.nil_append, if_true, if_false, ↓reduceIte, Bool.false_eq_true, Bool.true_eq_false, decide_eq_true_eq, decide_eq_false_iff_not, not_false_eq_true, e_isRow, ha, w1, x_finding]
      · have hw := h.2.2.2.2.2.1
        have w1 := hw.1 r hr
        simp only [h0, if_true] at w1
        rw [aX7_drop_50]
        simp (disch := omega) only [kX7_drop, eq_self, Nat.reduceEqDiff, Nat.one_ne_zero, Nat.zero_ne_one, z_0, z_lt, z_le, z_eq, z_add, z_mul, z_inb, z_cl, z_b0, z_b1, z_b01, z_b010, z_b011, kb_v, kb_n, List.cons_append, List.nil_append, if_true, if_false, ↓reduceIte, Bool.false_eq_true, Bool.true_eq_false, decide_eq_true_eq, decide_eq_false_iff_not, not_false_eq_true, m_isRow, ha, w1, m1_lt, m1_ge, m_found]
    · refine ⟨.int (nI (rz r - 1)), (T, I0, I1, A, sR rz r 0, rl, it, tn, tp, ft, 0, cn, ct), fun σ d h => ?_, fun σ d h => ?_, ?_⟩
      · have hw := h.2.2.2.2.1
        have w1 := hw.1 r hr
        simp only [h0, if_false] at w1
        have w3 := hw.2.2.1 r hr h0
        refine ⟨up (up σ 2 r (nI 0)) 0 10 (nI 0), ?_, XR_w 0 h (fun a ha => by simp (disch := omega) only [up_of]) (by simp (disch := omega) only [up_s, up_k, up_j]) up_s ⟨fun q hq => ?_, fun q hq h0 => ?_, fun q hq h0 => ?_, fun q hq j hj => ?_⟩, fun a ha => by simp (disch := omega) only [up_of]⟩
        · rw [aX6_drop_0]
          simp (disch := omega) only [kX6_drop, eq_self, Nat.reduceEqDiff, Nat.one_ne_zero, Nat.zero_ne_one, z_0, z_lt, z_le, z_eq, z_add, z_mul, z_inb, z_cl, z_b0, z_b1, z_b01, z_b010, z_b011, kb_v, kb_n, List.cons_append, List.nil_append, if_true, if_false, ↓reduceIte, Bool.false_eq_true, Bool.true_eq_false, decide_eq_true_eq, decide_eq_false_iff_not, not_false_eq_true, up_s, up_k, up_j, e_isRow, ha, w1, w3, x_clean, and_self]
        · simp (disch := omega) only [up_of]
          by_cases e : q = r
          · subst e; rw [up_s, sR_s]; rfl
          · rw [up_j e, sR_n e]; exact hw.1 q hq
        · simp (disch := omega) only [up_of]
          by_cases e : q = r
          · subst e; rw [sR_s] at h0; exact absurd rfl h0
          · rw [sR_n e] at h0; exact hw.2.1 q hq h0
        · simp (disch := omega) only [up_of]
          by_cases e : q = r
          · subst e; rw [sR_s] at h0; exact absurd rfl h0
          · rw [sR_n e] at h0 ⊢; exact hw.2.2.1 q hq h0
        · simp (disch := omega) only [up_of]
          by_cases e : q = r
          · subst e; rw [sR_s] at hj; exact absurd hj (by omega)
          · rw [sR_n e] at hj; exact hw.2.2.2 q hq j hj
      · have hw := h.2.2.2.2.2.1
        have w1 := hw.1 r hr
        simp only [h0, if_false] at w1
        refine ⟨up (up σ 55 r (-1)) 50 7 (nI 0), ?_, MR_w 0 h (fun a ha => by simp (disch := omega) only [up_of]) (by simp (disch := omega) only [up_s, up_k, up_j]) (by simp (disch := omega) only [up_s, up_k, up_j]) (by simp (disch := omega) only [up_s, up_k, up_j]) (by simp (disch := omega) only [up_s, up_k, up_j]) up_s ⟨fun q hq => ?_, fun q hq h0 => ?_, fun q hq j hj => ?_⟩, fun a ha => by simp (disch := omega) only [up_of]⟩
        · rw [aX7_drop_50]
          simp (disch := omega) only [kX7_drop, eq_self, Nat.reduceEqDiff, Nat.one_ne_zero, Nat.zero_ne_one, z_0, z_lt, z_le, z_eq, z_add, z_mul, z_inb, z_cl, z_b0, z_b1, z_b01, z_b010, z_b011, kb_v, kb_n, List.cons_append, List.nil_append, if_true, if_false, ↓reduceIte, Bool.false_eq_true, Bool.true_eq_false, decide_eq_true_eq, decide_eq_false_iff_not, not_false_eq_true, m_isRow, ha, w1]
          repeat first | rw [if_neg (by omega)] | rw [if_pos (by omega)]
          simp (disch := omega) only [kX7_drop, eq_self, Nat.reduceEqDiff, Nat.one_ne_zero, Nat.zero_ne_one, z_0, z_lt, z_le, z_eq, z_add, z_mul, z_inb, z_cl, z_b0, z_b1, z_b01, z_b010, z_b011, kb_v, kb_n, List.cons_append, List.nil_append, if_true, if_false, ↓reduceIte, Bool.false_eq_true, Bool.true_eq_false, decide_eq_true_eq, decide_eq_false_iff_not, not_false_eq_true, m_good]
        · simp (disch := omega) only [up_of]
          by_cases e : q = r
          · subst e; rw [up_s, sR_s]; rfl
          · rw [up_j e, sR_n e]; exact hw.1 q hq
        · simp (disch := omega) only [up_of]
          by_cases e : q = r
          · subst e; rw [sR_s] at h0; exact absurd rfl h0
          · rw [sR_n e] at h0; exact hw.2.1 q hq h0
        · simp (disch := omega) only [up_of]
          by_cases e : q = r
          · subst e; rw [sR_s] at hj; exact absurd hj (by omega)
          · rw [sR_n e] at hj; exact hw.2.2 q hq j hj
      · obtain ⟨h1, h2, h3, h4, h5, h6, h7, h8, h9, h10, h11, h12⟩ := ok
        refine ⟨h1, h2, h3, h4, h5, fun q hq => ?_, h7, h8, h9, by omega, h11, h12⟩
        by_cases e : q = r
        · subst e; rw [sR_s]; exact ⟨by omega, (h6 q hq).2⟩
        · rw [sR_n e]; exact h6 q hq
  · have ha : isin a 8 = false := by simpa using ha
    refine ⟨.int (-1000001), _, XO_id fun σ d h => ?_, MO_id fun σ d h => ?_, ok⟩
    · rw [aX6_drop_0]
      simp (disch := omega) only [kX6_drop, eq_self, Nat.reduceEqDiff, Nat.one_ne_zero, Nat.zero_ne_one, z_0, z_lt, z_le, z_eq, z_add, z_mul, z_inb, z_cl, z_b0, z_b1, z_b01, z_b010, z_b011, kb_v, kb_n, List.cons_append, List.nil_append, if_true, if_false, ↓reduceIte, Bool.false_eq_true, Bool.true_eq_false, decide_eq_true_eq, decide_eq_false_iff_not, not_false_eq_true, e_isRow, ha]
    · rw [aX7_drop_50]
      simp (disch := omega) only [kX7_drop, eq_self, Nat.reduceEqDiff, Nat.one_ne_zero, Nat.zero_ne_one, z_0, z_lt, z_le, z_eq, z_add, z_mul, z_inb, z_cl, z_b0, z_b1, z_b01, z_b010, z_b011, kb_v, kb_n, List.cons_append, List.nil_append, if_true, if_false, ↓reduceIte, Bool.false_eq_true, Bool.true_eq_false, decide_eq_true_eq, decide_eq_false_iff_not, not_false_eq_true, m_isRow, ha]
