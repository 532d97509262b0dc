theorem sR_hi {T : TT} {i k v : Nat} (h : k ≠ i) : sR T i v k = T k := sR_n h
def mdT (T : TT) (p : Nat) : TT := sR (sR T 1 (T 1 - (T (23 + p) + 1))) 4 (ndn (T 4) (2 ^ p))
theorem WF_mdT {T : TT} (w : WF T) {p : Nat} (hp : p < T 7) : WF (mdT T p) := by
  have w1 := w.1
  refine WF_mk w (fun k hk => by unfold mdT; rw [sR_n (by omega), sR_n (by omega)]) (T6_of w hp) ?_ ?_ ?_ ?_ ?_ ?_
  · unfold mdT; rw [sR_n (by omega), sR_n (by omega)]; omega
  · unfold mdT; rw [sR_n (by omega), sR_s]; omega
  · unfold mdT; rw [sR_n (by omega), sR_n (by omega)]; omega
  · unfold mdT; rw [sR_n (by omega), sR_n (by omega)]; exact w.2.1.1
  · unfold mdT; rw [sR_n (by omega), sR_n (by omega)]; exact w.2.1.2
  · intro i hi
    unfold mdT at hi ⊢
    rw [sR_s, ndn_bit, Bool.and_eq_true] at hi
    rw [sR_n (by omega), sR_n (by omega)]
    exact w.2.2.1 i hi.1
theorem b_mend (a : Int32) : BO mX6_mend mX7_mend [.int a] := by
  rintro ⟨T, I0, I1, A, rz, rl, it, tn, tp, ft, fs, cn, ct⟩ ok
  have w : WF T := ok.1
  have w1 := w.1
  have hl : A.length ≤ 24 := ok.2.2.2.1
  by_cases ha : isin a (T 7) = true
  · obtain ⟨p, hp, rfl⟩ := (isin_t (by omega)).mp ha
    have wp := w.2.2.2.1 p hp
    have hpw := pw_le (p := p) (by omega)
    by_cases hm : (T 4).testBit p = true ∧ T (23 + p) + 1 ≤ T 1
    · obtain ⟨hm1, hm2⟩ := hm
      refine ⟨.int (nI (T 1 - (T (23 + p) + 1))), (mdT T p, I0, I1, psh A T, rz, rl, it, tn, tp, ft, fs, cn, ct), fun σ d h => ?_, fun σ d h => ?_, OK_act ok (fun k hk => by unfold mdT; rw [sR_n (by omega), sR_n (by omega)]) (WF_mdT w hp)⟩
      · have hT := h.1
        obtain ⟨σ1, e1, e2, e3⟩ := x_keep hT h.2.2.2.1 hl (d + 28)
        have hT1 : XT σ1 8 T := XT_cg hT (fun q _ _ => e3 q (by omega) (by omega))
        obtain ⟨g0, g1, g2, g3, g4, g5, g6, g7, g8, -⟩ := XT8 hT1
        refine ⟨up (up σ1 8 2 (nI (T 1 - (T (23 + p) + 1)))) 8 7 (nI (ndn (T 4) (2 ^ p))), ?_, XR_act h (XT_mk hT1 (fun k hk => by unfold mdT; rw [sR_n (by omega), sR_n (by omega)]) (fun q hq => by simp only [up_of hq]) ?_ ?_ ?_ ?_ ?_ ?_ ?_ ?_ ?_) ?_ (fun q q1 q2 q3 => by simp (disch := omega) only [up_of]; exact e3 q q2 q3), fun q hq => by simp (disch := omega) only [up_of]; exact e3 q (by omega) (by omega)⟩
        · have hT2 : XT (up σ1 8 2 (σ1 8 2)) 8 T := XT_cg hT1 (fun q _ _ => by funext b; unfold up; split <;> simp_all)
          rw [aX6_mend_0]
          simp (disch := omega) only [kX6_mend_0, kX6_mend_1, eq_self, Nat.reduceEqDiff, Nat.one_ne_zero, Nat.zero_ne_one, z_0, z_lt, z_le, z_eq, z_add, z_mul, z_inb, z_cl, z_b0, z_b1, z_b01, z_b010, z_b011, kb_v, kb_n, List.cons_append, List.nil_append, if_true, if_false, ↓reduceIte, Bool.false_eq_true, Bool.true_eq_false, decide_eq_true_eq, decide_eq_false_iff_not, not_false_eq_true, x_isPart hT w, ha, XT8 hT, e_bit, hm1, x_mendingDays hT w, Bool.toNat_true]
          repeat first | rw [if_neg (by omega)] | rw [if_pos (by omega)]
          simp (disch := omega) only [kX6_mend_0, kX6_mend_1, eq_self, Nat.reduceEqDiff, Nat.one_ne_zero, Nat.zero_ne_one, z_0, z_lt, z_le, z_eq, z_add, z_mul, z_inb, z_cl, z_b0, z_b1, z_b01, z_b010, z_b011, kb_v, kb_n, List.cons_append, List.nil_append, if_true, if_false, ↓reduceIte, Bool.false_eq_true, Bool.true_eq_false, decide_eq_true_eq, decide_eq_false_iff_not, not_false_eq_true, up_s, up_k, up_j, e1, g2, x_mendingDays hT1 w, z_sub, g7, z_one, z_nd]
        · simp (disch := omega) only [up_s, up_k, up_j]
        · simp (disch := omega) only [up_s, up_k, up_j]
        · simp (disch := omega) only [up_s, up_k, up_j]
        · simp (disch := omega) only [up_s, up_k, up_j]; rw [g1]; rfl
        · simp (disch := omega) only [up_s, up_k, up_j]; rfl
        · simp (disch := omega) only [up_s, up_k, up_j]; rw [g3]; rfl
        · simp (disch := omega) only [up_s, up_k, up_j]; rw [g6]; rfl
        · simp (disch := omega) only [up_s, up_k, up_j]; rfl
        · simp (disch := omega) only [up_s, up_k, up_j]; rw [g8]; rfl
        · unfold XA; simp (disch := omega) only [up_of]; exact e2
      · have hT := h.1
        obtain ⟨σ1, e1, e2, e3, e4⟩ := m_minds (T := T) (fun k hk => by have := hT.1 k (by omega); rwa [Nat.zero_add] at this) h.2.2.2.2.1 hl (d + 28)
        have hT1 : MT σ1 0 T := MT_same hT (e4 51 (by omega) (by omega))
        obtain ⟨g0, g1, g2, g3, g4, g5, g6, g7, g8, q1, q2, q3, -⟩ := MT0 hT1
        have q3p := q3 p hp
        refine ⟨up (up σ1 51 4 (nI (ndn (T 4) (2 ^ p)))) 51 1 (nI (T 1 - (T (23 + p) + 1))), ?_, MR_act ok h (MT_mk (by omega) (by omega) hT1 (fun k hk => by unfold mdT; rw [sR_n (by omega), sR_n (by omega)]) (fun j j1 _ => by simp (disch := omega) only [up_j]) (fun k hk => ?_)) ?_ (fun j hj => by simp (disch := omega) only [up_j]; rw [e4 51 (by omega) (by omega)]) (fun q hq => by simp (disch := omega) only [up_k]; exact e3 q hq) (fun q q1 q2 q3 => by simp (disch := omega) only [up_of]; exact e4 q q1 q3), fun q hq => by simp (disch := omega) only [up_of]; exact e4 q (by omega) (by omega)⟩
        · rw [aX7_mend_50]
          simp (disch := omega) only [kX7_mend_0, kX7_mend_1, eq_self, Nat.reduceEqDiff, Nat.one_ne_zero, Nat.zero_ne_one, z_0, z_lt, z_le, z_eq, z_add, z_mul, z_inb, z_cl, z_b0, z_b1, z_b01, z_b010, z_b011, kb_v, kb_n, List.cons_append, List.nil_append, if_true, if_false, ↓reduceIte, Bool.false_eq_true, Bool.true_eq_false, decide_eq_true_eq, decide_eq_false_iff_not, not_false_eq_true, m_isPart hT w, ha, MT0 hT, m_has, hm1, Bool.toNat_true]
          repeat first | rw [if_neg (by omega)] | rw [if_pos (by omega)]
          simp (disch := omega) only [kX7_mend_0, kX7_mend_1, eq_self, Nat.reduceEqDiff, Nat.one_ne_zero, Nat.zero_ne_one, z_0, z_lt, z_le, z_eq, z_add, z_mul, z_inb, z_cl, z_b0, z_b1, z_b01, z_b010, z_b011, kb_v, kb_n, List.cons_append, List.nil_append, if_true, if_false, ↓reduceIte, Bool.false_eq_true, Bool.true_eq_false, decide_eq_true_eq, decide_eq_false_iff_not, not_false_eq_true, up_s, up_k, up_j, e1, g1, g4, q3p, z_one, z_nd, z_sub]
        · rcases (show k = 0 ∨ k = 1 ∨ k = 2 ∨ k = 3 ∨ k = 4 ∨ k = 5 by omega) with rfl | rfl | rfl | rfl | rfl | rfl
          all_goals simp (disch := omega) only [up_s, up_k, up_j]
          all_goals first | rfl | (rw [g0]; rfl) | (rw [g2]; rfl) | (rw [g3]; rfl) | (rw [g5]; rfl)
        · unfold MA; simp (disch := omega) only [up_of]; exact e2
    · refine ⟨.int (-1000002), _, XO_id fun σ d h => ?_, MO_id fun σ d h => ?_, ok⟩
      · have hT := h.1
        rw [aX6_mend_0]
        cases hq : (T 4).testBit p
        · simp (disch := omega) only [kX6_mend_0, kX6_mend_1, eq_self, Nat.reduceEqDiff, Nat.one_ne_zero, Nat.zero_ne_one, z_0, z_lt, z_le, z_eq, z_add, z_mul, z_inb, z_cl, z_b0, z_b1, z_b01, z_b010, z_b011, kb_v, kb_n, List.cons_append, List.nil_append, if_true, if_false, ↓reduceIte, Bool.false_eq_true, Bool.true_eq_false, decide_eq_true_eq, decide_eq_false_iff_not, not_false_eq_true, x_isPart hT w, ha, XT8 hT, e_bit, hq, Bool.toNat_false]
        · simp (disch := omega) only [kX6_mend_0, kX6_mend_1, eq_self, Nat.reduceEqDiff, Nat.one_ne_zero, Nat.zero_ne_one, z_0, z_lt, z_le, z_eq, z_add, z_mul, z_inb, z_cl, z_b0, z_b1, z_b01, z_b010, z_b011, kb_v, kb_n, List.cons_append, List.nil_append, if_true, if_false, ↓reduceIte, Bool.false_eq_true, Bool.true_eq_false, decide_eq_true_eq, decide_eq_false_iff_not, not_false_eq_true, x_isPart hT w, ha, XT8 hT, e_bit, hq, Bool.toNat_true, x_mendingDays hT w]
          have : ¬ T (23 + p) + 1 ≤ T 1 := fun z => hm ⟨hq, z⟩
          repeat first | rw [if_neg (by omega)] | rw [if_pos (by omega)]
      · have hT := h.1
        rw [aX7_mend_50]
        cases hq : (T 4).testBit p
        · simp (disch := omega) only [kX7_mend_0, kX7_mend_1, eq_self, Nat.reduceEqDiff, Nat.one_ne_zero, Nat.zero_ne_one, z_0, z_lt, z_le, z_eq, z_add, z_mul, z_inb, z_cl, z_b0, z_b1, z_b01, z_b010, z_b011, kb_v, kb_n, List.cons_append, List.nil_append, if_true, if_false, ↓reduceIte, Bool.false_eq_true, Bool.true_eq_false, decide_eq_true_eq, decide_eq_false_iff_not, not_false_eq_true, m_isPart hT w, ha, MT0 hT, m_has, hq, Bool.toNat_false]
        · simp (disch := omega) only [kX7_mend_0, kX7_mend_1, eq_self, Nat.reduceEqDiff, Nat.one_ne_zero, Nat.zero_ne_one, z_0, z_lt, z_le, z_eq, z_add, z_mul, z_inb, z_cl, z_b0, z_b1, z_b01, z_b010, z_b011, kb_v, kb_n, List.cons_append, List.nil_append, if_true, if_false, ↓reduceIte, Bool.false_eq_true, Bool.true_eq_false, decide_eq_true_eq, decide_eq_false_iff_not, not_false_eq_true, m_isPart hT w, ha, MT0 hT, m_has, hq, Bool.toNat_true]
          have : ¬ T (23 + p) + 1 ≤ T 1 := fun z => hm ⟨hq, z⟩
          repeat first | rw [if_neg (by omega)] | rw [if_pos (by omega)]
  · have ha : isin a (T 7) = false := by simpa using ha
    refine ⟨.int (-1000001), _, XO_id fun σ d h => ?_, MO_id fun σ d h => ?_, ok⟩
    · have hT := h.1
      rw [aX6_mend_0]
      simp (disch := omega) only [kX6_mend_0, kX6_mend_1, eq_self, Nat.reduceEqDiff, Nat.one_ne_zero, Nat.zero_ne_one, z_0, z_lt, z_le, z_eq, z_add, z_mul, z_inb, z_cl, z_b0, z_b1, z_b01, z_b010, z_b011, kb_v, kb_n, List.cons_append, List.nil_append, if_true, if_false, ↓reduceIte, Bool.false_eq_true, Bool.true_eq_false, decide_eq_true_eq, decide_eq_false_iff_not, not_false_eq_true, x_isPart hT w, ha]
    · have hT := h.1
      rw [aX7_mend_50]
      simp (disch := omega) only [kX7_mend_0, kX7_mend_1, eq_self, Nat.reduceEqDiff, Nat.one_ne_zero, Nat.zero_ne_one, z_0, z_lt, z_le, z_eq, z_add, z_mul, z_inb, z_cl, z_b0, z_b1, z_b01, z_b010, z_b011, kb_v, kb_n, List.cons_append, List.nil_append, if_true, if_false, ↓reduceIte, Bool.false_eq_true, Bool.true_eq_false, decide_eq_true_eq, decide_eq_false_iff_not, not_false_eq_true, m_isPart hT w, ha]
def fsT (T : TT) (e : Nat) : TT := sR (sR T 2 (T 2 - T (47 + e))) 5 (T 5 ||| 2 ^ e)
theorem WF_fsT {T : TT} (w : WF T) {e : Nat} (he : e < T 8) : WF (fsT T e) := by
  have w1 := w.1
  refine WF_mk w (fun k hk => by unfold fsT; rw [sR_n (by omega), sR_n (by omega)]) (T6_el w he) ?_ ?_ ?_ ?_ ?_ ?_
  · unfold fsT; rw [sR_n (by omega), sR_n (by omega)]; omega
  · unfold fsT; rw [sR_n (by omega), sR_n (by omega)]; omega
  · unfold fsT; rw [sR_n (by omega), sR_s]; omega
  · unfold fsT; rw [sR_n (by omega), sR_n (by omega)]; exact w.2.1.1
  · unfold fsT; rw [sR_s]; exact or_pw w.2.1.2 he
  · intro i hi
    unfold fsT at hi ⊢
    rw [sR_n (by omega), sR_n (by omega)] at hi
    rw [sR_n (by omega), sR_n (by omega)]
    exact w.2.2.1 i hi
theorem b_feast (a : Int32) : BO mX6_feast mX7_feast [.int a] := by
  rintro ⟨T, I0, I1, A, rz, rl, it, tn, tp, ft, fs, cn, ct⟩ ok
  have w : WF T := ok.1
  have w1 := w.1
  have hl : A.length ≤ 24 := ok.2.2.2.1
  by_cases ha : isin a (T 8) = true
  · obtain ⟨p, hp, rfl⟩ := (isin_t (by omega)).mp ha
    have wp := w.2.2.2.2.1 p hp
    have hpw := pw_le5 (p := p) (by omega)
    by_cases hm : (T 5).testBit p = false ∧ T (47 + p) ≤ T 2
    · obtain ⟨hm1, hm2⟩ := hm
      refine ⟨.int (nI (T 2 - T (47 + p))), (fsT T p, I0, I1, psh A T, rz, rl, it, tn, tp, ft, fs, cn, ct), fun σ d h => ?_, fun σ d h => ?_, OK_act ok (fun k hk => by unfold fsT; rw [sR_n (by omega), sR_n (by omega)]) (WF_fsT w hp)⟩
      · have hT := h.1
        obtain ⟨σ1, e1, e2, e3⟩ := x_keep hT h.2.2.2.1 hl (d + 28)
        have hT1 : XT σ1 8 T := XT_cg hT (fun q _ _ => e3 q (by omega) (by omega))
        obtain ⟨g0, g1, g2, g3, g4, g5, g6, g7, g8, q1, q2, q3, q4, q5, q6, q7, -⟩ := XT8 hT1
        have q7p := q7 p hp
        refine ⟨up (up σ1 8 3 (nI (T 2 - T (47 + p)))) 8 8 (nI (T 5 ||| 2 ^ p)), ?_, XR_act h (XT_mk hT1 (fun k hk => by unfold fsT; rw [sR_n (by omega), sR_n (by omega)]) (fun q hq => by simp only [up_of hq]) ?_ ?_ ?_ ?_ ?_ ?_ ?_ ?_ ?_) ?_ (fun q q1 q2 q3 => by simp (disch := omega) only [up_of]; exact e3 q q2 q3), fun q hq => by simp (disch := omega) only [up_of]; exact e3 q (by omega) (by omega)⟩
        · rw [aX6_feast_0]
          simp (disch := omega) only [kX6_feast_0, kX6_feast_1, eq_self, Nat.reduceEqDiff, Nat.one_ne_zero, Nat.zero_ne_one, z_0, z_lt, z_le, z_eq, z_add, z_mul, z_inb, z_cl, z_b0, z_b1, z_b01, z_b010, z_b011, kb_v, kb_n, List.cons_append, List.nil_append, if_true, if_false, ↓reduceIte, Bool.false_eq_true, Bool.true_eq_false, decide_eq_true_eq, decide_eq_false_iff_not, not_false_eq_true, x_isElder hT w, ha, XT8 hT, e_bit, hm1, Bool.toNat_false]
          repeat first | rw [if_neg (by omega)] | rw [if_pos (by omega)]
          simp (disch := omega) only [kX6_feast_0, kX6_feast_1, eq_self, Nat.reduceEqDiff, Nat.one_ne_zero, Nat.zero_ne_one, z_0, z_lt, z_le, z_eq, z_add, z_mul, z_inb, z_cl, z_b0, z_b1, z_b01, z_b010, z_b011, kb_v, kb_n, List.cons_append, List.nil_append, if_true, if_false, ↓reduceIte, Bool.false_eq_true, Bool.true_eq_false, decide_eq_true_eq, decide_eq_false_iff_not, not_false_eq_true, up_s, up_k, up_j, e1, g3, q7p, z_sub, g8, z_one, z_or]
        · simp (disch := omega) only [up_s, up_k, up_j]
        · simp (disch := omega) only [up_s, up_k, up_j]
        · simp (disch := omega) only [up_s, up_k, up_j]
        · simp (disch := omega) only [up_s, up_k, up_j]; rw [g1]; rfl
        · simp (disch := omega) only [up_s, up_k, up_j]; rw [g2]; rfl
        · simp (disch := omega) only [up_s, up_k, up_j]; rfl
        · simp (disch := omega) only [up_s, up_k, up_j]; rw [g6]; rfl
        · simp (disch := omega) only [up_s, up_k, up_j]; rw [g7]; rfl
        · simp (disch := omega) only [up_s, up_k, up_j]; rfl
        · unfold XA; simp (disch := omega) only [up_of]; exact e2
      · have hT := h.1
        obtain ⟨σ1, e1, e2, e3, e4⟩ := m_minds (T := T) (fun k hk => by have := hT.1 k (by omega); rwa [Nat.zero_add] at this) h.2.2.2.2.1 hl (d + 28)
        have hT1 : MT σ1 0 T := MT_same hT (e4 51 (by omega) (by omega))
        obtain ⟨g0, g1, g2, g3, g4, g5, g6, g7, g8, q1, q2, q3, q4, q5, q6, q7⟩ := MT0 hT1
        have q7p := q7 p hp
        refine ⟨up (up σ1 51 5 (nI (T 5 ||| 2 ^ p))) 51 2 (nI (T 2 - T (47 + p))), ?_, MR_act ok h (MT_mk (by omega) (by omega) hT1 (fun k hk => by unfold fsT; rw [sR_n (by omega), sR_n (by omega)]) (fun j j1 _ => by simp (disch := omega) only [up_j]) (fun k hk => ?_)) ?_ (fun j hj => by simp (disch := omega) only [up_j]; rw [e4 51 (by omega) (by omega)]) (fun q hq => by simp (disch := omega) only [up_k]; exact e3 q hq) (fun q q1 q2 q3 => by simp (disch := omega) only [up_of]; exact e4 q q1 q3), fun q hq => by simp (disch := omega) only [up_of]; exact e4 q (by omega) (by omega)⟩
        · rw [aX7_feast_50]
          simp (disch := omega) only [kX7_feast_0, kX7_feast_1, eq_self, Nat.reduceEqDiff, Nat.one_ne_zero, Nat.zero_ne_one, z_0, z_lt, z_le, z_eq, z_add, z_mul, z_inb, z_cl, z_b0, z_b1, z_b01, z_b010, z_b011, kb_v, kb_n, List.cons_append, List.nil_append, if_true, if_false, ↓reduceIte, Bool.false_eq_true, Bool.true_eq_false, decide_eq_true_eq, decide_eq_false_iff_not, not_false_eq_true, m_isElder hT w, ha, MT0 hT, m_has, hm1, Bool.toNat_false]
          repeat first | rw [if_neg (by omega)] | rw [if_pos (by omega)]
          simp (disch := omega) only [kX7_feast_0, kX7_feast_1, eq_self, Nat.reduceEqDiff, Nat.one_ne_zero, Nat.zero_ne_one, z_0, z_lt, z_le, z_eq, z_add, z_mul, z_inb, z_cl, z_b0, z_b1, z_b01, z_b010, z_b011, kb_v, kb_n, List.cons_append, List.nil_append, if_true, if_false, ↓reduceIte, Bool.false_eq_true, Bool.true_eq_false, decide_eq_true_eq, decide_eq_false_iff_not, not_false_eq_true, up_s, up_k, up_j, e1, g2, g5, q7p, z_one, z_or, z_sub]
        · rcases (show k = 0 ∨ k = 1 ∨ k = 2 ∨ k = 3 ∨ k = 4 ∨ k = 5 by omega) with rfl | rfl | rfl | rfl | rfl | rfl
          all_goals simp (disch := omega) only [up_s, up_k, up_j]
          all_goals first | rfl | (rw [g0]; rfl) | (rw [g1]; rfl) | (rw [g3]; rfl) | (rw [g4]; rfl)
        · unfold MA; simp (disch := omega) only [up_of]; exact e2
    · refine ⟨.int (-1000002), _, XO_id fun σ d h => ?_, MO_id fun σ d h => ?_, ok⟩
      · have hT := h.1
        rw [aX6_feast_0]
        cases hq : (T 5).testBit p
        · simp (disch := omega) only [kX6_feast_0, kX6_feast_1, eq_self, Nat.reduceEqDiff, Nat.one_ne_zero, Nat.zero_ne_one, z_0, z_lt, z_le, z_eq, z_add, z_mul, z_inb, z_cl, z_b0, z_b1, z_b01, z_b010, z_b011, kb_v, kb_n, List.cons_append, List.nil_append, if_true, if_false, ↓reduceIte, Bool.false_eq_true, Bool.true_eq_false, decide_eq_true_eq, decide_eq_false_iff_not, not_false_eq_true, x_isElder hT w, ha, XT8 hT, e_bit, hq, Bool.toNat_false]
          have : ¬ T (47 + p) ≤ T 2 := fun z => hm ⟨hq, z⟩
          repeat first | rw [if_neg (by omega)] | rw [if_pos (by omega)]
        · simp (disch := omega) only [kX6_feast_0, kX6_feast_1, eq_self, Nat.reduceEqDiff, Nat.one_ne_zero, Nat.zero_ne_one, z_0, z_lt, z_le, z_eq, z_add, z_mul, z_inb, z_cl, z_b0, z_b1, z_b01, z_b010, z_b011, kb_v, kb_n, List.cons_append, List.nil_append, if_true, if_false, ↓reduceIte, Bool.false_eq_true, Bool.true_eq_false, decide_eq_true_eq, decide_eq_false_iff_not, not_false_eq_true, x_isElder hT w, ha, XT8 hT, e_bit, hq, Bool.toNat_true]
      · have hT := h.1
        rw [aX7_feast_50]
        cases hq : (T 5).testBit p
        · simp (disch := omega) only [kX7_feast_0, kX7_feast_1, eq_self, Nat.reduceEqDiff, Nat.one_ne_zero, Nat.zero_ne_one, z_0, z_lt, z_le, z_eq, z_add, z_mul, z_inb, z_cl, z_b0, z_b1, z_b01, z_b010, z_b011, kb_v, kb_n, List.cons_append, List.nil_append, if_true, if_false, ↓reduceIte, Bool.false_eq_true, Bool.true_eq_false, decide_eq_true_eq, decide_eq_false_iff_not, not_false_eq_true, m_isElder hT w, ha, MT0 hT, m_has, hq, Bool.toNat_false]
          have : ¬ T (47 + p) ≤ T 2 := fun z => hm ⟨hq, z⟩
          repeat first | rw [if_neg (by omega)] | rw [if_pos (by omega)]
        · simp (disch := omega) only [kX7_feast_0, kX7_feast_1, eq_self, Nat.reduceEqDiff, Nat.one_ne_zero, Nat.zero_ne_one, z_0, z_lt, z_le, z_eq, z_add, z_mul, z_inb, z_cl, z_b0, z_b1, z_b01, z_b010, z_b011, kb_v, kb_n, List.cons_append, List.nil_append, if_true, if_false, ↓reduceIte, Bool.false_eq_true, Bool.true_eq_false, decide_eq_true_eq, decide_eq_false_iff_not, not_false_eq_true, m_isElder hT w, ha, MT0 hT, m_has, hq, Bool.toNat_true]
  · have ha : isin a (T 8) = false := by simpa using ha
    refine ⟨.int (-1000001), _, XO_id fun σ d h => ?_, MO_id fun σ d h => ?_, ok⟩
    · have hT := h.1
      rw [aX6_feast_0]
      simp (disch := omega) only [kX6_feast_0, kX6_feast_1, eq_self, Nat.reduceEqDiff, Nat.one_ne_zero, Nat.zero_ne_one, z_0, z_lt, z_le, z_eq, z_add, z_mul, z_inb, z_cl, z_b0, z_b1, z_b01, z_b010, z_b011, kb_v, kb_n, List.cons_append, List.nil_append, if_true, if_false, ↓reduceIte, Bool.false_eq_true, Bool.true_eq_false, decide_eq_true_eq, decide_eq_false_iff_not, not_false_eq_true, x_isElder hT w, ha]
    · have hT := h.1
      rw [aX7_feast_50]
      simp (disch := omega) only [kX7_feast_0, kX7_feast_1, eq_self, Nat.reduceEqDiff, Nat.one_ne_zero, Nat.zero_ne_one, z_0, z_lt, z_le, z_eq, z_add, z_mul, z_inb, z_cl, z_b0, z_b1, z_b01, z_b010, z_b011, kb_v, kb_n, List.cons_append, List.nil_append, if_true, if_false, ↓reduceIte, Bool.false_eq_true, Bool.true_eq_false, decide_eq_true_eq, decide_eq_false_iff_not, not_false_eq_true, m_isElder hT w, ha]
