/-! ask -/
def mkL (k : Nat) : List Nat := if k = 1 then [21, 20] else if k = 2 then [24, 21, 20] else if k = 3 then [22, 21, 20] else if k = 4 then [23, 20, 13, 10] else [23, 20, 14, 13, 10]
def szL (k : Nat) : List Nat := if k = 1 then [11, 10, 21, 20] else if k = 2 then [12, 11, 10, 24, 21, 20] else if k = 3 then [11, 10, 22, 21, 20] else if k = 4 then [13, 10] else [14, 13, 10]
def mkV (T : TT) (p : Nat) (k : Nat) : Int32 := if k = 1 then nI p + nI (T (16 + p)) else if k = 2 then nI 2 * (nI p + nI (T (16 + p))) else if k = 3 then nI p + nI (T (16 + p)) - nI 1000 else if k = 4 then nI p - (nI (T (23 + p)) - nI 100) else nI p - nI 2 * (nI (T (23 + p)) - nI 100)
def szV (T : TT) (p : Nat) (k : Nat) : Int32 := if k = 1 then nI (T (23 + p)) + mkV T p 1 else if k = 2 then - (nI (T (23 + p)) + mkV T p 2) else if k = 3 then nI (T (23 + p)) + mkV T p 3 else if k = 4 then nI (T (23 + p)) - nI 100 else nI 2 * (nI (T (23 + p)) - nI 100)
theorem i_zs (x : Int32) : nI 0 - x = - x := Int32.zero_sub x
theorem XR_tr {σ σ' : Sg} {T I0 I1 : TT} {A : List TT} {rz rl : TT} {it : Nat → Nat → Int32} {tn : Nat} {tp : TT} {ft fs cn : Nat} {ct : TT} (cn' : Nat) (ct' : TT) (h : XR σ (T, I0, I1, A, rz, rl, it, tn, tp, ft, fs, cn, ct)) (hs : ∀ a, a < 48 → σ' a = σ a) (hc : XC σ' cn' ct') : XR σ' (T, I0, I1, A, rz, rl, it, tn, tp, ft, fs, cn', ct') := by
  obtain ⟨h1, h2, h3, h4, h5, h6, h7, h8, h9⟩ := h
  refine ⟨XT_cg h1 (fun a _ _ => hs a (by omega)), XT_cg h2 (fun a _ _ => hs a (by omega)), XT_cg h3 (fun a _ _ => hs a (by omega)), ?_, ?_, ?_, ?_, ?_, hc⟩
  · unfold XA; rw [hs 44 (by omega), hs 45 (by omega)]; exact h4
  · unfold XW; rw [hs 2 (by omega), hs 3 (by omega), hs 4 (by omega), hs 5 (by omega)]; exact h5
  · unfold XP; rw [hs 6 (by omega), hs 7 (by omega)]; exact h6
  · rw [hs 0 (by omega)]; exact h7
  · rw [hs 0 (by omega)]; exact h8
theorem MR_tr {σ σ' : Sg} {T I0 I1 : TT} {A : List TT} {rz rl : TT} {it : Nat → Nat → Int32} {tn : Nat} {tp : TT} {ft fs cn : Nat} {ct : TT} (cn' : Nat) (ct' : TT) (h : MR σ (T, I0, I1, A, rz, rl, it, tn, tp, ft, fs, cn, ct)) (hs : ∀ a, 51 ≤ a → a < 58 → σ' a = σ a) (h50 : ∀ j, j ≠ 12 → σ' 50 j = σ 50 j) (hc : MC σ' cn' ct') : MR σ' (T, I0, I1, A, rz, rl, it, tn, tp, ft, fs, cn', ct') := by
  obtain ⟨g1, g2, g3, g4, g5, g6, g7, g8, g9, g10⟩ := h
  have h51 := hs 51 (by omega) (by omega)
  refine ⟨MT_same g1 h51, MT_same g2 h51, MT_same g3 h51, ?_, ?_, ?_, ?_, ?_, ?_, hc⟩
  · rw [hs 52 (by omega) (by omega)]; exact g4
  · unfold MA; rw [h50 3 (by omega), hs 53 (by omega) (by omega)]; exact g5
  · unfold MW; rw [hs 54 (by omega) (by omega), hs 55 (by omega) (by omega), hs 56 (by omega) (by omega)]; exact g6
  · unfold MP; rw [h50 9 (by omega), hs 57 (by omega) (by omega)]; exact g7
  · rw [h50 10 (by omega)]; exact g8
  · rw [h50 7 (by omega)]; exact g9
theorem x_begin {σ : Sg} (d : Nat) (v : Int32) {n : Nat} (h : σ 48 1 = nI n) (hn : n < 16) : cal (d + 1) mX1_begin [.ref 48, .int v] σ = some (none, up (up σ 49 n v) 48 1 (nI (n + 1))) := by
  rw [aX1_begin_48]
  simp (disch := omega) only [kX1_begin, h, eq_self, Nat.reduceEqDiff, Nat.one_ne_zero, Nat.zero_ne_one, z_0, z_lt, z_le, z_eq, z_add, z_mul, z_inb, z_cl, z_b0, z_b1, z_b01, z_b010, z_b011, kb_v, kb_n, List.cons_append, List.nil_append, if_true, if_false, ↓reduceIte, Bool.false_eq_true, Bool.true_eq_false, decide_eq_true_eq, decide_eq_false_iff_not, not_false_eq_true, up_s, up_k, up_j]
  rw [if_neg (by omega)]
theorem m_leaves {σ : Sg} (d : Nat) (v : Int32) {n : Nat} (h : σ 50 12 = nI n) (hn : n < 16) : cal (d + 1) mX7_leaves [.ref 50, .int v] σ = some (none, up (up σ 58 n v) 50 12 (nI (n + 1))) := by
  rw [aX7_leaves_50]
  simp (disch := omega) only [kX7_leaves, h, eq_self, Nat.reduceEqDiff, Nat.one_ne_zero, Nat.zero_ne_one, z_0, z_lt, z_le, z_eq, z_add, z_mul, z_inb, z_cl, z_b0, z_b1, z_b01, z_b010, z_b011, kb_v, kb_n, List.cons_append, List.nil_append, if_true, if_false, ↓reduceIte, Bool.false_eq_true, Bool.true_eq_false, decide_eq_true_eq, decide_eq_false_iff_not, not_false_eq_true, up_s, up_k, up_j]
  rw [if_neg (by omega)]
theorem up_n {σ : Sg} {k j : Nat} {v : Int32} {a b : Nat} (h : ¬ (a = k ∧ b = j)) : up σ k j v a b = σ a b := by simp [up, h]
theorem b_ask (a b : Int32) : BO mX6_ask mX7_ask [.int a, .int b] := by
  rintro ⟨T, I0, I1, A, rz, rl, it, tn, tp, ft, fs, cn, ct⟩ ok
  have w : WF T := ok.1
  have w1 := w.1
  by_cases hb : isin a (T 7) = true ∧ isin b 2 = true
  · obtain ⟨p, hp, rfl⟩ := (isin_t (by omega)).mp hb.1
    obtain ⟨c, hc, rfl⟩ := (isin_t (by omega)).mp hb.2
    have wp := w.2.2.2.1 p hp
    obtain ⟨o1, o2, o3, o4, o5, o6, o7, o8, o9, o10, o11, o12⟩ := ok
    refine ⟨.int (if c = 0 then szV T p (T (9 + p)) else mkV T p (T (9 + p))), (T, I0, I1, A, rz, rl, it, tn, tp, ft, fs, (if c = 0 then szL (T (9 + p)) else mkL (T (9 + p))).length, fun j => (if c = 0 then szL (T (9 + p)) else mkL (T (9 + p))).getD j 0), fun σ d h => ?_, fun σ d h => ?_, ?_⟩
    · have hT := h.1
      obtain ⟨g0, g1, g2, g3, g4, g5, g6, g7, g8, q1, q2, q3, q4, q5, q6, q7, q8⟩ := XT8 hT
      have hk := q1 p hp
      have hn := q2 p hp
      have ht := q3 p hp
      have hip := hb.1
      have hi1 := hb.2
      rcases (show T (9 + p) = 1 ∨ T (9 + p) = 2 ∨ T (9 + p) = 3 ∨ T (9 + p) = 4 ∨ T (9 + p) = 5 by omega) with e | e | e | e | e
      all_goals rcases (show c = 0 ∨ c = 1 by omega) with rfl | rfl
      all_goals rw [e] at hk
      all_goals simp only [e, szL, mkL, szV, mkV, if_true, if_false, Nat.reduceEqDiff, Nat.one_ne_zero, List.length_cons, List.length_nil, Nat.reduceAdd]
      all_goals (apply Exists.intro; refine ⟨?_, ?_, ?_⟩)
      all_goals first
        | (rw [aX6_ask_0]
           simp (disch := first | omega | decide) only [kX6_ask, kX1_begin, kX1_takeUp, kX1_ofSize, kX1_ofMark, kX1_give_0, kX1_give_1, kX1_give_2, aX1_begin_48, aX1_takeUp_48_8, aX1_ofSize, aX1_ofMark, aX1_give_48, x_isPart hT w, hip, e_isOne, hi1, hk, hn, ht, eq_self, Nat.reduceEqDiff, Nat.one_ne_zero, Nat.zero_ne_one, z_0, z_lt, z_le, z_eq, z_add, z_mul, z_inb, z_cl, z_b0, z_b1, z_b01, z_b010, z_b011, kb_v, kb_n, List.cons_append, List.nil_append, if_true, if_false, ↓reduceIte, Bool.false_eq_true, Bool.true_eq_false, decide_eq_true_eq, decide_eq_false_iff_not, not_false_eq_true, up_s, up_k, up_j, Nat.reduceLeDiff, Nat.reduceAdd, i_zs]
           rfl)
        | (refine XR_tr _ _ h (fun a ha => ?_) ⟨?_, fun j hj => ?_⟩
           · simp (disch := omega) only [up_of]
           · simp (disch := omega) only [up_s, up_k, up_j]
           · rcases (show j = 0 ∨ j = 1 ∨ j = 2 ∨ j = 3 ∨ j = 4 ∨ j = 5 by omega) with rfl | rfl | rfl | rfl | rfl | rfl
             all_goals first | (exfalso; omega) | (simp (disch := omega) only [up_s, up_k, up_j]; rfl))
        | (intro a ha
           simp (disch := omega) only [up_of])
    · have hT := h.1
      obtain ⟨g0, g1, g2, g3, g4, g5, g6, g7, g8, q1, q2, q3, q4, q5, q6, q7⟩ := MT0 hT
      have hk := q1 p hp
      have hn := q2 p hp
      have ht := q3 p hp
      have hip := hb.1
      have hi1 := hb.2
      rcases (show T (9 + p) = 1 ∨ T (9 + p) = 2 ∨ T (9 + p) = 3 ∨ T (9 + p) = 4 ∨ T (9 + p) = 5 by omega) with e | e | e | e | e
      all_goals rcases (show c = 0 ∨ c = 1 by omega) with rfl | rfl
      all_goals rw [e] at hk
      all_goals simp only [e, szL, mkL, szV, mkV, if_true, if_false, Nat.reduceEqDiff, Nat.one_ne_zero, List.length_cons, List.length_nil, Nat.reduceAdd]
      all_goals (apply Exists.intro; refine ⟨?_, ?_, ?_⟩)
      all_goals first
        | (rw [aX7_ask_50]
           simp (disch := first | omega | decide) only [kX7_ask, kX7_leaves, kX7_markLent, kX7_markJoint, kX7_sizeWax, kX7_mark_0, kX7_mark_1, kX7_sizeJoint, kX7_size, aX7_leaves_50, aX7_markLent_50, aX7_markJoint_50, aX7_sizeWax_50, aX7_mark_50, aX7_sizeJoint_50, aX7_size_50, m_isPart hT w, hip, m_inN, inr_0, hi1, hk, hn, ht, eq_self, Nat.reduceEqDiff, Nat.one_ne_zero, Nat.zero_ne_one, z_0, z_lt, z_le, z_eq, z_add, z_mul, z_inb, z_cl, z_b0, z_b1, z_b01, z_b010, z_b011, kb_v, kb_n, List.cons_append, List.nil_append, if_true, if_false, ↓reduceIte, Bool.false_eq_true, Bool.true_eq_false, decide_eq_true_eq, decide_eq_false_iff_not, not_false_eq_true, up_s, up_k, up_j, Nat.reduceLeDiff, Nat.reduceAdd, i_zs]
           rfl)
        | (refine MR_tr _ _ h (fun a h1 h2 => ?_) (fun j hj => ?_) ⟨?_, fun j hj => ?_⟩
           · simp (disch := omega) only [up_of]
           · simp (disch := omega) only [up_j, up_k]
           · simp (disch := omega) only [up_s, up_k, up_j]
           · rcases (show j = 0 ∨ j = 1 ∨ j = 2 ∨ j = 3 ∨ j = 4 ∨ j = 5 by omega) with rfl | rfl | rfl | rfl | rfl | rfl
             all_goals first | (exfalso; omega) | (simp (disch := omega) only [up_s, up_k, up_j]; rfl))
        | (intro a ha
           simp (disch := omega) only [up_of])
    · refine ⟨o1, o2, o3, o4, o5, o6, o7, o8, o9, o10, ?_⟩
      rcases (show T (9 + p) = 1 ∨ T (9 + p) = 2 ∨ T (9 + p) = 3 ∨ T (9 + p) = 4 ∨ T (9 + p) = 5 by omega) with e | e | e | e | e
      all_goals rcases (show c = 0 ∨ c = 1 by omega) with rfl | rfl
      all_goals rw [e]
      all_goals decide
  · refine ⟨.int (-1000001), _, XO_id fun σ d h => ?_, MO_id fun σ d h => ?_, ok⟩
    · have hT := h.1
      rw [aX6_ask_0]
      simp (disch := omega) only [kX6_ask, eq_self, Nat.reduceEqDiff, Nat.one_ne_zero, Nat.zero_ne_one, z_0, z_lt, z_le, z_eq, z_add, z_mul, z_inb, z_cl, z_b0, z_b1, z_b01, z_b010, z_b011, kb_v, kb_n, List.cons_append, List.nil_append, if_true, if_false, ↓reduceIte, Bool.false_eq_true, Bool.true_eq_false, decide_eq_true_eq, decide_eq_false_iff_not, not_false_eq_true, x_isPart hT w, e_isOne]
      cases q1 : isin a (T 7) <;> cases q2 : isin b 2 <;> simp_all
    · have hT := h.1
      rw [aX7_ask_50]
      simp (disch := omega) only [kX7_ask, eq_self, Nat.reduceEqDiff, Nat.one_ne_zero, Nat.zero_ne_one, z_0, z_lt, z_le, z_eq, z_add, z_mul, z_inb, z_cl, z_b0, z_b1, z_b01, z_b010, z_b011, kb_v, kb_n, List.cons_append, List.nil_append, if_true, if_false, ↓reduceIte, Bool.false_eq_true, Bool.true_eq_false, decide_eq_true_eq, decide_eq_false_iff_not, not_false_eq_true, m_isPart hT w, m_inN, inr_0]
      cases q1 : isin a (T 7) <;> cases q2 : isin b 2 <;> simp_all
