/-! acts -/
theorem b_restore (a : Int32) : BO mX6_restore mX7_restore [.int a] := by
  rintro ⟨T, I0, I1, A, rz, rl, it, tn, tp, ft, fs, cn, ct⟩ ok
  have w : WF T := ok.1
  have w1 := w.1
  have v2 := ok.2.1
  have v3 := ok.2.2.1
  have w2 := ok.2.1.1
  have w3 := ok.2.2.1.1
  by_cases ha : isin a 2 = true
  · obtain ⟨k, hk, rfl⟩ := (isin_t (by omega)).mp ha
    rcases (show k = 0 ∨ k = 1 by omega) with rfl | rfl
    · by_cases h6 : I0 6 = 0
      · refine ⟨.int (-1000002), _, XO_id fun σ d h => ?_, MO_id fun σ d h => ?_, ok⟩
        · have hT : XT σ 17 I0 := h.2.1
          rw [aX6_restore_0]
          simp (disch := omega) only [kX6_restore, eq_self, Nat.reduceEqDiff, Nat.one_ne_zero, Nat.zero_ne_one, z_0, z_lt, z_le, z_eq, z_add, z_mul, z_inb, z_cl, z_b0, z_b1, z_b01, z_b010, z_b011, kb_v, kb_n, List.cons_append, List.nil_append, if_true, if_false, ↓reduceIte, Bool.false_eq_true, Bool.true_eq_false, decide_eq_true_eq, decide_eq_false_iff_not, not_false_eq_true, e_isOne, ha, XT17 hT, h6, x_imageOf0]
        · have hk := h.2.2.2.1.1
          rw [aX7_restore_50]
          simp (disch := omega) only [kX7_restore, eq_self, Nat.reduceEqDiff, Nat.one_ne_zero, Nat.zero_ne_one, z_0, z_lt, z_le, z_eq, z_add, z_mul, z_inb, z_cl, z_b0, z_b1, z_b01, z_b010, z_b011, kb_v, kb_n, List.cons_append, List.nil_append, if_true, if_false, ↓reduceIte, Bool.false_eq_true, Bool.true_eq_false, decide_eq_true_eq, decide_eq_false_iff_not, not_false_eq_true, m_in, lN_tI, Int32.toInt_toInt64, z_tI, hk, h6]
          (repeat' split) <;> first | rfl | (exfalso; omega)
      · have h6 : I0 6 = 1 := by omega
        refine ⟨.int (nI 1), (I0, I0, I1, [], rz, rl, it, tn, tp, ft, fs, cn, ct), fun σ d h => ?_, fun σ d h => ?_, ?_⟩
        · obtain ⟨g1, g2, g3, g4, g5, g6, g7, g8, g9⟩ := h
          obtain ⟨σ', e1, e2, e3⟩ := x_cf_8_17 g2 v2 (d + 28)
          obtain ⟨-, nx, n1, n2, -⟩ := g4
          refine ⟨up σ' 44 1 (nI 0), ?_, ⟨XT_cg e2 (fun a _ _ => up_of (by omega)), XT_cg g2 (fun a _ _ => by rw [up_of (by omega), e3 a (by omega)]), XT_cg g3 (fun a _ _ => by rw [up_of (by omega), e3 a (by omega)]), ⟨up_s, nx, n1, by rw [up_j (by omega), e3 44 (by omega)]; exact n2, fun j hj => absurd hj (by simp)⟩, ?_, ?_, ?_, ?_, ?_⟩, fun a ha => by rw [up_of (by omega), e3 a (by omega)]⟩
          · rw [aX6_restore_0]
            simp (disch := omega) only [kX6_restore, eq_self, Nat.reduceEqDiff, Nat.one_ne_zero, Nat.zero_ne_one, z_0, z_lt, z_le, z_eq, z_add, z_mul, z_inb, z_cl, z_b0, z_b1, z_b01, z_b010, z_b011, kb_v, kb_n, List.cons_append, List.nil_append, if_true, if_false, ↓reduceIte, Bool.false_eq_true, Bool.true_eq_false, decide_eq_true_eq, decide_eq_false_iff_not, not_false_eq_true, e_isOne, ha, XT17 g2, h6, x_imageOf0, e1]
            rw [aX0_forget_44]
            simp (disch := omega) only [kX0_forget, kX6_restore, eq_self, Nat.reduceEqDiff, Nat.one_ne_zero, Nat.zero_ne_one, z_0, z_lt, z_le, z_eq, z_add, z_mul, z_inb, z_cl, z_b0, z_b1, z_b01, z_b010, z_b011, kb_v, kb_n, List.cons_append, List.nil_append, if_true, if_false, ↓reduceIte, Bool.false_eq_true, Bool.true_eq_false, decide_eq_true_eq, decide_eq_false_iff_not, not_false_eq_true]
          · unfold XW; simp (disch := omega) only [up_of]; rw [e3 2 (by omega), e3 3 (by omega), e3 4 (by omega), e3 5 (by omega)]; exact g5
          · unfold XP; simp (disch := omega) only [up_of]; rw [e3 6 (by omega), e3 7 (by omega)]; exact g6
          · rw [up_of (by omega), e3 0 (by omega)]; exact g7
          · rw [up_of (by omega), e3 0 (by omega)]; exact g8
          · unfold XC; simp (disch := omega) only [up_of]; rw [e3 48 (by omega), e3 49 (by omega)]; exact g9
        · obtain ⟨g1, g2, g3, g4, g5, g6, g7, g8, g9, g10⟩ := h
          obtain ⟨σ', e1, e2, e3, e4⟩ := m_ca (d + 28) (f := 52) (t := 0) (by omega) (by omega) (by omega) σ
          refine ⟨up σ' 50 3 (nI 0), ?_, ⟨MT_same (MT_mv (by omega) (by omega) g2 e2) (up_of (by omega)), MT_same (MT_cg (by omega) (by omega) g2 (fun j _ _ => e3 j (by omega))) (up_of (by omega)), MT_same (MT_cg (by omega) (by omega) g3 (fun j _ _ => e3 j (by omega))) (up_of (by omega)), by rw [up_of (by omega), e4 52 (by omega)]; exact g4, ⟨up_s, fun j hj => absurd hj (by simp)⟩, ?_, ?_, ?_, ?_, ?_⟩, fun a ha => by rw [up_of (by omega), e4 a (by omega)]⟩
          · rw [aX7_restore_50]
            simp (disch := omega) only [kX7_restore, eq_self, Nat.reduceEqDiff, Nat.one_ne_zero, Nat.zero_ne_one, z_0, z_lt, z_le, z_eq, z_add, z_mul, z_inb, z_cl, z_b0, z_b1, z_b01, z_b010, z_b011, kb_v, kb_n, List.cons_append, List.nil_append, if_true, if_false, ↓reduceIte, Bool.false_eq_true, Bool.true_eq_false, decide_eq_true_eq, decide_eq_false_iff_not, not_false_eq_true, m_in, lN_tI, Int32.toInt_toInt64, z_tI, g4.1, h6, Nat.mul_zero, Nat.mul_one, Nat.add_zero, Nat.reduceAdd, Nat.reduceMul, e1]
            (repeat' split) <;> first | rfl | (exfalso; omega)
          · unfold MW; simp (disch := omega) only [up_of]; rw [e4 54 (by omega), e4 55 (by omega), e4 56 (by omega)]; exact g6
          · unfold MP; simp (disch := omega) only [up_of, up_j]; rw [e4 50 (by omega), e4 57 (by omega)]; exact g7
          · rw [up_j (by omega), e4 50 (by omega)]; exact g8
          · rw [up_j (by omega), e4 50 (by omega)]; exact g9
          · unfold MC; simp (disch := omega) only [up_of, up_j]; rw [e4 50 (by omega), e4 58 (by omega)]; exact g10
        · obtain ⟨h1, h2, h3, h4, h5, h6, h7, h8, h9, h10, h11, h12⟩ := ok
          exact ⟨h2, h2, h3, by simp, fun j hj => absurd hj (by simp), h6, h7, h8, h9, h10, h11, h12⟩
    · by_cases h6 : I1 6 = 0
      · refine ⟨.int (-1000002), _, XO_id fun σ d h => ?_, MO_id fun σ d h => ?_, ok⟩
        · have hT : XT σ 26 I1 := h.2.2.1
          rw [aX6_restore_0]
          simp (disch := omega) only [kX6_restore, eq_self, Nat.reduceEqDiff, Nat.one_ne_zero, Nat.zero_ne_one, z_0, z_lt, z_le, z_eq, z_add, z_mul, z_inb, z_cl, z_b0, z_b1, z_b01, z_b010, z_b011, kb_v, kb_n, List.cons_append, List.nil_append, if_true, if_false, ↓reduceIte, Bool.false_eq_true, Bool.true_eq_false, decide_eq_true_eq, decide_eq_false_iff_not, not_false_eq_true, e_isOne, ha, XT26 hT, h6, x_imageOf1]
        · have hk := h.2.2.2.1.2
          rw [aX7_restore_50]
          simp (disch := omega) only [kX7_restore, eq_self, Nat.reduceEqDiff, Nat.one_ne_zero, Nat.zero_ne_one, z_0, z_lt, z_le, z_eq, z_add, z_mul, z_inb, z_cl, z_b0, z_b1, z_b01, z_b010, z_b011, kb_v, kb_n, List.cons_append, List.nil_append, if_true, if_false, ↓reduceIte, Bool.false_eq_true, Bool.true_eq_false, decide_eq_true_eq, decide_eq_false_iff_not, not_false_eq_true, m_in, lN_tI, Int32.toInt_toInt64, z_tI, hk, h6]
          (repeat' split) <;> first | rfl | (exfalso; omega)
      · have h6 : I1 6 = 1 := by omega
        refine ⟨.int (nI 1), (I1, I0, I1, [], rz, rl, it, tn, tp, ft, fs, cn, ct), fun σ d h => ?_, fun σ d h => ?_, ?_⟩
        · obtain ⟨g1, g2, g3, g4, g5, g6, g7, g8, g9⟩ := h
          obtain ⟨σ', e1, e2, e3⟩ := x_cf_8_26 g3 v3 (d + 28)
          obtain ⟨-, nx, n1, n2, -⟩ := g4
          refine ⟨up σ' 44 1 (nI 0), ?_, ⟨XT_cg e2 (fun a _ _ => up_of (by omega)), XT_cg g2 (fun a _ _ => by rw [up_of (by omega), e3 a (by omega)]), XT_cg g3 (fun a _ _ => by rw [up_of (by omega), e3 a (by omega)]), ⟨up_s, nx, n1, by rw [up_j (by omega), e3 44 (by omega)]; exact n2, fun j hj => absurd hj (by simp)⟩, ?_, ?_, ?_, ?_, ?_⟩, fun a ha => by rw [up_of (by omega), e3 a (by omega)]⟩
          · rw [aX6_restore_0]
            simp (disch := omega) only [kX6_restore, eq_self, Nat.reduceEqDiff, Nat.one_ne_zero, Nat.zero_ne_one, z_0, z_lt, z_le, z_eq, z_add, z_mul, z_inb, z_cl, z_b0, z_b1, z_b01, z_b010, z_b011, kb_v, kb_n, List.cons_append, List.nil_append, if_true, if_false, ↓reduceIte, Bool.false_eq_true, Bool.true_eq_false, decide_eq_true_eq, decide_eq_false_iff_not, not_false_eq_true, e_isOne, ha, XT26 g3, h6, x_imageOf1, e1]
            rw [aX0_forget_44]
            simp (disch := omega) only [kX0_forget, kX6_restore, eq_self, Nat.reduceEqDiff, Nat.one_ne_zero, Nat.zero_ne_one, z_0, z_lt, z_le, z_eq, z_add, z_mul, z_inb, z_cl, z_b0, z_b1, z_b01, z_b010, z_b011, kb_v, kb_n, List.cons_append, List.nil_append, if_true, if_false, ↓reduceIte, Bool.false_eq_true, Bool.true_eq_false, decide_eq_true_eq, decide_eq_false_iff_not, not_false_eq_true]
          · unfold XW; simp (disch := omega) only [up_of]; rw [e3 2 (by omega), e3 3 (by omega), e3 4 (by omega), e3 5 (by omega)]; exact g5
          · unfold XP; simp (disch := omega) only [up_of]; rw [e3 6 (by omega), e3 7 (by omega)]; exact g6
          · rw [up_of (by omega), e3 0 (by omega)]; exact g7
          · rw [up_of (by omega), e3 0 (by omega)]; exact g8
          · unfold XC; simp (disch := omega) only [up_of]; rw [e3 48 (by omega), e3 49 (by omega)]; exact g9
        · obtain ⟨g1, g2, g3, g4, g5, g6, g7, g8, g9, g10⟩ := h
          obtain ⟨σ', e1, e2, e3, e4⟩ := m_ca (d + 28) (f := 104) (t := 0) (by omega) (by omega) (by omega) σ
          refine ⟨up σ' 50 3 (nI 0), ?_, ⟨MT_same (MT_mv (by omega) (by omega) g3 e2) (up_of (by omega)), MT_same (MT_cg (by omega) (by omega) g2 (fun j _ _ => e3 j (by omega))) (up_of (by omega)), MT_same (MT_cg (by omega) (by omega) g3 (fun j _ _ => e3 j (by omega))) (up_of (by omega)), by rw [up_of (by omega), e4 52 (by omega)]; exact g4, ⟨up_s, fun j hj => absurd hj (by simp)⟩, ?_, ?_, ?_, ?_, ?_⟩, fun a ha => by rw [up_of (by omega), e4 a (by omega)]⟩
          · rw [aX7_restore_50]
            simp (disch := omega) only [kX7_restore, eq_self, Nat.reduceEqDiff, Nat.one_ne_zero, Nat.zero_ne_one, z_0, z_lt, z_le, z_eq, z_add, z_mul, z_inb, z_cl, z_b0, z_b1, z_b01, z_b010, z_b011, kb_v, kb_n, List.cons_append, List.nil_append, if_true, if_false, ↓reduceIte, Bool.false_eq_true, Bool.true_eq_false, decide_eq_true_eq, decide_eq_false_iff_not, not_false_eq_true, m_in, lN_tI, Int32.toInt_toInt64, z_tI, g4.2, h6, Nat.mul_zero, Nat.mul_one, Nat.add_zero, Nat.reduceAdd, Nat.reduceMul, e1]
            (repeat' split) <;> first | rfl | (exfalso; omega)
          · unfold MW; simp (disch := omega) only [up_of]; rw [e4 54 (by omega), e4 55 (by omega), e4 56 (by omega)]; exact g6
          · unfold MP; simp (disch := omega) only [up_of, up_j]; rw [e4 50 (by omega), e4 57 (by omega)]; exact g7
          · rw [up_j (by omega), e4 50 (by omega)]; exact g8
          · rw [up_j (by omega), e4 50 (by omega)]; exact g9
          · unfold MC; simp (disch := omega) only [up_of, up_j]; rw [e4 50 (by omega), e4 58 (by omega)]; exact g10
        · obtain ⟨h1, h2, h3, h4, h5, h6, h7, h8, h9, h10, h11, h12⟩ := ok
          exact ⟨h3, h2, h3, by simp, fun j hj => absurd hj (by simp), h6, h7, h8, h9, h10, h11, h12⟩
  · have ha' : ¬ (0 ≤ a.toInt ∧ a.toInt < ((2 : Nat) : Int)) := fun q => ha (decide_eq_true q)
    have ha : isin a 2 = false := by simpa using ha
    refine ⟨.int (-1000001), _, XO_id fun σ d h => ?_, MO_id fun σ d h => ?_, ok⟩
    · rw [aX6_restore_0]
      simp (disch := omega) only [kX6_restore, eq_self, Nat.reduceEqDiff, Nat.one_ne_zero, Nat.zero_ne_one, z_0, z_lt, z_le, z_eq, z_add, z_mul, z_inb, z_cl, z_b0, z_b1, z_b01, z_b010, z_b011, kb_v, kb_n, List.cons_append, List.nil_append, if_true, if_false, ↓reduceIte, Bool.false_eq_true, Bool.true_eq_false, decide_eq_true_eq, decide_eq_false_iff_not, not_false_eq_true, e_isOne, ha]
    · rw [aX7_restore_50]
      simp (disch := omega) only [kX7_restore, eq_self, Nat.reduceEqDiff, Nat.one_ne_zero, Nat.zero_ne_one, z_0, z_lt, z_le, z_eq, z_add, z_mul, z_inb, z_cl, z_b0, z_b1, z_b01, z_b010, z_b011, kb_v, kb_n, List.cons_append, List.nil_append, if_true, if_false, ↓reduceIte, Bool.false_eq_true, Bool.true_eq_false, decide_eq_true_eq, decide_eq_false_iff_not, not_false_eq_true, m_in, lN_tI, Int32.toInt_toInt64]
      rw [if_pos (by omega)]
def psh (A : List TT) (T : TT) : List TT := (T :: A).take 24
theorem psh_len {A : List TT} {T : TT} : (psh A T).length = min 24 (A.length + 1) := by simp [psh]; omega
theorem psh_0 {A : List TT} {T : TT} : (psh A T).getD 0 zT = T := by simp [psh]
theorem psh_s {A : List TT} {T : TT} {j : Nat} (h : j < 23) : (psh A T).getD (j + 1) zT = A.getD j zT := by
  unfold psh
  rw [List.getD_eq_getElem?_getD, List.getElem?_take_of_lt (by omega), List.getElem?_cons_succ, ← List.getD_eq_getElem?_getD]
theorem x_keep {σ : Sg} {T : TT} {A : List TT} (h : XT σ 8 T) (hA : XA σ A) (hl : A.length ≤ 24) (d : Nat) : ∃ σ', cal (d + 1) mX0_keep [.ref 44, .ref 8] σ = some (none, σ') ∧ XA σ' (psh A T) ∧ ∀ a, a ≠ 44 → a ≠ 45 → σ' a = σ a := by
  obtain ⟨a1, nx, n1, n2, n3⟩ := hA
  refine ⟨up (up (up (up (up (up (up (up σ 45 (nx * 6) (nI (T 0))) 45 (nx * 6 + 1) (nI (T 1))) 45 (nx * 6 + 2) (nI (T 2))) 45 (nx * 6 + 3) (nI (T 3))) 45 (nx * 6 + 4) (nI (T 4))) 45 (nx * 6 + 5) (nI (T 5))) 44 2 (nI (if nx + 1 < 24 then nx + 1 else 0))) 44 1 (nI (min 24 (A.length + 1))), ?_, ⟨by rw [up_s, psh_len], if nx + 1 < 24 then nx + 1 else 0, by split <;> omega, by rw [up_j (by omega), up_s], fun j hj k hk => ?_⟩, fun a ha hb => by simp (disch := omega) only [up_of]⟩
  · rw [aX0_keep_44_8]
    simp (disch := omega) only [kX0_keep_0, kX0_keep_1, eq_self, Nat.reduceEqDiff, Nat.one_ne_zero, Nat.zero_ne_one, z_0, z_lt, z_le, z_eq, z_add, z_mul, z_inb, z_cl, z_b0, z_b1, z_b01, z_b010, z_b011, kb_v, kb_n, List.cons_append, List.nil_append, if_true, if_false, ↓reduceIte, Bool.false_eq_true, Bool.true_eq_false, decide_eq_true_eq, decide_eq_false_iff_not, not_false_eq_true, up_s, up_k, up_j, XT8 h, a1, n2]
    rw [show (if A.length + 1 < 24 then nI (A.length + 1) else nI 24) = nI (min 24 (A.length + 1)) by split <;> congr 1 <;> omega]
    by_cases e : nx + 1 < 24
    · rw [if_neg (by omega), if_pos e]
    · rw [if_pos (by omega), if_neg e]
  · rw [psh_len] at hj
    have hm : (if nx + 1 < 24 then nx + 1 else 0) = (nx + 1) % 24 := by split <;> omega
    rw [hm]
    simp (disch := omega) only [up_of]
    cases j with
    | zero =>
      rw [psh_0, show ((nx + 1) % 24 + 23 - 0) % 24 = nx by omega]
      rcases (show k = 0 ∨ k = 1 ∨ k = 2 ∨ k = 3 ∨ k = 4 ∨ k = 5 by omega) with rfl | rfl | rfl | rfl | rfl | rfl
      all_goals (rw [Nat.mul_comm 6 nx]; simp (disch := omega) only [Nat.add_zero, up_s, up_j])
    | succ j =>
      rw [psh_s (by omega), show ((nx + 1) % 24 + 23 - (j + 1)) % 24 = (nx + 23 - j) % 24 by omega]
      simp (disch := omega) only [up_j]
      exact n3 j (by omega) k hk
theorem x_back {σ : Sg} {T a : TT} {A : List TT} (h : XT σ 8 T) (hA : XA σ (a :: A)) (hl : A.length < 24) (d : Nat) : ∃ σ', cal (d + 1) mX0_takeBack [.ref 44, .ref 8] σ = some (some (.int (nI A.length)), σ') ∧ XA σ' A ∧ XT σ' 8 (rst T a) ∧ ∀ q, q ≠ 44 → q ≠ 8 → σ' q = σ q := by
  obtain ⟨a1, nx, n1, n2, n3⟩ := hA
  have hl1 : (a :: A).length = A.length + 1 := rfl
  rw [hl1] at a1 n3
  have e0 : ∀ k, k < 6 → σ 45 ((if 0 < nx then nx - 1 else 23) * 6 + k) = nI (a k) := fun k hk => by
    have := n3 0 (by omega) k hk
    rw [show (nx + 23 - 0) % 24 = (if 0 < nx then nx - 1 else 23) by split <;> omega, Nat.mul_comm] at this
    exact this
  refine ⟨up (up (up (up (up (up (up (up σ 44 2 (nI (if 0 < nx then nx - 1 else 23))) 44 1 (nI A.length)) 8 1 (nI (a 0))) 8 2 (nI (a 1))) 8 3 (nI (a 2))) 8 6 (nI (a 3))) 8 7 (nI (a 4))) 8 8 (nI (a 5)), ?_, ⟨by simp (disch := omega) only [up_s, up_k, up_j], if 0 < nx then nx - 1 else 23, by split <;> omega, by simp (disch := omega) only [up_s, up_k, up_j], fun j hj k hk => ?_⟩, ?_, fun q h1 h2 => by simp (disch := omega) only [up_of]⟩
  · rw [aX0_takeBack_44_8]
    by_cases e : 0 < nx
    · simp only [e, if_true] at e0
      simp (disch := omega) only [kX0_takeBack_0, kX0_takeBack_1, eq_self, Nat.reduceEqDiff, Nat.one_ne_zero, Nat.zero_ne_one, z_0, z_lt, z_le, z_eq, z_add, z_mul, z_inb, z_cl, z_b0, z_b1, z_b01, z_b010, z_b011, kb_v, kb_n, List.cons_append, List.nil_append, if_true, if_false, ↓reduceIte, Bool.false_eq_true, Bool.true_eq_false, decide_eq_true_eq, decide_eq_false_iff_not, not_false_eq_true, up_s, up_k, up_j, n2, a1, z_sub, e0]
      have e00 := e0 0 (by omega)
      rw [Nat.add_zero] at e00
      simp (disch := omega) only [kX0_takeBack_0, kX0_takeBack_1, eq_self, Nat.reduceEqDiff, Nat.one_ne_zero, Nat.zero_ne_one, z_0, z_lt, z_le, z_eq, z_add, z_mul, z_inb, z_cl, z_b0, z_b1, z_b01, z_b010, z_b011, kb_v, kb_n, List.cons_append, List.nil_append, if_true, if_false, ↓reduceIte, Bool.false_eq_true, Bool.true_eq_false, decide_eq_true_eq, decide_eq_false_iff_not, not_false_eq_true, up_s, up_k, up_j, z_sub, e0, e00, e, Nat.add_sub_cancel]
      repeat first | rw [if_neg (by omega)] | rw [if_pos (by omega)]
    · have : nx = 0 := by omega
      subst this
      simp only [e, if_false] at e0
      have e00 := e0 0 (by omega)
      rw [Nat.add_zero] at e00
      simp (disch := omega) only [kX0_takeBack_0, kX0_takeBack_1, eq_self, Nat.reduceEqDiff, Nat.one_ne_zero, Nat.zero_ne_one, z_0, z_lt, z_le, z_eq, z_add, z_mul, z_inb, z_cl, z_b0, z_b1, z_b01, z_b010, z_b011, kb_v, kb_n, List.cons_append, List.nil_append, if_true, if_false, ↓reduceIte, Bool.false_eq_true, Bool.true_eq_false, decide_eq_true_eq, decide_eq_false_iff_not, not_false_eq_true, up_s, up_k, up_j, n2, a1, z_sub, e0, e00, e, Nat.add_sub_cancel, Nat.lt_irrefl]
      repeat first | rw [if_neg (by omega)] | rw [if_pos (by omega)]
  · simp (disch := omega) only [up_of]
    rw [show ((if 0 < nx then nx - 1 else 23) + 23 - j) % 24 = (nx + 23 - (j + 1)) % 24 by split <;> omega]
    have := n3 (j + 1) (by omega) k hk
    rw [this]
    rfl
  · refine XT_mk (σ := up (up σ 44 2 (nI (if 0 < nx then nx - 1 else 23))) 44 1 (nI A.length)) (XT_cg h (fun q _ _ => by simp (disch := omega) only [up_of])) (fun k hk => if_neg (by omega)) (fun q hq => by simp only [up_of hq]) ?_ ?_ ?_ ?_ ?_ ?_ ?_ ?_ ?_
    all_goals simp (disch := omega) only [up_s, up_k, up_j]
    all_goals rfl
