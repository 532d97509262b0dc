theorem b_elder (a b : Int32) : BO mX6_elder mX7_elder [.int a, .int b] := by
  rintro ⟨T, I0, I1, A, rz, rl, it, tn, tp, ft, fs, cn, ct⟩ ok
  have w : WF T := ok.1
  have w1 := w.1
  have hv := vot_lt T (T 4) (T 5) (by omega)
  by_cases ha : isin a (T 8) = true
  · obtain ⟨e, he, rfl⟩ := (isin_t (by omega)).mp ha
    have we := w.2.2.2.2.1 e he
    refine ⟨.int (if b = nI 0 then nI (T (37 + e)) else if b = nI 1 then nI (T (42 + e)) else if b = nI 2 then nI (T (47 + e)) else if b = nI 3 then nI ((T 5).testBit e).toNat else if b = nI 4 then nI (fnd T e (T 4)) else if b = nI 5 then nI ((vot T (T 4) (T 5)).testBit e).toNat else -1000001), _, fun σ d h => ⟨σ, ?_, h, fun _ _ => rfl⟩, fun σ d h => ⟨σ, ?_, h, fun _ _ => rfl⟩, ok⟩
    · have hT : XT σ 8 T := h.1
      rw [aX6_elder_0]
      simp (disch := omega) only [kX6_elder_0, kX6_elder_1, eq_self, Nat.reduceEqDiff, Nat.one_ne_zero, Nat.zero_ne_one, z_0, z_lt, z_le, z_eq, z_add, z_mul, z_inb, z_cl, z_b0, z_b1, z_b01, z_b010, z_b011, kb_v, kb_n, List.cons_append, List.nil_append, if_true, if_false, ↓reduceIte, Bool.false_eq_true, Bool.true_eq_false, decide_eq_true_eq, decide_eq_false_iff_not, not_false_eq_true, x_isElder hT w, ha, XT8 hT, e_bit, x_finds hT w, x_votes hT w]
      (repeat' split) <;> first | rfl | (exfalso; omega)
    · have hT : MT σ 0 T := h.1
      rw [aX7_elder_50]
      simp (disch := omega) only [kX7_elder_0, kX7_elder_1, eq_self, Nat.reduceEqDiff, Nat.one_ne_zero, Nat.zero_ne_one, z_0, z_lt, z_le, z_eq, z_add, z_mul, z_inb, z_cl, z_b0, z_b1, z_b01, z_b010, z_b011, kb_v, kb_n, List.cons_append, List.nil_append, if_true, if_false, ↓reduceIte, Bool.false_eq_true, Bool.true_eq_false, decide_eq_true_eq, decide_eq_false_iff_not, not_false_eq_true, m_isElder hT w, ha, MT0 hT, z_bit, m_finds hT w, m_votesNow hT w]
      (repeat' split) <;> first | rfl | (exfalso; omega)
  · have ha : isin a (T 8) = false := by simpa using ha
    refine ⟨.int (-1000001), _, fun σ d h => ⟨σ, ?_, h, fun _ _ => rfl⟩, fun σ d h => ⟨σ, ?_, h, fun _ _ => rfl⟩, ok⟩
    · have hT : XT σ 8 T := h.1
      rw [aX6_elder_0]
      simp (disch := omega) only [kX6_elder_0, kX6_elder_1, eq_self, Nat.reduceEqDiff, Nat.one_ne_zero, Nat.zero_ne_one, z_0, z_lt, z_le, z_eq, z_add, z_mul, z_inb, z_cl, z_b0, z_b1, z_b01, z_b010, z_b011, kb_v, kb_n, List.cons_append, List.nil_append, if_true, if_false, ↓reduceIte, Bool.false_eq_true, Bool.true_eq_false, decide_eq_true_eq, decide_eq_false_iff_not, not_false_eq_true, x_isElder hT w, ha]
    · have hT : MT σ 0 T := h.1
      rw [aX7_elder_50]
      simp (disch := omega) only [kX7_elder_0, kX7_elder_1, eq_self, Nat.reduceEqDiff, Nat.one_ne_zero, Nat.zero_ne_one, z_0, z_lt, z_le, z_eq, z_add, z_mul, z_inb, z_cl, z_b0, z_b1, z_b01, z_b010, z_b011, kb_v, kb_n, List.cons_append, List.nil_append, if_true, if_false, ↓reduceIte, Bool.false_eq_true, Bool.true_eq_false, decide_eq_true_eq, decide_eq_false_iff_not, not_false_eq_true, m_isElder hT w, ha]
theorem b_stand (b : Int32) : BO mX6_stand mX7_stand [.int b] := by
  rintro ⟨T, I0, I1, A, rz, rl, it, tn, tp, ft, fs, cn, ct⟩ ok
  have w : WF T := ok.1
  have w1 := w.1
  have hv := vot_lt T (T 4) (T 5) (by omega)
  by_cases h6 : T 6 = 0
  · refine ⟨.int (-1000002), _, fun σ d h => ⟨σ, ?_, h, fun _ _ => rfl⟩, fun σ d h => ⟨σ, ?_, h, fun _ _ => rfl⟩, ok⟩
    · have hT : XT σ 8 T := h.1
      rw [aX6_stand_0]
      simp (disch := omega) only [kX6_stand_0, kX6_stand_1, eq_self, Nat.reduceEqDiff, Nat.one_ne_zero, Nat.zero_ne_one, z_0, z_lt, z_le, z_eq, z_add, z_mul, z_inb, z_cl, z_b0, z_b1, z_b01, z_b010, z_b011, kb_v, kb_n, List.cons_append, List.nil_append, if_true, if_false, ↓reduceIte, Bool.false_eq_true, Bool.true_eq_false, decide_eq_true_eq, decide_eq_false_iff_not, not_false_eq_true, XT8 hT, h6]
    · have hT : MT σ 0 T := h.1
      rw [aX7_stand_50]
      simp (disch := omega) only [kX7_stand, eq_self, Nat.reduceEqDiff, Nat.one_ne_zero, Nat.zero_ne_one, z_0, z_lt, z_le, z_eq, z_add, z_mul, z_inb, z_cl, z_b0, z_b1, z_b01, z_b010, z_b011, kb_v, kb_n, List.cons_append, List.nil_append, if_true, if_false, ↓reduceIte, Bool.false_eq_true, Bool.true_eq_false, decide_eq_true_eq, decide_eq_false_iff_not, not_false_eq_true, m_isTrial hT w, h6]
  · have h6 : T 6 = 1 := by omega
    refine ⟨.int (if b = nI 0 then nI (T 0) else if b = nI 1 then nI (T 1) else if b = nI 2 then nI (T 2) else if b = nI 3 then nI (T 3) else if b = nI 4 then nI (T 4) else if b = nI 5 then nI (vot T (T 4) (T 5)) else if b = nI 6 then nI (pas T).toNat else -1000001), _, fun σ d h => ⟨σ, ?_, h, fun _ _ => rfl⟩, fun σ d h => ⟨σ, ?_, h, fun _ _ => rfl⟩, ok⟩
    · have hT : XT σ 8 T := h.1
      rw [aX6_stand_0]
      simp (disch := omega) only [kX6_stand_0, kX6_stand_1, eq_self, Nat.reduceEqDiff, Nat.one_ne_zero, Nat.zero_ne_one, z_0, z_lt, z_le, z_eq, z_add, z_mul, z_inb, z_cl, z_b0, z_b1, z_b01, z_b010, z_b011, kb_v, kb_n, List.cons_append, List.nil_append, if_true, if_false, ↓reduceIte, Bool.false_eq_true, Bool.true_eq_false, decide_eq_true_eq, decide_eq_false_iff_not, not_false_eq_true, XT8 hT, h6, x_votes hT w, x_passes hT w]
      (repeat' split) <;> first | rfl | (exfalso; omega) | (cases hq : pas T <;> simp_all; done)
    · have hT : MT σ 0 T := h.1
      rw [aX7_stand_50]
      simp (disch := omega) only [kX7_stand, eq_self, Nat.reduceEqDiff, Nat.one_ne_zero, Nat.zero_ne_one, z_0, z_lt, z_le, z_eq, z_add, z_mul, z_inb, z_cl, z_b0, z_b1, z_b01, z_b010, z_b011, kb_v, kb_n, List.cons_append, List.nil_append, if_true, if_false, ↓reduceIte, Bool.false_eq_true, Bool.true_eq_false, decide_eq_true_eq, decide_eq_false_iff_not, not_false_eq_true, m_isTrial hT w, h6, m_in, lN_tI, Int32.toInt_toInt64]
      by_cases hb : inr b 0 6 = true
      · obtain ⟨j, -, hj, rfl⟩ := (inr_t (by omega)).mp hb
        have hbb : (((0 : Nat) : Int) ≤ (j : Int) ∧ (j : Int) ≤ ((6 : Nat) : Int)) := by omega
        simp (disch := omega) only [z_tI, hbb, and_self, not_true_eq_false, decide_true, eq_self, Nat.reduceEqDiff, Nat.one_ne_zero, Nat.zero_ne_one, z_0, z_lt, z_le, z_eq, z_add, z_mul, z_inb, z_cl, z_b0, z_b1, z_b01, z_b010, z_b011, kb_v, kb_n, List.cons_append, List.nil_append, if_true, if_false, ↓reduceIte, Bool.false_eq_true, Bool.true_eq_false, decide_eq_true_eq, decide_eq_false_iff_not, not_false_eq_true, m_votesNow hT w, m_isWhole hT w, m_isMost hT w]
        rcases (show j = 0 ∨ j = 1 ∨ j = 2 ∨ j = 3 ∨ j = 4 ∨ j = 5 ∨ j = 6 by omega) with rfl | rfl | rfl | rfl | rfl | rfl | rfl
        all_goals simp (disch := omega) only [kX7_stand, MT0 hT, eq_self, Nat.reduceEqDiff, Nat.one_ne_zero, Nat.zero_ne_one, z_0, z_lt, z_le, z_eq, z_add, z_mul, z_inb, z_cl, z_b0, z_b1, z_b01, z_b010, z_b011, kb_v, kb_n, List.cons_append, List.nil_append, if_true, if_false, ↓reduceIte, Bool.false_eq_true, Bool.true_eq_false, decide_eq_true_eq, decide_eq_false_iff_not, not_false_eq_true, Nat.reduceEqDiff, Nat.reduceLeDiff, Nat.le_refl, m_votesNow hT w, m_isWhole hT w, m_isMost hT w]
        all_goals first | rfl | skip
        unfold pas
        by_cases q : T 3 = 2 ^ (T 7) - 1
        · cases hq : wns T (vot T (T 4) (T 5)) <;> simp [q]
        · simp [q]
      · have hn : ∀ j, j ≤ 6 → ¬ b = nI j := fun j hj q => hb ((inr_t (by omega)).mpr ⟨j, by omega, hj, q⟩)
        have hb : ¬ (((0 : Nat) : Int) ≤ b.toInt ∧ b.toInt ≤ ((6 : Nat) : Int)) := fun q => hb (decide_eq_true q)
        simp only [hb, decide_false, if_true, if_false, hn 0 (by omega), hn 1 (by omega), hn 2 (by omega), hn 3 (by omega), hn 4 (by omega), hn 5 (by omega), hn 6 (by omega)]
        rfl
theorem b_trace (a : Int32) : BO mX6_trace mX7_trace [.int a] := by
  rintro ⟨T, I0, I1, A, rz, rl, it, tn, tp, ft, fs, cn, ct⟩ ok
  have hcn : cn ≤ 16 := ok.2.2.2.2.2.2.2.2.2.2.1
  by_cases ha : isin a cn = true
  · obtain ⟨j, hj, rfl⟩ := (isin_t (by omega)).mp ha
    refine ⟨.int (nI (ct j)), _, fun σ d h => ⟨σ, ?_, h, fun _ _ => rfl⟩, fun σ d h => ⟨σ, ?_, h, fun _ _ => rfl⟩, ok⟩
    · obtain ⟨h1, h2⟩ : XC σ cn ct := h.2.2.2.2.2.2.2.2
      rw [aX6_trace_0]
      simp (disch := omega) only [kX6_trace, eq_self, Nat.reduceEqDiff, Nat.one_ne_zero, Nat.zero_ne_one, z_0, z_lt, z_le, z_eq, z_add, z_mul, z_inb, z_cl, z_b0, z_b1, z_b01, z_b010, z_b011, kb_v, kb_n, List.cons_append, List.nil_append, if_true, if_false, ↓reduceIte, Bool.false_eq_true, Bool.true_eq_false, decide_eq_true_eq, decide_eq_false_iff_not, not_false_eq_true, h1, h2]
      (repeat' split) <;> first | rfl | (exfalso; omega)
    · obtain ⟨h1, h2⟩ : MC σ cn ct := h.2.2.2.2.2.2.2.2.2
      rw [aX7_trace_50]
      simp (disch := omega) only [kX7_trace, eq_self, Nat.reduceEqDiff, Nat.one_ne_zero, Nat.zero_ne_one, z_0, z_lt, z_le, z_eq, z_add, z_mul, z_inb, z_cl, z_b0, z_b1, z_b01, z_b010, z_b011, kb_v, kb_n, List.cons_append, List.nil_append, if_true, if_false, ↓reduceIte, Bool.false_eq_true, Bool.true_eq_false, decide_eq_true_eq, decide_eq_false_iff_not, not_false_eq_true, h1, h2, m_in, lN_tI, Int32.toInt_toInt64, sub1_tI, z_tI]
      (repeat' split) <;> first | rfl | (exfalso; omega)
  · have ha : ¬ (0 ≤ a.toInt ∧ a.toInt < (cn : Int)) := by simpa [isin] using ha
    refine ⟨.int (-1000000), _, fun σ d h => ⟨σ, ?_, h, fun _ _ => rfl⟩, fun σ d h => ⟨σ, ?_, h, fun _ _ => rfl⟩, ok⟩
    · obtain ⟨h1, h2⟩ : XC σ cn ct := h.2.2.2.2.2.2.2.2
      rw [aX6_trace_0]
      simp (disch := omega) only [kX6_trace, h1, lt_I, le_I, z_tI]
      (repeat' split) <;> first | rfl | (exfalso; omega)
    · obtain ⟨h1, h2⟩ : MC σ cn ct := h.2.2.2.2.2.2.2.2.2
      rw [aX7_trace_50]
      simp (disch := omega) only [kX7_trace, eq_self, Nat.reduceEqDiff, Nat.one_ne_zero, Nat.zero_ne_one, z_0, z_lt, z_le, z_eq, z_add, z_mul, z_inb, z_cl, z_b0, z_b1, z_b01, z_b010, z_b011, kb_v, kb_n, List.cons_append, List.nil_append, if_true, if_false, ↓reduceIte, Bool.false_eq_true, Bool.true_eq_false, decide_eq_true_eq, decide_eq_false_iff_not, not_false_eq_true, h1, m_in, lN_tI, Int32.toInt_toInt64, sub1_tI, z_tI]
      (repeat' split) <;> first | rfl | (exfalso; omega)
theorem b_as (a b : Int32) : BO mX6_as mX7_as [.int a, .int b] := by
  rintro ⟨T, I0, I1, A, rz, rl, it, tn, tp, ft, fs, cn, ct⟩ ok
  have w : WF T := ok.1
  have w1 := w.1
  by_cases ha : isin a (T 7) = true
  · by_cases hb : inr b 0 5 = true
    · obtain ⟨p, hp, rfl⟩ := (isin_t (by omega)).mp ha
      obtain ⟨k, -, hk, rfl⟩ := (inr_t (by omega)).mp hb
      have wp := w.2.2.2.1 p hp
      have hkt : kta (T (9 + p)) < 100 := by unfold kta; (repeat' split) <;> omega
      by_cases hq : (kta (T (9 + p))).testBit k = true
      · refine ⟨.int (nI p), (T, I0, I1, A, rz, rl, it, tn, tp, ft, 0, cn, ct), fun σ d h => ?_, fun σ d h => ?_, ?_⟩
        · have hT : XT σ 8 T := h.1
          refine ⟨up σ 0 10 (nI 0), ?_, XR_st 0 h (fun a ha => up_of (by omega)) (by simp (disch := omega) only [up_s, up_k, up_j]) up_s, fun a ha => up_of (by omega)⟩
          rw [aX6_as_0]
          simp (disch := omega) only [kX6_as, eq_self, Nat.reduceEqDiff, Nat.one_ne_zero, Nat.zero_ne_one, z_0, z_lt, z_le, z_eq, z_add, z_mul, z_inb, z_cl, z_b0, z_b1, z_b01, z_b010, z_b011, kb_v, kb_n, List.cons_append, List.nil_append, if_true, if_false, ↓reduceIte, Bool.false_eq_true, Bool.true_eq_false, decide_eq_true_eq, decide_eq_false_iff_not, not_false_eq_true, x_isPart hT w, ha, XT8 hT, e_kta, e_bit, hq, x_clean, Bool.toNat_true]
          (repeat' split) <;> first | rfl | (exfalso; omega)
        · have hT : MT σ 0 T := h.1
          refine ⟨up σ 50 7 (nI 0), ?_, MR_st w ok.2.1 ok.2.2.1 0 h (fun j _ => by simp (disch := omega) only [up_s, up_k, up_j]) (fun a ha => up_of (by omega)) (by simp (disch := omega) only [up_s, up_k, up_j]) (by simp (disch := omega) only [up_s, up_k, up_j]) (by simp (disch := omega) only [up_s, up_k, up_j]) (by simp (disch := omega) only [up_s, up_k, up_j]) up_s, fun a ha => up_of (by omega)⟩
          rw [aX7_as_50]
          simp (disch := omega) only [kX7_as_0, kX7_as_1, eq_self, Nat.reduceEqDiff, Nat.one_ne_zero, Nat.zero_ne_one, z_0, z_lt, z_le, z_eq, z_add, z_mul, z_inb, z_cl, z_b0, z_b1, z_b01, z_b010, z_b011, kb_v, kb_n, List.cons_append, List.nil_append, if_true, if_false, ↓reduceIte, Bool.false_eq_true, Bool.true_eq_false, decide_eq_true_eq, decide_eq_false_iff_not, not_false_eq_true, m_isPart hT w, ha, MT0 hT, m_in, lN_tI, Int32.toInt_toInt64, z_tI, m_good, m_found]
          have key : ∀ o k : Fin 6, 1 ≤ o.val → (kta o.val).testBit k.val = true → (k.val = 0 ∨ k.val = o.val ∨ (k.val = 1 ∧ (o.val = 2 ∨ o.val = 3)) ∨ (k.val = 4 ∧ o.val = 5)) := by decide
          have key := key ⟨T (9 + p), by omega⟩ ⟨k, by omega⟩ (by dsimp only; omega) hq
          dsimp only at key
          (repeat' split) <;> first | rfl | (exfalso; omega) | (exfalso; simp_all; omega)
        · exact ⟨ok.1, ok.2.1, ok.2.2.1, ok.2.2.2.1, ok.2.2.2.2.1, ok.2.2.2.2.2.1, ok.2.2.2.2.2.2.1, ok.2.2.2.2.2.2.2.1, ok.2.2.2.2.2.2.2.2.1, by omega, ok.2.2.2.2.2.2.2.2.2.2.1, ok.2.2.2.2.2.2.2.2.2.2.2⟩
      · have hq : (kta (T (9 + p))).testBit k = false := by simpa using hq
        refine ⟨.int (-1000010 - nI 3), (T, I0, I1, A, rz, rl, it, tn, tp, ft, 3, cn, ct), fun σ d h => ?_, fun σ d h => ?_, ?_⟩
        · have hT : XT σ 8 T := h.1
          refine ⟨up σ 0 10 (nI 3), ?_, XR_st 3 h (fun a ha => up_of (by omega)) (by simp (disch := omega) only [up_s, up_k, up_j]) up_s, fun a ha => up_of (by omega)⟩
          rw [aX6_as_0]
          simp (disch := omega) only [kX6_as, eq_self, Nat.reduceEqDiff, Nat.one_ne_zero, Nat.zero_ne_one, z_0, z_lt, z_le, z_eq, z_add, z_mul, z_inb, z_cl, z_b0, z_b1, z_b01, z_b010, z_b011, kb_v, kb_n, List.cons_append, List.nil_append, if_true, if_false, ↓reduceIte, Bool.false_eq_true, Bool.true_eq_false, decide_eq_true_eq, decide_eq_false_iff_not, not_false_eq_true, x_isPart hT w, ha, XT8 hT, e_kta, e_bit, hq, x_finding, Bool.toNat_false]
          (repeat' split) <;> first | rfl | (exfalso; omega)
        · have hT : MT σ 0 T := h.1
          refine ⟨up σ 50 7 (nI 3), ?_, MR_st w ok.2.1 ok.2.2.1 3 h (fun j _ => by simp (disch := omega) only [up_s, up_k, up_j]) (fun a ha => up_of (by omega)) (by simp (disch := omega) only [up_s, up_k, up_j]) (by simp (disch := omega) only [up_s, up_k, up_j]) (by simp (disch := omega) only [up_s, up_k, up_j]) (by simp (disch := omega) only [up_s, up_k, up_j]) up_s, fun a ha => up_of (by omega)⟩
          rw [aX7_as_50]
          simp (disch := omega) only [kX7_as_0, kX7_as_1, eq_self, Nat.reduceEqDiff, Nat.one_ne_zero, Nat.zero_ne_one, z_0, z_lt, z_le, z_eq, z_add, z_mul, z_inb, z_cl, z_b0, z_b1, z_b01, z_b010, z_b011, kb_v, kb_n, List.cons_append, List.nil_append, if_true, if_false, ↓reduceIte, Bool.false_eq_true, Bool.true_eq_false, decide_eq_true_eq, decide_eq_false_iff_not, not_false_eq_true, m_isPart hT w, ha, MT0 hT, m_in, lN_tI, Int32.toInt_toInt64, z_tI, m_good, m_found]
          have key : ∀ o k : Fin 6, 1 ≤ o.val → (kta o.val).testBit k.val = false → ¬ (k.val = 0 ∨ k.val = o.val ∨ (k.val = 1 ∧ (o.val = 2 ∨ o.val = 3)) ∨ (k.val = 4 ∧ o.val = 5)) := by decide
          have key := key ⟨T (9 + p), by omega⟩ ⟨k, by omega⟩ (by dsimp only; omega) hq
          dsimp only at key
          (repeat' split) <;> first | rfl | (exfalso; omega) | (exfalso; simp_all; omega)
        · exact ⟨ok.1, ok.2.1, ok.2.2.1, ok.2.2.2.1, ok.2.2.2.2.1, ok.2.2.2.2.2.1, ok.2.2.2.2.2.2.1, ok.2.2.2.2.2.2.2.1, ok.2.2.2.2.2.2.2.2.1, by omega, ok.2.2.2.2.2.2.2.2.2.2.1, ok.2.2.2.2.2.2.2.2.2.2.2⟩
    · have hb : ¬ (((0 : Nat) : Int) ≤ b.toInt ∧ b.toInt ≤ ((5 : Nat) : Int)) := fun q => hb (decide_eq_true q)
      refine ⟨.int (-1000001), _, fun σ d h => ⟨σ, ?_, h, fun _ _ => rfl⟩, fun σ d h => ⟨σ, ?_, h, fun _ _ => rfl⟩, ok⟩
      · have hT : XT σ 8 T := h.1
        rw [aX6_as_0]
        simp (disch := omega) only [kX6_as, kb_v, z_b0, z_b1, List.cons_append, List.nil_append, x_isPart hT w, ha, ↓reduceIte, Bool.true_eq_false, lt_I, le_I, z_tI]
        (repeat' split) <;> first | rfl | (exfalso; omega)
      · have hT : MT σ 0 T := h.1
        rw [aX7_as_50]
        simp (disch := omega) only [kX7_as_0, kX7_as_1, eq_self, Nat.reduceEqDiff, Nat.one_ne_zero, Nat.zero_ne_one, z_0, z_lt, z_le, z_eq, z_add, z_mul, z_inb, z_cl, z_b0, z_b1, z_b01, z_b010, z_b011, kb_v, kb_n, List.cons_append, List.nil_append, if_true, if_false, ↓reduceIte, Bool.false_eq_true, Bool.true_eq_false, decide_eq_true_eq, decide_eq_false_iff_not, not_false_eq_true, m_isPart hT w, ha, m_in, lN_tI, Int32.toInt_toInt64, hb, decide_false]
  · have ha : isin a (T 7) = false := by simpa using ha
    refine ⟨.int (-1000001), _, fun σ d h => ⟨σ, ?_, h, fun _ _ => rfl⟩, fun σ d h => ⟨σ, ?_, h, fun _ _ => rfl⟩, ok⟩
    · have hT : XT σ 8 T := h.1
      rw [aX6_as_0]
      simp (disch := omega) only [kX6_as, eq_self, Nat.reduceEqDiff, Nat.one_ne_zero, Nat.zero_ne_one, z_0, z_lt, z_le, z_eq, z_add, z_mul, z_inb, z_cl, z_b0, z_b1, z_b01, z_b010, z_b011, kb_v, kb_n, List.cons_append, List.nil_append, if_true, if_false, ↓reduceIte, Bool.false_eq_true, Bool.true_eq_false, decide_eq_true_eq, decide_eq_false_iff_not, not_false_eq_true, x_isPart hT w, ha]
    · have hT : MT σ 0 T := h.1
      rw [aX7_as_50]
      simp (disch := omega) only [kX7_as_0, kX7_as_1, eq_self, Nat.reduceEqDiff, Nat.one_ne_zero, Nat.zero_ne_one, z_0, z_lt, z_le, z_eq, z_add, z_mul, z_inb, z_cl, z_b0, z_b1, z_b01, z_b010, z_b011, kb_v, kb_n, List.cons_append, List.nil_append, if_true, if_false, ↓reduceIte, Bool.false_eq_true, Bool.true_eq_false, decide_eq_true_eq, decide_eq_false_iff_not, not_false_eq_true, m_isPart hT w, ha]
