/-! a trial's own functions in the reference -/
theorem x_finding (d : Nat) (σ : Sg) (a : Int32) : cal (d + 1) mX6_finding [.ref 0, .int a] σ = some (some (.int (-1000010 - a)), up σ 0 10 a) := by
  rw [aX6_finding_0]
  simp only [kX6_finding]
theorem x_clean (d : Nat) (σ : Sg) (a : Int32) : cal (d + 1) mX6_clean [.ref 0, .int a] σ = some (some (.int a), up σ 0 10 (nI 0)) := by
  rw [aX6_clean_0]
  simp only [kX6_clean]
theorem m_found (d : Nat) (σ : Sg) (a : Int32) : cal (d + 1) mX7_found [.ref 50, .int a] σ = some (some (.int (-1000010 - a)), up σ 50 7 a) := by
  rw [aX7_found_50]
  simp only [kX7_found]
theorem m_good (d : Nat) (σ : Sg) (a : Int32) : cal (d + 1) mX7_good [.ref 50, .int a] σ = some (some (.int a), up σ 50 7 (nI 0)) := by
  rw [aX7_good_50]
  simp only [kX7_good]
theorem x_isPart {σ : Sg} {T : TT} (h : XT σ 8 T) (w : WF T) (d : Nat) (a : Int32) : cal (d + 1) mX6_isPart [.ref 0, .int a] σ = some (some (.int (nI (isin a (T 7)).toNat)), σ) := by
  have w1 := w.1
  rw [aX6_isPart_0]
  simp (disch := omega) only [kX6_isPart, XT8 h, eq_self, Nat.reduceEqDiff, Nat.one_ne_zero, Nat.zero_ne_one, z_0, z_lt, z_le, z_eq, z_add, z_mul, z_inb, z_cl, z_b0, z_b1, z_b01, z_b010, z_b011, kb_v, kb_n, List.cons_append, List.nil_append, if_true, if_false, ↓reduceIte, Bool.false_eq_true, Bool.true_eq_false, decide_eq_true_eq, decide_eq_false_iff_not, not_false_eq_true, lt_I, le_I, z_tI]
  unfold isin
  (repeat' split) <;> first | rfl | (exfalso; omega) | (rw [decide_eq_true (by omega)]; rfl) | (rw [decide_eq_false (by omega)]; rfl) | (simp_all; done) | (exfalso; simp_all; omega)
theorem x_isElder {σ : Sg} {T : TT} (h : XT σ 8 T) (w : WF T) (d : Nat) (a : Int32) : cal (d + 1) mX6_isElder [.ref 0, .int a] σ = some (some (.int (nI (isin a (T 8)).toNat)), σ) := by
  have w1 := w.1
  rw [aX6_isElder_0]
  simp (disch := omega) only [kX6_isElder, XT8 h, eq_self, Nat.reduceEqDiff, Nat.one_ne_zero, Nat.zero_ne_one, z_0, z_lt, z_le, z_eq, z_add, z_mul, z_inb, z_cl, z_b0, z_b1, z_b01, z_b010, z_b011, kb_v, kb_n, List.cons_append, List.nil_append, if_true, if_false, ↓reduceIte, Bool.false_eq_true, Bool.true_eq_false, decide_eq_true_eq, decide_eq_false_iff_not, not_false_eq_true, lt_I, le_I, z_tI]
  unfold isin
  (repeat' split) <;> first | rfl | (exfalso; omega) | (rw [decide_eq_true (by omega)]; rfl) | (rw [decide_eq_false (by omega)]; rfl) | (simp_all; done) | (exfalso; simp_all; omega)
theorem sub1_tI {n : Nat} (h : n < 2147483648) : (nI n - nI 1).toInt = (n : Int) - 1 := by
  by_cases q : n = 0
  · subst q; decide
  · rw [z_sub (by omega), z_tI (by omega)]; omega
theorem m_isTrial {σ : Sg} {T : TT} (h : MT σ 0 T) (w : WF T) (d : Nat) : cal (d + 1) mX7_isTrial [.ref 50] σ = some (some (.int (nI (T 6))), σ) := by
  have w1 := w.1
  rw [aX7_isTrial_50]
  simp (disch := omega) only [kX7_isTrial, MT0 h, eq_self, Nat.reduceEqDiff, Nat.one_ne_zero, Nat.zero_ne_one, z_0, z_lt, z_le, z_eq, z_add, z_mul, z_inb, z_cl, z_b0, z_b1, z_b01, z_b010, z_b011, kb_v, kb_n, List.cons_append, List.nil_append, if_true, if_false, ↓reduceIte, Bool.false_eq_true, Bool.true_eq_false, decide_eq_true_eq, decide_eq_false_iff_not, not_false_eq_true]
  (repeat' split) <;> exact rI (by omega)
theorem m_isPart {σ : Sg} {T : TT} (h : MT σ 0 T) (w : WF T) (d : Nat) (a : Int32) : cal (d + 2) mX7_isPart [.ref 50, .int a] σ = some (some (.int (nI (isin a (T 7)).toNat)), σ) := by
  have w1 := w.1
  rw [aX7_isPart_50]
  simp (disch := omega) only [kX7_isPart, MT0 h, eq_self, Nat.reduceEqDiff, Nat.one_ne_zero, Nat.zero_ne_one, z_0, z_lt, z_le, z_eq, z_add, z_mul, z_inb, z_cl, z_b0, z_b1, z_b01, z_b010, z_b011, kb_v, kb_n, List.cons_append, List.nil_append, if_true, if_false, ↓reduceIte, Bool.false_eq_true, Bool.true_eq_false, decide_eq_true_eq, decide_eq_false_iff_not, not_false_eq_true, m_in, lN_tI, Int32.toInt_toInt64, sub1_tI]
  unfold isin
  exact rB (decide_eq_decide.mpr (by omega))
theorem m_isElder {σ : Sg} {T : TT} (h : MT σ 0 T) (w : WF T) (d : Nat) (a : Int32) : cal (d + 2) mX7_isElder [.ref 50, .int a] σ = some (some (.int (nI (isin a (T 8)).toNat)), σ) := by
  have w1 := w.1
  rw [aX7_isElder_50]
  simp (disch := omega) only [kX7_isElder, MT0 h, eq_self, Nat.reduceEqDiff, Nat.one_ne_zero, Nat.zero_ne_one, z_0, z_lt, z_le, z_eq, z_add, z_mul, z_inb, z_cl, z_b0, z_b1, z_b01, z_b010, z_b011, kb_v, kb_n, List.cons_append, List.nil_append, if_true, if_false, ↓reduceIte, Bool.false_eq_true, Bool.true_eq_false, decide_eq_true_eq, decide_eq_false_iff_not, not_false_eq_true, m_in, lN_tI, Int32.toInt_toInt64, sub1_tI]
  unfold isin
  exact rB (decide_eq_decide.mpr (by omega))
theorem m_takesNow {σ : Sg} {T : TT} (h : MT σ 0 T) (w : WF T) (d : Nat) {p s : Nat} (hp : p < T 7) (hs : s ≤ 20) : cal (d + 2) mX7_takesNow [.ref 50, .int (nI p), .int (nI s)] σ = some (some (.int (nI (cst T p s))), σ) := by
  have w1 := w.1
  have wp := w.2.2.2.1 p hp
  rw [aX7_takesNow_50]
  simp (disch := omega) only [kX7_takesNow, MT0 h, eq_self, Nat.reduceEqDiff, Nat.one_ne_zero, Nat.zero_ne_one, z_0, z_lt, z_le, z_eq, z_add, z_mul, z_inb, z_cl, z_b0, z_b1, z_b01, z_b010, z_b011, kb_v, kb_n, List.cons_append, List.nil_append, if_true, if_false, ↓reduceIte, Bool.false_eq_true, Bool.true_eq_false, decide_eq_true_eq, decide_eq_false_iff_not, not_false_eq_true, m_takesOf]
  rfl
theorem m_isFaultyNow {σ : Sg} {T : TT} (h : MT σ 0 T) (w : WF T) (d : Nat) {p s : Nat} (hp : p < T 7) (hs : s ≤ 20) : cal (d + 2) mX7_isFaultyNow [.ref 50, .int (nI p), .int (nI s)] σ = some (some (.int (nI (flt T p s).toNat)), σ) := by
  have w1 := w.1
  have wp := w.2.2.2.1 p hp
  rw [aX7_isFaultyNow_50]
  simp (disch := omega) only [kX7_isFaultyNow, MT0 h, eq_self, Nat.reduceEqDiff, Nat.one_ne_zero, Nat.zero_ne_one, z_0, z_lt, z_le, z_eq, z_add, z_mul, z_inb, z_cl, z_b0, z_b1, z_b01, z_b010, z_b011, kb_v, kb_n, List.cons_append, List.nil_append, if_true, if_false, ↓reduceIte, Bool.false_eq_true, Bool.true_eq_false, decide_eq_true_eq, decide_eq_false_iff_not, not_false_eq_true, m_isFaulty]
  rfl
theorem m_isAheadMade {σ : Sg} {T : TT} (h : MT σ 0 T) (w : WF T) (d : Nat) {p s : Nat} (hp : p < T 7) (hs : s < 128) : cal (d + 2) mX7_isAheadMade [.ref 50, .int (nI p), .int (nI s)] σ = some (some (.int (nI (rdy T p s).toNat)), σ) := by
  have w1 := w.1
  have wp := w.2.2.2.1 p hp
  rw [aX7_isAheadMade_50]
  simp (disch := omega) only [kX7_isAheadMade, MT0 h, eq_self, Nat.reduceEqDiff, Nat.one_ne_zero, Nat.zero_ne_one, z_0, z_lt, z_le, z_eq, z_add, z_mul, z_inb, z_cl, z_b0, z_b1, z_b01, z_b010, z_b011, kb_v, kb_n, List.cons_append, List.nil_append, if_true, if_false, ↓reduceIte, Bool.false_eq_true, Bool.true_eq_false, decide_eq_true_eq, decide_eq_false_iff_not, not_false_eq_true, m_has]
  unfold rdy
  by_cases q : T (30 + p) = 7
  · simp [q]
  · simp only [q, decide_false, Bool.false_or, if_false]
    cases s.testBit (T (30 + p)) <;> simp
theorem m_mayBe {σ : Sg} {T : TT} (h : MT σ 0 T) (w : WF T) (d : Nat) {p s sk dy mo : Nat} (hp : p < T 7) (hs : s < 128) (hk : sk ≤ 20) (hd : dy ≤ 1000) (hm : mo ≤ 1000) : cal (d + 3) mX7_mayBe [.ref 50, .int (nI p), .int (nI s), .int (nI sk), .int (nI dy), .int (nI mo)] σ = some (some (.int (nI (may T p s sk dy mo).toNat)), σ) := by
  have w1 := w.1
  have wp := w.2.2.2.1 p hp
  have hc := cst_le w (sk := sk) hp
  rw [aX7_mayBe_50]
  simp (disch := omega) only [kX7_mayBe, MT0 h, eq_self, Nat.reduceEqDiff, Nat.one_ne_zero, Nat.zero_ne_one, z_0, z_lt, z_le, z_eq, z_add, z_mul, z_inb, z_cl, z_b0, z_b1, z_b01, z_b010, z_b011, kb_v, kb_n, List.cons_append, List.nil_append, if_true, if_false, ↓reduceIte, Bool.false_eq_true, Bool.true_eq_false, decide_eq_true_eq, decide_eq_false_iff_not, not_false_eq_true, m_has, m_takesNow h w, m_isAheadMade h w]
  unfold may
  cases s.testBit p
  · cases rdy T p s
    · simp
    · simp
      (repeat' split) <;> first | rfl | (exfalso; omega) | (rw [decide_eq_true (by omega)]; rfl) | (rw [decide_eq_false (by omega)]; rfl) | (simp_all; done) | (exfalso; simp_all; omega)
  · simp
theorem m_mayNow {σ : Sg} {T : TT} (h : MT σ 0 T) (w : WF T) (d : Nat) {p : Nat} (hp : p < T 7) : cal (d + 4) mX7_mayNow [.ref 50, .int (nI p)] σ = some (some (.int (nI (may T p (T 3) (T 0) (T 1) (T 2)).toNat)), σ) := by
  have w1 := w.1
  rw [aX7_mayNow_50]
  simp (disch := omega) only [kX7_mayNow, MT0 h, eq_self, Nat.reduceEqDiff, Nat.one_ne_zero, Nat.zero_ne_one, z_0, z_lt, z_le, z_eq, z_add, z_mul, z_inb, z_cl, z_b0, z_b1, z_b01, z_b010, z_b011, kb_v, kb_n, List.cons_append, List.nil_append, if_true, if_false, ↓reduceIte, Bool.false_eq_true, Bool.true_eq_false, decide_eq_true_eq, decide_eq_false_iff_not, not_false_eq_true, m_mayBe h w]
theorem m_makes {σ : Sg} {T : TT} (h : MT σ 0 T) (w : WF T) (d : Nat) {p : Nat} (hp : p < T 7) (hm : may T p (T 3) (T 0) (T 1) (T 2) = true) :
    ∃ σ', cal (d + 3) mX7_makes [.ref 50, .int (nI p)] σ = some (none, σ') ∧ MT σ' 0 (mkT T p) ∧ (∀ a, a ≠ 51 → σ' a = σ a) ∧ ∀ j, 5 ≤ j → σ' 51 j = σ 51 j := by
  have w1 := w.1
  have wp := w.2.2.2.1 p hp
  have hc := cst_le w (sk := T 0) hp
  have hm2 : cst T p (T 0) ≤ if T (9 + p) = 5 then T 2 else T 1 := by
    unfold may at hm
    simp only [Bool.and_eq_true, decide_eq_true_eq] at hm
    exact hm.2.2
  have hpw := pw_le (p := p) (by omega)
  obtain ⟨g0, g1, g2, g3, g4, g5, g6, g7, g8, q1, q2, q3, q4, q5, q6, q7⟩ := MT0 h
  by_cases hb : T (9 + p) = 5
  all_goals first | have hbp := eq_false hb | have hbp := eq_true hb
  all_goals simp only [hbp, if_true, if_false] at hm2
  all_goals cases hf : flt T p (T 0)
  all_goals (apply Exists.intro; refine ⟨?_, ?_, ?_, ?_⟩)
  all_goals first
    | (rw [aX7_makes_50]
       simp (disch := omega) only [kX7_makes_0, kX7_makes_1, kX7_makes_2, g0, g1, g2, g3, g4, g5, g6, g7, g8, q1, q2, q3, q4, eq_self, Nat.reduceEqDiff, Nat.one_ne_zero, Nat.zero_ne_one, z_0, z_lt, z_le, z_eq, z_add, z_mul, z_inb, z_cl, z_b0, z_b1, z_b01, z_b010, z_b011, kb_v, kb_n, List.cons_append, List.nil_append, if_true, if_false, ↓reduceIte, Bool.false_eq_true, Bool.true_eq_false, decide_eq_true_eq, decide_eq_false_iff_not, not_false_eq_true, up_s, up_k, up_j, m_takesNow h w, m_isFaultyNow h w, m_more, hf, Bool.toNat_false, Bool.toNat_true, z_one, z_or, z_sub, hbp]
       rfl)
    | (refine MT_mk (by omega) (by omega) h (fun k hk => mkT_hi (by omega)) (fun j h1 h2 => by simp (disch := omega) only [up_s, up_k, up_j]) (fun k hk => ?_)
       rcases (show k = 0 ∨ k = 1 ∨ k = 2 ∨ k = 3 ∨ k = 4 ∨ k = 5 by omega) with rfl | rfl | rfl | rfl | rfl | rfl
       all_goals simp (disch := omega) only [up_s, up_k, up_j, g5, mkT_hi]
       all_goals simp [mkT, hbp, hf, skb, Nat.or_zero])
    | (intro a ha
       simp only [up_of ha])
    | (intro a ha
       simp (disch := omega) only [up_s, up_k, up_j])
