/-! fewest, worth -/
theorem dl_lt : (dl 0 < nI 0) ↔ True := by decide
theorem m_ff {σ : Sg} {T : TT} (h : MT σ 0 T) (w : WF T) (d : Nat) {mo : Nat} (hmo : mo ≤ 20) : ∃ σ' o, cal (d + 5) mX7_findFewest [.ref 50, .int (nI mo)] σ = some (none, σ') ∧ isOp (Rch T (T 1 + mo) (2 ^ (T 7) - 1)) o ∧ BS σ' o ∧ (∀ a, a ≠ 50 → a < 60 ∨ 64 < a → σ' a = σ a) ∧ ∀ j, j < 22 ∨ 24 < j → σ' 50 j = σ 50 j := by
  have w1 := w.1
  have hpl := pop_le (T 4)
  have hm0 : mon T (T 3) = T 2 := by unfold mon; rw [spn_0]; omega
  let σ0 := up (up (up (up (up (up (up (up σ 50 22 (nI 1000000)) 50 23 (-1)) 50 24 (-1000000)) 61 0 (nI (T 1 + mo))) 62 0 (nI (T 2))) 63 0 (nI (T 0))) 64 0 (nI (pop (T 4)))) 60 0 (-1)
  have fO : ∀ a, a ≠ 50 → a < 60 ∨ 64 < a → σ0 a = σ a := fun a h1 h2 => by simp (disch := omega) only [σ0, up_of]
  have f50 : ∀ j, j < 22 ∨ 24 < j → σ0 50 j = σ 50 j := fun j hj => by simp (disch := omega) only [σ0, up_s, up_k, up_j]
  obtain ⟨σ', o, x', e1, e2, e3, e4, e5, e6, e7⟩ := dfs_all w (D := T 1 + mo) (d := d) (mo := nI mo) (by omega) (2 ^ (T 7)) (T 7) 0 (T 3) (pop (T 4)) (8 * (T 1 + mo)) 0 0 σ0 (fun _ _ => False) none uu (by omega) (by omega) (fun _ => rfl) (NI_bs w _) (by omega) ⟨fun _ => rfl, fun _ => rfl⟩ (MT_same h (fO 51 (by omega) (by omega))) ⟨by simp (disch := omega) only [σ0, up_s, up_k, up_j]; congr 1; omega, by simp (disch := omega) only [σ0, up_s, up_k, up_j, hm0], by simp (disch := omega) only [σ0, up_s, up_k, up_j, skl_0 w], by simp (disch := omega) only [σ0, up_s, up_k, up_j]⟩ (by simp (disch := omega) only [σ0, up_s, up_k, up_j]; rfl) (fun z => absurd rfl z) ⟨by simp (disch := omega) only [σ0, up_s, up_k, up_j], by simp (disch := omega) only [σ0, up_s, up_k, up_j], by simp (disch := omega) only [σ0, up_s, up_k, up_j]⟩ (fun _ _ h => h) (by unfold Cn; rw [if_pos rfl]; exact fun _ _ h => h.elim)
  refine ⟨σ', o, ?_, isOp_cg e3 (fun k u => ⟨fun z => Dsc_R.mp (PS_0.mp (z.resolve_left id)), fun z => Or.inr (PS_0.mpr (Dsc_R.mpr z))⟩), e2, fun a h1 h2 => by rw [e6 a h1 h2, fO a h1 h2], fun j hj => by rw [e7 j hj, f50 j hj]⟩
  have hms : ∀ a b c x y z, cal (d + 4) mX7_ones [.int (nI (T 4))] (up (up (up (up (up (up σ 50 22 a) 50 23 b) 50 24 c) 61 0 x) 62 0 y) 63 0 z) = some (some (.int (nI (pop (T 4)))), _) := fun a b c x y z => m_ones (d + 3) _ (by omega)
  rw [aX7_findFewest_50]
  simp (disch := omega) only [kX7_findFewest_0, kX7_findFewest_1, kX7_findFewest_2, kX7_findFewest_3, kX7_findFewest_4, MT0 h, eq_self, Nat.reduceEqDiff, Nat.one_ne_zero, Nat.zero_ne_one, z_0, z_lt, z_le, z_eq, z_add, z_mul, z_inb, z_cl, z_b0, z_b1, z_b01, z_b010, z_b011, kb_v, kb_n, List.cons_append, List.nil_append, if_true, if_false, ↓reduceIte, Bool.false_eq_true, Bool.true_eq_false, decide_eq_true_eq, decide_eq_false_iff_not, not_false_eq_true, up_s, up_k, up_j, hms]
  refine e1.trans ?_
  rw [hX7_findFewest_86]
  simp (disch := omega) only [kX7_findFewest_0, kX7_findFewest_1, kX7_findFewest_2, kX7_findFewest_3, kX7_findFewest_4, eq_self, Nat.reduceEqDiff, Nat.one_ne_zero, Nat.zero_ne_one, z_0, z_lt, z_le, z_eq, z_add, z_mul, z_inb, z_cl, z_b0, z_b1, z_b01, z_b010, z_b011, kb_v, kb_n, List.cons_append, List.nil_append, if_true, if_false, ↓reduceIte, Bool.false_eq_true, Bool.true_eq_false, decide_eq_true_eq, decide_eq_false_iff_not, not_false_eq_true, dl_lt]
noncomputable def oo (T : TT) (D : Nat) : Option (Nat × Nat) := Classical.epsilon (fun o => isOp (Rch T D (2 ^ (T 7) - 1)) o)
theorem oo_e {T : TT} {D : Nat} {o : Option (Nat × Nat)} (h : isOp (Rch T D (2 ^ (T 7) - 1)) o) : o = oo T D := isOp_u h (Classical.epsilon_spec (p := fun o => isOp (Rch T D (2 ^ (T 7) - 1)) o) ⟨o, h⟩)
def fwn (o : Option (Nat × Nat)) (b : Int32) : Int32 := match o with
  | none => -1000000
  | some (f, u) => if b = nI 0 then nI f else if b = nI 1 then nI (u / 8) else frs u
theorem mil_n {f : Nat} (h : f ≤ 7) : (nI f = nI 1000000) ↔ False := by
  rw [z_eq (by omega) (by omega)]
  constructor
  · intro q; omega
  · intro q; exact q.elim
theorem MO_ff {m : MD} {as : List Value} {T I0 I1 : TT} {A : List TT} {rz rl : TT} {it : Nat → Nat → Int32} {tn : Nat} {tp : TT} {ft fs cn : Nat} {ct : TT} (ok : OKV (T, I0, I1, A, rz, rl, it, tn, tp, ft, fs, cn, ct)) {r : Value} {mo : Nat} (hmo : mo ≤ 20) (hr : ∀ σ d σ', MR σ (T, I0, I1, A, rz, rl, it, tn, tp, ft, fs, cn, ct) → cal (d + 29) mX7_findFewest [.ref 50, .int (nI mo)] σ = some (none, σ') → BS σ' (oo T (T 1 + mo)) → cal (d + 30) m (.ref 50 :: as) σ = some (some r, σ')) : MO m as (T, I0, I1, A, rz, rl, it, tn, tp, ft, fs, cn, ct) r (T, I0, I1, A, rz, rl, it, tn, tp, ft, fs, cn, ct) := by
  intro σ d h
  obtain ⟨σ', o, e1, e2, e3, e4, e5⟩ := m_ff h.1 ok.1 (d + 24) hmo
  rw [oo_e e2] at e3
  refine ⟨σ', hr σ d σ' h e1 e3, MR_st ok.1 ok.2.1 ok.2.2.1 fs h (fun j hj => by rw [e4 51 (by omega) (by omega)]) (fun a ha => e4 a (by omega) (by omega)) (e5 3 (by omega)) (e5 9 (by omega)) (e5 10 (by omega)) (e5 12 (by omega)) (by rw [e5 7 (by omega)]; exact h.2.2.2.2.2.2.2.2.1), fun a ha => e4 a (by omega) (by omega)⟩
theorem XO_rk {m : MD} {as : List Value} {T I0 I1 : TT} {A : List TT} {rz rl : TT} {it : Nat → Nat → Int32} {tn : Nat} {tp : TT} {ft fs cn : Nat} {ct : TT} (w : WF T) {r : Value} {mo : Nat} (hmo : mo ≤ 20) (hr : ∀ σ d σ' R, XR σ (T, I0, I1, A, rz, rl, it, tn, tp, ft, fs, cn, ct) → XR σ' (T, I0, I1, A, rz, rl, it, tn, tp, ft, fs, cn, ct) → cal (d + 29) mX2_reckon [.ref 46, .ref 8, .int (nI mo)] σ = some (none, σ') → CN σ' (oo T (T 1 + mo)) → σ' 46 1 = nI R → (∀ i, R.testBit i = true ↔ ∃ S k v, Rch T (T 1 + mo) S k v ∧ S.testBit i = true) → cal (d + 30) m (.ref 0 :: as) σ = some (some r, σ')) : XO m as (T, I0, I1, A, rz, rl, it, tn, tp, ft, fs, cn, ct) r (T, I0, I1, A, rz, rl, it, tn, tp, ft, fs, cn, ct) := by
  intro σ d h
  obtain ⟨σ', o, R, e1, e2, e3, e4, e5, e6, e7⟩ := x_plan h.1 w (d + 23) hmo
  rw [oo_e e2] at e3
  have hx := XR_st fs h (fun a ha => e7 a (by omega) (by omega)) (by rw [e7 0 (by omega) (by omega)]) (by rw [e7 0 (by omega) (by omega)]; exact h.2.2.2.2.2.2.2.1)
  exact ⟨σ', hr σ d σ' R h hx e1 e3 e4 e6, hx, fun a ha => e7 a (by omega) (by omega)⟩
theorem b_fewest (b : Int32) : BO mX6_fewest mX7_fewest [.int b] := by
  rintro ⟨T, I0, I1, A, rz, rl, it, tn, tp, ft, fs, cn, ct⟩ ok
  have w : WF T := ok.1
  have w1 := w.1
  rcases (show T 6 = 0 ∨ T 6 = 1 by omega) with h6 | h6
  · refine ⟨.int (-1000002), _, XO_id fun σ d h => ?_, MO_id fun σ d h => ?_, ok⟩
    · have hT := h.1
      rw [aX6_fewest_0]
      simp (disch := omega) only [kX6_fewest_0, kX6_fewest_1, eq_self, Nat.reduceEqDiff, Nat.one_ne_zero, Nat.zero_ne_one, z_0, z_lt, z_le, z_eq, z_add, z_mul, z_inb, z_cl, z_b0, z_b1, z_b01, z_b010, z_b011, kb_v, kb_n, List.cons_append, List.nil_append, if_true, if_false, ↓reduceIte, Bool.false_eq_true, Bool.true_eq_false, decide_eq_true_eq, decide_eq_false_iff_not, not_false_eq_true, XT8 hT, h6]
    · have hT := h.1
      rw [aX7_fewest_50]
      simp (disch := omega) only [kX7_fewest, eq_self, Nat.reduceEqDiff, Nat.one_ne_zero, Nat.zero_ne_one, z_0, z_lt, z_le, z_eq, z_add, z_mul, z_inb, z_cl, z_b0, z_b1, z_b01, z_b010, z_b011, kb_v, kb_n, List.cons_append, List.nil_append, if_true, if_false, ↓reduceIte, Bool.false_eq_true, Bool.true_eq_false, decide_eq_true_eq, decide_eq_false_iff_not, not_false_eq_true, m_isTrial hT w, h6]
  by_cases hb : isin b 3 = true
  · obtain ⟨c, hc, rfl⟩ := (isin_t (by omega)).mp hb
    refine ⟨.int (fwn (oo T (T 1 + 0)) (nI c)), _, XO_rk w (mo := 0) (by omega) fun σ d σ' R h h' e1 e2 e3 e4 => ?_, MO_ff ok (mo := 0) (by omega) fun σ d σ' h e1 e2 => ?_, ok⟩
    · have hT := h.1
      rw [aX6_fewest_0]
      match hoo : oo T (T 1 + 0), e2 with
      | none, e2 =>
        have e2 : σ' 46 2 = nI 0 := e2
        simp (disch := omega) only [kX6_fewest_0, kX6_fewest_1, eq_self, Nat.reduceEqDiff, Nat.one_ne_zero, Nat.zero_ne_one, z_0, z_lt, z_le, z_eq, z_add, z_mul, z_inb, z_cl, z_b0, z_b1, z_b01, z_b010, z_b011, kb_v, kb_n, List.cons_append, List.nil_append, if_true, if_false, ↓reduceIte, Bool.false_eq_true, Bool.true_eq_false, decide_eq_true_eq, decide_eq_false_iff_not, not_false_eq_true, XT8 hT, h6, e1, e2, Nat.not_lt_zero, fwn]
        rw [if_pos (by omega)]
      | some (f, u), e2 =>
        obtain ⟨q1, q2, q3, q4⟩ := e2
        simp (disch := omega) only [kX6_fewest_0, kX6_fewest_1, eq_self, Nat.reduceEqDiff, Nat.one_ne_zero, Nat.zero_ne_one, z_0, z_lt, z_le, z_eq, z_add, z_mul, z_inb, z_cl, z_b0, z_b1, z_b01, z_b010, z_b011, kb_v, kb_n, List.cons_append, List.nil_append, if_true, if_false, ↓reduceIte, Bool.false_eq_true, Bool.true_eq_false, decide_eq_true_eq, decide_eq_false_iff_not, not_false_eq_true, XT8 hT, h6, e1, q1, q2, q3, q4, Nat.not_lt_zero, fwn]
        rw [if_pos (by omega)]
        split
        · rfl
        · split
          · rfl
          · unfold frs
            by_cases z : u % 8 = 0
            · rw [if_pos (by omega), if_pos z]
            · rw [if_neg (by omega), if_neg z]
    · have hT := h.1
      rw [aX7_fewest_50]
      match hoo : oo T (T 1 + 0), e2 with
      | none, e2 =>
        obtain ⟨q1, q2, q3⟩ := e2
        simp (disch := omega) only [kX7_fewest, eq_self, Nat.reduceEqDiff, Nat.one_ne_zero, Nat.zero_ne_one, z_0, z_lt, z_le, z_eq, z_add, z_mul, z_inb, z_cl, z_b0, z_b1, z_b01, z_b010, z_b011, kb_v, kb_n, List.cons_append, List.nil_append, if_true, if_false, ↓reduceIte, Bool.false_eq_true, Bool.true_eq_false, decide_eq_true_eq, decide_eq_false_iff_not, not_false_eq_true, m_isTrial hT w, h6, m_inN, inr_0, hb, e1, q1, fwn]
      | some (f, u), e2 =>
        obtain ⟨⟨q0, q00⟩, q1, q2, q3⟩ := e2
        simp (disch := omega) only [kX7_fewest, eq_self, Nat.reduceEqDiff, Nat.one_ne_zero, Nat.zero_ne_one, z_0, z_lt, z_le, z_eq, z_add, z_mul, z_inb, z_cl, z_b0, z_b1, z_b01, z_b010, z_b011, kb_v, kb_n, List.cons_append, List.nil_append, if_true, if_false, ↓reduceIte, Bool.false_eq_true, Bool.true_eq_false, decide_eq_true_eq, decide_eq_false_iff_not, not_false_eq_true, m_isTrial hT w, h6, m_inN, inr_0, hb, e1, q1, q2, q3, fwn]
        rw [if_neg (by omega)]
        split
        · rfl
        · split <;> rfl
  · have hb' : isin b 3 = false := by simpa using hb
    refine ⟨.int (-1000001), _, XO_id fun σ d h => ?_, MO_id fun σ d h => ?_, ok⟩
    · have hT := h.1
      rw [aX6_fewest_0]
      simp (disch := omega) only [kX6_fewest_0, kX6_fewest_1, eq_self, Nat.reduceEqDiff, Nat.one_ne_zero, Nat.zero_ne_one, z_0, z_lt, z_le, z_eq, z_add, z_mul, z_inb, z_cl, z_b0, z_b1, z_b01, z_b010, z_b011, kb_v, kb_n, List.cons_append, List.nil_append, if_true, if_false, ↓reduceIte, Bool.false_eq_true, Bool.true_eq_false, decide_eq_true_eq, decide_eq_false_iff_not, not_false_eq_true, XT8 hT, h6, lt_I, le_I, z_tI]
      unfold isin at hb
      rw [decide_eq_true_iff] at hb
      split
      · rfl
      · rw [if_neg (by omega)]
    · have hT := h.1
      rw [aX7_fewest_50]
      simp (disch := omega) only [kX7_fewest, eq_self, Nat.reduceEqDiff, Nat.one_ne_zero, Nat.zero_ne_one, z_0, z_lt, z_le, z_eq, z_add, z_mul, z_inb, z_cl, z_b0, z_b1, z_b01, z_b010, z_b011, kb_v, kb_n, List.cons_append, List.nil_append, if_true, if_false, ↓reduceIte, Bool.false_eq_true, Bool.true_eq_false, decide_eq_true_eq, decide_eq_false_iff_not, not_false_eq_true, m_isTrial hT w, h6, m_inN, inr_0, hb']
theorem b_worth (b : Int32) : BO mX6_worth mX7_worth [.int b] := by
  rintro ⟨T, I0, I1, A, rz, rl, it, tn, tp, ft, fs, cn, ct⟩ ok
  have w : WF T := ok.1
  have w1 := w.1
  rcases (show T 6 = 0 ∨ T 6 = 1 by omega) with h6 | h6
  · refine ⟨.int (-1000002), _, XO_id fun σ d h => ?_, MO_id fun σ d h => ?_, ok⟩
    · have hT := h.1
      rw [aX6_worth_0]
      simp (disch := omega) only [kX6_worth, eq_self, Nat.reduceEqDiff, Nat.one_ne_zero, Nat.zero_ne_one, z_0, z_lt, z_le, z_eq, z_add, z_mul, z_inb, z_cl, z_b0, z_b1, z_b01, z_b010, z_b011, kb_v, kb_n, List.cons_append, List.nil_append, if_true, if_false, ↓reduceIte, Bool.false_eq_true, Bool.true_eq_false, decide_eq_true_eq, decide_eq_false_iff_not, not_false_eq_true, XT8 hT, h6]
    · have hT := h.1
      rw [aX7_worth_50]
      simp (disch := omega) only [kX7_worth, eq_self, Nat.reduceEqDiff, Nat.one_ne_zero, Nat.zero_ne_one, z_0, z_lt, z_le, z_eq, z_add, z_mul, z_inb, z_cl, z_b0, z_b1, z_b01, z_b010, z_b011, kb_v, kb_n, List.cons_append, List.nil_append, if_true, if_false, ↓reduceIte, Bool.false_eq_true, Bool.true_eq_false, decide_eq_true_eq, decide_eq_false_iff_not, not_false_eq_true, m_isTrial hT w, h6]
  by_cases hb : isin b 21 = true
  · obtain ⟨c, hc, rfl⟩ := (isin_t (by omega)).mp hb
    refine ⟨.int (fwn (oo T (T 1 + c)) (nI 0)), _, XO_rk w (mo := c) (by omega) fun σ d σ' R h h' e1 e2 e3 e4 => ?_, MO_ff ok (mo := c) (by omega) fun σ d σ' h e1 e2 => ?_, ok⟩
    · have hT := h.1
      rw [aX6_worth_0]
      match hoo : oo T (T 1 + c), e2 with
      | none, e2 =>
        have e2 : σ' 46 2 = nI 0 := e2
        simp (disch := omega) only [kX6_worth, eq_self, Nat.reduceEqDiff, Nat.one_ne_zero, Nat.zero_ne_one, z_0, z_lt, z_le, z_eq, z_add, z_mul, z_inb, z_cl, z_b0, z_b1, z_b01, z_b010, z_b011, kb_v, kb_n, List.cons_append, List.nil_append, if_true, if_false, ↓reduceIte, Bool.false_eq_true, Bool.true_eq_false, decide_eq_true_eq, decide_eq_false_iff_not, not_false_eq_true, XT8 hT, h6, e1, e2, Nat.not_lt_zero, fwn]
        rw [if_pos (by omega)]
      | some (f, u), e2 =>
        obtain ⟨q1, q2, q3, q4⟩ := e2
        simp (disch := omega) only [kX6_worth, eq_self, Nat.reduceEqDiff, Nat.one_ne_zero, Nat.zero_ne_one, z_0, z_lt, z_le, z_eq, z_add, z_mul, z_inb, z_cl, z_b0, z_b1, z_b01, z_b010, z_b011, kb_v, kb_n, List.cons_append, List.nil_append, if_true, if_false, ↓reduceIte, Bool.false_eq_true, Bool.true_eq_false, decide_eq_true_eq, decide_eq_false_iff_not, not_false_eq_true, XT8 hT, h6, e1, q1, q2, q3, q4, Nat.not_lt_zero, fwn]
        rw [if_pos (by omega)]
    · have hT := h.1
      rw [aX7_worth_50]
      match hoo : oo T (T 1 + c), e2 with
      | none, e2 =>
        obtain ⟨q1, q2, q3⟩ := e2
        simp (disch := omega) only [kX7_worth, eq_self, Nat.reduceEqDiff, Nat.one_ne_zero, Nat.zero_ne_one, z_0, z_lt, z_le, z_eq, z_add, z_mul, z_inb, z_cl, z_b0, z_b1, z_b01, z_b010, z_b011, kb_v, kb_n, List.cons_append, List.nil_append, if_true, if_false, ↓reduceIte, Bool.false_eq_true, Bool.true_eq_false, decide_eq_true_eq, decide_eq_false_iff_not, not_false_eq_true, m_isTrial hT w, h6, m_inN, inr_0, hb, e1, q1, fwn]
      | some (f, u), e2 =>
        obtain ⟨⟨q0, q00⟩, q1, q2, q3⟩ := e2
        simp (disch := omega) only [kX7_worth, eq_self, Nat.reduceEqDiff, Nat.one_ne_zero, Nat.zero_ne_one, z_0, z_lt, z_le, z_eq, z_add, z_mul, z_inb, z_cl, z_b0, z_b1, z_b01, z_b010, z_b011, kb_v, kb_n, List.cons_append, List.nil_append, if_true, if_false, ↓reduceIte, Bool.false_eq_true, Bool.true_eq_false, decide_eq_true_eq, decide_eq_false_iff_not, not_false_eq_true, m_isTrial hT w, h6, m_inN, inr_0, hb, e1, q1, q2, q3, fwn]
        rw [if_neg (by omega)]
  · have hb' : isin b 21 = false := by simpa using hb
    refine ⟨.int (-1000001), _, XO_id fun σ d h => ?_, MO_id fun σ d h => ?_, ok⟩
    · have hT := h.1
      rw [aX6_worth_0]
      simp (disch := omega) only [kX6_worth, eq_self, Nat.reduceEqDiff, Nat.one_ne_zero, Nat.zero_ne_one, z_0, z_lt, z_le, z_eq, z_add, z_mul, z_inb, z_cl, z_b0, z_b1, z_b01, z_b010, z_b011, kb_v, kb_n, List.cons_append, List.nil_append, if_true, if_false, ↓reduceIte, Bool.false_eq_true, Bool.true_eq_false, decide_eq_true_eq, decide_eq_false_iff_not, not_false_eq_true, XT8 hT, h6, lt_I, le_I, z_tI]
      unfold isin at hb
      rw [decide_eq_true_iff] at hb
      split
      · rfl
      · rw [if_neg (by omega)]
    · have hT := h.1
      rw [aX7_worth_50]
      simp (disch := omega) only [kX7_worth, eq_self, Nat.reduceEqDiff, Nat.one_ne_zero, Nat.zero_ne_one, z_0, z_lt, z_le, z_eq, z_add, z_mul, z_inb, z_cl, z_b0, z_b1, z_b01, z_b010, z_b011, kb_v, kb_n, List.cons_append, List.nil_append, if_true, if_false, ↓reduceIte, Bool.false_eq_true, Bool.true_eq_false, decide_eq_true_eq, decide_eq_false_iff_not, not_false_eq_true, m_isTrial hT w, h6, m_inN, inr_0, hb']
