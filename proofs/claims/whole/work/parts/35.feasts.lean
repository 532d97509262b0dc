/-! decides, feasts, mends -/
theorem z_bb (a b : Bool) : (nI a.toNat = nI b.toNat) ↔ a = b := by cases a <;> cases b <;> decide
theorem xor_pw {a n p : Nat} (h : a < 2 ^ n) (hp : p < n) : a ^^^ 2 ^ p < 2 ^ n := Nat.xor_lt_two_pow h (Nat.pow_lt_pow_right (by omega) hp)
theorem vot_pw (T : TT) (f g : Nat) : vot T f g < 2 ^ (T 8) := bse_lt _ _
def dcd (T : TT) : Nat := bse (fun e => wns T (vot T (T 4) (T 5) ^^^ 2 ^ e) != wns T (vot T (T 4) (T 5))) (T 8)
theorem x_dec_loop {σ : Sg} {T : TT} (h : XT σ 8 T) (w : WF T) (d : Nat) : ∀ m k, k + m = T 8 → exec (d + 2) mX6_decides 49 [.ref 0, .int (nI (vot T (T 4) (T 5))), .int (nI (wns T (vot T (T 4) (T 5))).toNat), .int (nI (bse (fun e => wns T (vot T (T 4) (T 5) ^^^ 2 ^ e) != wns T (vot T (T 4) (T 5))) k)), .int (nI k)] [] σ = some (some (.int (nI (dcd T))), σ)
  | 0, k, hk => by
    have w1 := w.1
    rw [hX6_decides_49]
    simp (disch := omega) only [kX6_decides_0, kX6_decides_1, XT8 h, eq_self, Nat.reduceEqDiff, Nat.one_ne_zero, Nat.zero_ne_one, z_0, z_lt, z_le, z_eq, z_add, z_mul, z_inb, z_cl, z_b0, z_b1, z_b01, z_b010, z_b011, kb_v, kb_n, List.cons_append, List.nil_append, if_true, if_false, ↓reduceIte, Bool.false_eq_true, Bool.true_eq_false, decide_eq_true_eq, decide_eq_false_iff_not, not_false_eq_true]
    rw [if_pos (by omega), show k = T 8 by omega]
    rfl
  | m + 1, k, hk => by
    have w1 := w.1
    have hpw := pw_le5 (p := k) (by omega)
    have hx := xor_pw (vot_pw T (T 4) (T 5)) (p := k) (by omega)
    have h5 : 2 ^ (T 8) ≤ 2 ^ 5 := Nat.pow_le_pow_right (by omega) (by omega)
    have ih := x_dec_loop h w d m (k + 1) (by omega)
    rw [bse] at ih
    rw [hX6_decides_49]
    simp (disch := omega) only [kX6_decides_0, kX6_decides_1, XT8 h, eq_self, Nat.reduceEqDiff, Nat.one_ne_zero, Nat.zero_ne_one, z_0, z_lt, z_le, z_eq, z_add, z_mul, z_inb, z_cl, z_b0, z_b1, z_b01, z_b010, z_b011, kb_v, kb_n, List.cons_append, List.nil_append, if_true, if_false, ↓reduceIte, Bool.false_eq_true, Bool.true_eq_false, decide_eq_true_eq, decide_eq_false_iff_not, not_false_eq_true, z_one, z_xor, z_or, x_wins h w, z_bb]
    rw [if_neg (by omega)]
    by_cases q : wns T (vot T (T 4) (T 5) ^^^ 2 ^ k) = wns T (vot T (T 4) (T 5))
    · simp only [q, if_true, bne_self_eq_false, Bool.false_eq_true, if_false, Nat.or_zero] at ih ⊢
      exact ih
    · have q2 : (wns T (vot T (T 4) (T 5) ^^^ 2 ^ k) != wns T (vot T (T 4) (T 5))) = true := by simpa using q
      simp only [q, q2, if_false, if_true] at ih ⊢
      exact ih
theorem m_dec_loop {σ : Sg} {T : TT} (h : MT σ 0 T) (w : WF T) (d : Nat) : ∀ m k, k + m = T 8 → exec (d + 4) mX7_decides 14 [.ref 50, .int (nI (bse (fun e => wns T (vot T (T 4) (T 5) ^^^ 2 ^ e) != wns T (vot T (T 4) (T 5))) k)), .int (nI k)] [] σ = some (some (.int (nI (dcd T))), σ)
  | 0, k, hk => by
    have w1 := w.1
    rw [hX7_decides_14]
    simp (disch := omega) only [kX7_decides, MT0 h, eq_self, Nat.reduceEqDiff, Nat.one_ne_zero, Nat.zero_ne_one, z_0, z_lt, z_le, z_eq, z_add, z_mul, z_inb, z_cl, z_b0, z_b1, z_b01, z_b010, z_b011, kb_v, kb_n, List.cons_append, List.nil_append, if_true, if_false, ↓reduceIte, Bool.false_eq_true, Bool.true_eq_false, decide_eq_true_eq, decide_eq_false_iff_not, not_false_eq_true]
    rw [if_pos (by omega), show k = T 8 by omega]
    rfl
  | m + 1, k, hk => by
    have w1 := w.1
    have hpw := pw_le5 (p := k) (by omega)
    have hv := vot_pw T (T 4) (T 5)
    have hx := xor_pw (vot_pw T (T 4) (T 5)) (p := k) (by omega)
    have h5 : 2 ^ (T 8) ≤ 2 ^ 5 := Nat.pow_le_pow_right (by omega) (by omega)
    have ih := m_dec_loop h w d m (k + 1) (by omega)
    rw [bse] at ih
    rw [hX7_decides_14]
    simp (disch := omega) only [kX7_decides, MT0 h, eq_self, Nat.reduceEqDiff, Nat.one_ne_zero, Nat.zero_ne_one, z_0, z_lt, z_le, z_eq, z_add, z_mul, z_inb, z_cl, z_b0, z_b1, z_b01, z_b010, z_b011, kb_v, kb_n, List.cons_append, List.nil_append, if_true, if_false, ↓reduceIte, Bool.false_eq_true, Bool.true_eq_false, decide_eq_true_eq, decide_eq_false_iff_not, not_false_eq_true, z_one, z_xor, z_or, m_isMost h w, m_votesNow h w, z_bb]
    rw [if_neg (by omega)]
    by_cases q : wns T (vot T (T 4) (T 5) ^^^ 2 ^ k) = wns T (vot T (T 4) (T 5))
    · simp only [q, if_true, bne_self_eq_false, Bool.false_eq_true, if_false, Nat.or_zero] at ih ⊢
      exact ih
    · have q2 : (wns T (vot T (T 4) (T 5) ^^^ 2 ^ k) != wns T (vot T (T 4) (T 5))) = true := by simpa using q
      simp only [q, q2, if_false, if_true] at ih ⊢
      exact ih
theorem b_decides : BO mX6_decides mX7_decides [] := by
  rintro ⟨T, I0, I1, A, rz, rl, it, tn, tp, ft, fs, cn, ct⟩ ok
  have w : WF T := ok.1
  have w1 := w.1
  have hv := vot_lt T (T 4) (T 5) (by omega)
  rcases (show T 6 = 0 ∨ T 6 = 1 by omega) with h6 | h6
  · refine ⟨.int (-1000002), _, XO_id fun σ d h => ?_, MO_id fun σ d h => ?_, ok⟩
    · have hT := h.1
      rw [aX6_decides_0]
      simp (disch := omega) only [kX6_decides_0, kX6_decides_1, eq_self, Nat.reduceEqDiff, Nat.one_ne_zero, Nat.zero_ne_one, z_0, z_lt, z_le, z_eq, z_add, z_mul, z_inb, z_cl, z_b0, z_b1, z_b01, z_b010, z_b011, kb_v, kb_n, List.cons_append, List.nil_append, if_true, if_false, ↓reduceIte, Bool.false_eq_true, Bool.true_eq_false, decide_eq_true_eq, decide_eq_false_iff_not, not_false_eq_true, XT8 hT, h6]
    · have hT := h.1
      rw [aX7_decides_50]
      simp (disch := omega) only [kX7_decides, eq_self, Nat.reduceEqDiff, Nat.one_ne_zero, Nat.zero_ne_one, z_0, z_lt, z_le, z_eq, z_add, z_mul, z_inb, z_cl, z_b0, z_b1, z_b01, z_b010, z_b011, kb_v, kb_n, List.cons_append, List.nil_append, if_true, if_false, ↓reduceIte, Bool.false_eq_true, Bool.true_eq_false, decide_eq_true_eq, decide_eq_false_iff_not, not_false_eq_true, m_isTrial hT w, h6]
  · refine ⟨.int (nI (dcd T)), _, XO_id fun σ d h => ?_, MO_id fun σ d h => ?_, ok⟩
    · have hT := h.1
      rw [aX6_decides_0]
      simp (disch := omega) only [kX6_decides_0, kX6_decides_1, eq_self, Nat.reduceEqDiff, Nat.one_ne_zero, Nat.zero_ne_one, z_0, z_lt, z_le, z_eq, z_add, z_mul, z_inb, z_cl, z_b0, z_b1, z_b01, z_b010, z_b011, kb_v, kb_n, List.cons_append, List.nil_append, if_true, if_false, ↓reduceIte, Bool.false_eq_true, Bool.true_eq_false, decide_eq_true_eq, decide_eq_false_iff_not, not_false_eq_true, XT8 hT, h6, x_votes hT w, x_wins hT w]
      exact x_dec_loop hT w (d + 27) (T 8) 0 (by omega)
    · have hT := h.1
      rw [aX7_decides_50]
      simp (disch := omega) only [kX7_decides, eq_self, Nat.reduceEqDiff, Nat.one_ne_zero, Nat.zero_ne_one, z_0, z_lt, z_le, z_eq, z_add, z_mul, z_inb, z_cl, z_b0, z_b1, z_b01, z_b010, z_b011, kb_v, kb_n, List.cons_append, List.nil_append, if_true, if_false, ↓reduceIte, Bool.false_eq_true, Bool.true_eq_false, decide_eq_true_eq, decide_eq_false_iff_not, not_false_eq_true, m_isTrial hT w, h6]
      exact m_dec_loop hT w (d + 25) (T 8) 0 (by omega)
/-- the best set so far, or none -/
def opt (o : Option Nat) : Int32 := match o with
  | none => -1000000
  | some b => nI b
def fmy (T : TT) (s : Nat) : Bool := decide (s &&& T 5 = 0) && (decide (fsc T s ≤ T 2) && wns T (vot T (T 4) (T 5 ||| s)))
def fls (T : TT) (s : Nat) (o : Option Nat) : Bool := match o with
  | none => true
  | some b => decide (pop s < pop b) || (decide (pop s = pop b) && decide (fsc T s < fsc T b))
def fbs (T : TT) : Nat → Option Nat
  | 0 => none
  | s + 1 => if (fmy T s && fls T s (fbs T s)) = true then some s else fbs T s
theorem fbs_lt (T : TT) : ∀ s b, fbs T s = some b → b < s
  | 0, b, h => by simp [fbs] at h
  | s + 1, b, h => by
    unfold fbs at h
    split at h
    · cases h; omega
    · have := fbs_lt T s b h; omega
theorem fsc_le {T : TT} (w : WF T) (s : Nat) : fsc T s ≤ 250 := by
  have w1 := w.1
  have : fsc T s ≤ T 8 * 50 := smn_le _ (fun i hi => by have := w.2.2.2.2.1 i hi; split <;> omega)
  omega
theorem neN {b : Nat} (h : b < 2147483648) : (nI b = (-1000000 : Int32)) ↔ False := by
  rw [eq_I, z_tI h, show (-1000000 : Int32).toInt = -1000000 by decide]
  constructor
  · intro q; omega
  · intro q; exact q.elim
def fq1 (T : TT) (o : Option Nat) : Nat := match o with
  | none => 0
  | some b => pop b
def fq2 (T : TT) (o : Option Nat) : Nat := match o with
  | none => 0
  | some b => fsc T b
