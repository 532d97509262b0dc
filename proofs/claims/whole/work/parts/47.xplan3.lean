/-! the class's plan: through all sets -/
theorem x_dp_loop {T : TT} (w : WF T) (d : Nat) (mo : Int32) (Inv : Nat → BT → Nat → Prop) (hI1 : ∀ S B R, S < 2 ^ (T 7) → Inv S B R → rcd B S = true → sub3 T S ∧ spn T S ≤ T 2 ∧ Inv (S + 1) (gB T S B (T 7)) (R ||| S)) (hI2 : ∀ S B R, S < 2 ^ (T 7) → Inv S B R → rcd B S = false → Inv (S + 1) B R) : ∀ m S B R (σ : Sg), S + m = 2 ^ (T 7) → okB B → PT σ T B → σ 46 1 = nI R → R < 128 → XT σ 8 T → Inv S B R → ∃ σ' B' R', exec (d + 5) mX2_reckon 77 [.ref 46, .ref 8, .int mo, .int (nI (2 ^ (T 7) - 1)), .int (nI S)] [] σ = exec (d + 5) mX2_reckon 116 [.ref 46, .ref 8, .int mo, .int (nI (2 ^ (T 7) - 1)), .int (nI (2 ^ (T 7)))] [] σ' ∧ Inv (2 ^ (T 7)) B' R' ∧ okB B' ∧ PT σ' T B' ∧ σ' 46 1 = nI R' ∧ R' < 128 ∧ ∀ a, a ≠ 46 → a ≠ 47 → σ' a = σ a
  | 0, S, B, R, σ, hm, hB, hP, hR, hRl, h, hI => by
    have w1 := w.1
    have hp7 := p7_le (n := T 7) (by omega)
    have hp0 : 1 ≤ 2 ^ (T 7) := Nat.one_le_two_pow
    obtain rfl : S = 2 ^ (T 7) := by omega
    refine ⟨σ, B, R, ?_, hI, hB, hP, hR, hRl, fun _ _ _ => rfl⟩
    rw [hX2_reckon_77]
    simp (disch := omega) only [kX2_reckon_0, kX2_reckon_1, eq_self, Nat.reduceEqDiff, Nat.one_ne_zero, Nat.zero_ne_one, z_0, z_lt, z_le, z_eq, z_add, z_mul, z_inb, z_cl, z_b0, z_b1, z_b01, z_b010, z_b011, kb_v, kb_n, List.cons_append, List.nil_append, if_true, if_false, ↓reduceIte, Bool.false_eq_true, Bool.true_eq_false, decide_eq_true_eq, decide_eq_false_iff_not, not_false_eq_true]
    rw [if_pos (by omega)]
  | m + 1, S, B, R, σ, hm, hB, hP, hR, hRl, h, hI => by
    have w1 := w.1
    have hp7 := p7_le (n := T 7) (by omega)
    have hp0 : 1 ≤ 2 ^ (T 7) := Nat.one_le_two_pow
    have hir := x_ir (σ := σ) (T := T) (S := S) (by omega) (d + 4) hB hP (by omega)
    cases qr : rcd B S
    · obtain ⟨σ2, B', R', e2, b⟩ := x_dp_loop w d mo Inv hI1 hI2 m (S + 1) B R σ (by omega) hB hP hR hRl h (hI2 S B R (by omega) hI qr)
      refine ⟨σ2, B', R', Eq.trans ?_ e2, b⟩
      rw [qr] at hir
      rw [hX2_reckon_77]
      simp (disch := omega) only [kX2_reckon_0, kX2_reckon_1, eq_self, Nat.reduceEqDiff, Nat.one_ne_zero, Nat.zero_ne_one, z_0, z_lt, z_le, z_eq, z_add, z_mul, z_inb, z_cl, z_b0, z_b1, z_b01, z_b010, z_b011, kb_v, kb_n, List.cons_append, List.nil_append, if_true, if_false, ↓reduceIte, Bool.false_eq_true, Bool.true_eq_false, decide_eq_true_eq, decide_eq_false_iff_not, not_false_eq_true, hir]
      rw [if_neg (by omega)]
    · obtain ⟨hS, hsp, hI'⟩ := hI1 S B R (by omega) hI qr
      have hT1 : XT (up σ 46 1 (nI (R ||| S))) 8 T := XT_cg h (fun a _ _ => up_of (by omega))
      obtain ⟨σ1, c1, c2, c3⟩ := x_go hT1 w (d + 1) hB (PT_cg hP (up_of (by omega))) hS (by omega) hsp
      have c1 : cal (d + 5) mX2_goOnFrom [.ref 46, .ref 8, .int (nI S)] _ = _ := c1
      have hT2 : XT σ1 8 T := XT_cg hT1 (fun a _ _ => c3 a (by omega))
      have hRS : R ||| S < 128 := or_128 hRl (by omega)
      obtain ⟨σ2, B', R', e2, b2, b3, b4, b5, b6, b7⟩ := x_dp_loop w d mo Inv hI1 hI2 m (S + 1) (gB T S B (T 7)) (R ||| S) σ1 (by omega) (ok_gB hB T S (T 7) (by omega)) c2 (by rw [c3 46 (by omega), up_s]) hRS hT2 hI'
      refine ⟨σ2, B', R', Eq.trans ?_ e2, b2, b3, b4, b5, b6, fun a h1 h2 => by rw [b7 a h1 h2, c3 a h2, up_of h1]⟩
      rw [qr] at hir
      rw [hX2_reckon_77]
      simp (disch := omega) only [kX2_reckon_0, kX2_reckon_1, eq_self, Nat.reduceEqDiff, Nat.one_ne_zero, Nat.zero_ne_one, z_0, z_lt, z_le, z_eq, z_add, z_mul, z_inb, z_cl, z_b0, z_b1, z_b01, z_b010, z_b011, kb_v, kb_n, List.cons_append, List.nil_append, if_true, if_false, ↓reduceIte, Bool.false_eq_true, Bool.true_eq_false, decide_eq_true_eq, decide_eq_false_iff_not, not_false_eq_true, hir, hR, z_or, c1]
      rw [if_neg (by omega)]
def B0 (T : TT) (D : Nat) : BT := fun S k => if S = T 3 ∧ k = pop (T 4) then some (8 * D) else none
theorem full_sub {T : TT} (w : WF T) : sub3 T (2 ^ (T 7) - 1) := fun i hi => by
  rw [Nat.testBit_two_pow_sub_one]
  by_cases q : i < T 7
  · exact decide_eq_true q
  · rw [lt_pw w.2.1.1 (by omega)] at hi
    exact absurd hi (by simp)
theorem x_rk {σ : Sg} {T : TT} (h : XT σ 8 T) (w : WF T) (d : Nat) {mo : Nat} (hmo : mo ≤ 20) (Inv : Nat → BT → Nat → Prop) (hI0 : Inv (T 3) (B0 T (T 1 + mo)) 0) (hI1 : ∀ S B R, S < 2 ^ (T 7) → Inv S B R → rcd B S = true → sub3 T S ∧ spn T S ≤ T 2 ∧ Inv (S + 1) (gB T S B (T 7)) (R ||| S)) (hI2 : ∀ S B R, S < 2 ^ (T 7) → Inv S B R → rcd B S = false → Inv (S + 1) B R) : ∃ σ' B R, cal (d + 6) mX2_reckon [.ref 46, .ref 8, .int (nI mo)] σ = some (none, σ') ∧ Inv (2 ^ (T 7)) B R ∧ CN σ' (fsO B (2 ^ (T 7) - 1) 0 8) ∧ σ' 46 1 = nI R ∧ R < 128 ∧ ∀ a, a ≠ 46 → a ≠ 47 → σ' a = σ a := by
  have w1 := w.1
  have w2 := w.2.1.1
  have hp7 := p7_le (n := T 7) (by omega)
  have hp0 : 1 ≤ 2 ^ (T 7) := Nat.one_le_two_pow
  have hpl := pop_le (T 4)
  obtain ⟨σ1, e1, a1, a0, a2⟩ := x_r1_loop (T := T) (by omega) d (nI mo) (2 ^ (T 7) * 8) 0 σ (by omega)
  have hT1 : XT σ1 8 T := XT_cg h (fun a _ _ => a2 a (by omega))
  have hP1 : PT σ1 T (fun _ _ => none) := fun S hS k hk => a1 (S * 8 + k) (by omega) (by omega)
  have hP2 : PT (up (up σ1 47 (T 3 * 8 + pop (T 4)) (nI (8 * (T 1 + mo)))) 46 1 (nI 0)) T (B0 T (T 1 + mo)) := by
    refine PT_cg ?_ (up_of (by omega))
    exact PT_up hP1 (S := T 3) (k := pop (T 4)) (by omega) (by omega) (some (8 * (T 1 + mo)))
  have hT2 : XT (up (up σ1 47 (T 3 * 8 + pop (T 4)) (nI (8 * (T 1 + mo)))) 46 1 (nI 0)) 8 T := XT_cg hT1 (fun a _ _ => by rw [up_of (by omega), up_of (by omega)])
  obtain ⟨σ2, B, R, e2, b2, b3, b4, b5, b6, b7⟩ := x_dp_loop w d (nI mo) Inv hI1 hI2 (2 ^ (T 7) - T 3) (T 3) (B0 T (T 1 + mo)) 0 _ (by omega) (fun S k v hv => by unfold B0 at hv; split at hv <;> cases hv; omega) hP2 up_s (by omega) hT2 hI0
  obtain ⟨σ3, c1, c2, c3, c4⟩ := x_cn (σ := σ2) (T := T) (F := 2 ^ (T 7) - 1) (by omega) (d + 4) b3 b4 (full_sub w) (by omega)
  have c1 : cal (d + 5) mX2_conclude [.ref 46, .int (nI (2 ^ (T 7) - 1))] σ2 = _ := c1
  refine ⟨σ3, B, R, ?_, b2, c2, by rw [c3, b5], b6, fun a h1 h2 => by rw [c4 a h1, b7 a h1 h2, up_of h1, up_of h2, a2 a h2]⟩
  rw [aX2_reckon_46_8]
  simp (disch := omega) only [kX2_reckon_0, kX2_reckon_1, eq_self, Nat.reduceEqDiff, Nat.one_ne_zero, Nat.zero_ne_one, z_0, z_lt, z_le, z_eq, z_add, z_mul, z_inb, z_cl, z_b0, z_b1, z_b01, z_b010, z_b011, kb_v, kb_n, List.cons_append, List.nil_append, if_true, if_false, ↓reduceIte, Bool.false_eq_true, Bool.true_eq_false, decide_eq_true_eq, decide_eq_false_iff_not, not_false_eq_true, XT8 h, z_one, z_sub]
  refine e1.trans ?_
  simp (disch := omega) only [kX2_reckon_0, kX2_reckon_1, eq_self, Nat.reduceEqDiff, Nat.one_ne_zero, Nat.zero_ne_one, z_0, z_lt, z_le, z_eq, z_add, z_mul, z_inb, z_cl, z_b0, z_b1, z_b01, z_b010, z_b011, kb_v, kb_n, List.cons_append, List.nil_append, if_true, if_false, ↓reduceIte, Bool.false_eq_true, Bool.true_eq_false, decide_eq_true_eq, decide_eq_false_iff_not, not_false_eq_true, XT8 hT1, e_bitCount, up_s, up_k, up_j]
  refine e2.trans ?_
  simp (disch := omega) only [kX2_reckon_0, kX2_reckon_1, eq_self, Nat.reduceEqDiff, Nat.one_ne_zero, Nat.zero_ne_one, z_0, z_lt, z_le, z_eq, z_add, z_mul, z_inb, z_cl, z_b0, z_b1, z_b01, z_b010, z_b011, kb_v, kb_n, List.cons_append, List.nil_append, if_true, if_false, ↓reduceIte, Bool.false_eq_true, Bool.true_eq_false, decide_eq_true_eq, decide_eq_false_iff_not, not_false_eq_true, c1]
