/-! the class's plan: through all sets -/
theorem sub3_eq {T : TT} {S : Nat} : sub3 T S ↔ T 3 ||| S = S := by
  constructor
  · intro h
    apply Nat.eq_of_testBit_eq
    intro i
    rw [Nat.testBit_or]
    cases q : (T 3).testBit i
    · rfl
    · rw [h i q]; rfl
  · intro h i hi
    rw [← h, Nat.testBit_or, hi, Bool.true_or]
theorem sub3_nx {T : TT} {S S' : Nat} (h : sub3 T S) (h' : sub3 T S') (hl : S < S') : (S + 1) ||| T 3 ≤ S' := sup_nx S S (T 3) S' (Nat.le_refl _) (sub3_eq.mp h) (sub3_eq.mp h') hl
theorem sub3_on (T : TT) (S : Nat) : sub3 T (S ||| T 3) := fun i hi => by rw [Nat.testBit_or, hi, Bool.or_true]
theorem nx_bd {T : TT} {S : Nat} (w : WF T) (h : S < 2 ^ (T 7)) : (S + 1) ||| T 3 < 256 := by
  have w1 := w.1
  have := p7_le (n := T 7) (by omega)
  exact Nat.or_lt_two_pow (n := 8) (by omega) (by omega)
theorem x_r1_loop {T : TT} (w : WF T) (d : Nat) (mo : Int32) : ∀ m S (σ : Sg), 2 ^ (T 7) ≤ S + m → sub3 T S → S < 256 → (∀ S', sub3 T S' → S' < S → S' < 2 ^ (T 7) → ∀ k, k < 8 → σ 47 (S' * 8 + k) = -1) → XT σ 8 T → ∀ x : Value, ∃ σ' s x', exec (d + 5) mX2_reckon 15 [.ref 46, .ref 8, .int mo, .int (nI (2 ^ (T 7) - 1)), .int (nI S), x] [] σ = exec (d + 5) mX2_reckon 65 [.ref 46, .ref 8, .int mo, .int (nI (2 ^ (T 7) - 1)), .int s, x'] [] σ' ∧ PT σ' T (fun _ _ => none) ∧ ∀ a, a ≠ 47 → σ' a = σ a
  | m, S, σ, hm, hS, hb, hc, h => by
    intro x
    have w1 := w.1
    have hp7 := p7_le (n := T 7) (by omega)
    have hp0 : 1 ≤ 2 ^ (T 7) := Nat.one_le_two_pow
    by_cases q : 2 ^ (T 7) ≤ S
    · refine ⟨σ, nI S, x, ?_, fun S' g1 g2 k g3 => hc S' g1 (by omega) g2 k g3, fun _ _ => rfl⟩
      rw [hX2_reckon_15]
      simp (disch := omega) only [kX2_reckon_0, kX2_reckon_1, kX2_reckon_2, eq_self, Nat.reduceEqDiff, Nat.one_ne_zero, Nat.zero_ne_one, z_0, z_lt, z_le, z_eq, z_add, z_mul, z_inb, z_cl, z_b0, z_b1, z_b01, z_b010, z_b011, kb_v, kb_n, List.cons_append, List.nil_append, if_true, if_false, ↓reduceIte, Bool.false_eq_true, Bool.true_eq_false, decide_eq_true_eq, decide_eq_false_iff_not, not_false_eq_true]
      rw [if_pos (by omega)]
    · match m, hm with
      | 0, hm => omega
      | m + 1, hm =>
        obtain ⟨σ1, e1, a1, a2, a3⟩ := x_r2_loop d (S := S) (by omega) (.int mo) (.int (nI (2 ^ (T 7) - 1))) 8 0 σ (by omega)
        have hT1 : XT σ1 8 T := XT_cg h (fun a _ _ => a3 a (by omega))
        have hgt : S + 1 ≤ (S + 1) ||| T 3 := Nat.left_le_or
        obtain ⟨σ2, s, x', e2, b1, b2⟩ := x_r1_loop w d mo m ((S + 1) ||| T 3) σ1 (by omega) (sub3_on T _) (nx_bd w (by omega)) (fun S' g1 g2 g3 k g4 => by
          have hle : S' ≤ S := by
            by_cases q2 : S' ≤ S
            · exact q2
            · have := sub3_nx hS g1 (by omega)
              omega
          by_cases q3 : S' = S
          · subst q3; exact a1 k (by omega) g4
          · rw [a2 _ (by omega)]; exact hc S' g1 (by omega) g3 k g4) hT1 (.int (nI 8))
        refine ⟨σ2, s, x', Eq.trans ?_ e2, b1, fun a ha => by rw [b2 a ha, a3 a ha]⟩
        rw [hX2_reckon_15]
        simp (disch := omega) only [kX2_reckon_0, kX2_reckon_1, kX2_reckon_2, eq_self, Nat.reduceEqDiff, Nat.one_ne_zero, Nat.zero_ne_one, z_0, z_lt, z_le, z_eq, z_add, z_mul, z_inb, z_cl, z_b0, z_b1, z_b01, z_b010, z_b011, kb_v, kb_n, List.cons_append, List.nil_append, if_true, if_false, ↓reduceIte, Bool.false_eq_true, Bool.true_eq_false, decide_eq_true_eq, decide_eq_false_iff_not, not_false_eq_true]
        rw [if_neg (by omega)]
        refine e1.trans ?_
        simp (disch := omega) only [kX2_reckon_0, kX2_reckon_1, kX2_reckon_2, eq_self, Nat.reduceEqDiff, Nat.one_ne_zero, Nat.zero_ne_one, z_0, z_lt, z_le, z_eq, z_add, z_mul, z_inb, z_cl, z_b0, z_b1, z_b01, z_b010, z_b011, kb_v, kb_n, List.cons_append, List.nil_append, if_true, if_false, ↓reduceIte, Bool.false_eq_true, Bool.true_eq_false, decide_eq_true_eq, decide_eq_false_iff_not, not_false_eq_true, XT8 hT1, z_or]
theorem x_dp_loop {T : TT} (w : WF T) (d : Nat) (mo : Int32) (Inv : Nat → BT → Nat → Prop) (hI1 : ∀ S B R, S < 2 ^ (T 7) → sub3 T S → Inv S B R → rcd B S = true → spn T S ≤ T 2 ∧ Inv ((S + 1) ||| T 3) (gB T S B (T 7)) (R ||| S)) (hI2 : ∀ S B R, S < 2 ^ (T 7) → sub3 T S → Inv S B R → rcd B S = false → Inv ((S + 1) ||| T 3) B R) : ∀ m S B R (σ : Sg), 2 ^ (T 7) ≤ S + m → sub3 T S → S < 256 → okB B → PT σ T B → σ 46 1 = nI R → R < 128 → XT σ 8 T → Inv S B R → ∀ x : Value, ∃ σ' B' R' S' x', exec (d + 5) mX2_reckon 105 [.ref 46, .ref 8, .int mo, .int (nI (2 ^ (T 7) - 1)), .int (nI S), x] [] σ = exec (d + 5) mX2_reckon 152 [.ref 46, .ref 8, .int mo, .int (nI (2 ^ (T 7) - 1)), .int (nI S'), x'] [] σ' ∧ 2 ^ (T 7) ≤ S' ∧ Inv S' B' R' ∧ okB B' ∧ PT σ' T B' ∧ σ' 46 1 = nI R' ∧ R' < 128 ∧ ∀ a, a ≠ 46 → a ≠ 47 → σ' a = σ a
  | m, S, B, R, σ, hm, hS, hb, hB, hP, hR, hRl, h, hI => by
    intro x
    have w1 := w.1
    have hp7 := p7_le (n := T 7) (by omega)
    have hp0 : 1 ≤ 2 ^ (T 7) := Nat.one_le_two_pow
    by_cases q : 2 ^ (T 7) ≤ S
    · refine ⟨σ, B, R, S, x, ?_, q, hI, hB, hP, hR, hRl, fun _ _ _ => rfl⟩
      rw [hX2_reckon_105]
      simp (disch := omega) only [kX2_reckon_0, kX2_reckon_1, kX2_reckon_2, eq_self, Nat.reduceEqDiff, Nat.one_ne_zero, Nat.zero_ne_one, z_0, z_lt, z_le, z_eq, z_add, z_mul, z_inb, z_cl, z_b0, z_b1, z_b01, z_b010, z_b011, kb_v, kb_n, List.cons_append, List.nil_append, if_true, if_false, ↓reduceIte, Bool.false_eq_true, Bool.true_eq_false, decide_eq_true_eq, decide_eq_false_iff_not, not_false_eq_true]
      rw [if_pos (by omega)]
    · match m, hm with
      | 0, hm => omega
      | m + 1, hm =>
        have hgt : S + 1 ≤ (S + 1) ||| T 3 := Nat.left_le_or
        have hir := x_ir (σ := σ) (T := T) (S := S) (by omega) (d + 4) hB hP hS (by omega)
        cases qr : rcd B S
        · obtain ⟨σ2, B', R', S', x', e2, b⟩ := x_dp_loop w d mo Inv hI1 hI2 m ((S + 1) ||| T 3) B R σ (by omega) (sub3_on T _) (nx_bd w (by omega)) hB hP hR hRl h (hI2 S B R (by omega) hS hI qr) x
          refine ⟨σ2, B', R', S', x', Eq.trans ?_ e2, b⟩
          rw [qr] at hir
          rw [hX2_reckon_105]
          simp (disch := omega) only [kX2_reckon_0, kX2_reckon_1, kX2_reckon_2, eq_self, Nat.reduceEqDiff, Nat.one_ne_zero, Nat.zero_ne_one, z_0, z_lt, z_le, z_eq, z_add, z_mul, z_inb, z_cl, z_b0, z_b1, z_b01, z_b010, z_b011, kb_v, kb_n, List.cons_append, List.nil_append, if_true, if_false, ↓reduceIte, Bool.false_eq_true, Bool.true_eq_false, decide_eq_true_eq, decide_eq_false_iff_not, not_false_eq_true, hir, XT8 h, z_or]
          rw [if_neg (by omega)]
        · obtain ⟨hsp, hI'⟩ := hI1 S B R (by omega) hS hI qr
          have hT1 : XT (up σ 46 1 (nI (R ||| S))) 8 T := XT_cg h (fun a _ _ => up_of (by omega))
          obtain ⟨σ1, c1, c2, c3⟩ := x_go hT1 w (d + 1) hB (PT_cg hP (up_of (by omega))) hS (by omega) hsp
          have c1 : cal (d + 5) mX2_goOnFrom [.ref 46, .ref 8, .int (nI S)] _ = _ := c1
          have hT2 : XT σ1 8 T := XT_cg hT1 (fun a _ _ => c3 a (by omega))
          have hRS : R ||| S < 128 := or_128 hRl (by omega)
          obtain ⟨σ2, B', R', S', x', e2, b1, b2, b3, b4, b5, b6, b7⟩ := x_dp_loop w d mo Inv hI1 hI2 m ((S + 1) ||| T 3) (gB T S B (T 7)) (R ||| S) σ1 (by omega) (sub3_on T _) (nx_bd w (by omega)) (ok_gB hB T S (T 7) (by omega)) c2 (by rw [c3 46 (by omega), up_s]) hRS hT2 hI' x
          refine ⟨σ2, B', R', S', x', Eq.trans ?_ e2, b1, b2, b3, b4, b5, b6, fun a h1 h2 => by rw [b7 a h1 h2, c3 a h2, up_of h1]⟩
          rw [qr] at hir
          rw [hX2_reckon_105]
          simp (disch := omega) only [kX2_reckon_0, kX2_reckon_1, kX2_reckon_2, eq_self, Nat.reduceEqDiff, Nat.one_ne_zero, Nat.zero_ne_one, z_0, z_lt, z_le, z_eq, z_add, z_mul, z_inb, z_cl, z_b0, z_b1, z_b01, z_b010, z_b011, kb_v, kb_n, List.cons_append, List.nil_append, if_true, if_false, ↓reduceIte, Bool.false_eq_true, Bool.true_eq_false, decide_eq_true_eq, decide_eq_false_iff_not, not_false_eq_true, hir, hR, z_or, c1, XT8 hT2]
          rw [if_neg (by omega)]
def B0 (T : TT) (D : Nat) : BT := fun S k => if S = T 3 ∧ k = pop (T 4) then some (8 * D) else none
theorem full_sub {T : TT} (w : WF T) : sub3 T (2 ^ (T 7) - 1) := fun i hi => by
  rw [Nat.testBit_two_pow_sub_one]
  by_cases q : i < T 7
  · exact decide_eq_true q
  · rw [lt_pw w.2.1.1 (by omega)] at hi
    exact absurd hi (by simp)
theorem x_rk {σ : Sg} {T : TT} (h : XT σ 8 T) (w : WF T) (d : Nat) {mo : Nat} (hmo : mo ≤ 20) (Inv : Nat → BT → Nat → Prop) (hI0 : Inv (T 3) (B0 T (T 1 + mo)) 0) (hI1 : ∀ S B R, S < 2 ^ (T 7) → sub3 T S → Inv S B R → rcd B S = true → spn T S ≤ T 2 ∧ Inv ((S + 1) ||| T 3) (gB T S B (T 7)) (R ||| S)) (hI2 : ∀ S B R, S < 2 ^ (T 7) → sub3 T S → Inv S B R → rcd B S = false → Inv ((S + 1) ||| T 3) B R) : ∃ σ' B R S', cal (d + 6) mX2_reckon [.ref 46, .ref 8, .int (nI mo)] σ = some (none, σ') ∧ 2 ^ (T 7) ≤ S' ∧ Inv S' B R ∧ CN σ' (fsO B (2 ^ (T 7) - 1) 0 8) ∧ σ' 46 1 = nI R ∧ R < 128 ∧ ∀ a, a ≠ 46 → a ≠ 47 → σ' a = σ a := by
  have w1 := w.1
  have hp7 := p7_le (n := T 7) (by omega)
  have hp0 : 1 ≤ 2 ^ (T 7) := Nat.one_le_two_pow
  have hpl := pop_le (T 4)
  obtain ⟨σ1, s, x', e1, a1, a2⟩ := x_r1_loop w d (nI mo) (2 ^ (T 7)) (T 3) σ (by omega) (fun _ h => h) (by omega) (fun S' g1 g2 _ k _ => by have := Nat.le_of_testBit g1; omega) h uu
  have hT1 : XT σ1 8 T := XT_cg h (fun a _ _ => a2 a (by omega))
  have hP2 : PT (up (up σ1 47 (T 3 * 8 + pop (T 4)) (nI (8 * (T 1 + mo)))) 46 1 (nI 0)) T (B0 T (T 1 + mo)) := by
    refine PT_cg ?_ (up_of (by omega))
    exact PT_up a1 (S := T 3) (k := pop (T 4)) (by omega) (by omega) (some (8 * (T 1 + mo)))
  have hT2 : XT (up (up σ1 47 (T 3 * 8 + pop (T 4)) (nI (8 * (T 1 + mo)))) 46 1 (nI 0)) 8 T := XT_cg hT1 (fun a _ _ => by rw [up_of (by omega), up_of (by omega)])
  obtain ⟨σ2, B, R, S', x2, e2, b1, b2, b3, b4, b5, b6, b7⟩ := x_dp_loop w d (nI mo) Inv hI1 hI2 (2 ^ (T 7)) (T 3) (B0 T (T 1 + mo)) 0 _ (by omega) (fun _ h => h) (by omega) (fun S k v hv => by unfold B0 at hv; split at hv <;> cases hv; omega) hP2 up_s (by omega) hT2 hI0 x'
  obtain ⟨σ3, c1, c2, c3, c4⟩ := x_cn (σ := σ2) (T := T) (F := 2 ^ (T 7) - 1) (by omega) (d + 4) b3 b4 (full_sub w) (by omega)
  have c1 : cal (d + 5) mX2_conclude [.ref 46, .int (nI (2 ^ (T 7) - 1))] σ2 = _ := c1
  refine ⟨σ3, B, R, S', ?_, b1, b2, c2, by rw [c3, b5], b6, fun a h1 h2 => by rw [c4 a h1, b7 a h1 h2, up_of h1, up_of h2, a2 a h2]⟩
  rw [aX2_reckon_46_8]
  simp (disch := omega) only [kX2_reckon_0, kX2_reckon_1, kX2_reckon_2, eq_self, Nat.reduceEqDiff, Nat.one_ne_zero, Nat.zero_ne_one, z_0, z_lt, z_le, z_eq, z_add, z_mul, z_inb, z_cl, z_b0, z_b1, z_b01, z_b010, z_b011, kb_v, kb_n, List.cons_append, List.nil_append, if_true, if_false, ↓reduceIte, Bool.false_eq_true, Bool.true_eq_false, decide_eq_true_eq, decide_eq_false_iff_not, not_false_eq_true, XT8 h, z_one, z_sub]
  refine e1.trans ?_
  simp (disch := omega) only [kX2_reckon_0, kX2_reckon_1, kX2_reckon_2, eq_self, Nat.reduceEqDiff, Nat.one_ne_zero, Nat.zero_ne_one, z_0, z_lt, z_le, z_eq, z_add, z_mul, z_inb, z_cl, z_b0, z_b1, z_b01, z_b010, z_b011, kb_v, kb_n, List.cons_append, List.nil_append, if_true, if_false, ↓reduceIte, Bool.false_eq_true, Bool.true_eq_false, decide_eq_true_eq, decide_eq_false_iff_not, not_false_eq_true, XT8 hT1, e_bitCount, up_s, up_k, up_j]
  refine e2.trans ?_
  simp (disch := omega) only [kX2_reckon_0, kX2_reckon_1, kX2_reckon_2, eq_self, Nat.reduceEqDiff, Nat.one_ne_zero, Nat.zero_ne_one, z_0, z_lt, z_le, z_eq, z_add, z_mul, z_inb, z_cl, z_b0, z_b1, z_b01, z_b010, z_b011, kb_v, kb_n, List.cons_append, List.nil_append, if_true, if_false, ↓reduceIte, Bool.false_eq_true, Bool.true_eq_false, decide_eq_true_eq, decide_eq_false_iff_not, not_false_eq_true, c1]
