/-! can -/
def PC (σ : Sg) (T : TT) (C : Nat → Option Nat) : Prop := ∀ S, S < 2 ^ (T 7) → σ 65 S = enc (C S)
def okD (C : Nat → Option Nat) : Prop := ∀ S y, C S = some y → y < 1000
def cF (T : TT) (S0 y : Nat) (C : Nat → Option Nat) : Nat → Nat → Option Nat
  | 0 => C
  | p + 1 => fun S => if stb T S0 (8 * y) p = true ∧ S = S0 ||| 2 ^ p then mxO (cF T S0 y C p S) (some (y - dco T S0 p)) else cF T S0 y C p S
theorem cF_ok {T : TT} {S0 y : Nat} {C : Nat → Option Nat} (h : okD C) (hy : y < 1000) : ∀ p, okD (cF T S0 y C p)
  | 0 => h
  | p + 1 => by
    intro S z
    unfold cF
    split
    · exact mxO_lt (fun v => cF_ok h hy p S v) (fun v hv => by cases hv; omega) z
    · exact cF_ok h hy p S z
theorem cF_S0 {T : TT} {S0 y : Nat} {C : Nat → Option Nat} : ∀ p, cF T S0 y C p S0 = C S0
  | 0 => rfl
  | p + 1 => by
    unfold cF
    rw [if_neg, cF_S0 p]
    rintro ⟨h1, h2⟩
    have := or_gt (stb_t h1).1
    omega
theorem enc_le {v : Nat} (h : v < 1000) : (nI v ≤ (-1 : Int32)) ↔ False := by
  rw [le_I, z_tI (by omega), show (-1 : Int32).toInt = -1 by decide]
  constructor
  · intro q; omega
  · intro q; exact q.elim
theorem m1_lt0 : ((-1 : Int32) < nI 0) ↔ True := by decide
theorem v8 (y : Nat) : 8 * y / 8 = y := by omega
theorem m_c3_loop {T : TT} (w : WF T) (d : Nat) {S0 y R : Nat} {C : Nat → Option Nat} (hC : okD C) (hy : C S0 = some y) (hS0 : S0 < 2 ^ (T 7)) (hR : R < 128) : ∀ m k (σ : Sg), k + m = T 7 → MT σ 0 T → PC σ T (cF T S0 y C k) → ∀ x z : Value, ∃ σ' x' z', exec (d + 3) mX7_can 236 [.ref 50, .int (nI (2 ^ (T 7))), .int (nI (R ||| bse (stb T S0 (8 * y)) k)), .int (nI S0), .int (nI (skl T S0)), .int (nI (mon T S0)), .int (nI k), x, z] [] σ = exec (d + 3) mX7_can 66 [.ref 50, .int (nI (2 ^ (T 7))), .int (nI (R ||| bse (stb T S0 (8 * y)) (T 7))), .int (nI (S0 + 1)), .int (nI (skl T S0)), .int (nI (mon T S0)), .int (nI (T 7)), x', z'] [] σ' ∧ PC σ' T (cF T S0 y C (T 7)) ∧ ∀ a, a ≠ 65 → σ' a = σ a
  | 0, k, σ, hk, h, hP => by
    intro x z
    have w1 := w.1
    obtain rfl : k = T 7 := by omega
    refine ⟨σ, x, z, ?_, hP, fun _ _ => rfl⟩
    rw [hX7_can_236]
    simp (disch := omega) only [kX7_can_0, kX7_can_1, kX7_can_2, kX7_can_3, kX7_can_4, kX7_can_5, MT0 h, eq_self, Nat.reduceEqDiff, Nat.one_ne_zero, Nat.zero_ne_one, z_0, z_lt, z_le, z_eq, z_add, z_mul, z_inb, z_cl, z_b0, z_b1, z_b01, z_b010, z_b011, kb_v, kb_n, List.cons_append, List.nil_append, if_true, if_false, ↓reduceIte, Bool.false_eq_true, Bool.true_eq_false, decide_eq_true_eq, decide_eq_false_iff_not, not_false_eq_true, Nat.le_refl]
  | m + 1, k, σ, hk, h, hP => by
    intro x z
    have w1 := w.1
    have hp7 := p7_le (n := T 7) (by omega)
    have hyl := hC S0 y hy
    have wp := w.2.2.2.1 k (by omega)
    have hsk := skl_le T S0
    have hmo : mon T S0 ≤ 99 := by unfold mon; omega
    have hpw := pw_le (p := k) (by omega)
    have e0 := hP S0 hS0
    rw [cF_S0, hy] at e0
    have e0 : σ 65 S0 = nI y := e0
    have hol : S0 ||| 2 ^ k < 2 ^ (T 7) := Nat.or_lt_two_pow hS0 (pw_lt (by omega))
    have e1 := hP (S0 ||| 2 ^ k) hol
    have hst : may T k S0 (skl T S0) y (mon T S0) = stb T S0 (8 * y) k := by unfold stb; rw [v8]
    have hcF : cF T S0 y C (k + 1) = fun S => if stb T S0 (8 * y) k = true ∧ S = S0 ||| 2 ^ k then mxO (cF T S0 y C k S) (some (y - dco T S0 k)) else cF T S0 y C k S := rfl
    have hbs : bse (stb T S0 (8 * y)) (k + 1) = bse (stb T S0 (8 * y)) k ||| (if stb T S0 (8 * y) k = true then 2 ^ k else 0) := rfl
    have fin : ∀ σ1 : Sg, PC σ1 T (cF T S0 y C (k + 1)) → (∀ a, a ≠ 65 → σ1 a = σ a) → ∀ x z : Value, ∃ σ' x' z', exec (d + 3) mX7_can 236 [.ref 50, .int (nI (2 ^ (T 7))), .int (nI (R ||| bse (stb T S0 (8 * y)) (k + 1))), .int (nI S0), .int (nI (skl T S0)), .int (nI (mon T S0)), .int (nI (k + 1)), x, z] [] σ1 = exec (d + 3) mX7_can 66 [.ref 50, .int (nI (2 ^ (T 7))), .int (nI (R ||| bse (stb T S0 (8 * y)) (T 7))), .int (nI (S0 + 1)), .int (nI (skl T S0)), .int (nI (mon T S0)), .int (nI (T 7)), x', z'] [] σ' ∧ PC σ' T (cF T S0 y C (T 7)) ∧ ∀ a, a ≠ 65 → σ' a = σ a := by
      intro σ1 g1 g2 x z
      obtain ⟨σ', x', z', a1, a2, a3⟩ := m_c3_loop w d hC hy hS0 hR m (k + 1) σ1 (by omega) (MT_same h (g2 51 (by omega))) g1 x z
      exact ⟨σ', x', z', a1, a2, fun a ha => by rw [a3 a ha, g2 a ha]⟩
    cases hs : stb T S0 (8 * y) k
    · rw [hs] at hcF hbs
      simp only [Bool.false_eq_true, false_and, if_false, Nat.or_zero] at hcF hbs
      have fin0 := fin σ (by rw [hcF]; exact hP) (fun _ _ => rfl)
      rw [hbs] at fin0
      rw [hX7_can_236]
      simp (disch := omega) only [kX7_can_0, kX7_can_1, kX7_can_2, kX7_can_3, kX7_can_4, kX7_can_5, MT0 h, eq_self, Nat.reduceEqDiff, Nat.one_ne_zero, Nat.zero_ne_one, z_0, z_lt, z_le, z_eq, z_add, z_mul, z_inb, z_cl, z_b0, z_b1, z_b01, z_b010, z_b011, kb_v, kb_n, List.cons_append, List.nil_append, if_true, if_false, ↓reduceIte, Bool.false_eq_true, Bool.true_eq_false, decide_eq_true_eq, decide_eq_false_iff_not, not_false_eq_true, e0, m_mayBe h w, hst, hs]
      rw [if_neg (by omega)]
      exact fin0 _ _
    · have hdl := dco_le hs
      rw [v8] at hdl
      rw [hs] at hcF hbs
      simp only [true_and, if_true] at hcF hbs
      have hokk := cF_ok (T := T) (S0 := S0) hC hyl k
      have key : ∀ o, o = mxO (cF T S0 y C k (S0 ||| 2 ^ k)) (some (y - dco T S0 k)) → PC (up σ 65 (S0 ||| 2 ^ k) (enc o)) T (cF T S0 y C (k + 1)) := by
        intro o ho S hS
        rw [hcF]
        by_cases q : S = S0 ||| 2 ^ k
        · subst q; rw [up_s]; simp only [if_true]; rw [ho]
        · rw [up_j q]; simp only [q, if_false]; exact hP S hS
      have hcs : T (9 + k) = 5 ∨ dco T S0 k = cst T k (skl T S0) := by
        by_cases q : T (9 + k) = 5
        · exact Or.inl q
        · right; unfold dco; rw [if_neg q]
      rw [hbs] at fin
      cases ho : cF T S0 y C k (S0 ||| 2 ^ k) with
      | none =>
        rw [ho] at e1 key
        have kk := fin _ (key _ rfl) (fun a ha => up_of ha)
        rw [hX7_can_236]
        by_cases q5 : T (9 + k) = 5
        · have hd0 : dco T S0 k = 0 := by unfold dco; rw [if_pos q5]
          rw [hd0] at kk
          simp (disch := omega) only [kX7_can_0, kX7_can_1, kX7_can_2, kX7_can_3, kX7_can_4, kX7_can_5, MT0 h, eq_self, Nat.reduceEqDiff, Nat.one_ne_zero, Nat.zero_ne_one, z_0, z_lt, z_le, z_eq, z_add, z_mul, z_inb, z_cl, z_b0, z_b1, z_b01, z_b010, z_b011, kb_v, kb_n, List.cons_append, List.nil_append, if_true, if_false, ↓reduceIte, Bool.false_eq_true, Bool.true_eq_false, decide_eq_true_eq, decide_eq_false_iff_not, not_false_eq_true, e0, m_mayBe h w, hst, hs, q5, z_one, z_or, e1, enc, enc_le, z_sub, Nat.or_assoc]
          rw [if_neg (by omega)]
          exact kk _ _
        · have hd0 : dco T S0 k = cst T k (skl T S0) := hcs.resolve_left q5
          rw [hd0] at kk hdl
          simp (disch := omega) only [kX7_can_0, kX7_can_1, kX7_can_2, kX7_can_3, kX7_can_4, kX7_can_5, MT0 h, eq_self, Nat.reduceEqDiff, Nat.one_ne_zero, Nat.zero_ne_one, z_0, z_lt, z_le, z_eq, z_add, z_mul, z_inb, z_cl, z_b0, z_b1, z_b01, z_b010, z_b011, kb_v, kb_n, List.cons_append, List.nil_append, if_true, if_false, ↓reduceIte, Bool.false_eq_true, Bool.true_eq_false, decide_eq_true_eq, decide_eq_false_iff_not, not_false_eq_true, e0, m_mayBe h w, hst, hs, q5, m_takesNow h w, z_one, z_or, e1, enc, enc_le, z_sub, Nat.or_assoc]
          rw [if_neg (by omega)]
          exact kk _ _
      | some u =>
        have hu := hokk _ u ho
        rw [ho] at e1 key
        have kk := fin _ (key _ rfl) (fun a ha => up_of ha)
        rw [hX7_can_236]
        by_cases q5 : T (9 + k) = 5
        · have hd0 : dco T S0 k = 0 := by unfold dco; rw [if_pos q5]
          rw [hd0] at kk
          simp (disch := omega) only [kX7_can_0, kX7_can_1, kX7_can_2, kX7_can_3, kX7_can_4, kX7_can_5, MT0 h, eq_self, Nat.reduceEqDiff, Nat.one_ne_zero, Nat.zero_ne_one, z_0, z_lt, z_le, z_eq, z_add, z_mul, z_inb, z_cl, z_b0, z_b1, z_b01, z_b010, z_b011, kb_v, kb_n, List.cons_append, List.nil_append, if_true, if_false, ↓reduceIte, Bool.false_eq_true, Bool.true_eq_false, decide_eq_true_eq, decide_eq_false_iff_not, not_false_eq_true, e0, m_mayBe h w, hst, hs, q5, z_one, z_or, e1, enc, z_sub, Nat.or_assoc, mxO] at kk ⊢
          rw [if_neg (by omega)]
          by_cases q6 : u < y - 0
          · rw [if_pos q6] at kk
            rw [if_neg (by omega)]
            exact kk _ _
          · rw [if_neg q6] at kk
            rw [if_pos (by omega)]
            exact kk _ _
        · have hd0 : dco T S0 k = cst T k (skl T S0) := hcs.resolve_left q5
          rw [hd0] at kk hdl
          simp (disch := omega) only [kX7_can_0, kX7_can_1, kX7_can_2, kX7_can_3, kX7_can_4, kX7_can_5, MT0 h, eq_self, Nat.reduceEqDiff, Nat.one_ne_zero, Nat.zero_ne_one, z_0, z_lt, z_le, z_eq, z_add, z_mul, z_inb, z_cl, z_b0, z_b1, z_b01, z_b010, z_b011, kb_v, kb_n, List.cons_append, List.nil_append, if_true, if_false, ↓reduceIte, Bool.false_eq_true, Bool.true_eq_false, decide_eq_true_eq, decide_eq_false_iff_not, not_false_eq_true, e0, m_mayBe h w, hst, hs, q5, m_takesNow h w, z_one, z_or, e1, enc, z_sub, Nat.or_assoc, mxO] at kk ⊢
          rw [if_neg (by omega)]
          by_cases q6 : u < y - cst T k (skl T S0)
          · rw [if_pos q6] at kk
            rw [if_neg (by omega)]
            exact kk _ _
          · rw [if_neg q6] at kk
            rw [if_pos (by omega)]
            exact kk _ _
theorem m_c2_loop {σ : Sg} {T : TT} (h : MT σ 0 T) (w : WF T) (d : Nat) {S : Nat} (hS : S < 128) (hsp : spn T S ≤ T 2) (al cn : Int32) : ∀ m k, k + m = T 7 → ∀ x y : Value, ∃ x', exec (d + 3) mX7_can 116 [.ref 50, .int al, .int cn, .int (nI S), .int (nI (min 20 (T 0 + cnt (nbt T S) k))), .int (nI (T 2 - smn (bgt T S) k)), .int (nI k), x, y] [] σ = exec (d + 3) mX7_can 236 [.ref 50, .int al, .int cn, .int (nI S), .int (nI (skl T S)), .int (nI (mon T S)), .int (nI 0), x', y] [] σ
  | 0, k, hk => by
    intro x y
    have w1 := w.1
    obtain rfl : k = T 7 := by omega
    refine ⟨x, ?_⟩
    rw [hX7_can_116]
    simp (disch := omega) only [kX7_can_0, kX7_can_1, kX7_can_2, kX7_can_3, kX7_can_4, kX7_can_5, MT0 h, eq_self, Nat.reduceEqDiff, Nat.one_ne_zero, Nat.zero_ne_one, z_0, z_lt, z_le, z_eq, z_add, z_mul, z_inb, z_cl, z_b0, z_b1, z_b01, z_b010, z_b011, kb_v, kb_n, List.cons_append, List.nil_append, if_true, if_false, ↓reduceIte, Bool.false_eq_true, Bool.true_eq_false, decide_eq_true_eq, decide_eq_false_iff_not, not_false_eq_true, Nat.le_refl]
    rfl
  | m + 1, k, hk => by
    intro x y
    have w1 := w.1
    have wp := w.2.2.2.1 k (by omega)
    have hm1 : smn (bgt T S) (k + 1) ≤ spn T S := smn_mo _ _ _ (by omega)
    rw [smn] at hm1
    have hnb := ndn_bit S (T 3) k
    cases q : (ndn S (T 3)).testBit k
    · obtain ⟨x', ih⟩ := m_c2_loop h w d hS hsp al cn m (k + 1) (by omega) (.int (nI 0)) y
      refine ⟨x', Eq.trans ?_ ih⟩
      rw [hX7_can_116, cnt, smn]
      rw [show nbt T S k = false by unfold nbt; rw [q]; rfl, show bgt T S k = 0 by unfold bgt; rw [q]; rfl]
      simp (disch := omega) only [kX7_can_0, kX7_can_1, kX7_can_2, kX7_can_3, kX7_can_4, kX7_can_5, MT0 h, eq_self, Nat.reduceEqDiff, Nat.one_ne_zero, Nat.zero_ne_one, z_0, z_lt, z_le, z_eq, z_add, z_mul, z_inb, z_cl, z_b0, z_b1, z_b01, z_b010, z_b011, kb_v, kb_n, List.cons_append, List.nil_append, if_true, if_false, ↓reduceIte, Bool.false_eq_true, Bool.true_eq_false, decide_eq_true_eq, decide_eq_false_iff_not, not_false_eq_true, m_has, z_sub, Nat.sub_zero, Bool.toNat_false, Nat.add_zero]
      rw [if_neg (by omega)]
      rw [q] at hnb
      cases q1 : S.testBit k
      · simp
      · cases q2 : (T 3).testBit k
        · rw [q1, q2] at hnb; simp at hnb
        · simp
    · obtain ⟨x', ih⟩ := m_c2_loop h w d hS hsp al cn m (k + 1) (by omega) (.int (nI 1)) y
      refine ⟨x', Eq.trans ?_ ih⟩
      rw [q] at hnb
      have q12 : S.testBit k = true ∧ (T 3).testBit k = false := by
        cases q1 : S.testBit k <;> cases q2 : (T 3).testBit k <;> simp_all
      rw [hX7_can_116, cnt, smn]
      by_cases q5 : T (9 + k) = 5
      · have hb : bgt T S k = T (23 + k) := by unfold bgt; rw [q, q5]; rfl
        rw [hb] at hm1
        rw [show nbt T S k = false by unfold nbt; rw [q, q5]; rfl, hb]
        simp (disch := omega) only [kX7_can_0, kX7_can_1, kX7_can_2, kX7_can_3, kX7_can_4, kX7_can_5, MT0 h, eq_self, Nat.reduceEqDiff, Nat.one_ne_zero, Nat.zero_ne_one, z_0, z_lt, z_le, z_eq, z_add, z_mul, z_inb, z_cl, z_b0, z_b1, z_b01, z_b010, z_b011, kb_v, kb_n, List.cons_append, List.nil_append, if_true, if_false, ↓reduceIte, Bool.false_eq_true, Bool.true_eq_false, decide_eq_true_eq, decide_eq_false_iff_not, not_false_eq_true, m_has, q12.1, q12.2, q5, z_sub, Nat.sub_sub, Bool.toNat_false, Nat.add_zero]
        rw [if_neg (by omega)]
      · rw [show nbt T S k = true by unfold nbt; rw [q, decide_eq_true q5]; rfl, show bgt T S k = 0 by unfold bgt; rw [q, if_pos rfl, if_neg q5]]
        simp (disch := omega) only [kX7_can_0, kX7_can_1, kX7_can_2, kX7_can_3, kX7_can_4, kX7_can_5, MT0 h, eq_self, Nat.reduceEqDiff, Nat.one_ne_zero, Nat.zero_ne_one, z_0, z_lt, z_le, z_eq, z_add, z_mul, z_inb, z_cl, z_b0, z_b1, z_b01, z_b010, z_b011, kb_v, kb_n, List.cons_append, List.nil_append, if_true, if_false, ↓reduceIte, Bool.false_eq_true, Bool.true_eq_false, decide_eq_true_eq, decide_eq_false_iff_not, not_false_eq_true, m_has, q12.1, q12.2, q5, m_more, z_sub, Nat.sub_zero, Bool.toNat_true, Nat.add_zero]
        rw [if_neg (by omega), show min 20 (min 20 (T 0 + cnt (nbt T S) k) + 1) = min 20 (T 0 + (cnt (nbt T S) k + 1)) by omega]
theorem and_sub {T : TT} {S : Nat} : S &&& T 3 = T 3 ↔ sub3 T S := by
  constructor
  · intro h i hi
    rw [← h, Nat.testBit_and, Bool.and_eq_true] at hi
    exact hi.1
  · intro h
    apply Nat.eq_of_testBit_eq
    intro i
    rw [Nat.testBit_and]
    cases q : (T 3).testBit i
    · simp
    · rw [h i q]; rfl
theorem m_c1_loop {T : TT} (w : WF T) (d : Nat) (Inv : Nat → (Nat → Option Nat) → Nat → Prop) (hI1 : ∀ S C R y, S < 2 ^ (T 7) → sub3 T S → C S = some y → Inv S C R → spn T S ≤ T 2 ∧ Inv (S + 1) (cF T S y C (T 7)) (R ||| bse (stb T S (8 * y)) (T 7))) (hI2 : ∀ S C R, S < 2 ^ (T 7) → (¬ sub3 T S ∨ C S = none) → Inv S C R → Inv (S + 1) C R) : ∀ m S C R (σ : Sg), S + m = 2 ^ (T 7) → okD C → PC σ T C → R < 128 → MT σ 0 T → Inv S C R → ∀ x y z u v : Value, ∃ σ' C' R', exec (d + 3) mX7_can 66 [.ref 50, .int (nI (2 ^ (T 7))), .int (nI R), .int (nI S), x, y, z, u, v] [] σ = some (some (.int (nI R')), σ') ∧ Inv (2 ^ (T 7)) C' R' ∧ ∀ a, a ≠ 65 → σ' a = σ a
  | 0, S, C, R, σ, hm, hC, hP, hR, h, hI => by
    intro x y z u v
    have w1 := w.1
    have hp7 := p7_le (n := T 7) (by omega)
    obtain rfl : S = 2 ^ (T 7) := by omega
    refine ⟨σ, C, R, ?_, hI, fun _ _ => rfl⟩
    rw [hX7_can_66]
    simp (disch := omega) only [kX7_can_0, kX7_can_1, kX7_can_2, kX7_can_3, kX7_can_4, kX7_can_5, eq_self, Nat.reduceEqDiff, Nat.one_ne_zero, Nat.zero_ne_one, z_0, z_lt, z_le, z_eq, z_add, z_mul, z_inb, z_cl, z_b0, z_b1, z_b01, z_b010, z_b011, kb_v, kb_n, List.cons_append, List.nil_append, if_true, if_false, ↓reduceIte, Bool.false_eq_true, Bool.true_eq_false, decide_eq_true_eq, decide_eq_false_iff_not, not_false_eq_true, Nat.le_refl]
  | m + 1, S, C, R, σ, hm, hC, hP, hR, h, hI => by
    intro x y z u v
    have w1 := w.1
    have hp7 := p7_le (n := T 7) (by omega)
    have e0 := hP S (by omega)
    have han : S &&& T 3 < 128 := Nat.lt_of_le_of_lt Nat.and_le_left (by omega)
    cases ho : C S with
    | none =>
      rw [ho] at e0
      obtain ⟨σ', C', R', a1, a2, a3⟩ := m_c1_loop w d Inv hI1 hI2 m (S + 1) C R σ (by omega) hC hP hR h (hI2 S C R (by omega) (Or.inr ho) hI) x y z u v
      refine ⟨σ', C', R', ?_, a2, a3⟩
      rw [hX7_can_66]
      simp (disch := omega) only [kX7_can_0, kX7_can_1, kX7_can_2, kX7_can_3, kX7_can_4, kX7_can_5, eq_self, Nat.reduceEqDiff, Nat.one_ne_zero, Nat.zero_ne_one, z_0, z_lt, z_le, z_eq, z_add, z_mul, z_inb, z_cl, z_b0, z_b1, z_b01, z_b010, z_b011, kb_v, kb_n, List.cons_append, List.nil_append, if_true, if_false, ↓reduceIte, Bool.false_eq_true, Bool.true_eq_false, decide_eq_true_eq, decide_eq_false_iff_not, not_false_eq_true, e0, enc, m1_lt0]
      rw [if_neg (by omega)]
      exact a1
    | some t =>
      have ht := hC S t ho
      rw [ho] at e0
      by_cases hs : S &&& T 3 = T 3
      · obtain ⟨hsp, hI'⟩ := hI1 S C R t (by omega) (and_sub.mp hs) ho hI
        obtain ⟨u', e2⟩ := m_c2_loop h w d (S := S) (by omega) hsp (nI (2 ^ (T 7))) (nI R) (T 7) 0 (by omega) u v
        rw [show min 20 (T 0 + cnt (nbt T S) 0) = T 0 by simp only [cnt]; omega, show T 2 - smn (bgt T S) 0 = T 2 by simp [smn]] at e2
        obtain ⟨σ1, x1, z1, e3, b2, b3⟩ := m_c3_loop w d hC ho (R := R) (by omega) hR (T 7) 0 σ (by omega) h hP u' v
        rw [show R ||| bse (stb T S (8 * t)) 0 = R by simp [bse]] at e3
        have hRb : R ||| bse (stb T S (8 * t)) (T 7) < 128 := or_128 hR (by have := bse_lt (stb T S (8 * t)) (T 7); omega)
        obtain ⟨σ', C', R', a1, a2, a3⟩ := m_c1_loop w d Inv hI1 hI2 m (S + 1) _ _ σ1 (by omega) (cF_ok hC ht (T 7)) b2 hRb (MT_same h (b3 51 (by omega))) hI' (.int (nI (skl T S))) (.int (nI (mon T S))) (.int (nI (T 7))) x1 z1
        refine ⟨σ', C', R', ?_, a2, fun a ha => by rw [a3 a ha, b3 a ha]⟩
        rw [hX7_can_66]
        simp (disch := omega) only [kX7_can_0, kX7_can_1, kX7_can_2, kX7_can_3, kX7_can_4, kX7_can_5, MT0 h, eq_self, Nat.reduceEqDiff, Nat.one_ne_zero, Nat.zero_ne_one, z_0, z_lt, z_le, z_eq, z_add, z_mul, z_inb, z_cl, z_b0, z_b1, z_b01, z_b010, z_b011, kb_v, kb_n, List.cons_append, List.nil_append, if_true, if_false, ↓reduceIte, Bool.false_eq_true, Bool.true_eq_false, decide_eq_true_eq, decide_eq_false_iff_not, not_false_eq_true, e0, enc, z_and, hs, Nat.not_lt_zero]
        rw [if_neg (by omega)]
        exact (e2.trans e3).trans a1
      · obtain ⟨σ', C', R', a1, a2, a3⟩ := m_c1_loop w d Inv hI1 hI2 m (S + 1) C R σ (by omega) hC hP hR h (hI2 S C R (by omega) (Or.inl (fun q => hs (and_sub.mpr q))) hI) x y z u v
        refine ⟨σ', C', R', ?_, a2, a3⟩
        rw [hX7_can_66]
        simp (disch := omega) only [kX7_can_0, kX7_can_1, kX7_can_2, kX7_can_3, kX7_can_4, kX7_can_5, MT0 h, eq_self, Nat.reduceEqDiff, Nat.one_ne_zero, Nat.zero_ne_one, z_0, z_lt, z_le, z_eq, z_add, z_mul, z_inb, z_cl, z_b0, z_b1, z_b01, z_b010, z_b011, kb_v, kb_n, List.cons_append, List.nil_append, if_true, if_false, ↓reduceIte, Bool.false_eq_true, Bool.true_eq_false, decide_eq_true_eq, decide_eq_false_iff_not, not_false_eq_true, e0, enc, z_and, hs, Nat.not_lt_zero]
        rw [if_neg (by omega)]
        exact a1
