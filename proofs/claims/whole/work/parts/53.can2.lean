/-! can, to its end -/
def ArD (T : TT) (D S0 S y : Nat) : Prop := ∃ k v, Arr T D S0 S k v ∧ y = v / 8
def KI (T : TT) (D S0 : Nat) (C : Nat → Option Nat) (R : Nat) : Prop := (∀ S, sub3 T S → S < 2 ^ (T 7) → mxs (ArD T D S0 S) (C S)) ∧ ∀ i, R.testBit i = true ↔ ∃ S k v, S < S0 ∧ Rch T D S k v ∧ i < T 7 ∧ stb T S v i = true
def C0 (T : TT) (D : Nat) : Nat → Option Nat := fun S => if S = T 3 then some D else none
theorem KI_0 {T : TT} (w : WF T) (D : Nat) : KI T D (T 3) (C0 T D) 0 := by
  refine ⟨fun S h1 h2 => ?_, fun i => ⟨fun h => absurd h (by simp), fun ⟨S, k, v, h1, h2, _⟩ => absurd (Rch_ge w h2) (by omega)⟩⟩
  unfold C0
  by_cases q : S = T 3
  · rw [if_pos q]
    refine ⟨⟨_, _, Or.inl ⟨q, rfl, rfl⟩, by omega⟩, ?_⟩
    rintro y ⟨k, v, h | ⟨S1, k1, v1, p, h1, h2, _⟩, rfl⟩
    · rw [h.2.2]; omega
    · exact absurd (Rch_ge w h2) (by omega)
  · rw [if_neg q]
    rintro y ⟨k, v, h | ⟨S1, k1, v1, p, h1, h2, _⟩, rfl⟩
    · exact q h.1
    · exact absurd (Rch_ge w h2) (by omega)
theorem stb_mo {T : TT} {S u v p : Nat} (h : u / 8 ≤ v / 8) (hs : stb T S u p = true) : stb T S v p = true := by
  obtain ⟨h1, h2, h3⟩ := stb_t hs
  unfold stb may
  rw [h1, h2]
  simp only [Bool.not_false, Bool.true_and, decide_eq_true_eq]
  split
  · rename_i q; rw [if_pos q] at h3; exact h3
  · rename_i q; rw [if_neg q] at h3; omega
theorem nv_8 (T : TT) (S v p : Nat) (hp : p ≤ 7) : nv T S v p / 8 = v / 8 - dco T S p := by
  unfold nv
  split
  · by_cases q : p = 0
    · subst q; omega
    · omega
  · omega
def ArQ (T : TT) (D S0 q S y : Nat) : Prop := ArD T D S0 S y ∨ ∃ k1 v1 p, p < q ∧ Rch T D S0 k1 v1 ∧ p < T 7 ∧ stb T S0 v1 p = true ∧ S = S0 ||| 2 ^ p ∧ y = v1 / 8 - dco T S0 p
theorem cF_mx {T : TT} (w : WF T) {D S0 y0 : Nat} {C : Nat → Option Nat} (hR : ∃ k v, Rch T D S0 k v ∧ y0 = v / 8) (hM : ∀ k v, Rch T D S0 k v → v / 8 ≤ y0) (hC : ∀ S, sub3 T S → S < 2 ^ (T 7) → mxs (ArD T D S0 S) (C S)) : ∀ q, q ≤ T 7 → ∀ S, sub3 T S → S < 2 ^ (T 7) → mxs (ArQ T D S0 q S) (cF T S0 y0 C q S)
  | 0, _, S, h1, h2 => mxs_cg (hC S h1 h2) (fun v => ⟨fun h => Or.inl h, fun h => h.elim id (fun ⟨_, _, _, h, _⟩ => absurd h (by omega))⟩)
  | q + 1, hq, S, h1, h2 => by
    have w1 := w.1
    have ih := cF_mx w hR hM hC q (by omega) S h1 h2
    unfold cF
    by_cases c : stb T S0 (8 * y0) q = true ∧ S = S0 ||| 2 ^ q
    · rw [if_pos c]
      obtain ⟨k0, v0, r0, rfl⟩ := hR
      have hs0 : stb T S0 v0 q = true := stb_mo (by omega) c.1
      have hn : mxs (fun y => ∃ k1 v1, Rch T D S0 k1 v1 ∧ stb T S0 v1 q = true ∧ y = v1 / 8 - dco T S0 q) (some (v0 / 8 - dco T S0 q)) := by
        refine ⟨⟨k0, v0, r0, hs0, rfl⟩, ?_⟩
        rintro y ⟨k1, v1, a, b, rfl⟩
        have := hM k1 v1 a
        omega
      refine mxs_cg (mxs_or ih hn) (fun y => ⟨fun h => ?_, fun h => ?_⟩)
      · rcases h with h | ⟨k1, v1, a, b, e⟩
        · exact h.imp id (fun ⟨k1, v1, p, a, b⟩ => ⟨k1, v1, p, by omega, b⟩)
        · exact Or.inr ⟨k1, v1, q, by omega, a, by omega, b, c.2, e⟩
      · rcases h with h | ⟨k1, v1, p, a, b, cc, e, f, g⟩
        · exact Or.inl (Or.inl h)
        · by_cases r : p = q
          · subst r; exact Or.inr ⟨k1, v1, b, e, g⟩
          · exact Or.inl (Or.inr ⟨k1, v1, p, by omega, b, cc, e, f, g⟩)
    · rw [if_neg c]
      refine mxs_cg ih (fun y => ⟨fun h => ?_, fun h => ?_⟩)
      · exact h.imp id (fun ⟨k1, v1, p, a, b⟩ => ⟨k1, v1, p, by omega, b⟩)
      · rcases h with h | ⟨k1, v1, p, a, b, cc, e, f, g⟩
        · exact Or.inl h
        · refine Or.inr ⟨k1, v1, p, ?_, b, cc, e, f, g⟩
          by_cases r : p = q
          · subst r
            exfalso
            exact c ⟨stb_mo (by have := hM k1 v1 b; omega) e, f⟩
          · omega
theorem KI_C {T : TT} {D S : Nat} {C : Nat → Option Nat} {R : Nat} (h : KI T D S C R) (hS : sub3 T S) (hl : S < 2 ^ (T 7)) : mxs (fun y => ∃ k v, Rch T D S k v ∧ y = v / 8) (C S) :=
  mxs_cg (h.1 S hS hl) (fun y => ⟨fun ⟨k, v, a, b⟩ => ⟨k, v, (Arr_R (Nat.le_refl _)).mp a, b⟩, fun ⟨k, v, a, b⟩ => ⟨k, v, (Arr_R (Nat.le_refl _)).mpr a, b⟩⟩)
theorem KI_1 {T : TT} (w : WF T) {D : Nat} (S : Nat) (C : Nat → Option Nat) (R y : Nat) (hl : S < 2 ^ (T 7)) (hS : sub3 T S) (hy : C S = some y) (h : KI T D S C R) : spn T S ≤ T 2 ∧ KI T D (S + 1) (cF T S y C (T 7)) (R ||| bse (stb T S (8 * y)) (T 7)) := by
  have w1 := w.1
  have hm := KI_C h hS hl
  rw [hy] at hm
  have hm1 := hm.1
  have hM : ∀ k v, Rch T D S k v → v / 8 ≤ y := fun k v q => hm.2 _ ⟨k, v, q, rfl⟩
  obtain ⟨k0, v0, r0, e0⟩ := hm.1
  refine ⟨(Rch_NI w r0).2.2.2.2.1, fun S' h1 h2 => ?_, fun i => ?_⟩
  · refine mxs_cg (cF_mx w hm1 hM h.1 (T 7) (Nat.le_refl _) S' h1 h2) (fun z => ⟨fun q => ?_, fun q => ?_⟩)
    · rcases q with ⟨k, v, q, e⟩ | ⟨k1, v1, p, a, b, c, d, e, f⟩
      · refine ⟨k, v, q.imp id (fun ⟨S1, k1, v1, p, a, b⟩ => ⟨S1, k1, v1, p, by omega, b⟩), e⟩
      · exact ⟨_, _, Or.inr ⟨S, k1, v1, p, by omega, b, c, d, e, rfl, rfl⟩, by rw [nv_8 T S v1 p (by omega)]; exact f⟩
    · obtain ⟨k, v, q, e⟩ := q
      rcases q with q | ⟨S1, k1, v1, p, a, b, c, d, f, g, i⟩
      · exact Or.inl ⟨k, v, Or.inl q, e⟩
      · by_cases r : S1 = S
        · subst r
          refine Or.inr ⟨k1, v1, p, c, b, c, d, f, ?_⟩
          rw [e, i, nv_8 T S1 v1 p (by omega)]
        · exact Or.inl ⟨k, v, Or.inr ⟨S1, k1, v1, p, by omega, b, c, d, f, g, i⟩, e⟩
  · rw [Nat.testBit_or, Bool.or_eq_true, h.2 i, bse_bit, Bool.and_eq_true, decide_eq_true_eq]
    constructor
    · rintro (⟨S1, k1, v1, a, b, c⟩ | ⟨q1, q2⟩)
      · exact ⟨S1, k1, v1, by omega, b, c⟩
      · exact ⟨S, k0, v0, by omega, r0, q1, stb_mo (by omega) q2⟩
    · rintro ⟨S1, k1, v1, a, b, c1, c2⟩
      by_cases r : S1 = S
      · subst r
        exact Or.inr ⟨c1, stb_mo (by have := hM k1 v1 b; omega) c2⟩
      · exact Or.inl ⟨S1, k1, v1, by omega, b, c1, c2⟩
theorem KI_2 {T : TT} (w : WF T) {D : Nat} (S : Nat) (C : Nat → Option Nat) (R : Nat) (hl : S < 2 ^ (T 7)) (hn : ¬ sub3 T S ∨ C S = none) (h : KI T D S C R) : KI T D (S + 1) C R := by
  have hno : ∀ k v, ¬ Rch T D S k v := fun k v q => by
    have hs := (Rch_NI w q).1
    rcases hn with hn | hn
    · exact hn hs
    · have hm := KI_C h hs hl
      rw [hn] at hm
      exact hm _ ⟨k, v, q, rfl⟩
  have hlt : ∀ S1 k v, Rch T D S1 k v → (S1 < S + 1 ↔ S1 < S) := fun S1 k v q => by
    constructor
    · intro r
      by_cases e : S1 = S
      · subst e; exact absurd q (hno k v)
      · omega
    · intro r; omega
  refine ⟨fun S' h1 h2 => ?_, fun i => ?_⟩
  · refine mxs_cg (h.1 S' h1 h2) (fun y => ⟨fun ⟨k, v, q, e⟩ => ⟨k, v, ?_, e⟩, fun ⟨k, v, q, e⟩ => ⟨k, v, ?_, e⟩⟩)
    · exact q.imp id (fun ⟨S1, k1, v1, p, a, b, c⟩ => ⟨S1, k1, v1, p, (hlt _ _ _ b).mpr a, b, c⟩)
    · exact q.imp id (fun ⟨S1, k1, v1, p, a, b, c⟩ => ⟨S1, k1, v1, p, (hlt _ _ _ b).mp a, b, c⟩)
  · rw [h.2 i]
    constructor
    · rintro ⟨S1, k1, v1, a, b, c⟩
      exact ⟨S1, k1, v1, (hlt _ _ _ b).mpr a, b, c⟩
    · rintro ⟨S1, k1, v1, a, b, c⟩
      exact ⟨S1, k1, v1, (hlt _ _ _ b).mp a, b, c⟩
theorem Rn_add {T : TT} {D : Nat} : ∀ n S k v i, Rn T D n S k v → S.testBit i = true → (T 3).testBit i = false → ∃ S k v, Rch T D S k v ∧ i < T 7 ∧ stb T S v i = true
  | 0, S, k, v, i, h, h1, h2 => by
    rw [h.1, h2] at h1
    exact absurd h1 (by simp)
  | n + 1, S, k, v, i, h, h1, h2 => by
    obtain ⟨S1, k1, v1, p, h3, hp, hs, rfl, rfl, rfl⟩ := h
    rw [or_bit, Bool.or_eq_true] at h1
    rcases h1 with h1 | h1
    · exact Rn_add n S1 k1 v1 i h3 h1 h2
    · rw [decide_eq_true_eq] at h1
      subst h1
      exact ⟨S1, k1, v1, ⟨n, h3⟩, hp, hs⟩
theorem can_eq {T : TT} (w : WF T) {D i : Nat} : (∃ S k v, Rch T D S k v ∧ i < T 7 ∧ stb T S v i = true) ↔ (∃ S k v, Rch T D S k v ∧ S.testBit i = true) ∧ (T 3).testBit i = false := by
  constructor
  · rintro ⟨S, k, v, h1, h2, h3⟩
    refine ⟨⟨_, _, _, Rch_st h1 h2 h3, by rw [or_bit]; simp⟩, ?_⟩
    have := (stb_t h3).1
    cases q : (T 3).testBit i
    · rfl
    · rw [(Rch_NI w h1).1 i q] at this
      exact absurd this (by simp)
  · rintro ⟨⟨S, k, v, ⟨n, h1⟩, h2⟩, h3⟩
    exact Rn_add n S k v i h1 h2 h3
theorem m_c0_loop {T : TT} (h7 : T 7 ≤ 7) (d : Nat) : ∀ m k (σ : Sg), k + m = 2 ^ (T 7) → ∀ x y z u v t : Value, ∃ σ', exec d mX7_can 22 [.ref 50, .int (nI (2 ^ (T 7))), .int (nI k), x, y, z, u, v, t] [] σ = exec d mX7_can 40 [.ref 50, .int (nI (2 ^ (T 7))), .int (nI (2 ^ (T 7))), x, y, z, u, v, t] [] σ' ∧ (∀ j, k ≤ j → j < 2 ^ (T 7) → σ' 65 j = -1) ∧ (∀ j, j < k → σ' 65 j = σ 65 j) ∧ ∀ a, a ≠ 65 → σ' a = σ a
  | 0, k, σ, hk => by
    intro x y z u v t
    have hp7 := p7_le h7
    obtain rfl : k = 2 ^ (T 7) := by omega
    refine ⟨σ, ?_, fun j h1 h2 => by omega, fun _ _ => rfl, fun _ _ => rfl⟩
    rw [hX7_can_22]
    simp (disch := omega) only [kX7_can_0, kX7_can_1, kX7_can_2, kX7_can_3, kX7_can_4, kX7_can_5, eq_self, Nat.reduceEqDiff, Nat.one_ne_zero, Nat.zero_ne_one, z_0, z_lt, z_le, z_eq, z_add, z_mul, z_inb, z_cl, z_b0, z_b1, z_b01, z_b010, z_b011, kb_v, kb_n, List.cons_append, List.nil_append, if_true, if_false, ↓reduceIte, Bool.false_eq_true, Bool.true_eq_false, decide_eq_true_eq, decide_eq_false_iff_not, not_false_eq_true, Nat.le_refl]
  | m + 1, k, σ, hk => by
    intro x y z u v t
    have hp7 := p7_le h7
    obtain ⟨σ', e, h1, h2, h3⟩ := m_c0_loop h7 d m (k + 1) (up σ 65 k (-1)) (by omega) x y z u v t
    refine ⟨σ', Eq.trans ?_ e, fun j g1 g2 => ?_, fun j g => ?_, fun a ha => ?_⟩
    · rw [hX7_can_22]
      simp (disch := omega) only [kX7_can_0, kX7_can_1, kX7_can_2, kX7_can_3, kX7_can_4, kX7_can_5, eq_self, Nat.reduceEqDiff, Nat.one_ne_zero, Nat.zero_ne_one, z_0, z_lt, z_le, z_eq, z_add, z_mul, z_inb, z_cl, z_b0, z_b1, z_b01, z_b010, z_b011, kb_v, kb_n, List.cons_append, List.nil_append, if_true, if_false, ↓reduceIte, Bool.false_eq_true, Bool.true_eq_false, decide_eq_true_eq, decide_eq_false_iff_not, not_false_eq_true]
      rw [if_neg (by omega)]
    · by_cases q : j = k
      · subst q; rw [h2 _ (by omega), up_s]
      · exact h1 j (by omega) g2
    · rw [h2 j (by omega), up_j (by omega)]
    · rw [h3 a ha, up_of ha]
noncomputable def cno (T : TT) : Nat := Classical.epsilon (fun R => ∀ i, Nat.testBit R i = true ↔ ∃ S k v, Rch T (T 1 + 0) S k v ∧ i < T 7 ∧ stb T S v i = true)
theorem cno_e {T : TT} {R : Nat} (h : ∀ i, R.testBit i = true ↔ ∃ S k v, Rch T (T 1 + 0) S k v ∧ i < T 7 ∧ stb T S v i = true) : R = cno T := by
  have hs := Classical.epsilon_spec (p := fun R => ∀ i, Nat.testBit R i = true ↔ ∃ S k v, Rch T (T 1 + 0) S k v ∧ i < T 7 ∧ stb T S v i = true) ⟨R, h⟩
  apply Nat.eq_of_testBit_eq
  intro i
  have h1 := h i
  have h2 : (cno T).testBit i = true ↔ _ := hs i
  rw [← h2] at h1
  cases q1 : R.testBit i <;> cases q2 : (cno T).testBit i <;> simp_all
theorem b_can : BO mX6_can mX7_can [] := by
  rintro ⟨T, I0, I1, A, rz, rl, it, tn, tp, ft, fs, cn, ct⟩ ok
  have w : WF T := ok.1
  have w1 := w.1
  rcases (show T 6 = 0 ∨ T 6 = 1 by omega) with h6 | h6
  · refine ⟨.int (-1000002), _, XO_id fun σ d h => ?_, MO_id fun σ d h => ?_, ok⟩
    · have hT := h.1
      rw [aX6_can_0]
      simp (disch := omega) only [kX6_can, eq_self, Nat.reduceEqDiff, Nat.one_ne_zero, Nat.zero_ne_one, z_0, z_lt, z_le, z_eq, z_add, z_mul, z_inb, z_cl, z_b0, z_b1, z_b01, z_b010, z_b011, kb_v, kb_n, List.cons_append, List.nil_append, if_true, if_false, ↓reduceIte, Bool.false_eq_true, Bool.true_eq_false, decide_eq_true_eq, decide_eq_false_iff_not, not_false_eq_true, XT8 hT, h6]
    · have hT := h.1
      rw [aX7_can_50]
      simp (disch := omega) only [kX7_can_0, kX7_can_1, kX7_can_2, kX7_can_3, kX7_can_4, kX7_can_5, eq_self, Nat.reduceEqDiff, Nat.one_ne_zero, Nat.zero_ne_one, z_0, z_lt, z_le, z_eq, z_add, z_mul, z_inb, z_cl, z_b0, z_b1, z_b01, z_b010, z_b011, kb_v, kb_n, List.cons_append, List.nil_append, if_true, if_false, ↓reduceIte, Bool.false_eq_true, Bool.true_eq_false, decide_eq_true_eq, decide_eq_false_iff_not, not_false_eq_true, m_isTrial hT w, h6]
  refine ⟨.int (nI (cno T)), _, XO_rk w (mo := 0) (by omega) fun σ d σ' R h h' e1 e2 e3 e4 => ?_, fun σ d h => ?_, ok⟩
  · have hT := h.1
    have hT' := h'.1
    have hc : ndn R (T 3) = cno T := cno_e (fun i => by
      rw [ndn_bit, can_eq w, Bool.and_eq_true, Bool.not_eq_true', e4 i])
    rw [aX6_can_0]
    simp (disch := omega) only [kX6_can, eq_self, Nat.reduceEqDiff, Nat.one_ne_zero, Nat.zero_ne_one, z_0, z_lt, z_le, z_eq, z_add, z_mul, z_inb, z_cl, z_b0, z_b1, z_b01, z_b010, z_b011, kb_v, kb_n, List.cons_append, List.nil_append, if_true, if_false, ↓reduceIte, Bool.false_eq_true, Bool.true_eq_false, decide_eq_true_eq, decide_eq_false_iff_not, not_false_eq_true, XT8 hT, h6, e1, e3, XT8 hT', z_nd, hc]
  · have hT := h.1
    have hp7 := p7_le (n := T 7) (by omega)
    have h3 := w.2.1.1
    obtain ⟨σ1, e1, a1, _, a3⟩ := m_c0_loop (T := T) (by omega) (d + 29) (2 ^ (T 7)) 0 σ (by omega) uu uu uu uu uu uu
    have hT1 : MT σ1 0 T := MT_same hT (a3 51 (by omega))
    have hP : PC (up σ1 65 (T 3) (nI (T 1))) T (C0 T (T 1 + 0)) := fun S hS => by
      unfold C0
      by_cases q : S = T 3
      · subst q; rw [up_s, if_pos rfl]; rfl
      · rw [up_j q, if_neg q, a1 S (by omega) hS]; rfl
    obtain ⟨σ2, C, R, e2, b1, b2⟩ := m_c1_loop w (d + 26) (KI T (T 1 + 0)) (fun S C R y q1 q2 q3 q4 => KI_1 w S C R y q1 q2 q3 q4) (fun S C R q1 q2 q3 => KI_2 w S C R q1 q2 q3) (2 ^ (T 7) - T 3) (T 3) (C0 T (T 1 + 0)) 0 (up σ1 65 (T 3) (nI (T 1))) (by omega) (fun S y hy => by unfold C0 at hy; split at hy <;> cases hy; omega) hP (by omega) (MT_same hT1 (up_of (by omega))) (KI_0 w _) uu uu uu uu uu
    have hc : R = cno T := cno_e (fun i => by
      rw [b1.2 i]
      constructor
      · rintro ⟨S, k, v, _, q⟩; exact ⟨S, k, v, q⟩
      · rintro ⟨S, k, v, q⟩; exact ⟨S, k, v, (Rch_NI w q.1).2.1, q⟩)
    have hall : ∀ a, a ≠ 65 → σ2 a = σ a := fun a ha => by rw [b2 a ha, up_of ha, a3 a ha]
    refine ⟨σ2, ?_, MR_st w ok.2.1 ok.2.2.1 fs h (fun j hj => by rw [hall 51 (by omega)]) (fun a ha => hall a (by omega)) (by rw [hall 50 (by omega)]) (by rw [hall 50 (by omega)]) (by rw [hall 50 (by omega)]) (by rw [hall 50 (by omega)]) (by rw [hall 50 (by omega)]; exact h.2.2.2.2.2.2.2.2.1), fun a ha => hall a (by omega)⟩
    · rw [aX7_can_50]
      simp (disch := omega) only [kX7_can_0, kX7_can_1, kX7_can_2, kX7_can_3, kX7_can_4, kX7_can_5, eq_self, Nat.reduceEqDiff, Nat.one_ne_zero, Nat.zero_ne_one, z_0, z_lt, z_le, z_eq, z_add, z_mul, z_inb, z_cl, z_b0, z_b1, z_b01, z_b010, z_b011, kb_v, kb_n, List.cons_append, List.nil_append, if_true, if_false, ↓reduceIte, Bool.false_eq_true, Bool.true_eq_false, decide_eq_true_eq, decide_eq_false_iff_not, not_false_eq_true, m_isTrial hT w, h6, MT0 hT, z_one]
      refine e1.trans ?_
      simp (disch := omega) only [kX7_can_0, kX7_can_1, kX7_can_2, kX7_can_3, kX7_can_4, kX7_can_5, eq_self, Nat.reduceEqDiff, Nat.one_ne_zero, Nat.zero_ne_one, z_0, z_lt, z_le, z_eq, z_add, z_mul, z_inb, z_cl, z_b0, z_b1, z_b01, z_b010, z_b011, kb_v, kb_n, List.cons_append, List.nil_append, if_true, if_false, ↓reduceIte, Bool.false_eq_true, Bool.true_eq_false, decide_eq_true_eq, decide_eq_false_iff_not, not_false_eq_true, MT0 hT1, up_s, up_k, up_j]
      rw [← hc]
      exact e2
