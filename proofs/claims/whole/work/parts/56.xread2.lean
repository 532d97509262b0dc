/-! the class reads a text, to its end -/
def WP (U : TT) : Prop := (U 0 ≤ 20 ∧ U 1 ≤ 60 ∧ U 2 ≤ 99 ∧ U 7 ≤ 7 ∧ U 8 ≤ 5) ∧ (U 3 = 0 ∧ U 4 = 0 ∧ U 5 = 0 ∧ U 6 = 0) ∧ (∀ p, p < U 7 → 1 ≤ U (9 + p) ∧ U (9 + p) ≤ 5 ∧ U (16 + p) ≤ 20 ∧ 1 ≤ U (23 + p) ∧ U (23 + p) ≤ 20 ∧ (U (30 + p) = 7 ∨ U (30 + p) < p)) ∧ (∀ e, e < U 8 → U (37 + e) ≤ 20 ∧ U (42 + e) ≤ 7 ∧ 1 ≤ U (47 + e) ∧ U (47 + e) ≤ 50)
theorem WP_P {U : TT} (h : WP U) (h7 : U 7 < 7) {kd v1 v2 v3 : Nat} (hk : 1 ≤ kd ∧ kd ≤ 5) (h1 : v1 ≤ 20) (h2 : 1 ≤ v2 ∧ v2 ≤ 20) (h3 : v3 = 7 ∨ v3 < U 7) (h8 : U 8 = 0) : WP (adP U kd v1 v2 v3) := by
  obtain ⟨a1, a2, a3, a4⟩ := h
  obtain ⟨p1, p2, p3, p4, p5⟩ := adP_1 U kd v1 v2 v3 h7
  have n8 : adP U kd v1 v2 v3 8 = 0 := by rw [adP_n (by omega) (by omega) (by omega) (by omega) (by omega)]; exact h8
  unfold WP
  rw [p5, n8]
  refine ⟨?_, ?_, fun p hp => ?_, fun e he => by omega⟩
  · simp (disch := omega) only [adP_n]; omega
  · simp (disch := omega) only [adP_n]; omega
  · by_cases z : p = U 7
    · subst z; rw [p1, p2, p3, p4]; omega
    · simp (disch := omega) only [adP_n]
      exact a3 p (by omega)
theorem WP_E {U : TT} (h : WP U) (h8 : U 8 < 5) {v1 v2 v3 : Nat} (h1 : v1 ≤ 20) (h2 : v2 ≤ 7) (h3 : 1 ≤ v3 ∧ v3 ≤ 50) : WP (adE U v1 v2 v3) := by
  obtain ⟨a1, a2, a3, a4⟩ := h
  obtain ⟨p1, p2, p3, p5⟩ := adE_1 U v1 v2 v3 h8
  have n7 : adE U v1 v2 v3 7 = U 7 := adE_n (by omega) (by omega) (by omega) (by omega)
  unfold WP
  rw [p5, n7]
  refine ⟨?_, ?_, fun p hp => ?_, fun e he => ?_⟩
  · simp (disch := omega) only [adE_n]; omega
  · simp (disch := omega) only [adE_n]; omega
  · simp (disch := omega) only [adE_n]
    exact a3 p hp
  · by_cases z : e = U 8
    · subst z; rw [p1, p2, p3]; omega
    · simp (disch := omega) only [adE_n]
      exact a4 e (by omega)
def kno (a : Int32) : Nat := if a = nI 106 then 1 else if a = nI 99 then 2 else if a = nI 104 then 3 else if a = nI 119 then 4 else if a = nI 98 then 5 else 0
theorem kno_le (a : Int32) : kno a ≤ 5 := by unfold kno; (repeat' split) <;> omega
theorem kno_x (d : Nat) (σ : Sg) (a : Int32) : cal (d + 1) mX4_kindOf [.int a] σ = some (some (.int (nI (kno a))), σ) := by
  rw [e_kindOf]
  unfold kno
  (repeat' split) <;> rfl
theorem kno_m (d : Nat) (σ : Sg) (a : Int32) : cal (d + 1) mX7_kindOf [.int a] σ = some (some (.int (nI (kno a))), σ) := by
  rw [m_kindOf]
  unfold kno
  (repeat' split) <;> rfl
abbrev o20 : Nat → Bool := fun v => decide (v ≤ 20)
abbrev oP2 : Nat → Bool := fun v => decide (1 ≤ v ∧ v ≤ 20)
abbrev oP3 (U : TT) : Nat → Bool := fun v => decide (v < U 7 ∨ v = 7)
abbrev oE2 : Nat → Bool := fun v => decide (v ≤ 7)
abbrev oE3 : Nat → Bool := fun v => decide (1 ≤ v ∧ v ≤ 50)
def pit (tn : Nat) (tp : TT) (U : TT) (a : Nat) : RR (TT × Nat) :=
  if kno (ltr tn tp a) ≠ 0 ∧ U 8 = 0 then (if U 7 < 7 then (match rd3 tn tp (a + 1) o20 oP2 (oP3 U) with
    | .inl e => .inl e
    | .inr (v1, v2, v3, a') => .inr (adP U (kno (ltr tn tp a)) v1 v2 v3, a')) else .inl (3, a))
  else if ltr tn tp a = nI 101 ∧ 0 < U 7 then (if U 8 < 5 then (match rd3 tn tp (a + 1) o20 oE2 oE3 with
    | .inl e => .inl e
    | .inr (v1, v2, v3, a') => .inr (adE U v1 v2 v3, a')) else .inl (3, a))
  else .inl (1, a)
def XOne (d tn : Nat) (σ σ' : Sg) (a : Nat) (m : MD) (as : List Value) (r : RR (TT × Nat)) : Prop := (∀ c, c ≠ 6 → c < 35 ∨ 43 < c → σ' c = σ c) ∧ σ' 6 1 = σ 6 1 ∧ ((∃ f pl, cal d m as σ = some (some (.int (nI 0)), σ') ∧ r = .inl (f, pl) ∧ σ' 6 3 = nI f ∧ σ' 6 4 = nI pl ∧ (1 ≤ f ∧ f ≤ 3) ∧ pl ≤ 300) ∨ (∃ U' a', cal d m as σ = some (some (.int (nI 1)), σ') ∧ r = .inr (U', a') ∧ XT σ' 35 U' ∧ WP U' ∧ σ' 6 2 = nI a' ∧ a < a' ∧ a' ≤ tn))
theorem x_part {σ : Sg} {tn : Nat} {tp U : TT} (h : XT σ 35 U) (w : WP U) (hx : XP σ tn tp) (d : Nat) {a kd : Nat} (ha : a ≤ tn) (htn : tn ≤ 120) (ht : ∀ j, j < tn → tp j < 256) (h2 : σ 6 2 = nI a) (h7 : U 7 < 7) (h8 : U 8 = 0) (hk : 1 ≤ kd ∧ kd ≤ 5) : ∃ σ', XOne (d + 5) tn σ σ' a mX4_readPart [.ref 6, .ref 35, .int (nI kd)] (match rd3 tn tp (a + 1) o20 oP2 (oP3 U) with
    | .inl e => .inl e
    | .inr (v1, v2, v3, a') => .inr (adP U kd v1 v2 v3, a')) := by
  have hx1 : XP (up σ 6 2 (nI (a + 1))) tn tp := XP_6 hx (by omega) _
  obtain ⟨σ1, f1, f2, f3⟩ := x_th hx1 d (a := a + 1) (nI 1) (nI 20) (nI 0) (nI (U 7) - nI 1) (nI 7) oP2 (oP3 U) (by omega) htn ht up_s (fun v hv => by
    rw [decide_eq_true_iff, z_lt (by omega) (by omega), z_lt (by omega) (by omega), show (nI v = -1) ↔ False from enc_n (by omega)]
    constructor
    · intro q; left; omega
    · rintro (q | q)
      · omega
      · exact q.elim) (fun v hv => by
    rw [decide_eq_true_iff, z_lt (by omega) (by omega), lt_I, sub1_tI (by omega), z_tI (by omega), z_eq (by omega) (by omega)]
    omega)
  have hT1 : ∀ c, 35 ≤ c → c ≤ 43 → σ1 c = σ c := fun c h1 h2 => by rw [f1 c (by omega), up_of (by omega)]
  rcases f3 with ⟨f, pl, c1, c2, c3, c4, c5, c6⟩ | ⟨v1, v2, v3, a', c1, c2, ⟨c3, c4, c5, c6⟩, ⟨b1, b2, b3, b4, b5⟩, b6, b7⟩
  · refine ⟨σ1, fun c h1 _ => by rw [f1 c h1, up_of h1], by rw [f2, up_j (by omega)], Or.inl ⟨f, pl, ?_, by rw [c2], c3, c4, c5, c6⟩⟩
    rw [aX4_readPart_6_35]
    simp (disch := omega) only [kX4_readPart, eq_self, Nat.reduceEqDiff, Nat.one_ne_zero, Nat.zero_ne_one, z_0, z_lt, z_le, z_eq, z_add, z_mul, z_inb, z_cl, z_b0, z_b1, z_b01, z_b010, z_b011, kb_v, kb_n, List.cons_append, List.nil_append, if_true, if_false, ↓reduceIte, Bool.false_eq_true, Bool.true_eq_false, decide_eq_true_eq, decide_eq_false_iff_not, not_false_eq_true, up_s, up_k, up_j, h2, XT35 h, c1]
  · have hT : XT σ1 35 U := XT_cg h (fun c h1 h2 => hT1 c (by omega) (by omega))
    obtain ⟨σ2, e1, e2, e3⟩ := x_adP hT (d + 3) h7 h8 kd v1 v2 v3
    have e1 : cal (d + 4) mX5_addPart [.ref 35, .int (nI kd), .int (nI v1), .int (nI v2), .int (nI v3)] σ1 = _ := e1
    have b2 := of_decide_eq_true b2
    have b3 := of_decide_eq_true b3
    refine ⟨σ2, fun c h1 h2 => by rw [e3 c (by omega), f1 c h1, up_of h1], by rw [e3 6 (by omega), f2, up_j (by omega)], Or.inr ⟨_, a', ?_, by rw [c2], e2, WP_P w h7 hk b1 b2 (by omega) h8, by rw [e3 6 (by omega)]; exact c6, by omega, b7⟩⟩
    rw [aX4_readPart_6_35]
    simp (disch := omega) only [kX4_readPart, eq_self, Nat.reduceEqDiff, Nat.one_ne_zero, Nat.zero_ne_one, z_0, z_lt, z_le, z_eq, z_add, z_mul, z_inb, z_cl, z_b0, z_b1, z_b01, z_b010, z_b011, kb_v, kb_n, List.cons_append, List.nil_append, if_true, if_false, ↓reduceIte, Bool.false_eq_true, Bool.true_eq_false, decide_eq_true_eq, decide_eq_false_iff_not, not_false_eq_true, up_s, up_k, up_j, h2, XT35 h, c1, c3, c4, c5, e1]
theorem x_elder {σ : Sg} {tn : Nat} {tp U : TT} (h : XT σ 35 U) (w : WP U) (hx : XP σ tn tp) (d : Nat) {a : Nat} (ha : a ≤ tn) (htn : tn ≤ 120) (ht : ∀ j, j < tn → tp j < 256) (h2 : σ 6 2 = nI a) (h8 : U 8 < 5) : ∃ σ', XOne (d + 5) tn σ σ' a mX4_readElder [.ref 6, .ref 35] (match rd3 tn tp (a + 1) o20 oE2 oE3 with
    | .inl e => .inl e
    | .inr (v1, v2, v3, a') => .inr (adE U v1 v2 v3, a')) := by
  have hx1 : XP (up σ 6 2 (nI (a + 1))) tn tp := XP_6 hx (by omega) _
  have w1 := w.1
  obtain ⟨σ1, f1, f2, f3⟩ := x_th hx1 d (a := a + 1) (nI 0) (nI 7) (nI 1) (nI 50) (-1) oE2 oE3 (by omega) htn ht up_s (fun v hv => by
    rw [decide_eq_true_iff, z_lt (by omega) (by omega), z_lt (by omega) (by omega), show (nI v = -1) ↔ False from enc_n (by omega)]
    constructor
    · intro q; left; omega
    · rintro (q | q)
      · omega
      · exact q.elim) (fun v hv => by
    rw [decide_eq_true_iff, z_lt (by omega) (by omega), z_lt (by omega) (by omega), show (nI v = -1) ↔ False from enc_n (by omega)]
    constructor
    · intro q; left; omega
    · rintro (q | q)
      · omega
      · exact q.elim)
  have hT1 : ∀ c, 35 ≤ c → c ≤ 43 → σ1 c = σ c := fun c h1 h2 => by rw [f1 c (by omega), up_of (by omega)]
  rcases f3 with ⟨f, pl, c1, c2, c3, c4, c5, c6⟩ | ⟨v1, v2, v3, a', c1, c2, ⟨c3, c4, c5, c6⟩, ⟨b1, b2, b3, b4, b5⟩, b6, b7⟩
  · refine ⟨σ1, fun c h1 _ => by rw [f1 c h1, up_of h1], by rw [f2, up_j (by omega)], Or.inl ⟨f, pl, ?_, by rw [c2], c3, c4, c5, c6⟩⟩
    rw [aX4_readElder_6_35]
    simp (disch := omega) only [kX4_readElder, eq_self, Nat.reduceEqDiff, Nat.one_ne_zero, Nat.zero_ne_one, z_0, z_lt, z_le, z_eq, z_add, z_mul, z_inb, z_cl, z_b0, z_b1, z_b01, z_b010, z_b011, kb_v, kb_n, List.cons_append, List.nil_append, if_true, if_false, ↓reduceIte, Bool.false_eq_true, Bool.true_eq_false, decide_eq_true_eq, decide_eq_false_iff_not, not_false_eq_true, up_s, up_k, up_j, h2, c1]
  · have hT : XT σ1 35 U := XT_cg h (fun c h1 h2 => hT1 c (by omega) (by omega))
    obtain ⟨σ2, e1, e2, e3⟩ := x_adE hT (d + 2) (by omega) h8 (fun p hp => by have := w.2.2.1 p hp; omega) (show v1 < 100 by omega) v2 v3
    have e1 : cal (d + 4) mX5_addElder [.ref 35, .int (nI v1), .int (nI v2), .int (nI v3)] σ1 = _ := e1
    have b2 := of_decide_eq_true b2
    have b3 := of_decide_eq_true b3
    refine ⟨σ2, fun c h1 h2 => by rw [e3 c (by omega), f1 c h1, up_of h1], by rw [e3 6 (by omega), f2, up_j (by omega)], Or.inr ⟨_, a', ?_, by rw [c2], e2, WP_E w h8 b1 b2 b3, by rw [e3 6 (by omega)]; exact c6, by omega, b7⟩⟩
    rw [aX4_readElder_6_35]
    simp (disch := omega) only [kX4_readElder, eq_self, Nat.reduceEqDiff, Nat.one_ne_zero, Nat.zero_ne_one, z_0, z_lt, z_le, z_eq, z_add, z_mul, z_inb, z_cl, z_b0, z_b1, z_b01, z_b010, z_b011, kb_v, kb_n, List.cons_append, List.nil_append, if_true, if_false, ↓reduceIte, Bool.false_eq_true, Bool.true_eq_false, decide_eq_true_eq, decide_eq_false_iff_not, not_false_eq_true, up_s, up_k, up_j, h2, c1, c3, c4, c5, e1]
theorem x_one {σ : Sg} {tn : Nat} {tp U : TT} (h : XT σ 35 U) (w : WP U) (hx : XP σ tn tp) (d : Nat) {a : Nat} (ha : a ≤ tn) (htn : tn ≤ 120) (ht : ∀ j, j < tn → tp j < 256) (h2 : σ 6 2 = nI a) : ∃ σ', XOne (d + 6) tn σ σ' a mX4_readOne [.ref 6, .ref 35] (pit tn tp U a) := by
  have w1 := w.1
  have hkl := kno_le (ltr tn tp a)
  unfold pit
  have hfl : ∀ f : Nat, 1 ≤ f → f ≤ 3 → cal (d + 5) mX4_fail [.ref 6, .int (nI f)] σ = some (some (.int (nI 0)), up (up σ 6 3 (nI f)) 6 4 (nI a)) := fun f _ _ => x_fail (d + 4) _ h2
  have bad : ∀ f : Nat, 1 ≤ f → f ≤ 3 → cal (d + 6) mX4_readOne [.ref 6, .ref 35] σ = some (some (.int (nI 0)), up (up σ 6 3 (nI f)) 6 4 (nI a)) → XOne (d + 6) tn σ (up (up σ 6 3 (nI f)) 6 4 (nI a)) a mX4_readOne [.ref 6, .ref 35] (.inl (f, a)) := fun f h1 h3 e => ⟨fun c hc _ => by rw [up_of hc, up_of hc], by simp (disch := omega) only [up_s, up_k, up_j], Or.inl ⟨f, a, e, rfl, by simp (disch := omega) only [up_s, up_k, up_j], by simp (disch := omega) only [up_s, up_k, up_j], ⟨h1, h3⟩, by omega⟩⟩
  by_cases q : kno (ltr tn tp a) ≠ 0 ∧ U 8 = 0
  · rw [if_pos q]
    have qk := eq_false q.1
    by_cases q7 : U 7 < 7
    · rw [if_pos q7]
      obtain ⟨σ', g1, g2, g3⟩ := x_part h w hx d (kd := kno (ltr tn tp a)) ha htn ht h2 q7 q.2 ⟨by omega, by omega⟩
      refine ⟨σ', g1, g2, ?_⟩
      rcases g3 with ⟨f, pl, c1, c2⟩ | ⟨U', a', c1, c2⟩
      · refine Or.inl ⟨f, pl, ?_, c2⟩
        rw [aX4_readOne_6_35]
        simp (disch := omega) only [kX4_readOne_0, kX4_readOne_1, eq_self, Nat.reduceEqDiff, Nat.one_ne_zero, Nat.zero_ne_one, z_0, z_lt, z_le, z_eq, z_add, z_mul, z_inb, z_cl, z_b0, z_b1, z_b01, z_b010, z_b011, kb_v, kb_n, List.cons_append, List.nil_append, if_true, if_false, ↓reduceIte, Bool.false_eq_true, Bool.true_eq_false, decide_eq_true_eq, decide_eq_false_iff_not, not_false_eq_true, h2, x_let hx, kno_x, qk, XT35 h, q.2, c1]
        rw [if_neg (by omega)]
      · refine Or.inr ⟨U', a', ?_, c2⟩
        rw [aX4_readOne_6_35]
        simp (disch := omega) only [kX4_readOne_0, kX4_readOne_1, eq_self, Nat.reduceEqDiff, Nat.one_ne_zero, Nat.zero_ne_one, z_0, z_lt, z_le, z_eq, z_add, z_mul, z_inb, z_cl, z_b0, z_b1, z_b01, z_b010, z_b011, kb_v, kb_n, List.cons_append, List.nil_append, if_true, if_false, ↓reduceIte, Bool.false_eq_true, Bool.true_eq_false, decide_eq_true_eq, decide_eq_false_iff_not, not_false_eq_true, h2, x_let hx, kno_x, qk, XT35 h, q.2, c1]
        rw [if_neg (by omega)]
    · rw [if_neg q7]
      refine ⟨_, bad 3 (by omega) (by omega) ?_⟩
      rw [aX4_readOne_6_35]
      simp (disch := omega) only [kX4_readOne_0, kX4_readOne_1, eq_self, Nat.reduceEqDiff, Nat.one_ne_zero, Nat.zero_ne_one, z_0, z_lt, z_le, z_eq, z_add, z_mul, z_inb, z_cl, z_b0, z_b1, z_b01, z_b010, z_b011, kb_v, kb_n, List.cons_append, List.nil_append, if_true, if_false, ↓reduceIte, Bool.false_eq_true, Bool.true_eq_false, decide_eq_true_eq, decide_eq_false_iff_not, not_false_eq_true, h2, x_let hx, kno_x, qk, XT35 h, q.2, hfl]
      rw [if_pos (by omega)]
  · rw [if_neg q]
    have pre : ∀ R : Oc, exec (d + 5) mX4_readOne 49 [.ref 6, .ref 35, .int (ltr tn tp a), .int (nI (kno (ltr tn tp a)))] [] σ = R → cal (d + 6) mX4_readOne [.ref 6, .ref 35] σ = R := fun R hR => by
      rw [← hR, aX4_readOne_6_35]
      by_cases z : kno (ltr tn tp a) = 0
      · simp (disch := omega) only [kX4_readOne_0, kX4_readOne_1, eq_self, Nat.reduceEqDiff, Nat.one_ne_zero, Nat.zero_ne_one, z_0, z_lt, z_le, z_eq, z_add, z_mul, z_inb, z_cl, z_b0, z_b1, z_b01, z_b010, z_b011, kb_v, kb_n, List.cons_append, List.nil_append, if_true, if_false, ↓reduceIte, Bool.false_eq_true, Bool.true_eq_false, decide_eq_true_eq, decide_eq_false_iff_not, not_false_eq_true, h2, x_let hx, kno_x, z, XT35 h]
      · have z8 : ¬ (U 8 = 0) := fun y => q ⟨z, y⟩
        simp (disch := omega) only [kX4_readOne_0, kX4_readOne_1, eq_self, Nat.reduceEqDiff, Nat.one_ne_zero, Nat.zero_ne_one, z_0, z_lt, z_le, z_eq, z_add, z_mul, z_inb, z_cl, z_b0, z_b1, z_b01, z_b010, z_b011, kb_v, kb_n, List.cons_append, List.nil_append, if_true, if_false, ↓reduceIte, Bool.false_eq_true, Bool.true_eq_false, decide_eq_true_eq, decide_eq_false_iff_not, not_false_eq_true, h2, x_let hx, kno_x, z, z8, XT35 h]
    by_cases q2 : ltr tn tp a = nI 101 ∧ 0 < U 7
    · rw [if_pos q2]
      have l1 := q2.1
      by_cases q8 : U 8 < 5
      · rw [if_pos q8]
        obtain ⟨σ', g1, g2, g3⟩ := x_elder h w hx d ha htn ht h2 q8
        refine ⟨σ', g1, g2, ?_⟩
        rcases g3 with ⟨f, pl, c1, c2⟩ | ⟨U', a', c1, c2⟩
        · refine Or.inl ⟨f, pl, pre _ ?_, c2⟩
          simp (disch := omega) only [kX4_readOne_0, kX4_readOne_1, eq_self, Nat.reduceEqDiff, Nat.one_ne_zero, Nat.zero_ne_one, z_0, z_lt, z_le, z_eq, z_add, z_mul, z_inb, z_cl, z_b0, z_b1, z_b01, z_b010, z_b011, kb_v, kb_n, List.cons_append, List.nil_append, if_true, if_false, ↓reduceIte, Bool.false_eq_true, Bool.true_eq_false, decide_eq_true_eq, decide_eq_false_iff_not, not_false_eq_true, l1, XT35 h, c1]
          rw [if_neg (by omega), if_neg (by omega)]
        · refine Or.inr ⟨U', a', pre _ ?_, c2⟩
          simp (disch := omega) only [kX4_readOne_0, kX4_readOne_1, eq_self, Nat.reduceEqDiff, Nat.one_ne_zero, Nat.zero_ne_one, z_0, z_lt, z_le, z_eq, z_add, z_mul, z_inb, z_cl, z_b0, z_b1, z_b01, z_b010, z_b011, kb_v, kb_n, List.cons_append, List.nil_append, if_true, if_false, ↓reduceIte, Bool.false_eq_true, Bool.true_eq_false, decide_eq_true_eq, decide_eq_false_iff_not, not_false_eq_true, l1, XT35 h, c1]
          rw [if_neg (by omega), if_neg (by omega)]
      · rw [if_neg q8]
        refine ⟨_, bad 3 (by omega) (by omega) (pre _ ?_)⟩
        simp (disch := omega) only [kX4_readOne_0, kX4_readOne_1, eq_self, Nat.reduceEqDiff, Nat.one_ne_zero, Nat.zero_ne_one, z_0, z_lt, z_le, z_eq, z_add, z_mul, z_inb, z_cl, z_b0, z_b1, z_b01, z_b010, z_b011, kb_v, kb_n, List.cons_append, List.nil_append, if_true, if_false, ↓reduceIte, Bool.false_eq_true, Bool.true_eq_false, decide_eq_true_eq, decide_eq_false_iff_not, not_false_eq_true, l1, XT35 h, hfl]
        rw [if_neg (by omega), if_pos (by omega)]
    · rw [if_neg q2]
      refine ⟨_, bad 1 (by omega) (by omega) (pre _ ?_)⟩
      by_cases l1 : ltr tn tp a = nI 101
      · have z7 : U 7 ≤ 0 := by
          by_cases y : 0 < U 7
          · exact absurd ⟨l1, y⟩ q2
          · omega
        simp (disch := omega) only [kX4_readOne_0, kX4_readOne_1, eq_self, Nat.reduceEqDiff, Nat.one_ne_zero, Nat.zero_ne_one, z_0, z_lt, z_le, z_eq, z_add, z_mul, z_inb, z_cl, z_b0, z_b1, z_b01, z_b010, z_b011, kb_v, kb_n, List.cons_append, List.nil_append, if_true, if_false, ↓reduceIte, Bool.false_eq_true, Bool.true_eq_false, decide_eq_true_eq, decide_eq_false_iff_not, not_false_eq_true, l1, XT35 h, hfl, z7]
      · simp (disch := omega) only [kX4_readOne_0, kX4_readOne_1, eq_self, Nat.reduceEqDiff, Nat.one_ne_zero, Nat.zero_ne_one, z_0, z_lt, z_le, z_eq, z_add, z_mul, z_inb, z_cl, z_b0, z_b1, z_b01, z_b010, z_b011, kb_v, kb_n, List.cons_append, List.nil_append, if_true, if_false, ↓reduceIte, Bool.false_eq_true, Bool.true_eq_false, decide_eq_true_eq, decide_eq_false_iff_not, not_false_eq_true, l1, XT35 h, hfl]
