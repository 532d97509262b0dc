/-! the class reads a text -/
def adP (U : TT) (kd v1 v2 v3 : Nat) : TT := fun k => if k = 9 + U 7 then kd else if k = 16 + U 7 then v1 else if k = 23 + U 7 then v2 else if k = 30 + U 7 then v3 else if k = 7 then U 7 + 1 else U k
def adE (U : TT) (v1 v2 v3 : Nat) : TT := fun k => if k = 37 + U 8 then v1 else if k = 42 + U 8 then v2 else if k = 47 + U 8 then v3 else if k = 8 then U 8 + 1 else U k
theorem adP_n {U : TT} {kd v1 v2 v3 k : Nat} (h1 : k ≠ 9 + U 7) (h2 : k ≠ 16 + U 7) (h3 : k ≠ 23 + U 7) (h4 : k ≠ 30 + U 7) (h5 : k ≠ 7) : adP U kd v1 v2 v3 k = U k := by
  unfold adP
  rw [if_neg h1, if_neg h2, if_neg h3, if_neg h4, if_neg h5]
theorem adE_n {U : TT} {v1 v2 v3 k : Nat} (h1 : k ≠ 37 + U 8) (h2 : k ≠ 42 + U 8) (h3 : k ≠ 47 + U 8) (h5 : k ≠ 8) : adE U v1 v2 v3 k = U k := by
  unfold adE
  rw [if_neg h1, if_neg h2, if_neg h3, if_neg h5]
theorem adP_1 (U : TT) (kd v1 v2 v3 : Nat) (h : U 7 < 7) : adP U kd v1 v2 v3 (9 + U 7) = kd ∧ adP U kd v1 v2 v3 (16 + U 7) = v1 ∧ adP U kd v1 v2 v3 (23 + U 7) = v2 ∧ adP U kd v1 v2 v3 (30 + U 7) = v3 ∧ adP U kd v1 v2 v3 7 = U 7 + 1 := by
  unfold adP
  refine ⟨by rw [if_pos rfl], ?_, ?_, ?_, ?_⟩
  · rw [if_neg (by omega), if_pos rfl]
  · rw [if_neg (by omega), if_neg (by omega), if_pos rfl]
  · rw [if_neg (by omega), if_neg (by omega), if_neg (by omega), if_pos rfl]
  · rw [if_neg (by omega), if_neg (by omega), if_neg (by omega), if_neg (by omega), if_pos rfl]
theorem adE_1 (U : TT) (v1 v2 v3 : Nat) (h : U 8 < 5) : adE U v1 v2 v3 (37 + U 8) = v1 ∧ adE U v1 v2 v3 (42 + U 8) = v2 ∧ adE U v1 v2 v3 (47 + U 8) = v3 ∧ adE U v1 v2 v3 8 = U 8 + 1 := by
  unfold adE
  refine ⟨by rw [if_pos rfl], ?_, ?_, ?_⟩
  · rw [if_neg (by omega), if_pos rfl]
  · rw [if_neg (by omega), if_neg (by omega), if_pos rfl]
  · rw [if_neg (by omega), if_neg (by omega), if_neg (by omega), if_pos rfl]
theorem x_adP {σ : Sg} {U : TT} (h : XT σ 35 U) (d : Nat) (h7 : U 7 < 7) (h8 : U 8 = 0) (kd v1 v2 v3 : Nat) : ∃ σ', cal (d + 1) mX5_addPart [.ref 35, .int (nI kd), .int (nI v1), .int (nI v2), .int (nI v3)] σ = some (none, σ') ∧ XT σ' 35 (adP U kd v1 v2 v3) ∧ ∀ a, a < 35 ∨ 43 < a → σ' a = σ a := by
  obtain ⟨g0, g1, g2, g3, g4, g5, g6, g7, g8, q1, q2, q3, q4, q5, q6, q7, q8⟩ := XT35 h
  obtain ⟨p1, p2, p3, p4, p5⟩ := adP_1 U kd v1 v2 v3 h7
  have n8 : adP U kd v1 v2 v3 8 = 0 := by rw [adP_n (by omega) (by omega) (by omega) (by omega) (by omega)]; exact h8
  refine ⟨up (up (up (up (up σ 36 (U 7) (nI kd)) 37 (U 7) (nI v1)) 38 (U 7) (nI v2)) 39 (U 7) (nI v3)) 35 4 (nI (U 7 + 1)), ?_, ?_, fun a ha => by simp (disch := omega) only [up_of]⟩
  · rw [aX5_addPart_35]
    simp (disch := omega) only [kX5_addPart, eq_self, Nat.reduceEqDiff, Nat.one_ne_zero, Nat.zero_ne_one, z_0, z_lt, z_le, z_eq, z_add, z_mul, z_inb, z_cl, z_b0, z_b1, z_b01, z_b010, z_b011, kb_v, kb_n, List.cons_append, List.nil_append, if_true, if_false, ↓reduceIte, Bool.false_eq_true, Bool.true_eq_false, decide_eq_true_eq, decide_eq_false_iff_not, not_false_eq_true, up_s, up_k, up_j, g4]
  · unfold XT
    rw [p5, n8]
    refine ⟨?_, ?_, ?_, ?_, ?_, ?_, ?_, ?_, ?_, fun p hp => ?_, fun p hp => ?_, fun p hp => ?_, fun p hp => ?_, fun e he => by omega, fun e he => by omega, fun e he => by omega, fun e he => by omega⟩
    all_goals simp (disch := omega) only [up_s, up_k, up_j, adP_n]
    · exact g0
    · exact g1
    · exact g2
    · exact g3
    · rw [g5, h8]
    · exact g6
    · exact g7
    · exact g8
    · by_cases z : p = U 7
      · subst z; rw [up_s, p1]
      · simp (disch := omega) only [up_s, up_k, up_j, adP_n]; exact q1 p (by omega)
    · by_cases z : p = U 7
      · subst z; rw [up_s, p2]
      · simp (disch := omega) only [up_s, up_k, up_j, adP_n]; exact q2 p (by omega)
    · by_cases z : p = U 7
      · subst z; rw [up_s, p3]
      · simp (disch := omega) only [up_s, up_k, up_j, adP_n]; exact q3 p (by omega)
    · by_cases z : p = U 7
      · subst z; rw [up_s, p4]
      · simp (disch := omega) only [up_s, up_k, up_j, adP_n]; exact q4 p (by omega)
theorem x_sg_loop {U : TT} (d : Nat) (h7 : U 7 ≤ 7) (h8 : U 8 < 5) (hk : ∀ p, p < U 7 → U (9 + p) < 10 ∧ U (16 + p) < 100) {v1 : Nat} (hv : v1 < 100) (v2 v3 : Int32) : ∀ m k (σ : Sg), k + m = U 7 → σ 35 4 = nI (U 7) → σ 35 5 = nI (U 8) → (∀ p, p < U 7 → σ 36 p = nI (U (9 + p)) ∧ σ 37 p = nI (U (16 + p))) → σ 43 (U 8) = nI (bse (fun p => see (U (9 + p)) (U (16 + p)) v1) k) → ∃ σ', exec (d + 1) mX5_addElder 43 [.ref 35, .int (nI v1), .int v2, .int v3, .int (nI k)] [] σ = some (none, σ') ∧ σ' 43 (U 8) = nI (bse (fun p => see (U (9 + p)) (U (16 + p)) v1) (U 7)) ∧ σ' 35 5 = nI (U 8 + 1) ∧ (∀ j, j ≠ U 8 → σ' 43 j = σ 43 j) ∧ (∀ j, j ≠ 5 → σ' 35 j = σ 35 j) ∧ ∀ a, a ≠ 35 → a ≠ 43 → σ' a = σ a
  | 0, k, σ, hm, h4, h5, hp, h43 => by
    obtain rfl : k = U 7 := by omega
    refine ⟨up σ 35 5 (nI (U 8 + 1)), ?_, by rw [up_k (by omega)]; exact h43, up_s, fun j hj => up_k (by omega), fun j hj => up_j hj, fun a h1 h2 => up_of h1⟩
    rw [hX5_addElder_43]
    simp (disch := omega) only [kX5_addElder_0, kX5_addElder_1, eq_self, Nat.reduceEqDiff, Nat.one_ne_zero, Nat.zero_ne_one, z_0, z_lt, z_le, z_eq, z_add, z_mul, z_inb, z_cl, z_b0, z_b1, z_b01, z_b010, z_b011, kb_v, kb_n, List.cons_append, List.nil_append, if_true, if_false, ↓reduceIte, Bool.false_eq_true, Bool.true_eq_false, decide_eq_true_eq, decide_eq_false_iff_not, not_false_eq_true, h4, h5, Nat.le_refl]
  | m + 1, k, σ, hm, h4, h5, hp, h43 => by
    obtain ⟨e1, e2⟩ := hp k (by omega)
    obtain ⟨b1, b2⟩ := hk k (by omega)
    have hpw := pw_le (p := k) (by omega)
    have hbs : bse (fun p => see (U (9 + p)) (U (16 + p)) v1) (k + 1) = bse (fun p => see (U (9 + p)) (U (16 + p)) v1) k ||| (if see (U (9 + k)) (U (16 + k)) v1 = true then 2 ^ k else 0) := rfl
    cases q : see (U (9 + k)) (U (16 + k)) v1
    · rw [q, if_neg (by simp), Nat.or_zero] at hbs
      obtain ⟨σ', g⟩ := x_sg_loop d h7 h8 hk hv v2 v3 m (k + 1) σ (by omega) h4 h5 hp (by rw [hbs]; exact h43)
      refine ⟨σ', ?_, g.2⟩
      rw [hX5_addElder_43]
      simp (disch := omega) only [kX5_addElder_0, kX5_addElder_1, eq_self, Nat.reduceEqDiff, Nat.one_ne_zero, Nat.zero_ne_one, z_0, z_lt, z_le, z_eq, z_add, z_mul, z_inb, z_cl, z_b0, z_b1, z_b01, z_b010, z_b011, kb_v, kb_n, List.cons_append, List.nil_append, if_true, if_false, ↓reduceIte, Bool.false_eq_true, Bool.true_eq_false, decide_eq_true_eq, decide_eq_false_iff_not, not_false_eq_true, h4, h5, e1, e2, e_seen, q]
      rw [if_neg (by omega)]
      exact g.1
    · rw [q, if_pos rfl] at hbs
      obtain ⟨σ', g1, g2, g3, g4, g5, g6⟩ := x_sg_loop d h7 h8 hk hv v2 v3 m (k + 1) (up σ 43 (U 8) (nI (bse (fun p => see (U (9 + p)) (U (16 + p)) v1) (k + 1)))) (by omega) (by rw [up_k (by omega)]; exact h4) (by rw [up_k (by omega)]; exact h5) (fun p hp' => by rw [up_k (by omega), up_k (by omega)]; exact hp p hp') up_s
      refine ⟨σ', ?_, g2, g3, fun j hj => by rw [g4 j hj, up_j hj], fun j hj => by rw [g5 j hj, up_k (by omega)], fun a h1 h2 => by rw [g6 a h1 h2, up_of h2]⟩
      rw [hbs] at g1
      rw [hX5_addElder_43]
      simp (disch := omega) only [kX5_addElder_0, kX5_addElder_1, eq_self, Nat.reduceEqDiff, Nat.one_ne_zero, Nat.zero_ne_one, z_0, z_lt, z_le, z_eq, z_add, z_mul, z_inb, z_cl, z_b0, z_b1, z_b01, z_b010, z_b011, kb_v, kb_n, List.cons_append, List.nil_append, if_true, if_false, ↓reduceIte, Bool.false_eq_true, Bool.true_eq_false, decide_eq_true_eq, decide_eq_false_iff_not, not_false_eq_true, h4, h5, e1, e2, e_seen, q, h43, z_one, z_or]
      rw [if_neg (by omega)]
      exact g1
theorem x_adE {σ : Sg} {U : TT} (h : XT σ 35 U) (d : Nat) (h7 : U 7 ≤ 7) (h8 : U 8 < 5) (hk : ∀ p, p < U 7 → U (9 + p) < 10 ∧ U (16 + p) < 100) {v1 : Nat} (hv : v1 < 100) (v2 v3 : Nat) : ∃ σ', cal (d + 2) mX5_addElder [.ref 35, .int (nI v1), .int (nI v2), .int (nI v3)] σ = some (none, σ') ∧ XT σ' 35 (adE U v1 v2 v3) ∧ ∀ a, a < 35 ∨ 43 < a → σ' a = σ a := by
  obtain ⟨g0, g1, g2, g3, g4, g5, g6, g7, g8, q1, q2, q3, q4, q5, q6, q7, q8⟩ := XT35 h
  obtain ⟨p1, p2, p3, p5⟩ := adE_1 U v1 v2 v3 h8
  have n7 : adE U v1 v2 v3 7 = U 7 := adE_n (by omega) (by omega) (by omega) (by omega)
  obtain ⟨σ', a1, a2, a3, a4, a5, a6⟩ := x_sg_loop (U := U) d h7 h8 hk hv (nI v2) (nI v3) (U 7) 0 (up (up (up (up σ 40 (U 8) (nI v1)) 41 (U 8) (nI v2)) 42 (U 8) (nI v3)) 43 (U 8) (nI 0)) (by omega) (by simp (disch := omega) only [up_s, up_k, up_j]; exact g4) (by simp (disch := omega) only [up_s, up_k, up_j]; exact g5) (fun p hp => ⟨by simp (disch := omega) only [up_s, up_k, up_j]; exact q1 p hp, by simp (disch := omega) only [up_s, up_k, up_j]; exact q2 p hp⟩) (by rw [up_s]; rfl)
  have hsig : ∀ e, e ≤ U 8 → sig (adE U v1 v2 v3) e = bse (fun p => see (U (9 + p)) (U (16 + p)) (adE U v1 v2 v3 (37 + e))) (U 7) := fun e he => by
    unfold sig
    rw [n7]
    exact bse_cg _ (fun i hi => by rw [adE_n (k := 9 + i) (by omega) (by omega) (by omega) (by omega), adE_n (k := 16 + i) (by omega) (by omega) (by omega) (by omega)])
  refine ⟨σ', ?_, ?_, fun a ha => by rw [a6 a (by omega) (by omega)]; simp (disch := omega) only [up_of]⟩
  · rw [aX5_addElder_35]
    simp (disch := omega) only [kX5_addElder_0, kX5_addElder_1, eq_self, Nat.reduceEqDiff, Nat.one_ne_zero, Nat.zero_ne_one, z_0, z_lt, z_le, z_eq, z_add, z_mul, z_inb, z_cl, z_b0, z_b1, z_b01, z_b010, z_b011, kb_v, kb_n, List.cons_append, List.nil_append, if_true, if_false, ↓reduceIte, Bool.false_eq_true, Bool.true_eq_false, decide_eq_true_eq, decide_eq_false_iff_not, not_false_eq_true, up_s, up_k, up_j, g5]
    exact a1
  · unfold XT
    rw [p5, n7]
    refine ⟨?_, ?_, ?_, ?_, ?_, a3, ?_, ?_, ?_, fun p hp => ?_, fun p hp => ?_, fun p hp => ?_, fun p hp => ?_, fun e he => ?_, fun e he => ?_, fun e he => ?_, fun e he => ?_⟩
    · rw [a5 _ (by omega)]; simp (disch := omega) only [up_s, up_k, up_j, adE_n]; exact g0
    · rw [a5 _ (by omega)]; simp (disch := omega) only [up_s, up_k, up_j, adE_n]; exact g1
    · rw [a5 _ (by omega)]; simp (disch := omega) only [up_s, up_k, up_j, adE_n]; exact g2
    · rw [a5 _ (by omega)]; simp (disch := omega) only [up_s, up_k, up_j, adE_n]; exact g3
    · rw [a5 _ (by omega)]; simp (disch := omega) only [up_s, up_k, up_j]; exact g4
    · rw [a5 _ (by omega)]; simp (disch := omega) only [up_s, up_k, up_j, adE_n]; exact g6
    · rw [a5 _ (by omega)]; simp (disch := omega) only [up_s, up_k, up_j, adE_n]; exact g7
    · rw [a5 _ (by omega)]; simp (disch := omega) only [up_s, up_k, up_j, adE_n]; exact g8
    · rw [a6 _ (by omega) (by omega)]; simp (disch := omega) only [up_s, up_k, up_j, adE_n]; exact q1 p hp
    · rw [a6 _ (by omega) (by omega)]; simp (disch := omega) only [up_s, up_k, up_j, adE_n]; exact q2 p hp
    · rw [a6 _ (by omega) (by omega)]; simp (disch := omega) only [up_s, up_k, up_j, adE_n]; exact q3 p hp
    · rw [a6 _ (by omega) (by omega)]; simp (disch := omega) only [up_s, up_k, up_j, adE_n]; exact q4 p hp
    · rw [a6 _ (by omega) (by omega)]
      by_cases z : e = U 8
      · subst z; simp (disch := omega) only [up_s, up_k, up_j, p1]
      · simp (disch := omega) only [up_s, up_k, up_j, adE_n]; exact q5 e (by omega)
    · rw [a6 _ (by omega) (by omega)]
      by_cases z : e = U 8
      · subst z; simp (disch := omega) only [up_s, up_k, up_j, p2]
      · simp (disch := omega) only [up_s, up_k, up_j, adE_n]; exact q6 e (by omega)
    · rw [a6 _ (by omega) (by omega)]
      by_cases z : e = U 8
      · subst z; simp (disch := omega) only [up_s, up_k, up_j, p3]
      · simp (disch := omega) only [up_s, up_k, up_j, adE_n]; exact q7 e (by omega)
    · by_cases z : e = U 8
      · subst z; rw [a2, hsig _ (Nat.le_refl _), p1]
      · rw [a4 _ (by omega), hsig e (by omega), adE_n (by omega) (by omega) (by omega) (by omega)]
        simp (disch := omega) only [up_s, up_k, up_j]
        exact q8 e (by omega)
