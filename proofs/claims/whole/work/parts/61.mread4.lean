/-! the reference reads a text -/
theorem m_part {σ : Sg} {tn : Nat} {tp U : TT} (h : MT σ 156 (s6 U 1)) (w : WP U) (hx : MP σ tn tp) (d : Nat) {a kd : Nat} (ha : a ≤ tn) (htn : tn ≤ 120) (ht : ∀ j, j < tn → tp j < 256) (h2 : σ 50 14 = nI a) (h7 : U 7 < 7) (h8 : U 8 = 0) (hk : 1 ≤ kd ∧ kd ≤ 5) : ∃ σ', MOne tn σ σ' a (cal (d + 5) mX7_takesPart [.ref 50, .int (nI kd)] σ) (match rd3 tn tp (a + 1) o20 oP2 (oP3 U) with
    | .inl e => .inl e
    | .inr (v1, v2, v3, a') => .inr (adP U kd v1 v2 v3, a')) := by
  have w1 := w.1
  have h163 : σ 51 163 = nI (U 7) := by have := h.1 7 (by omega); rwa [s6_n (by omega)] at this
  have f7 : (U 7 = 7) = False := eq_false (by omega)
  have o1 : (fun v => decide (0 ≤ v ∧ v ≤ 20)) = o20 := by funext v; apply decide_eq_decide.mpr; omega
  obtain ⟨τ1, f1, f2, f3⟩ := m_num (MP_51 (MP_50 hx (j := 14) (by omega) (nI (a + 1))) (165 + U 7) (nI kd)) d (a := a + 1) (lo := 0) (hi := 20) (sg := 44) (by omega) (by omega) (by omega) (by omega) htn ht (by rw [up_k (by omega), up_s])
  rw [o1] at f3
  have F50 : ∀ j, j ≠ 10 → j ≠ 14 → j ≠ 15 → j ≠ 16 → τ1 50 j = σ 50 j := fun j a1 a2 a3 a4 => by rw [f2 j a1 a2 a3 a4, up_k (by omega), up_j a2]
  have FO : ∀ c, c ≠ 50 → c ≠ 51 → τ1 c = σ c := fun c hc h1 => by rw [f1 c hc, up_of h1, up_of hc]
  have F51 : ∀ j, j ≠ 165 + U 7 → τ1 51 j = σ 51 j := fun j hj => by rw [f1 51 (by omega), up_j hj, up_k (by omega)]
  have F51k : τ1 51 (165 + U 7) = nI kd := by rw [f1 51 (by omega), up_s]
  rcases f3 with ⟨f, pl, c1, c2, c3⟩ | ⟨v1, a1, c1, c2, c3, c4, c5, c6, c7, c8, c9⟩
  · refine ⟨τ1, FO, fun j hj => F51 j (by omega), F50, Or.inl ⟨f, pl, ?_, by unfold rd3; rw [c2], c3⟩⟩
    rw [aX7_takesPart_50]
    simp (disch := omega) only [kX7_takesPart_0, kX7_takesPart_1, kX7_takesPart_2, kX7_takesPart_3, kX7_takesPart_4, eq_self, Nat.reduceEqDiff, Nat.one_ne_zero, Nat.zero_ne_one, z_0, z_lt, z_le, z_eq, z_add, z_mul, z_inb, z_cl, z_b0, z_b1, z_b01, z_b010, z_b011, kb_v, kb_n, List.cons_append, List.nil_append, if_true, if_false, ↓reduceIte, Bool.false_eq_true, Bool.true_eq_false, decide_eq_true_eq, decide_eq_false_iff_not, not_false_eq_true, h163, h2, f7, c1]
  have hx1 : MP τ1 tn tp := ⟨by rw [F50 9 (by omega) (by omega) (by omega) (by omega)]; exact hx.1, fun i hi => by rw [FO 57 (by omega) (by omega)]; exact hx.2 i hi⟩
  obtain ⟨τ2, g1, g2, g3⟩ := m_num (MP_51 hx1 (172 + U 7) (nI v1)) d (a := a1) (lo := 1) (hi := 20) (sg := 44) (by omega) (by omega) (by omega) (by omega) htn ht (by rw [up_k (by omega)]; exact c4)
  have G50 : ∀ j, j ≠ 10 → j ≠ 14 → j ≠ 15 → j ≠ 16 → τ2 50 j = σ 50 j := fun j a1 a2 a3 a4 => by rw [g2 j a1 a2 a3 a4, up_k (by omega), F50 j a1 a2 a3 a4]
  have GO : ∀ c, c ≠ 50 → c ≠ 51 → τ2 c = σ c := fun c hc h1 => by rw [g1 c hc, up_of h1, FO c hc h1]
  have G51 : τ2 51 = (up τ1 51 (172 + U 7) (nI v1)) 51 := g1 51 (by omega)
  rcases g3 with ⟨f, pl, e1, e2, e3⟩ | ⟨v2, a2, e1, e2, e3, e4, e5, e6, e7, e8, e9⟩
  · refine ⟨τ2, GO, fun j hj => by rw [G51, up_j (by omega), F51 j (by omega)], G50, Or.inl ⟨f, pl, ?_, by unfold rd3; rw [c2]; simp only [e2], e3⟩⟩
    rw [aX7_takesPart_50]
    simp (disch := omega) only [kX7_takesPart_0, kX7_takesPart_1, kX7_takesPart_2, kX7_takesPart_3, kX7_takesPart_4, eq_self, Nat.reduceEqDiff, Nat.one_ne_zero, Nat.zero_ne_one, z_0, z_lt, z_le, z_eq, z_add, z_mul, z_inb, z_cl, z_b0, z_b1, z_b01, z_b010, z_b011, kb_v, kb_n, List.cons_append, List.nil_append, if_true, if_false, ↓reduceIte, Bool.false_eq_true, Bool.true_eq_false, decide_eq_true_eq, decide_eq_false_iff_not, not_false_eq_true, h163, h2, f7, c1, c3, e1]
  have hx2 : MP τ2 tn tp := ⟨by rw [G50 9 (by omega) (by omega) (by omega) (by omega)]; exact hx.1, fun i hi => by rw [GO 57 (by omega) (by omega)]; exact hx.2 i hi⟩
  obtain ⟨τ3, k1, k2, k3⟩ := m_third (U := U) (MP_51 hx2 (179 + U 7) (nI v2)) d (a := a2) (nI kd) (by omega) htn ht (by rw [up_k (by omega)]; exact e4) h7 uu uu uu uu
  have K50 : ∀ j, j ≠ 10 → j ≠ 14 → j ≠ 15 → j ≠ 16 → τ3 50 j = σ 50 j := fun j a1 a2 a3 a4 => by rw [k2 j a1 a2 a3 a4, up_k (by omega), G50 j a1 a2 a3 a4]
  have KO : ∀ c, c ≠ 50 → c ≠ 51 → τ3 c = σ c := fun c hc h1 => by rw [k1 c hc, up_of h1, GO c hc h1]
  have K51 : τ3 51 = (up τ2 51 (179 + U 7) (nI v2)) 51 := k1 51 (by omega)
  have pre : cal (d + 5) mX7_takesPart [.ref 50, .int (nI kd)] σ = exec (d + 4) mX7_takesPart 102 [.ref 50, .int (nI kd), .int (nI (U 7)), uu, uu, uu, uu] [] (up τ2 51 (179 + U 7) (nI v2)) := by
    rw [aX7_takesPart_50]
    simp (disch := omega) only [kX7_takesPart_0, kX7_takesPart_1, kX7_takesPart_2, kX7_takesPart_3, kX7_takesPart_4, eq_self, Nat.reduceEqDiff, Nat.one_ne_zero, Nat.zero_ne_one, z_0, z_lt, z_le, z_eq, z_add, z_mul, z_inb, z_cl, z_b0, z_b1, z_b01, z_b010, z_b011, kb_v, kb_n, List.cons_append, List.nil_append, if_true, if_false, ↓reduceIte, Bool.false_eq_true, Bool.true_eq_false, decide_eq_true_eq, decide_eq_false_iff_not, not_false_eq_true, h163, h2, f7, c1, c3, e1, e3]
  rcases k3 with ⟨f, pl, j1, j2, j3⟩ | ⟨v3, a3, y3, y4, y5, y6, j1, j2, j3, j4, j5, j6, j7, j8, j9⟩
  · refine ⟨τ3, KO, fun j hj => by rw [K51, up_j (by omega), G51, up_j (by omega), F51 j (by omega)], K50, Or.inl ⟨f, pl, pre.trans j1, by unfold rd3; rw [c2]; simp only [e2, j2], j3⟩⟩
  · have b1 := of_decide_eq_true c7
    have b2 := of_decide_eq_true e7
    have b3 := of_decide_eq_true j7
    have t163 : τ3 51 163 = nI (U 7) := by rw [K51, up_j (by omega), G51, up_j (by omega), F51 163 (by omega)]; exact h163
    refine ⟨up (up τ3 51 (186 + U 7) (nI v3)) 51 163 (nI (U 7 + 1)), fun c h1 h3 => by rw [up_of h3, up_of h3, KO c h1 h3], fun j hj => by rw [up_j (by omega), up_j (by omega), K51, up_j (by omega), G51, up_j (by omega), F51 j (by omega)], fun j q1 q2 q3 q4 => by rw [up_k (by omega), up_k (by omega), K50 j q1 q2 q3 q4], Or.inr ⟨adP U kd v1 v2 v3, a3, ?_, by unfold rd3; rw [c2]; simp only [e2, j2], MT_P w h h7 h8 ?_ ?_ ?_ ?_ up_s (fun j q1 q2 q3 q4 q5 q6 => ?_), WP_P w h7 hk b1 b2 (by omega) h8, ?_, ?_, by omega, by omega⟩⟩
    · rw [pre, j1]
      simp (disch := omega) only [kX7_takesPart_0, kX7_takesPart_1, kX7_takesPart_2, kX7_takesPart_3, kX7_takesPart_4, eq_self, Nat.reduceEqDiff, Nat.one_ne_zero, Nat.zero_ne_one, z_0, z_lt, z_le, z_eq, z_add, z_mul, z_inb, z_cl, z_b0, z_b1, z_b01, z_b010, z_b011, kb_v, kb_n, List.cons_append, List.nil_append, if_true, if_false, ↓reduceIte, Bool.false_eq_true, Bool.true_eq_false, decide_eq_true_eq, decide_eq_false_iff_not, not_false_eq_true, up_s, up_k, up_j, j3, t163]
    · rw [up_j (by omega), up_j (by omega), K51, up_j (by omega), G51, up_j (by omega)]; exact F51k
    · rw [up_j (by omega), up_j (by omega), K51, up_j (by omega), G51, up_s]
    · rw [up_j (by omega), up_j (by omega), K51, up_s]
    · rw [up_j (by omega), up_s]
    · rw [up_j q2, up_j q6, K51, up_j q5, G51, up_j q4, F51 j q3]
    · rw [up_k (by omega), up_k (by omega)]; exact j4
    · rw [up_k (by omega), up_k (by omega), j5, up_k (by omega), e5, up_k (by omega), c5, up_k (by omega), up_j (by omega)]
theorem m_mo {σ : Sg} {tn : Nat} {tp U : TT} (h : MT σ 156 (s6 U 1)) (w : WP U) (hx : MP σ tn tp) (d : Nat) {a : Nat} (ha : a ≤ tn) (htn : tn ≤ 120) (ht : ∀ j, j < tn → tp j < 256) (h2 : σ 50 14 = nI a) : ∃ σ', MOne tn σ σ' a (cal (d + 6) mX7_takesMore [.ref 50] σ) (pit tn tp U a) := by
  have w1 := w.1
  have hkl := kno_le (ltr tn tp a)
  have h163 : σ 51 163 = nI (U 7) := by have := h.1 7 (by omega); rwa [s6_n (by omega)] at this
  have h164 : σ 51 164 = nI (U 8) := by have := h.1 8 (by omega); rwa [s6_n (by omega)] at this
  unfold pit
  have bad : ∀ (f : Nat) (e : Oc), 1 ≤ f → f ≤ 3 → e = some (some (.int (nI 0)), up (up σ 50 10 (nI f)) 50 16 (nI a)) → MOne tn σ (up (up σ 50 10 (nI f)) 50 16 (nI a)) a e (.inl (f, a)) := fun f e h1 h3 he => ⟨fun c hc _ => by rw [up_of hc, up_of hc], fun j _ => by rw [up_k (by omega), up_k (by omega)], fun j q1 _ _ q4 => by rw [up_j q4, up_j q1], Or.inl ⟨f, a, he, rfl, by simp (disch := omega) only [up_s, up_k, up_j], up_s, ⟨h1, h3⟩, by omega⟩⟩
  by_cases q : kno (ltr tn tp a) ≠ 0 ∧ U 8 = 0
  · rw [if_pos q]
    have qk : (kno (ltr tn tp a) ≤ 0) = False := eq_false (by omega)
    have q8 := q.2
    have pre : cal (d + 6) mX7_takesMore [.ref 50] σ = kb (cal (d + 5) mX7_takesPart [.ref 50, .int (nI (kno (ltr tn tp a)))] σ) (fun rs σ2 => exec (d + 5) mX7_takesMore 76 [.ref 50, .int (ltr tn tp a), .int (nI 1)] (rs ++ []) σ2) := by
      rw [aX7_takesMore_50]
      simp (disch := omega) only [kX7_takesMore_0, kX7_takesMore_1, eq_self, Nat.reduceEqDiff, Nat.one_ne_zero, Nat.zero_ne_one, z_0, z_lt, z_le, z_eq, z_add, z_mul, z_inb, z_cl, z_b0, z_b1, z_b01, z_b010, z_b011, kb_v, kb_n, List.cons_append, List.nil_append, if_true, if_false, ↓reduceIte, Bool.false_eq_true, Bool.true_eq_false, decide_eq_true_eq, decide_eq_false_iff_not, not_false_eq_true, h2, m_byt hx, kno_m, qk, h164, q8]
    by_cases q7 : U 7 < 7
    · rw [if_pos q7]
      obtain ⟨σ', g1, g2, g3, g4⟩ := m_part h w hx d (kd := kno (ltr tn tp a)) ha htn ht h2 q7 q.2 ⟨by omega, by omega⟩
      refine ⟨σ', g1, g2, g3, ?_⟩
      rcases g4 with ⟨f, pl, c1, c2⟩ | ⟨U', a', c1, c2⟩
      · refine Or.inl ⟨f, pl, ?_, c2⟩
        rw [pre]
        simp (disch := omega) only [kX7_takesMore_0, kX7_takesMore_1, eq_self, Nat.reduceEqDiff, Nat.one_ne_zero, Nat.zero_ne_one, z_0, z_lt, z_le, z_eq, z_add, z_mul, z_inb, z_cl, z_b0, z_b1, z_b01, z_b010, z_b011, kb_v, kb_n, List.cons_append, List.nil_append, if_true, if_false, ↓reduceIte, Bool.false_eq_true, Bool.true_eq_false, decide_eq_true_eq, decide_eq_false_iff_not, not_false_eq_true, c1]
      · refine Or.inr ⟨U', a', ?_, c2⟩
        rw [pre]
        simp (disch := omega) only [kX7_takesMore_0, kX7_takesMore_1, eq_self, Nat.reduceEqDiff, Nat.one_ne_zero, Nat.zero_ne_one, z_0, z_lt, z_le, z_eq, z_add, z_mul, z_inb, z_cl, z_b0, z_b1, z_b01, z_b010, z_b011, kb_v, kb_n, List.cons_append, List.nil_append, if_true, if_false, ↓reduceIte, Bool.false_eq_true, Bool.true_eq_false, decide_eq_true_eq, decide_eq_false_iff_not, not_false_eq_true, c1]
    · rw [if_neg q7]
      have h77 : U 7 = 7 := by omega
      rw [h77] at h163
      refine ⟨_, bad 3 _ (by omega) (by omega) ?_⟩
      have hp : cal (d + 5) mX7_takesPart [.ref 50, .int (nI (kno (ltr tn tp a)))] σ = some (some (.int (nI 0)), up (up σ 50 10 (nI 3)) 50 16 (nI a)) := by
        rw [aX7_takesPart_50]
        simp (disch := omega) only [kX7_takesPart_0, kX7_takesPart_1, kX7_takesPart_2, kX7_takesPart_3, kX7_takesPart_4, eq_self, Nat.reduceEqDiff, Nat.one_ne_zero, Nat.zero_ne_one, z_0, z_lt, z_le, z_eq, z_add, z_mul, z_inb, z_cl, z_b0, z_b1, z_b01, z_b010, z_b011, kb_v, kb_n, List.cons_append, List.nil_append, if_true, if_false, ↓reduceIte, Bool.false_eq_true, Bool.true_eq_false, decide_eq_true_eq, decide_eq_false_iff_not, not_false_eq_true, h163, h2, m_fails]
      rw [pre]
      simp (disch := omega) only [kX7_takesMore_0, kX7_takesMore_1, eq_self, Nat.reduceEqDiff, Nat.one_ne_zero, Nat.zero_ne_one, z_0, z_lt, z_le, z_eq, z_add, z_mul, z_inb, z_cl, z_b0, z_b1, z_b01, z_b010, z_b011, kb_v, kb_n, List.cons_append, List.nil_append, if_true, if_false, ↓reduceIte, Bool.false_eq_true, Bool.true_eq_false, decide_eq_true_eq, decide_eq_false_iff_not, not_false_eq_true, hp]
  · rw [if_neg q]
    have pre : cal (d + 6) mX7_takesMore [.ref 50] σ = exec (d + 5) mX7_takesMore 37 [.ref 50, .int (ltr tn tp a), .int (nI 0)] [] σ := by
      rw [aX7_takesMore_50]
      by_cases z : kno (ltr tn tp a) = 0
      · simp (disch := omega) only [kX7_takesMore_0, kX7_takesMore_1, eq_self, Nat.reduceEqDiff, Nat.one_ne_zero, Nat.zero_ne_one, z_0, z_lt, z_le, z_eq, z_add, z_mul, z_inb, z_cl, z_b0, z_b1, z_b01, z_b010, z_b011, kb_v, kb_n, List.cons_append, List.nil_append, if_true, if_false, ↓reduceIte, Bool.false_eq_true, Bool.true_eq_false, decide_eq_true_eq, decide_eq_false_iff_not, not_false_eq_true, h2, m_byt hx, kno_m, z, Nat.le_refl]
      · have zk : (kno (ltr tn tp a) ≤ 0) = False := eq_false (by omega)
        have z8 : ¬ (U 8 = 0) := fun y => q ⟨z, y⟩
        simp (disch := omega) only [kX7_takesMore_0, kX7_takesMore_1, eq_self, Nat.reduceEqDiff, Nat.one_ne_zero, Nat.zero_ne_one, z_0, z_lt, z_le, z_eq, z_add, z_mul, z_inb, z_cl, z_b0, z_b1, z_b01, z_b010, z_b011, kb_v, kb_n, List.cons_append, List.nil_append, if_true, if_false, ↓reduceIte, Bool.false_eq_true, Bool.true_eq_false, decide_eq_true_eq, decide_eq_false_iff_not, not_false_eq_true, h2, m_byt hx, kno_m, zk, h164, z8]
    by_cases q2 : ltr tn tp a = nI 101 ∧ 0 < U 7
    · rw [if_pos q2]
      have l1 := q2.1
      have z7 : (U 7 = 0) = False := eq_false (by omega)
      have pre2 : cal (d + 6) mX7_takesMore [.ref 50] σ = kb (cal (d + 5) mX7_takesElder [.ref 50] σ) (fun rs σ2 => exec (d + 5) mX7_takesMore 83 [.ref 50, .int (nI 101), .int (nI 0)] (rs ++ []) σ2) := by
        rw [pre, l1]
        simp (disch := omega) only [kX7_takesMore_0, kX7_takesMore_1, eq_self, Nat.reduceEqDiff, Nat.one_ne_zero, Nat.zero_ne_one, z_0, z_lt, z_le, z_eq, z_add, z_mul, z_inb, z_cl, z_b0, z_b1, z_b01, z_b010, z_b011, kb_v, kb_n, List.cons_append, List.nil_append, if_true, if_false, ↓reduceIte, Bool.false_eq_true, Bool.true_eq_false, decide_eq_true_eq, decide_eq_false_iff_not, not_false_eq_true, h163, z7]
      by_cases q8 : U 8 < 5
      · rw [if_pos q8]
        obtain ⟨σ', g1, g2, g3, g4⟩ := m_elder h w hx d ha htn ht h2 q8
        refine ⟨σ', g1, g2, g3, ?_⟩
        rcases g4 with ⟨f, pl, c1, c2⟩ | ⟨U', a', c1, c2⟩
        · refine Or.inl ⟨f, pl, ?_, c2⟩
          rw [pre2]
          simp (disch := omega) only [kX7_takesMore_0, kX7_takesMore_1, eq_self, Nat.reduceEqDiff, Nat.one_ne_zero, Nat.zero_ne_one, z_0, z_lt, z_le, z_eq, z_add, z_mul, z_inb, z_cl, z_b0, z_b1, z_b01, z_b010, z_b011, kb_v, kb_n, List.cons_append, List.nil_append, if_true, if_false, ↓reduceIte, Bool.false_eq_true, Bool.true_eq_false, decide_eq_true_eq, decide_eq_false_iff_not, not_false_eq_true, c1]
        · refine Or.inr ⟨U', a', ?_, c2⟩
          rw [pre2]
          simp (disch := omega) only [kX7_takesMore_0, kX7_takesMore_1, eq_self, Nat.reduceEqDiff, Nat.one_ne_zero, Nat.zero_ne_one, z_0, z_lt, z_le, z_eq, z_add, z_mul, z_inb, z_cl, z_b0, z_b1, z_b01, z_b010, z_b011, kb_v, kb_n, List.cons_append, List.nil_append, if_true, if_false, ↓reduceIte, Bool.false_eq_true, Bool.true_eq_false, decide_eq_true_eq, decide_eq_false_iff_not, not_false_eq_true, c1]
      · rw [if_neg q8]
        have h85 : U 8 = 5 := by omega
        rw [h85] at h164
        refine ⟨_, bad 3 _ (by omega) (by omega) ?_⟩
        have hp : cal (d + 5) mX7_takesElder [.ref 50] σ = some (some (.int (nI 0)), up (up σ 50 10 (nI 3)) 50 16 (nI a)) := by
          rw [aX7_takesElder_50]
          simp (disch := omega) only [kX7_takesElder_0, kX7_takesElder_1, eq_self, Nat.reduceEqDiff, Nat.one_ne_zero, Nat.zero_ne_one, z_0, z_lt, z_le, z_eq, z_add, z_mul, z_inb, z_cl, z_b0, z_b1, z_b01, z_b010, z_b011, kb_v, kb_n, List.cons_append, List.nil_append, if_true, if_false, ↓reduceIte, Bool.false_eq_true, Bool.true_eq_false, decide_eq_true_eq, decide_eq_false_iff_not, not_false_eq_true, h164, h2, m_fails]
        rw [pre2]
        simp (disch := omega) only [kX7_takesMore_0, kX7_takesMore_1, eq_self, Nat.reduceEqDiff, Nat.one_ne_zero, Nat.zero_ne_one, z_0, z_lt, z_le, z_eq, z_add, z_mul, z_inb, z_cl, z_b0, z_b1, z_b01, z_b010, z_b011, kb_v, kb_n, List.cons_append, List.nil_append, if_true, if_false, ↓reduceIte, Bool.false_eq_true, Bool.true_eq_false, decide_eq_true_eq, decide_eq_false_iff_not, not_false_eq_true, hp]
    · rw [if_neg q2]
      refine ⟨_, bad 1 _ (by omega) (by omega) ?_⟩
      rw [pre]
      by_cases l1 : ltr tn tp a = nI 101
      · have z7 : U 7 = 0 := by
          by_cases y : 0 < U 7
          · exact absurd ⟨l1, y⟩ q2
          · omega
        rw [z7] at h163
        simp (disch := omega) only [kX7_takesMore_0, kX7_takesMore_1, eq_self, Nat.reduceEqDiff, Nat.one_ne_zero, Nat.zero_ne_one, z_0, z_lt, z_le, z_eq, z_add, z_mul, z_inb, z_cl, z_b0, z_b1, z_b01, z_b010, z_b011, kb_v, kb_n, List.cons_append, List.nil_append, if_true, if_false, ↓reduceIte, Bool.false_eq_true, Bool.true_eq_false, decide_eq_true_eq, decide_eq_false_iff_not, not_false_eq_true, l1, h163, h2, m_fails]
      · simp (disch := omega) only [kX7_takesMore_0, kX7_takesMore_1, eq_self, Nat.reduceEqDiff, Nat.one_ne_zero, Nat.zero_ne_one, z_0, z_lt, z_le, z_eq, z_add, z_mul, z_inb, z_cl, z_b0, z_b1, z_b01, z_b010, z_b011, kb_v, kb_n, List.cons_append, List.nil_append, if_true, if_false, ↓reduceIte, Bool.false_eq_true, Bool.true_eq_false, decide_eq_true_eq, decide_eq_false_iff_not, not_false_eq_true, l1, h2, m_fails]
