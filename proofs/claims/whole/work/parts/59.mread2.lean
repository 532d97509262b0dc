/-! the reference reads parts and elders -/
theorem MT_P {σ σ' : Sg} {U : TT} {kd v1 v2 v3 : Nat} (w : WP U) (h : MT σ 156 (s6 U 1)) (h7 : U 7 < 7) (h8 : U 8 = 0) (e1 : σ' 51 (165 + U 7) = nI kd) (e2 : σ' 51 (172 + U 7) = nI v1) (e3 : σ' 51 (179 + U 7) = nI v2) (e4 : σ' 51 (186 + U 7) = nI v3) (e5 : σ' 51 163 = nI (U 7 + 1)) (hs : ∀ j, 156 ≤ j → j ≠ 163 → j ≠ 165 + U 7 → j ≠ 172 + U 7 → j ≠ 179 + U 7 → j ≠ 186 + U 7 → σ' 51 j = σ 51 j) : MT σ' 156 (s6 (adP U kd v1 v2 v3) 1) := by
  obtain ⟨a0, a1, a2, a3, a4, a5, a6, a7⟩ := h
  obtain ⟨p1, p2, p3, p4, p5⟩ := adP_1 U kd v1 v2 v3 h7
  have n8 : adP U kd v1 v2 v3 8 = 0 := by rw [adP_n (by omega) (by omega) (by omega) (by omega) (by omega)]; exact h8
  have q7 : s6 (adP U kd v1 v2 v3) 1 7 = U 7 + 1 := by rw [s6_n (by omega), p5]
  have q8 : s6 (adP U kd v1 v2 v3) 1 8 = 0 := by rw [s6_n (by omega), n8]
  rw [s6_n (k := 7) (by omega)] at a1 a2 a3 a4
  unfold MT
  rw [q7, q8]
  refine ⟨fun k hk => ?_, fun p hp => ?_, fun p hp => ?_, fun p hp => ?_, fun p hp => ?_, fun p hp => by omega, fun p hp => by omega, fun p hp => by omega⟩
  · by_cases z : k = 7
    · subst z; rw [q7]; exact e5
    · rw [hs _ (by omega) (by omega) (by omega) (by omega) (by omega) (by omega), a0 k hk]
      by_cases z6 : k = 6
      · subst z6; rw [s6_6, s6_6]
      · rw [s6_n z6, s6_n z6, adP_n (by omega) (by omega) (by omega) (by omega) z]
  · rw [s6_n (by omega)]
    by_cases z : p = U 7
    · subst z; rw [p1, ← e1]; congr 1; omega
    · rw [hs _ (by omega) (by omega) (by omega) (by omega) (by omega) (by omega), a1 p (by omega), s6_n (by omega), adP_n (by omega) (by omega) (by omega) (by omega) (by omega)]
  · rw [s6_n (by omega)]
    by_cases z : p = U 7
    · subst z; rw [p2, ← e2]; congr 1; omega
    · rw [hs _ (by omega) (by omega) (by omega) (by omega) (by omega) (by omega), a2 p (by omega), s6_n (by omega), adP_n (by omega) (by omega) (by omega) (by omega) (by omega)]
  · rw [s6_n (by omega)]
    by_cases z : p = U 7
    · subst z; rw [p3, ← e3]; congr 1; omega
    · rw [hs _ (by omega) (by omega) (by omega) (by omega) (by omega) (by omega), a3 p (by omega), s6_n (by omega), adP_n (by omega) (by omega) (by omega) (by omega) (by omega)]
  · rw [s6_n (by omega)]
    by_cases z : p = U 7
    · subst z; rw [p4, ← e4]; congr 1; omega
    · rw [hs _ (by omega) (by omega) (by omega) (by omega) (by omega) (by omega), a4 p (by omega), s6_n (by omega), adP_n (by omega) (by omega) (by omega) (by omega) (by omega)]
theorem MT_E {σ σ' : Sg} {U : TT} {v1 v2 v3 : Nat} (w : WP U) (h : MT σ 156 (s6 U 1)) (h8 : U 8 < 5) (e1 : σ' 51 (193 + U 8) = nI v1) (e2 : σ' 51 (198 + U 8) = nI v2) (e3 : σ' 51 (203 + U 8) = nI v3) (e5 : σ' 51 164 = nI (U 8 + 1)) (hs : ∀ j, 156 ≤ j → j ≠ 164 → j ≠ 193 + U 8 → j ≠ 198 + U 8 → j ≠ 203 + U 8 → σ' 51 j = σ 51 j) : MT σ' 156 (s6 (adE U v1 v2 v3) 1) := by
  have w1 := w.1
  obtain ⟨a0, a1, a2, a3, a4, a5, a6, a7⟩ := h
  obtain ⟨p1, p2, p3, p5⟩ := adE_1 U v1 v2 v3 h8
  have n7 : adE U v1 v2 v3 7 = U 7 := adE_n (by omega) (by omega) (by omega) (by omega)
  have q7 : s6 (adE U v1 v2 v3) 1 7 = U 7 := by rw [s6_n (by omega), n7]
  have q8 : s6 (adE U v1 v2 v3) 1 8 = U 8 + 1 := by rw [s6_n (by omega), p5]
  rw [s6_n (k := 7) (by omega)] at a1 a2 a3 a4
  rw [s6_n (k := 8) (by omega)] at a5 a6 a7
  unfold MT
  rw [q7, q8]
  refine ⟨fun k hk => ?_, fun p hp => ?_, fun p hp => ?_, fun p hp => ?_, fun p hp => ?_, fun p hp => ?_, fun p hp => ?_, fun p hp => ?_⟩
  · by_cases z : k = 8
    · subst z; rw [q8]; exact e5
    · rw [hs _ (by omega) (by omega) (by omega) (by omega) (by omega), a0 k hk]
      by_cases z6 : k = 6
      · subst z6; rw [s6_6, s6_6]
      · rw [s6_n z6, s6_n z6, adE_n (by omega) (by omega) (by omega) z]
  · rw [hs _ (by omega) (by omega) (by omega) (by omega) (by omega), a1 p hp, s6_n (by omega), s6_n (by omega), adE_n (by omega) (by omega) (by omega) (by omega)]
  · rw [hs _ (by omega) (by omega) (by omega) (by omega) (by omega), a2 p hp, s6_n (by omega), s6_n (by omega), adE_n (by omega) (by omega) (by omega) (by omega)]
  · rw [hs _ (by omega) (by omega) (by omega) (by omega) (by omega), a3 p hp, s6_n (by omega), s6_n (by omega), adE_n (by omega) (by omega) (by omega) (by omega)]
  · rw [hs _ (by omega) (by omega) (by omega) (by omega) (by omega), a4 p hp, s6_n (by omega), s6_n (by omega), adE_n (by omega) (by omega) (by omega) (by omega)]
  · rw [s6_n (by omega)]
    by_cases z : p = U 8
    · subst z; rw [p1, ← e1]; congr 1; omega
    · rw [hs _ (by omega) (by omega) (by omega) (by omega) (by omega), a5 p (by omega), s6_n (by omega), adE_n (by omega) (by omega) (by omega) (by omega)]
  · rw [s6_n (by omega)]
    by_cases z : p = U 8
    · subst z; rw [p2, ← e2]; congr 1; omega
    · rw [hs _ (by omega) (by omega) (by omega) (by omega) (by omega), a6 p (by omega), s6_n (by omega), adE_n (by omega) (by omega) (by omega) (by omega)]
  · rw [s6_n (by omega)]
    by_cases z : p = U 8
    · subst z; rw [p3, ← e3]; congr 1; omega
    · rw [hs _ (by omega) (by omega) (by omega) (by omega) (by omega), a7 p (by omega), s6_n (by omega), adE_n (by omega) (by omega) (by omega) (by omega)]
/-- what taking an item does -/
def MOne (tn : Nat) (σ σ' : Sg) (a : Nat) (e : Oc) (r : RR (TT × Nat)) : Prop := (∀ c, c ≠ 50 → c ≠ 51 → σ' c = σ c) ∧ (∀ j, j < 156 → σ' 51 j = σ 51 j) ∧ (∀ j, j ≠ 10 → j ≠ 14 → j ≠ 15 → j ≠ 16 → σ' 50 j = σ 50 j) ∧ ((∃ f pl, e = some (some (.int (nI 0)), σ') ∧ r = .inl (f, pl) ∧ σ' 50 10 = nI f ∧ σ' 50 16 = nI pl ∧ (1 ≤ f ∧ f ≤ 3) ∧ pl ≤ 300) ∨ (∃ U' a', e = some (some (.int (nI 1)), σ') ∧ r = .inr (U', a') ∧ MT σ' 156 (s6 U' 1) ∧ WP U' ∧ σ' 50 14 = nI a' ∧ σ' 50 10 = σ 50 10 ∧ a < a' ∧ a' ≤ tn))
theorem MP_51 {σ : Sg} {tn : Nat} {tp : TT} (h : MP σ tn tp) (j : Nat) (v : Int32) : MP (up σ 51 j v) tn tp := ⟨by rw [up_k (by omega)]; exact h.1, fun i hi => by rw [up_k (by omega)]; exact h.2 i hi⟩
theorem MP_nm {σ σ' : Sg} {tn : Nat} {tp : TT} (h : MP σ tn tp) (h1 : ∀ c, c ≠ 50 → σ' c = σ c) (h2 : ∀ j, j ≠ 10 → j ≠ 14 → j ≠ 15 → j ≠ 16 → σ' 50 j = σ 50 j) : MP σ' tn tp := ⟨by rw [h2 9 (by omega) (by omega) (by omega) (by omega)]; exact h.1, fun i hi => by rw [h1 57 (by omega)]; exact h.2 i hi⟩
theorem m_elder {σ : Sg} {tn : Nat} {tp U : TT} (h : MT σ 156 (s6 U 1)) (w : WP U) (hx : MP σ tn tp) (d : Nat) {a : Nat} (ha : a ≤ tn) (htn : tn ≤ 120) (ht : ∀ j, j < tn → tp j < 256) (h2 : σ 50 14 = nI a) (h8 : U 8 < 5) : ∃ σ', MOne tn σ σ' a (cal (d + 5) mX7_takesElder [.ref 50] σ) (match rd3 tn tp (a + 1) o20 oE2 oE3 with
    | .inl e => .inl e
    | .inr (v1, v2, v3, a') => .inr (adE U v1 v2 v3, a')) := by
  have w1 := w.1
  have h164 : σ 51 164 = nI (U 8) := by have := h.1 8 (by omega); rwa [s6_n (by omega)] at this
  have f8 : (U 8 = 5) = False := eq_false (by omega)
  have o1 : (fun v => decide (0 ≤ v ∧ v ≤ 20)) = o20 := by funext v; apply decide_eq_decide.mpr; omega
  have o2 : (fun v => decide (0 ≤ v ∧ v ≤ 7)) = oE2 := by funext v; apply decide_eq_decide.mpr; omega
  obtain ⟨τ1, f1, f2, f3⟩ := m_num (MP_50 hx (j := 14) (by omega) (nI (a + 1))) d (a := a + 1) (lo := 0) (hi := 20) (sg := 44) (by omega) (by omega) (by omega) (by omega) htn ht up_s
  rw [o1] at f3
  have F50 : ∀ j, j ≠ 10 → j ≠ 14 → j ≠ 15 → j ≠ 16 → τ1 50 j = σ 50 j := fun j a1 a2 a3 a4 => by rw [f2 j a1 a2 a3 a4, up_j a2]
  have FO : ∀ c, c ≠ 50 → τ1 c = σ c := fun c hc => by rw [f1 c hc, up_of hc]
  rcases f3 with ⟨f, pl, c1, c2, c3⟩ | ⟨v1, a1, c1, c2, c3, c4, c5, c6, c7, c8, c9⟩
  · refine ⟨τ1, fun c h1 _ => FO c h1, fun j _ => by rw [FO 51 (by omega)], F50, Or.inl ⟨f, pl, ?_, by unfold rd3; rw [c2], c3⟩⟩
    rw [aX7_takesElder_50]
    simp (disch := omega) only [kX7_takesElder_0, kX7_takesElder_1, eq_self, Nat.reduceEqDiff, Nat.one_ne_zero, Nat.zero_ne_one, z_0, z_lt, z_le, z_eq, z_add, z_mul, z_inb, z_cl, z_b0, z_b1, z_b01, z_b010, z_b011, kb_v, kb_n, List.cons_append, List.nil_append, if_true, if_false, ↓reduceIte, Bool.false_eq_true, Bool.true_eq_false, decide_eq_true_eq, decide_eq_false_iff_not, not_false_eq_true, h164, h2, f8, c1]
  have hx1 : MP τ1 tn tp := MP_nm hx FO F50
  obtain ⟨τ2, g1, g2, g3⟩ := m_num (MP_51 hx1 (193 + U 8) (nI v1)) d (a := a1) (lo := 0) (hi := 7) (sg := 44) (by omega) (by omega) (by omega) (by omega) htn ht (by rw [up_k (by omega)]; exact c4)
  rw [o2] at g3
  have G50 : ∀ j, j ≠ 10 → j ≠ 14 → j ≠ 15 → j ≠ 16 → τ2 50 j = σ 50 j := fun j a1 a2 a3 a4 => by rw [g2 j a1 a2 a3 a4, up_k (by omega), F50 j a1 a2 a3 a4]
  have GO : ∀ c, c ≠ 50 → c ≠ 51 → τ2 c = σ c := fun c hc h1 => by rw [g1 c hc, up_of h1, FO c hc]
  have G51 : τ2 51 = (up τ1 51 (193 + U 8) (nI v1)) 51 := g1 51 (by omega)
  have h51 : τ1 51 = σ 51 := FO 51 (by omega)
  rcases g3 with ⟨f, pl, e1, e2, e3⟩ | ⟨v2, a2, e1, e2, e3, e4, e5, e6, e7, e8, e9⟩
  · refine ⟨τ2, GO, fun j _ => by rw [G51, up_j (by omega), h51], G50, Or.inl ⟨f, pl, ?_, by unfold rd3; rw [c2]; simp only [e2], e3⟩⟩
    rw [aX7_takesElder_50]
    simp (disch := omega) only [kX7_takesElder_0, kX7_takesElder_1, eq_self, Nat.reduceEqDiff, Nat.one_ne_zero, Nat.zero_ne_one, z_0, z_lt, z_le, z_eq, z_add, z_mul, z_inb, z_cl, z_b0, z_b1, z_b01, z_b010, z_b011, kb_v, kb_n, List.cons_append, List.nil_append, if_true, if_false, ↓reduceIte, Bool.false_eq_true, Bool.true_eq_false, decide_eq_true_eq, decide_eq_false_iff_not, not_false_eq_true, h164, h2, f8, c1, c3, e1]
  have hx2 : MP τ2 tn tp := ⟨by rw [G50 9 (by omega) (by omega) (by omega) (by omega)]; exact hx.1, fun i hi => by rw [GO 57 (by omega) (by omega)]; exact hx.2 i hi⟩
  obtain ⟨τ3, k1, k2, k3⟩ := m_num (MP_51 hx2 (198 + U 8) (nI v2)) d (a := a2) (lo := 1) (hi := 50) (sg := 59) (by omega) (by omega) (by omega) (by omega) htn ht (by rw [up_k (by omega)]; exact e4)
  have K50 : ∀ j, j ≠ 10 → j ≠ 14 → j ≠ 15 → j ≠ 16 → τ3 50 j = σ 50 j := fun j a1 a2 a3 a4 => by rw [k2 j a1 a2 a3 a4, up_k (by omega), G50 j a1 a2 a3 a4]
  have KO : ∀ c, c ≠ 50 → c ≠ 51 → τ3 c = σ c := fun c hc h1 => by rw [k1 c hc, up_of h1, GO c hc h1]
  have K51 : τ3 51 = (up τ2 51 (198 + U 8) (nI v2)) 51 := k1 51 (by omega)
  rcases k3 with ⟨f, pl, j1, j2, j3⟩ | ⟨v3, a3, j1, j2, j3, j4, j5, j6, j7, j8, j9⟩
  · refine ⟨τ3, KO, fun j _ => by rw [K51, up_j (by omega), G51, up_j (by omega), h51], K50, Or.inl ⟨f, pl, ?_, by unfold rd3; rw [c2]; simp only [e2, j2], j3⟩⟩
    rw [aX7_takesElder_50]
    simp (disch := omega) only [kX7_takesElder_0, kX7_takesElder_1, eq_self, Nat.reduceEqDiff, Nat.one_ne_zero, Nat.zero_ne_one, z_0, z_lt, z_le, z_eq, z_add, z_mul, z_inb, z_cl, z_b0, z_b1, z_b01, z_b010, z_b011, kb_v, kb_n, List.cons_append, List.nil_append, if_true, if_false, ↓reduceIte, Bool.false_eq_true, Bool.true_eq_false, decide_eq_true_eq, decide_eq_false_iff_not, not_false_eq_true, h164, h2, f8, c1, c3, e1, e3, j1]
  · have b1 := of_decide_eq_true c7
    have b2 := of_decide_eq_true e7
    have b3 := of_decide_eq_true j7
    have t164 : τ3 51 164 = nI (U 8) := by rw [K51, up_j (by omega), G51, up_j (by omega), h51]; exact h164
    refine ⟨up (up τ3 51 (203 + U 8) (nI v3)) 51 164 (nI (U 8 + 1)), fun c h1 h3 => by rw [up_of h3, up_of h3, KO c h1 h3], fun j hj => by rw [up_j (by omega), up_j (by omega), K51, up_j (by omega), G51, up_j (by omega), h51], fun j q1 q2 q3 q4 => by rw [up_k (by omega), up_k (by omega), K50 j q1 q2 q3 q4], Or.inr ⟨_, a3, ?_, by unfold rd3; rw [c2]; simp only [e2, j2], MT_E w h h8 ?_ ?_ ?_ up_s (fun j q1 q2 q3 q4 q5 => ?_), WP_E w h8 b1 b2 b3, ?_, ?_, by omega, by omega⟩⟩
    · rw [aX7_takesElder_50]
      simp (disch := omega) only [kX7_takesElder_0, kX7_takesElder_1, eq_self, Nat.reduceEqDiff, Nat.one_ne_zero, Nat.zero_ne_one, z_0, z_lt, z_le, z_eq, z_add, z_mul, z_inb, z_cl, z_b0, z_b1, z_b01, z_b010, z_b011, kb_v, kb_n, List.cons_append, List.nil_append, if_true, if_false, ↓reduceIte, Bool.false_eq_true, Bool.true_eq_false, decide_eq_true_eq, decide_eq_false_iff_not, not_false_eq_true, up_s, up_k, up_j, h164, h2, f8, c1, c3, e1, e3, j1, j3, t164]
    · rw [up_j (by omega), up_j (by omega), K51, up_j (by omega), G51, up_s]
    · rw [up_j (by omega), up_j (by omega), K51, up_s]
    · rw [up_j (by omega), up_s]
    · rw [up_j q2, up_j q5, K51, up_j q4, G51, up_j q3, h51]
    · rw [up_k (by omega), up_k (by omega)]; exact j4
    · rw [up_k (by omega), up_k (by omega), j5, up_k (by omega), e5, up_k (by omega), c5, up_j (by omega)]
