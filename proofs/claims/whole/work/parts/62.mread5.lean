/-! trial of the reference -/
theorem m_l0 (d : Nat) : ∀ m k (σ : Sg), k + m = 6 → ∃ σ', exec d mX7_takesLaw 2 [.ref 50, .int (nI k)] [] σ = exec d mX7_takesLaw 25 [.ref 50, .int (nI 6)] [] σ' ∧ (∀ j, k ≤ j → j < 6 → σ' 51 (156 + j) = nI 0) ∧ (∀ j, j < 156 + k ∨ 162 ≤ j → σ' 51 j = σ 51 j) ∧ ∀ a, a ≠ 51 → σ' a = σ a
  | 0, k, σ, hk => by
    obtain rfl : k = 6 := by omega
    refine ⟨σ, ?_, fun j h1 h2 => by omega, fun _ _ => rfl, fun _ _ => rfl⟩
    rw [hX7_takesLaw_2]
    simp (disch := omega) only [kX7_takesLaw_0, kX7_takesLaw_1, eq_self, Nat.reduceEqDiff, Nat.one_ne_zero, Nat.zero_ne_one, z_0, z_lt, z_le, z_eq, z_add, z_mul, z_inb, z_cl, z_b0, z_b1, z_b01, z_b010, z_b011, kb_v, kb_n, List.cons_append, List.nil_append, if_true, if_false, ↓reduceIte, Bool.false_eq_true, Bool.true_eq_false, decide_eq_true_eq, decide_eq_false_iff_not, not_false_eq_true, Nat.le_refl]
  | m + 1, k, σ, hk => by
    obtain ⟨σ', e, h1, h2, h3⟩ := m_l0 d m (k + 1) (up σ 51 (156 + k) (nI 0)) (by omega)
    refine ⟨σ', Eq.trans ?_ e, fun j g1 g2 => ?_, fun j g => ?_, fun a ha => ?_⟩
    · rw [hX7_takesLaw_2]
      simp (disch := omega) only [kX7_takesLaw_0, kX7_takesLaw_1, eq_self, Nat.reduceEqDiff, Nat.one_ne_zero, Nat.zero_ne_one, z_0, z_lt, z_le, z_eq, z_add, z_mul, z_inb, z_cl, z_b0, z_b1, z_b01, z_b010, z_b011, kb_v, kb_n, List.cons_append, List.nil_append, if_true, if_false, ↓reduceIte, Bool.false_eq_true, Bool.true_eq_false, decide_eq_true_eq, decide_eq_false_iff_not, not_false_eq_true]
      rw [if_neg (by omega)]
    · by_cases q : j = k
      · subst q; rw [h2 _ (by omega), up_s]
      · exact h1 j (by omega) g2
    · rw [h2 j (by omega), up_j (by omega)]
    · rw [h3 a ha, up_of ha]
theorem m_law {σ : Sg} {tn : Nat} {tp : TT} (hx : MP σ tn tp) (d : Nat) (htn : tn ≤ 120) (ht : ∀ j, j < tn → tp j < 256) (h2 : σ 50 14 = nI 0) : ∃ σ', MOne tn σ σ' 0 (cal (d + 5) mX7_takesLaw [.ref 50] σ) (lw tn tp) := by
  obtain ⟨τ0, z1, z2, z3, z4⟩ := m_l0 (d + 4) 6 0 σ (by omega)
  have o1 : (fun v => decide (0 ≤ v ∧ v ≤ 20)) = o20 := by funext v; apply decide_eq_decide.mpr; omega
  have o2 : (fun v => decide (0 ≤ v ∧ v ≤ 60)) = oL2 := by funext v; apply decide_eq_decide.mpr; omega
  have o3 : (fun v => decide (0 ≤ v ∧ v ≤ 99)) = oL3 := by funext v; apply decide_eq_decide.mpr; omega
  let τ := up (up (up τ0 51 162 (nI 1)) 51 163 (nI 0)) 51 164 (nI 0)
  have tO : ∀ c, c ≠ 51 → τ c = σ c := fun c hc => by simp only [τ, up_of hc]; exact z4 c hc
  have tl : ∀ j, j < 156 → τ 51 j = σ 51 j := fun j hj => by simp (disch := omega) only [τ, up_s, up_k, up_j]; exact z3 j (by omega)
  have tk : ∀ k, k < 6 → τ 51 (156 + k) = nI 0 := fun k hk => by simp (disch := omega) only [τ, up_s, up_k, up_j]; exact z2 k (by omega) hk
  have t6 : τ 51 162 = nI 1 := by simp (disch := omega) only [τ, up_s, up_k, up_j]
  have t7 : τ 51 163 = nI 0 := by simp (disch := omega) only [τ, up_s, up_k, up_j]
  have t8 : τ 51 164 = nI 0 := by simp (disch := omega) only [τ, up_s, up_k, up_j]
  have hxt : MP τ tn tp := ⟨by rw [tO 50 (by omega)]; exact hx.1, fun i hi => by rw [tO 57 (by omega)]; exact hx.2 i hi⟩
  have h2t : τ 50 14 = nI 0 := by rw [tO 50 (by omega)]; exact h2
  have htk := m_tks hxt (d + 2) (nI 103) (a := 0) (by omega) htn h2t
  have htk : cal (d + 4) mX7_takes [.ref 50, .int (nI 103)] τ = _ := htk
  have pre : cal (d + 5) mX7_takesLaw [.ref 50] σ = exec (d + 4) mX7_takesLaw 52 [.ref 50, .int (nI 6)] [] τ := by
    rw [aX7_takesLaw_50]
    simp (disch := omega) only [kX7_takesLaw_0, kX7_takesLaw_1, eq_self, Nat.reduceEqDiff, Nat.one_ne_zero, Nat.zero_ne_one, z_0, z_lt, z_le, z_eq, z_add, z_mul, z_inb, z_cl, z_b0, z_b1, z_b01, z_b010, z_b011, kb_v, kb_n, List.cons_append, List.nil_append, if_true, if_false, ↓reduceIte, Bool.false_eq_true, Bool.true_eq_false, decide_eq_true_eq, decide_eq_false_iff_not, not_false_eq_true]
    refine z1.trans ?_
    simp (disch := omega) only [kX7_takesLaw_0, kX7_takesLaw_1, eq_self, Nat.reduceEqDiff, Nat.one_ne_zero, Nat.zero_ne_one, z_0, z_lt, z_le, z_eq, z_add, z_mul, z_inb, z_cl, z_b0, z_b1, z_b01, z_b010, z_b011, kb_v, kb_n, List.cons_append, List.nil_append, if_true, if_false, ↓reduceIte, Bool.false_eq_true, Bool.true_eq_false, decide_eq_true_eq, decide_eq_false_iff_not, not_false_eq_true, τ]
  unfold lw
  rw [pre]
  by_cases q : ltr tn tp 0 = nI 103
  · rw [if_pos q] at htk ⊢
    obtain ⟨τ1, f1, f2, f3⟩ := m_num (MP_50 hxt (j := 14) (by omega) (nI (0 + 1))) d (a := 0 + 1) (lo := 0) (hi := 20) (sg := 44) (by omega) (by omega) (by omega) (by omega) htn ht up_s
    rw [o1] at f3
    have F50 : ∀ j, j ≠ 10 → j ≠ 14 → j ≠ 15 → j ≠ 16 → τ1 50 j = σ 50 j := fun j a1 a2 a3 a4 => by rw [f2 j a1 a2 a3 a4, up_j a2, tO 50 (by omega)]
    have FO : ∀ c, c ≠ 50 → c ≠ 51 → τ1 c = σ c := fun c hc h1 => by rw [f1 c hc, up_of hc, tO c h1]
    have F51 : τ1 51 = τ 51 := by rw [f1 51 (by omega), up_of (by omega)]
    rcases f3 with ⟨f, pl, c1, c2, c3⟩ | ⟨v1, a1, c1, c2, c3, c4, c5, c6, c7, c8, c9⟩
    · refine ⟨τ1, FO, fun j hj => by rw [F51]; exact tl j hj, F50, Or.inl ⟨f, pl, ?_, by unfold rd3; rw [show (1 : Nat) = 0 + 1 from rfl, c2], c3⟩⟩
      simp (disch := omega) only [kX7_takesLaw_0, kX7_takesLaw_1, eq_self, Nat.reduceEqDiff, Nat.one_ne_zero, Nat.zero_ne_one, z_0, z_lt, z_le, z_eq, z_add, z_mul, z_inb, z_cl, z_b0, z_b1, z_b01, z_b010, z_b011, kb_v, kb_n, List.cons_append, List.nil_append, if_true, if_false, ↓reduceIte, Bool.false_eq_true, Bool.true_eq_false, decide_eq_true_eq, decide_eq_false_iff_not, not_false_eq_true, htk, c1]
    have hx1 : MP τ1 tn tp := ⟨by rw [F50 9 (by omega) (by omega) (by omega) (by omega)]; exact hx.1, fun i hi => by rw [FO 57 (by omega) (by omega)]; exact hx.2 i hi⟩
    obtain ⟨τ2, g1, g2, g3⟩ := m_num (MP_51 hx1 156 (nI v1)) d (a := a1) (lo := 0) (hi := 60) (sg := 44) (by omega) (by omega) (by omega) (by omega) htn ht (by rw [up_k (by omega)]; exact c4)
    rw [o2] at g3
    have G50 : ∀ j, j ≠ 10 → j ≠ 14 → j ≠ 15 → j ≠ 16 → τ2 50 j = σ 50 j := fun j a1 a2 a3 a4 => by rw [g2 j a1 a2 a3 a4, up_k (by omega), F50 j a1 a2 a3 a4]
    have GO : ∀ c, c ≠ 50 → c ≠ 51 → τ2 c = σ c := fun c hc h1 => by rw [g1 c hc, up_of h1, FO c hc h1]
    have G51 : τ2 51 = (up τ1 51 156 (nI v1)) 51 := g1 51 (by omega)
    rcases g3 with ⟨f, pl, e1, e2, e3⟩ | ⟨v2, a2, e1, e2, e3, e4, e5, e6, e7, e8, e9⟩
    · refine ⟨τ2, GO, fun j hj => by rw [G51, up_j (by omega), F51]; exact tl j hj, G50, Or.inl ⟨f, pl, ?_, by unfold rd3; rw [show (1 : Nat) = 0 + 1 from rfl, c2]; simp only [e2], e3⟩⟩
      simp (disch := omega) only [kX7_takesLaw_0, kX7_takesLaw_1, eq_self, Nat.reduceEqDiff, Nat.one_ne_zero, Nat.zero_ne_one, z_0, z_lt, z_le, z_eq, z_add, z_mul, z_inb, z_cl, z_b0, z_b1, z_b01, z_b010, z_b011, kb_v, kb_n, List.cons_append, List.nil_append, if_true, if_false, ↓reduceIte, Bool.false_eq_true, Bool.true_eq_false, decide_eq_true_eq, decide_eq_false_iff_not, not_false_eq_true, htk, c1, c3, e1]
    have hx2 : MP τ2 tn tp := ⟨by rw [G50 9 (by omega) (by omega) (by omega) (by omega)]; exact hx.1, fun i hi => by rw [GO 57 (by omega) (by omega)]; exact hx.2 i hi⟩
    obtain ⟨τ3, k1, k2, k3⟩ := m_num (MP_51 hx2 157 (nI v2)) d (a := a2) (lo := 0) (hi := 99) (sg := 59) (by omega) (by omega) (by omega) (by omega) htn ht (by rw [up_k (by omega)]; exact e4)
    rw [o3] at k3
    have K50 : ∀ j, j ≠ 10 → j ≠ 14 → j ≠ 15 → j ≠ 16 → τ3 50 j = σ 50 j := fun j a1 a2 a3 a4 => by rw [k2 j a1 a2 a3 a4, up_k (by omega), G50 j a1 a2 a3 a4]
    have KO : ∀ c, c ≠ 50 → c ≠ 51 → τ3 c = σ c := fun c hc h1 => by rw [k1 c hc, up_of h1, GO c hc h1]
    have K51 : τ3 51 = (up τ2 51 157 (nI v2)) 51 := k1 51 (by omega)
    rcases k3 with ⟨f, pl, j1, j2, j3⟩ | ⟨v3, a3, j1, j2, j3, j4, j5, j6, j7, j8, j9⟩
    · refine ⟨τ3, KO, fun j hj => by rw [K51, up_j (by omega), G51, up_j (by omega), F51]; exact tl j hj, K50, Or.inl ⟨f, pl, ?_, by unfold rd3; rw [show (1 : Nat) = 0 + 1 from rfl, c2]; simp only [e2, j2], j3⟩⟩
      simp (disch := omega) only [kX7_takesLaw_0, kX7_takesLaw_1, eq_self, Nat.reduceEqDiff, Nat.one_ne_zero, Nat.zero_ne_one, z_0, z_lt, z_le, z_eq, z_add, z_mul, z_inb, z_cl, z_b0, z_b1, z_b01, z_b010, z_b011, kb_v, kb_n, List.cons_append, List.nil_append, if_true, if_false, ↓reduceIte, Bool.false_eq_true, Bool.true_eq_false, decide_eq_true_eq, decide_eq_false_iff_not, not_false_eq_true, htk, c1, c3, e1, e3, j1]
    · have b1 := of_decide_eq_true c7
      have b2 := of_decide_eq_true e7
      have b3 := of_decide_eq_true j7
      refine ⟨up τ3 51 158 (nI v3), fun c h1 h3 => by rw [up_of h3, KO c h1 h3], fun j hj => by rw [up_j (by omega), K51, up_j (by omega), G51, up_j (by omega), F51]; exact tl j hj, fun j q1 q2 q3 q4 => by rw [up_k (by omega), K50 j q1 q2 q3 q4], Or.inr ⟨Ul v1 v2 v3, a3, ?_, by unfold rd3; rw [show (1 : Nat) = 0 + 1 from rfl, c2]; simp only [e2, j2], ?_, ⟨⟨b1, b2, b3, Nat.zero_le 7, Nat.zero_le 5⟩, ⟨rfl, rfl, rfl, rfl⟩, fun p hp => absurd hp (Nat.not_lt_zero p), fun p hp => absurd hp (Nat.not_lt_zero p)⟩, ?_, ?_, by omega, by omega⟩⟩
      · simp (disch := omega) only [kX7_takesLaw_0, kX7_takesLaw_1, eq_self, Nat.reduceEqDiff, Nat.one_ne_zero, Nat.zero_ne_one, z_0, z_lt, z_le, z_eq, z_add, z_mul, z_inb, z_cl, z_b0, z_b1, z_b01, z_b010, z_b011, kb_v, kb_n, List.cons_append, List.nil_append, if_true, if_false, ↓reduceIte, Bool.false_eq_true, Bool.true_eq_false, decide_eq_true_eq, decide_eq_false_iff_not, not_false_eq_true, htk, c1, c3, e1, e3, j1, j3]
      · refine ⟨fun k hk => ?_, fun p hp => absurd hp (Nat.not_lt_zero p), fun p hp => absurd hp (Nat.not_lt_zero p), fun p hp => absurd hp (Nat.not_lt_zero p), fun p hp => absurd hp (Nat.not_lt_zero p), fun p hp => absurd hp (Nat.not_lt_zero p), fun p hp => absurd hp (Nat.not_lt_zero p), fun p hp => absurd hp (Nat.not_lt_zero p)⟩
        rcases (show k = 0 ∨ k = 1 ∨ k = 2 ∨ k = 3 ∨ k = 4 ∨ k = 5 ∨ k = 6 ∨ k = 7 ∨ k = 8 by omega) with rfl | rfl | rfl | rfl | rfl | rfl | rfl | rfl | rfl
        · rw [up_j (by omega), K51, up_j (by omega), G51]; exact up_s
        · rw [up_j (by omega), K51]; exact up_s
        · exact up_s
        · rw [up_j (by omega), K51, up_j (by omega), G51, up_j (by omega), F51]; exact tk 3 (by omega)
        · rw [up_j (by omega), K51, up_j (by omega), G51, up_j (by omega), F51]; exact tk 4 (by omega)
        · rw [up_j (by omega), K51, up_j (by omega), G51, up_j (by omega), F51]; exact tk 5 (by omega)
        · rw [up_j (by omega), K51, up_j (by omega), G51, up_j (by omega), F51]; exact t6
        · rw [up_j (by omega), K51, up_j (by omega), G51, up_j (by omega), F51]; exact t7
        · rw [up_j (by omega), K51, up_j (by omega), G51, up_j (by omega), F51]; exact t8
      · rw [up_k (by omega)]; exact j4
      · rw [up_k (by omega), j5, up_k (by omega), e5, up_k (by omega), c5, up_j (by omega), tO 50 (by omega)]
  · rw [if_neg q] at htk ⊢
    refine ⟨up (up τ 50 10 (nI 1)) 50 16 (nI 0), fun c h1 h3 => by rw [up_of h1, up_of h1, tO c h3], fun j hj => by rw [up_k (by omega), up_k (by omega)]; exact tl j hj, fun j q1 _ _ q4 => by rw [up_j q4, up_j q1, tO 50 (by omega)], Or.inl ⟨1, 0, ?_, rfl, by rw [up_j (by omega), up_s], up_s, by omega, by omega⟩⟩
    simp (disch := omega) only [kX7_takesLaw_0, kX7_takesLaw_1, eq_self, Nat.reduceEqDiff, Nat.one_ne_zero, Nat.zero_ne_one, z_0, z_lt, z_le, z_eq, z_add, z_mul, z_inb, z_cl, z_b0, z_b1, z_b01, z_b010, z_b011, kb_v, kb_n, List.cons_append, List.nil_append, if_true, if_false, ↓reduceIte, Bool.false_eq_true, Bool.true_eq_false, decide_eq_true_eq, decide_eq_false_iff_not, not_false_eq_true, htk]
/-- what the loop over all items does: at its end the flag stands -/
def MRd (σ σ' : Sg) (e : Oc) (d : Nat) (r : RR TT) : Prop := (∀ c, c ≠ 50 → c ≠ 51 → σ' c = σ c) ∧ (∀ j, j < 156 → σ' 51 j = σ 51 j) ∧ (∀ j, j ≠ 10 → j ≠ 14 → j ≠ 15 → j ≠ 16 → σ' 50 j = σ 50 j) ∧ ((∃ f pl, e = exec d mX7_trial 44 [.ref 50, .int (nI 0)] [] σ' ∧ r = .inl (f, pl) ∧ σ' 50 10 = nI f ∧ σ' 50 16 = nI pl ∧ (1 ≤ f ∧ f ≤ 3) ∧ pl ≤ 300) ∨ (∃ U', e = exec d mX7_trial 44 [.ref 50, .int (nI 1)] [] σ' ∧ r = .inr U' ∧ MT σ' 156 (s6 U' 1) ∧ WP U' ∧ 1 ≤ U' 7 ∧ σ' 50 10 = σ 50 10))
theorem m_end {σ : Sg} (d : Nat) : exec d mX7_trial 10 [.ref 50, .int (nI 0)] [] σ = exec d mX7_trial 44 [.ref 50, .int (nI 0)] [] σ := by
  rw [hX7_trial_10]
  simp (disch := omega) only [kX7_trial_0, kX7_trial_1, eq_self, Nat.reduceEqDiff, Nat.one_ne_zero, Nat.zero_ne_one, z_0, z_lt, z_le, z_eq, z_add, z_mul, z_inb, z_cl, z_b0, z_b1, z_b01, z_b010, z_b011, kb_v, kb_n, List.cons_append, List.nil_append, if_true, if_false, ↓reduceIte, Bool.false_eq_true, Bool.true_eq_false, decide_eq_true_eq, decide_eq_false_iff_not, not_false_eq_true]
theorem m_ri_loop {tn : Nat} {tp : TT} (d : Nat) (htn : tn ≤ 120) (ht : ∀ j, j < tn → tp j < 256) : ∀ m U a (σ : Sg), tn + 1 ≤ m + a → a ≤ tn → MT σ 156 (s6 U 1) → WP U → MP σ tn tp → σ 50 14 = nI a → ∃ σ', MRd σ σ' (exec (d + 6) mX7_trial 10 [.ref 50, .int (nI 1)] [] σ) (d + 6) (psr tn tp m U a)
  | 0, U, a, σ, hm, ha, h, w, hx, h2 => by omega
  | m + 1, U, a, σ, hm, ha, h, w, hx, h2 => by
    have w1 := w.1
    have hx1 := hx.1
    have h163 : σ 51 163 = nI (U 7) := by have := h.1 7 (by omega); rwa [s6_n (by omega)] at this
    obtain ⟨σ1, g1, g2, g3, g4⟩ := m_mo h w hx d ha htn ht h2
    unfold psr
    by_cases q : a < tn
    · rw [if_pos q]
      have qp := eq_true q
      rcases g4 with ⟨f, pl, c1, c2, c3⟩ | ⟨U', a', c1, c2, c3, c4, c5, c6, c7, c8⟩
      · rw [c2]
        refine ⟨σ1, g1, g2, g3, Or.inl ⟨f, pl, ?_, rfl, c3⟩⟩
        rw [← m_end, hX7_trial_10]
        simp (disch := omega) only [kX7_trial_0, kX7_trial_1, eq_self, Nat.reduceEqDiff, Nat.one_ne_zero, Nat.zero_ne_one, z_0, z_lt, z_le, z_eq, z_add, z_mul, z_inb, z_cl, z_b0, z_b1, z_b01, z_b010, z_b011, kb_v, kb_n, List.cons_append, List.nil_append, if_true, if_false, ↓reduceIte, Bool.false_eq_true, Bool.true_eq_false, decide_eq_true_eq, decide_eq_false_iff_not, not_false_eq_true, h2, hx1, qp, c1]
      · have hx' : MP σ1 tn tp := ⟨by rw [g3 9 (by omega) (by omega) (by omega) (by omega)]; exact hx1, fun i hi => by rw [g1 57 (by omega) (by omega)]; exact hx.2 i hi⟩
        obtain ⟨σ2, k1, k2, k3, k4⟩ := m_ri_loop d htn ht m U' a' σ1 (by omega) c8 c3 c4 hx' c5
        have he : exec (d + 6) mX7_trial 10 [.ref 50, .int (nI 1)] [] σ = exec (d + 6) mX7_trial 10 [.ref 50, .int (nI 1)] [] σ1 := by
          rw [hX7_trial_10]
          simp (disch := omega) only [kX7_trial_0, kX7_trial_1, eq_self, Nat.reduceEqDiff, Nat.one_ne_zero, Nat.zero_ne_one, z_0, z_lt, z_le, z_eq, z_add, z_mul, z_inb, z_cl, z_b0, z_b1, z_b01, z_b010, z_b011, kb_v, kb_n, List.cons_append, List.nil_append, if_true, if_false, ↓reduceIte, Bool.false_eq_true, Bool.true_eq_false, decide_eq_true_eq, decide_eq_false_iff_not, not_false_eq_true, h2, hx1, qp, c1]
        rw [he, c2]
        refine ⟨σ2, fun c h1 h3 => by rw [k1 c h1 h3, g1 c h1 h3], fun j hj => by rw [k2 j hj, g2 j hj], fun j q1 q2 q3 q4 => by rw [k3 j q1 q2 q3 q4, g3 j q1 q2 q3 q4], ?_⟩
        rcases k4 with k4 | ⟨U2, b1, b2, b3, b4, b5, b6⟩
        · exact Or.inl k4
        · exact Or.inr ⟨U2, b1, b2, b3, b4, b5, by rw [b6, c6]⟩
    · rw [if_neg q]
      have qp := eq_false q
      by_cases q7 : U 7 = 0
      · rw [if_pos q7]
        have hat : a = tn := by omega
        have hp : pit tn tp U a = .inl (1, a) := by
          have hl : ltr tn tp a = -1 := by unfold ltr; rw [if_neg (by omega)]
          have hk : kno (-1) = 0 := by decide
          unfold pit
          rw [hl, hk, if_neg (by simp), if_neg (by omega)]
        rw [hp] at g4
        rw [q7] at h163
        rcases g4 with ⟨f, pl, c1, c2, c3⟩ | ⟨U', a', c1, c2, _⟩
        · cases c2
          refine ⟨σ1, g1, g2, g3, Or.inl ⟨1, a, ?_, rfl, c3⟩⟩
          rw [← m_end, hX7_trial_10]
          simp (disch := omega) only [kX7_trial_0, kX7_trial_1, eq_self, Nat.reduceEqDiff, Nat.one_ne_zero, Nat.zero_ne_one, z_0, z_lt, z_le, z_eq, z_add, z_mul, z_inb, z_cl, z_b0, z_b1, z_b01, z_b010, z_b011, kb_v, kb_n, List.cons_append, List.nil_append, if_true, if_false, ↓reduceIte, Bool.false_eq_true, Bool.true_eq_false, decide_eq_true_eq, decide_eq_false_iff_not, not_false_eq_true, h2, hx1, qp, h163, c1]
        · cases c2
      · rw [if_neg q7]
        refine ⟨σ, fun _ _ _ => rfl, fun _ _ => rfl, fun _ _ _ _ _ => rfl, Or.inr ⟨U, ?_, rfl, h, w, by omega, rfl⟩⟩
        rw [hX7_trial_10]
        simp (disch := omega) only [kX7_trial_0, kX7_trial_1, eq_self, Nat.reduceEqDiff, Nat.one_ne_zero, Nat.zero_ne_one, z_0, z_lt, z_le, z_eq, z_add, z_mul, z_inb, z_cl, z_b0, z_b1, z_b01, z_b010, z_b011, kb_v, kb_n, List.cons_append, List.nil_append, if_true, if_false, ↓reduceIte, Bool.false_eq_true, Bool.true_eq_false, decide_eq_true_eq, decide_eq_false_iff_not, not_false_eq_true, h2, hx1, qp, h163, q7]
