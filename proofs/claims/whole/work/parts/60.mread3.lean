/-! the reference reads a part -/
theorem m_stp {τ : Sg} {tn : Nat} {tp : TT} (hP : MP τ tn tp) (d : Nat) {i : Nat} (hi : i < 300) (htn : tn ≤ 120) (h2 : τ 50 14 = nI i) (hf : fg tn tp i = true) (l1 l2 l3 l4 l5 l6 : Value) : exec (d + 2) mX7_takesPart 135 [.ref 50, l1, l2, l3, l4, l5, l6] [] τ = exec (d + 2) mX7_takesPart 135 [.ref 50, l1, l2, l3, l4, l5, l6] [] (up τ 50 14 (nI (i + 1))) := by
  have hq := m_fg (σ := τ) (tn := tn) (tp := tp) (d + 1) i
  rw [hf] at hq
  rw [hX7_takesPart_135]
  simp (disch := omega) only [kX7_takesPart_0, kX7_takesPart_1, kX7_takesPart_2, kX7_takesPart_3, kX7_takesPart_4, eq_self, Nat.reduceEqDiff, Nat.one_ne_zero, Nat.zero_ne_one, z_0, z_lt, z_le, z_eq, z_add, z_mul, z_inb, z_cl, z_b0, z_b1, z_b01, z_b010, z_b011, kb_v, kb_n, List.cons_append, List.nil_append, if_true, if_false, ↓reduceIte, Bool.false_eq_true, Bool.true_eq_false, decide_eq_true_eq, decide_eq_false_iff_not, not_false_eq_true, h2, m_byt hP, hq]
theorem m_sto {τ : Sg} {tn : Nat} {tp : TT} (hP : MP τ tn tp) (d : Nat) {i : Nat} (hi : i < 300) (htn : tn ≤ 120) (h2 : τ 50 14 = nI i) (hf : fg tn tp i = false) (l1 l2 l3 l4 l5 l6 : Value) : exec (d + 2) mX7_takesPart 135 [.ref 50, l1, l2, l3, l4, l5, l6] [] τ = exec (d + 2) mX7_takesPart 169 [.ref 50, l1, l2, l3, l4, l5, l6] [] τ := by
  have hq := m_fg (σ := τ) (tn := tn) (tp := tp) (d + 1) i
  rw [hf] at hq
  rw [hX7_takesPart_135]
  simp (disch := omega) only [kX7_takesPart_0, kX7_takesPart_1, kX7_takesPart_2, kX7_takesPart_3, kX7_takesPart_4, eq_self, Nat.reduceEqDiff, Nat.one_ne_zero, Nat.zero_ne_one, z_0, z_lt, z_le, z_eq, z_add, z_mul, z_inb, z_cl, z_b0, z_b1, z_b01, z_b010, z_b011, kb_v, kb_n, List.cons_append, List.nil_append, if_true, if_false, ↓reduceIte, Bool.false_eq_true, Bool.true_eq_false, decide_eq_true_eq, decide_eq_false_iff_not, not_false_eq_true, h2, m_byt hP, hq]
theorem up_up {σ : Sg} {k j : Nat} {u v : Int32} : up (up σ k j u) k j v = up σ k j v := by
  funext a b
  unfold up
  split <;> rfl
/-- the whole run: only the place changes -/
theorem m_rn2 {tn : Nat} {tp : TT} (d : Nat) (htn : tn ≤ 120) (l1 l2 l3 l4 l5 l6 : Value) : ∀ m i (τ : Sg), tn ≤ i + m → i < 300 → MP τ tn tp → τ 50 14 = nI i → ∃ i', i ≤ i' ∧ i' < 300 ∧ exec (d + 2) mX7_takesPart 135 [.ref 50, l1, l2, l3, l4, l5, l6] [] τ = exec (d + 2) mX7_takesPart 169 [.ref 50, l1, l2, l3, l4, l5, l6] [] (up τ 50 14 (nI i'))
  | m, i, τ, hm, hi, hP, h2 => by
    cases q : fg tn tp i
    · refine ⟨i, by omega, hi, ?_⟩
      rw [m_sto hP d hi htn h2 q]
      congr 1
      funext a b
      unfold up
      split
      · rename_i z; rw [z.1, z.2, h2]
      · rfl
    · have hlt := fg_lt q
      match m, hm with
      | 0, hm => omega
      | m + 1, hm =>
        obtain ⟨i', e1, e2, e3⟩ := m_rn2 d htn l1 l2 l3 l4 l5 l6 m (i + 1) (up τ 50 14 (nI (i + 1))) (by omega) (by omega) (MP_50 hP (by omega) _) up_s
        refine ⟨i', by omega, e2, ?_⟩
        rw [m_stp hP d hi htn h2 q, e3, up_up]
theorem m_figs {tn : Nat} {tp : TT} (d : Nat) (htn : tn ≤ 120) (l1 l2 l3 l4 l5 l6 : Value) {i : Nat} {τ : Sg} (hi : i ≤ 200) (hP : MP τ tn tp) (h2 : τ 50 14 = nI i) (hf : fg tn tp i = true) : ∃ i', (i' = i + nfg tn tp i ∨ (nfg tn tp i = 3 ∧ i + 3 ≤ i')) ∧ i' < 300 ∧ exec (d + 2) mX7_takesPart 135 [.ref 50, l1, l2, l3, l4, l5, l6] [] τ = exec (d + 2) mX7_takesPart 169 [.ref 50, l1, l2, l3, l4, l5, l6] [] (up τ 50 14 (nI i')) := by
  have hP1 := MP_50 hP (j := 14) (by omega) (nI (i + 1))
  have hP2 := MP_50 hP (j := 14) (by omega) (nI (i + 1 + 1))
  have hP3 := MP_50 hP (j := 14) (by omega) (nI (i + 1 + 1 + 1))
  rcases nfg_c tn tp i with ⟨q, q0⟩ | ⟨q, q0, q1⟩ | ⟨q, q0, q1, q2⟩ | ⟨q, q0, q1, q2⟩
  · rw [hf] at q0; exact absurd q0 (by simp)
  · refine ⟨i + 1, Or.inl (by omega), by omega, ?_⟩
    rw [m_stp hP d (by omega) htn h2 q0, m_sto hP1 d (by omega) htn up_s q1]
  · refine ⟨i + 1 + 1, Or.inl (by omega), by omega, ?_⟩
    rw [m_stp hP d (by omega) htn h2 q0, m_stp hP1 d (by omega) htn up_s q1, up_up, m_sto hP2 d (by omega) htn up_s q2]
  · obtain ⟨i', e1, e2, e3⟩ := m_rn2 d htn l1 l2 l3 l4 l5 l6 tn (i + 1 + 1 + 1) (up τ 50 14 (nI (i + 1 + 1 + 1))) (by omega) (by omega) hP3 up_s
    refine ⟨i', Or.inr ⟨q, by omega⟩, e2, ?_⟩
    rw [m_stp hP d (by omega) htn h2 q0, m_stp hP1 d (by omega) htn up_s q1, up_up, m_stp hP2 d (by omega) htn up_s q2, up_up, e3, up_up]
theorem rn_cg {tn : Nat} {tp : TT} {a sg : Nat} {o1 o2 : Nat → Bool} (h : o1 (vlu tn tp a) = o2 (vlu tn tp a)) : rn tn tp a o1 sg = rn tn tp a o2 sg := by
  unfold rn
  rw [h]
/-- the third number of a part -/
theorem m_third {τ : Sg} {tn : Nat} {tp U : TT} (hP : MP τ tn tp) (d : Nat) {a : Nat} (kd : Int32) (ha : a ≤ 200) (htn : tn ≤ 120) (ht : ∀ j, j < tn → tp j < 256) (h2 : τ 50 14 = nI a) (h7 : U 7 < 7) (x3 x4 x5 x6 : Value) : ∃ σ', (∀ c, c ≠ 50 → σ' c = τ c) ∧ (∀ j, j ≠ 10 → j ≠ 14 → j ≠ 15 → j ≠ 16 → σ' 50 j = τ 50 j) ∧ ((∃ f pl, exec (d + 4) mX7_takesPart 102 [.ref 50, .int kd, .int (nI (U 7)), x3, x4, x5, x6] [] τ = some (some (.int (nI 0)), σ') ∧ rn tn tp a (oP3 U) 59 = .inl (f, pl) ∧ σ' 50 10 = nI f ∧ σ' 50 16 = nI pl ∧ (1 ≤ f ∧ f ≤ 3) ∧ pl ≤ 300) ∨ (∃ v a' y3 y4 y5 y6, exec (d + 4) mX7_takesPart 102 [.ref 50, .int kd, .int (nI (U 7)), x3, x4, x5, x6] [] τ = exec (d + 4) mX7_takesPart 261 [.ref 50, .int kd, .int (nI (U 7)), y3, y4, y5, y6] [] σ' ∧ rn tn tp a (oP3 U) 59 = .inr (v, a') ∧ σ' 50 15 = nI v ∧ σ' 50 14 = nI a' ∧ σ' 50 10 = τ 50 10 ∧ v ≤ 99 ∧ oP3 U v = true ∧ a < a' ∧ a' ≤ tn)) := by
  have hq := m_fg (σ := τ) (tn := tn) (tp := tp) (d + 3) a
  cases hf : fg tn tp a
  · refine ⟨up (up τ 50 10 (nI 1)) 50 16 (nI a), fun c hc => by rw [up_of hc, up_of hc], fun j h1 _ _ h4 => by rw [up_j h4, up_j h1], Or.inl ⟨1, a, ?_, ?_, by simp (disch := omega) only [up_s, up_k, up_j], up_s, by omega, by omega⟩⟩
    · rw [hf] at hq
      simp (disch := omega) only [kX7_takesPart_0, kX7_takesPart_1, kX7_takesPart_2, kX7_takesPart_3, kX7_takesPart_4, eq_self, Nat.reduceEqDiff, Nat.one_ne_zero, Nat.zero_ne_one, z_0, z_lt, z_le, z_eq, z_add, z_mul, z_inb, z_cl, z_b0, z_b1, z_b01, z_b010, z_b011, kb_v, kb_n, List.cons_append, List.nil_append, if_true, if_false, ↓reduceIte, Bool.false_eq_true, Bool.true_eq_false, decide_eq_true_eq, decide_eq_false_iff_not, not_false_eq_true, h2, m_byt hP, hq, m_fails]
    · unfold rn; rw [if_pos (Or.inl (by unfold nfg; rw [hf]; rfl))]
  · rw [hf] at hq
    obtain ⟨i', e1, e2, e3⟩ := m_figs (tn := tn) (tp := tp) (d + 2) htn (.int kd) (.int (nI (U 7))) (.int (nI a)) x4 x5 x6 ha hP h2 hf
    obtain ⟨l0, d0⟩ := fg_d ht hf
    have hPs : MP (up τ 50 14 (nI a)) tn tp := MP_50 hP (by omega) _
    have hnf : nfg tn tp a ≠ 0 := by unfold nfg; rw [hf]; simp only [if_true]; split <;> (try split) <;> omega
    have pre : exec (d + 4) mX7_takesPart 102 [.ref 50, .int kd, .int (nI (U 7)), x3, x4, x5, x6] [] τ = exec (d + 4) mX7_takesPart 169 [.ref 50, .int kd, .int (nI (U 7)), .int (nI a), x4, x5, x6] [] (up τ 50 14 (nI i')) := by
      refine Eq.trans ?_ e3
      simp (disch := omega) only [kX7_takesPart_0, kX7_takesPart_1, kX7_takesPart_2, kX7_takesPart_3, kX7_takesPart_4, eq_self, Nat.reduceEqDiff, Nat.one_ne_zero, Nat.zero_ne_one, z_0, z_lt, z_le, z_eq, z_add, z_mul, z_inb, z_cl, z_b0, z_b1, z_b01, z_b010, z_b011, kb_v, kb_n, List.cons_append, List.nil_append, if_true, if_false, ↓reduceIte, Bool.false_eq_true, Bool.true_eq_false, decide_eq_true_eq, decide_eq_false_iff_not, not_false_eq_true, h2, m_byt hP, hq]
    obtain ⟨σ', g1, g2, g3⟩ := m_num hPs d (a := a) (lo := 0) (hi := 7) (sg := 59) ha (by omega) (by omega) (by omega) htn ht up_s
    have G50 : ∀ j, j ≠ 10 → j ≠ 14 → j ≠ 15 → j ≠ 16 → σ' 50 j = τ 50 j := fun j a1 a2 a3 a4 => by rw [g2 j a1 a2 a3 a4, up_j a2]
    have GO : ∀ c, c ≠ 50 → σ' c = τ c := fun c hc => by rw [g1 c hc, up_of hc]
    by_cases h3 : nfg tn tp a = 3
    · -- more than two figures: the number itself fails
      have hr : ∀ okp : Nat → Bool, rn tn tp a okp 59 = .inl (1, a) := fun okp => by unfold rn; rw [if_pos (Or.inr h3)]
      rcases g3 with ⟨f, pl, c1, c2, c3⟩ | ⟨v, a', c1, c2, _⟩
      · rw [hr] at c2
        cases c2
        refine ⟨σ', GO, G50, Or.inl ⟨1, a, ?_, hr _, c3⟩⟩
        have q1 : fg tn tp (a + 1) = true := by rcases nfg_c tn tp a with z | z | z | z <;> first | exact z.2.2.1 | (exfalso; omega)
        obtain ⟨l1, d1⟩ := fg_d ht q1
        rw [pre]
        simp (disch := omega) only [kX7_takesPart_0, kX7_takesPart_1, kX7_takesPart_2, kX7_takesPart_3, kX7_takesPart_4, eq_self, Nat.reduceEqDiff, Nat.one_ne_zero, Nat.zero_ne_one, z_0, z_lt, z_le, z_eq, z_add, z_mul, z_inb, z_cl, z_b0, z_b1, z_b01, z_b010, z_b011, kb_v, kb_n, List.cons_append, List.nil_append, if_true, if_false, ↓reduceIte, Bool.false_eq_true, Bool.true_eq_false, decide_eq_true_eq, decide_eq_false_iff_not, not_false_eq_true, up_s, up_k, up_j, up_up, z_sub, m_byt hPs, l0, l1, c1]
        rw [if_neg (by omega), if_pos (by omega)]
      · rw [hr] at c2; cases c2
    · have hnf12 : nfg tn tp a = 1 ∨ nfg tn tp a = 2 := by rcases nfg_c tn tp a with z | z | z | z <;> omega
      have hi' : i' = a + nfg tn tp a := e1.resolve_right (fun z => h3 z.1)
      have hv := vlu_lt ht hnf12
      have mid : ∀ R : Oc, (vlu tn tp a < U 7 ∨ vlu tn tp a = 7 → exec (d + 4) mX7_takesPart 247 [.ref 50, .int kd, .int (nI (U 7)), .int (nI a), .int (nI (nfg tn tp a)), .int (nI (dg tp a)), .int (nI (vlu tn tp a))] [] (up τ 50 14 (nI a)) = R) → (¬ (vlu tn tp a < U 7 ∨ vlu tn tp a = 7) → R = some (some (.int (nI 0)), up (up (up τ 50 14 (nI a)) 50 10 (nI 2)) 50 16 (nI a))) → exec (d + 4) mX7_takesPart 102 [.ref 50, .int kd, .int (nI (U 7)), x3, x4, x5, x6] [] τ = R := by
        clear g3
        intro R hA hB
        rw [pre, hi']
        rcases nfg_c tn tp a with ⟨q, q0⟩ | ⟨q, q0, q1⟩ | ⟨q, q0, q1, q2⟩ | ⟨q, q0, q1, q2⟩
        · omega
        · rw [vlu_1 q, q] at hA
          rw [vlu_1 q] at hB
          rw [q]
          by_cases c : dg tp a < U 7 ∨ dg tp a = 7
          · rw [← hA c]
            simp (disch := omega) only [kX7_takesPart_0, kX7_takesPart_1, kX7_takesPart_2, kX7_takesPart_3, kX7_takesPart_4, eq_self, Nat.reduceEqDiff, Nat.one_ne_zero, Nat.zero_ne_one, z_0, z_lt, z_le, z_eq, z_add, z_mul, z_inb, z_cl, z_b0, z_b1, z_b01, z_b010, z_b011, kb_v, kb_n, List.cons_append, List.nil_append, if_true, if_false, ↓reduceIte, Bool.false_eq_true, Bool.true_eq_false, decide_eq_true_eq, decide_eq_false_iff_not, not_false_eq_true, up_s, up_k, up_j, up_up, z_sub, m_byt hPs, l0, Nat.add_sub_cancel, Nat.add_sub_cancel_left, Nat.reduceLeDiff]
            by_cases c7 : dg tp a = 7
            · rw [if_pos c7]
            · rw [if_neg c7, if_pos (by omega)]
          · rw [hB c]
            simp (disch := omega) only [kX7_takesPart_0, kX7_takesPart_1, kX7_takesPart_2, kX7_takesPart_3, kX7_takesPart_4, eq_self, Nat.reduceEqDiff, Nat.one_ne_zero, Nat.zero_ne_one, z_0, z_lt, z_le, z_eq, z_add, z_mul, z_inb, z_cl, z_b0, z_b1, z_b01, z_b010, z_b011, kb_v, kb_n, List.cons_append, List.nil_append, if_true, if_false, ↓reduceIte, Bool.false_eq_true, Bool.true_eq_false, decide_eq_true_eq, decide_eq_false_iff_not, not_false_eq_true, up_s, up_k, up_j, up_up, z_sub, m_byt hPs, l0, Nat.add_sub_cancel, Nat.add_sub_cancel_left, Nat.reduceLeDiff, m_fails]
            rw [if_neg (by omega), if_neg (by omega)]
        · obtain ⟨l1, d1⟩ := fg_d ht q1
          rw [vlu_2 q, q] at hA
          rw [vlu_2 q] at hB
          rw [q]
          by_cases c : 10 * dg tp a + dg tp (a + 1) < U 7 ∨ 10 * dg tp a + dg tp (a + 1) = 7
          · rw [← hA c]
            simp (disch := omega) only [kX7_takesPart_0, kX7_takesPart_1, kX7_takesPart_2, kX7_takesPart_3, kX7_takesPart_4, eq_self, Nat.reduceEqDiff, Nat.one_ne_zero, Nat.zero_ne_one, z_0, z_lt, z_le, z_eq, z_add, z_mul, z_inb, z_cl, z_b0, z_b1, z_b01, z_b010, z_b011, kb_v, kb_n, List.cons_append, List.nil_append, if_true, if_false, ↓reduceIte, Bool.false_eq_true, Bool.true_eq_false, decide_eq_true_eq, decide_eq_false_iff_not, not_false_eq_true, up_s, up_k, up_j, up_up, z_sub, m_byt hPs, l0, l1, ← Nat.add_assoc, Nat.add_sub_cancel, Nat.add_sub_cancel_left, Nat.reduceLeDiff]
            by_cases c7 : 10 * dg tp a + dg tp (a + 1) = 7
            · rw [if_pos c7]
            · rw [if_neg c7, if_pos (by omega)]
          · rw [hB c]
            simp (disch := omega) only [kX7_takesPart_0, kX7_takesPart_1, kX7_takesPart_2, kX7_takesPart_3, kX7_takesPart_4, eq_self, Nat.reduceEqDiff, Nat.one_ne_zero, Nat.zero_ne_one, z_0, z_lt, z_le, z_eq, z_add, z_mul, z_inb, z_cl, z_b0, z_b1, z_b01, z_b010, z_b011, kb_v, kb_n, List.cons_append, List.nil_append, if_true, if_false, ↓reduceIte, Bool.false_eq_true, Bool.true_eq_false, decide_eq_true_eq, decide_eq_false_iff_not, not_false_eq_true, up_s, up_k, up_j, up_up, z_sub, m_byt hPs, l0, l1, ← Nat.add_assoc, Nat.add_sub_cancel, Nat.add_sub_cancel_left, Nat.reduceLeDiff, m_fails]
            rw [if_neg (by omega), if_neg (by omega)]
        · omega
      by_cases c : vlu tn tp a < U 7 ∨ vlu tn tp a = 7
      · have hrn : rn tn tp a (fun v => decide (0 ≤ v ∧ v ≤ 7)) 59 = rn tn tp a (oP3 U) 59 := rn_cg (by rw [decide_eq_true (show 0 ≤ vlu tn tp a ∧ vlu tn tp a ≤ 7 by clear g3; omega)]; exact (decide_eq_true c).symm)
        rw [hrn] at g3
        rcases g3 with ⟨f, pl, c1, c2, c3⟩ | ⟨v, a', c1, c2, c3, c4, c5, c6, c7, c8, c9⟩
        · refine ⟨σ', GO, G50, Or.inl ⟨f, pl, mid _ (fun _ => ?_) (fun z => absurd c z), c2, c3⟩⟩
          simp (disch := omega) only [kX7_takesPart_0, kX7_takesPart_1, kX7_takesPart_2, kX7_takesPart_3, kX7_takesPart_4, eq_self, Nat.reduceEqDiff, Nat.one_ne_zero, Nat.zero_ne_one, z_0, z_lt, z_le, z_eq, z_add, z_mul, z_inb, z_cl, z_b0, z_b1, z_b01, z_b010, z_b011, kb_v, kb_n, List.cons_append, List.nil_append, if_true, if_false, ↓reduceIte, Bool.false_eq_true, Bool.true_eq_false, decide_eq_true_eq, decide_eq_false_iff_not, not_false_eq_true, c1]
        · have hv' : v = vlu tn tp a := by
            unfold rn at c2
            split at c2
            · cases c2
            · split at c2
              · split at c2
                · cases c2; rfl
                · cases c2
              · cases c2
          refine ⟨σ', GO, G50, Or.inr ⟨v, a', .int (nI a), .int (nI (nfg tn tp a)), .int (nI (dg tp a)), .int (nI (vlu tn tp a)), mid _ (fun _ => ?_) (fun z => absurd c z), c2, c3, c4, by rw [c5, up_j (by omega)], c6, by rw [hv']; exact decide_eq_true c, c8, c9⟩⟩
          simp (disch := omega) only [kX7_takesPart_0, kX7_takesPart_1, kX7_takesPart_2, kX7_takesPart_3, kX7_takesPart_4, eq_self, Nat.reduceEqDiff, Nat.one_ne_zero, Nat.zero_ne_one, z_0, z_lt, z_le, z_eq, z_add, z_mul, z_inb, z_cl, z_b0, z_b1, z_b01, z_b010, z_b011, kb_v, kb_n, List.cons_append, List.nil_append, if_true, if_false, ↓reduceIte, Bool.false_eq_true, Bool.true_eq_false, decide_eq_true_eq, decide_eq_false_iff_not, not_false_eq_true, c1]
      · refine ⟨up (up (up τ 50 14 (nI a)) 50 10 (nI 2)) 50 16 (nI a), fun c hc => by rw [up_of hc, up_of hc, up_of hc], fun j h1 h3 _ h5 => by rw [up_j h5, up_j h1, up_j h3], Or.inl ⟨2, a, mid _ (fun z => absurd z c) (fun _ => rfl), ?_, by simp (disch := omega) only [up_s, up_k, up_j], up_s, by omega, by omega⟩⟩
        unfold rn
        rw [if_neg (by clear g3; omega), if_neg (by rw [decide_eq_true_iff]; exact c)]
