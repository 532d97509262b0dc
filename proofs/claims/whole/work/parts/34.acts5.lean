def lsT (T : TT) : TT := sR (sR (sR T 2 (T 2 - 3)) 1 (T 1 - 1)) 0 (T 0 + 1)
theorem lsT_hi {T : TT} {k : Nat} (h : 3 ≤ k) : lsT T k = T k := by unfold lsT; rw [sR_n (by omega), sR_n (by omega), sR_n (by omega)]
theorem WF_lsT {T : TT} (w : WF T) (h6 : T 6 = 1) (h0 : T 0 < 20) : WF (lsT T) := by
  have w1 := w.1
  refine WF_mk w (fun k hk => lsT_hi (by omega)) h6 ?_ ?_ ?_ ?_ ?_ ?_
  · unfold lsT; rw [sR_s]; omega
  · unfold lsT; rw [sR_n (by omega), sR_s]; omega
  · unfold lsT; rw [sR_n (by omega), sR_n (by omega), sR_s]; omega
  · rw [lsT_hi (by omega)]; exact w.2.1.1
  · rw [lsT_hi (by omega)]; exact w.2.1.2
  · intro i hi
    rw [lsT_hi (by omega)] at hi ⊢
    exact w.2.2.1 i hi
theorem b_lesson : BO mX6_lesson mX7_lesson [] := by
  rintro ⟨T, I0, I1, A, rz, rl, it, tn, tp, ft, fs, cn, ct⟩ ok
  have w : WF T := ok.1
  have w1 := w.1
  have hl : A.length ≤ 24 := ok.2.2.2.1
  by_cases hm : T 6 = 1 ∧ 3 ≤ T 2 ∧ 1 ≤ T 1 ∧ T 0 < 20
  · obtain ⟨h6, m1, m2, m3⟩ := hm
    refine ⟨.int (nI (T 0 + 1)), (lsT T, I0, I1, psh A T, rz, rl, it, tn, tp, ft, fs, cn, ct), fun σ d h => ?_, fun σ d h => ?_, OK_act ok (fun k hk => lsT_hi (by omega)) (WF_lsT w h6 m3)⟩
    · have hT := h.1
      obtain ⟨σ1, e1, e2, e3⟩ := x_keep hT h.2.2.2.1 hl (d + 28)
      have hT1 : XT σ1 8 T := XT_cg hT (fun q _ _ => e3 q (by omega) (by omega))
      obtain ⟨g0, g1, g2, g3, g4, g5, g6, g7, g8, -⟩ := XT8 hT1
      refine ⟨up (up (up σ1 8 3 (nI (T 2 - 3))) 8 2 (nI (T 1 - 1))) 8 1 (nI (T 0 + 1)), ?_, XR_act h (XT_mk hT1 (fun k hk => lsT_hi (by omega)) (fun q hq => by simp only [up_of hq]) ?_ ?_ ?_ ?_ ?_ ?_ ?_ ?_ ?_) ?_ (fun q q1 q2 q3 => by simp (disch := omega) only [up_of]; exact e3 q q2 q3), fun q hq => by simp (disch := omega) only [up_of]; exact e3 q (by omega) (by omega)⟩
      · rw [aX6_lesson_0]
        simp (disch := omega) only [kX6_lesson_0, kX6_lesson_1, eq_self, Nat.reduceEqDiff, Nat.one_ne_zero, Nat.zero_ne_one, z_0, z_lt, z_le, z_eq, z_add, z_mul, z_inb, z_cl, z_b0, z_b1, z_b01, z_b010, z_b011, kb_v, kb_n, List.cons_append, List.nil_append, if_true, if_false, ↓reduceIte, Bool.false_eq_true, Bool.true_eq_false, decide_eq_true_eq, decide_eq_false_iff_not, not_false_eq_true, XT8 hT, h6]
        repeat first | rw [if_neg (by omega)] | rw [if_pos (by omega)]
        simp (disch := omega) only [kX6_lesson_0, kX6_lesson_1, eq_self, Nat.reduceEqDiff, Nat.one_ne_zero, Nat.zero_ne_one, z_0, z_lt, z_le, z_eq, z_add, z_mul, z_inb, z_cl, z_b0, z_b1, z_b01, z_b010, z_b011, kb_v, kb_n, List.cons_append, List.nil_append, if_true, if_false, ↓reduceIte, Bool.false_eq_true, Bool.true_eq_false, decide_eq_true_eq, decide_eq_false_iff_not, not_false_eq_true, up_s, up_k, up_j, e1, g1, g2, g3, z_sub]
      · simp (disch := omega) only [up_s, up_k, up_j]
      · simp (disch := omega) only [up_s, up_k, up_j]
      · simp (disch := omega) only [up_s, up_k, up_j]
      · simp (disch := omega) only [up_s, up_k, up_j]; rfl
      · simp (disch := omega) only [up_s, up_k, up_j]; rfl
      · simp (disch := omega) only [up_s, up_k, up_j]; rfl
      · simp (disch := omega) only [up_s, up_k, up_j]; rw [g6]; rfl
      · simp (disch := omega) only [up_s, up_k, up_j]; rw [g7]; rfl
      · simp (disch := omega) only [up_s, up_k, up_j]; rw [g8]; rfl
      · unfold XA; simp (disch := omega) only [up_of]; exact e2
    · have hT := h.1
      obtain ⟨σ1, e1, e2, e3, e4⟩ := m_minds (T := T) (fun k hk => by have := hT.1 k (by omega); rwa [Nat.zero_add] at this) h.2.2.2.2.1 hl (d + 28)
      have hT1 : MT σ1 0 T := MT_same hT (e4 51 (by omega) (by omega))
      obtain ⟨g0, g1, g2, g3, g4, g5, g6, g7, g8, -⟩ := MT0 hT1
      refine ⟨up (up (up σ1 51 2 (nI (T 2 - 3))) 51 1 (nI (T 1 - 1))) 51 0 (nI (T 0 + 1)), ?_, MR_act ok h (MT_mk (by omega) (by omega) hT1 (fun k hk => lsT_hi (by omega)) (fun j j1 _ => by simp (disch := omega) only [up_j]) (fun k hk => ?_)) ?_ (fun j hj => by simp (disch := omega) only [up_j]; rw [e4 51 (by omega) (by omega)]) (fun q hq => by simp (disch := omega) only [up_k]; exact e3 q hq) (fun q q1 q2 q3 => by simp (disch := omega) only [up_of]; exact e4 q q1 q3), fun q hq => by simp (disch := omega) only [up_of]; exact e4 q (by omega) (by omega)⟩
      · rw [aX7_lesson_50]
        simp (disch := omega) only [kX7_lesson_0, kX7_lesson_1, eq_self, Nat.reduceEqDiff, Nat.one_ne_zero, Nat.zero_ne_one, z_0, z_lt, z_le, z_eq, z_add, z_mul, z_inb, z_cl, z_b0, z_b1, z_b01, z_b010, z_b011, kb_v, kb_n, List.cons_append, List.nil_append, if_true, if_false, ↓reduceIte, Bool.false_eq_true, Bool.true_eq_false, decide_eq_true_eq, decide_eq_false_iff_not, not_false_eq_true, m_isTrial hT w, MT0 hT, h6]
        repeat first | rw [if_neg (by omega)] | rw [if_pos (by omega)]
        simp (disch := omega) only [kX7_lesson_0, kX7_lesson_1, eq_self, Nat.reduceEqDiff, Nat.one_ne_zero, Nat.zero_ne_one, z_0, z_lt, z_le, z_eq, z_add, z_mul, z_inb, z_cl, z_b0, z_b1, z_b01, z_b010, z_b011, kb_v, kb_n, List.cons_append, List.nil_append, if_true, if_false, ↓reduceIte, Bool.false_eq_true, Bool.true_eq_false, decide_eq_true_eq, decide_eq_false_iff_not, not_false_eq_true, up_s, up_k, up_j, e1, g0, g1, g2, z_sub]
      · rcases (show k = 0 ∨ k = 1 ∨ k = 2 ∨ k = 3 ∨ k = 4 ∨ k = 5 by omega) with rfl | rfl | rfl | rfl | rfl | rfl
        all_goals simp (disch := omega) only [up_s, up_k, up_j]
        all_goals first | rfl | (rw [g3]; rfl) | (rw [g4]; rfl) | (rw [g5]; rfl)
      · unfold MA; simp (disch := omega) only [up_of]; exact e2
  · refine ⟨.int (-1000002), _, XO_id fun σ d h => ?_, MO_id fun σ d h => ?_, ok⟩
    · have hT := h.1
      rw [aX6_lesson_0]
      rcases (show T 6 = 0 ∨ T 6 = 1 by omega) with h6 | h6
      · simp (disch := omega) only [kX6_lesson_0, kX6_lesson_1, eq_self, Nat.reduceEqDiff, Nat.one_ne_zero, Nat.zero_ne_one, z_0, z_lt, z_le, z_eq, z_add, z_mul, z_inb, z_cl, z_b0, z_b1, z_b01, z_b010, z_b011, kb_v, kb_n, List.cons_append, List.nil_append, if_true, if_false, ↓reduceIte, Bool.false_eq_true, Bool.true_eq_false, decide_eq_true_eq, decide_eq_false_iff_not, not_false_eq_true, XT8 hT, h6]
      · simp (disch := omega) only [kX6_lesson_0, kX6_lesson_1, eq_self, Nat.reduceEqDiff, Nat.one_ne_zero, Nat.zero_ne_one, z_0, z_lt, z_le, z_eq, z_add, z_mul, z_inb, z_cl, z_b0, z_b1, z_b01, z_b010, z_b011, kb_v, kb_n, List.cons_append, List.nil_append, if_true, if_false, ↓reduceIte, Bool.false_eq_true, Bool.true_eq_false, decide_eq_true_eq, decide_eq_false_iff_not, not_false_eq_true, XT8 hT, h6]
        (repeat' split) <;> first | rfl | (exfalso; omega)
    · have hT := h.1
      rw [aX7_lesson_50]
      rcases (show T 6 = 0 ∨ T 6 = 1 by omega) with h6 | h6
      · simp (disch := omega) only [kX7_lesson_0, kX7_lesson_1, eq_self, Nat.reduceEqDiff, Nat.one_ne_zero, Nat.zero_ne_one, z_0, z_lt, z_le, z_eq, z_add, z_mul, z_inb, z_cl, z_b0, z_b1, z_b01, z_b010, z_b011, kb_v, kb_n, List.cons_append, List.nil_append, if_true, if_false, ↓reduceIte, Bool.false_eq_true, Bool.true_eq_false, decide_eq_true_eq, decide_eq_false_iff_not, not_false_eq_true, m_isTrial hT w, MT0 hT, h6]
      · simp (disch := omega) only [kX7_lesson_0, kX7_lesson_1, eq_self, Nat.reduceEqDiff, Nat.one_ne_zero, Nat.zero_ne_one, z_0, z_lt, z_le, z_eq, z_add, z_mul, z_inb, z_cl, z_b0, z_b1, z_b01, z_b010, z_b011, kb_v, kb_n, List.cons_append, List.nil_append, if_true, if_false, ↓reduceIte, Bool.false_eq_true, Bool.true_eq_false, decide_eq_true_eq, decide_eq_false_iff_not, not_false_eq_true, m_isTrial hT w, MT0 hT, h6]
        (repeat' split) <;> first | rfl | (exfalso; omega)
/-- days gone by -/
def dyT (T : TT) (k : Nat) : TT := sR T 1 (T 1 - k)
def dyA (A : List TT) (T : TT) : Nat → List TT
  | 0 => A
  | k + 1 => psh (dyA A T k) (dyT T k)
theorem dyT_hi {T : TT} {j k : Nat} (h : k ≠ 1) : dyT T j k = T k := sR_n h
theorem dyT_0 {T : TT} : dyT T 0 = T := by
  funext k
  unfold dyT sR
  split
  · rename_i h; subst h; rfl
  · rfl
theorem WF_dyT {T : TT} (w : WF T) (h6 : T 6 = 1) (j : Nat) : WF (dyT T j) := by
  have w1 := w.1
  refine WF_mk w (fun k hk => dyT_hi (by omega)) h6 ?_ ?_ ?_ ?_ ?_ ?_
  · rw [dyT_hi (by omega)]; omega
  · unfold dyT; rw [sR_s]; omega
  · rw [dyT_hi (by omega)]; omega
  · rw [dyT_hi (by omega)]; exact w.2.1.1
  · rw [dyT_hi (by omega)]; exact w.2.1.2
  · intro i hi
    rw [dyT_hi (by omega)] at hi ⊢
    exact w.2.2.1 i hi
theorem OK_dy {T I0 I1 : TT} {A : List TT} {rz rl : TT} {it : Nat → Nat → Int32} {tn : Nat} {tp : TT} {ft fs cn : Nat} {ct : TT} (ok : OKV (T, I0, I1, A, rz, rl, it, tn, tp, ft, fs, cn, ct)) (h6 : T 6 = 1) : ∀ k, OKV (dyT T k, I0, I1, dyA A T k, rz, rl, it, tn, tp, ft, fs, cn, ct)
  | 0 => by rw [dyT_0]; exact ok
  | k + 1 => OK_act (OK_dy ok h6 k) (fun q hq => by rw [dyT_hi (by omega), dyT_hi (by omega)]) (WF_dyT ok.1 h6 (k + 1))
theorem x_idle_loop {T I0 I1 : TT} {A : List TT} {rz rl : TT} {it : Nat → Nat → Int32} {tn : Nat} {tp : TT} {ft fs cn : Nat} {ct : TT} (ok : OKV (T, I0, I1, A, rz, rl, it, tn, tp, ft, fs, cn, ct)) (h6 : T 6 = 1) (d : Nat) {n : Nat} (hn : n ≤ T 1) : ∀ (m k : Nat) (σ : Sg), k + m = n → XR σ (dyT T k, I0, I1, dyA A T k, rz, rl, it, tn, tp, ft, fs, cn, ct) → ∃ σ', exec (d + 1) mX6_idle 43 [.ref 0, .int (nI n), .int (nI k)] [] σ = some (some (.int (nI (T 1 - n))), σ') ∧ XR σ' (dyT T n, I0, I1, dyA A T n, rz, rl, it, tn, tp, ft, fs, cn, ct) ∧ ∀ a, 50 ≤ a → σ' a = σ a
  | 0, k, σ, h, hx => by
    have hk : k = n := by omega
    subst hk
    have w1 := ok.1.1
    refine ⟨σ, ?_, hx, fun _ _ => rfl⟩
    have hd : σ 8 2 = nI (T 1 - k) := (XT8 hx.1).2.2.1
    rw [hX6_idle_43]
    simp (disch := omega) only [kX6_idle_0, kX6_idle_1, eq_self, Nat.reduceEqDiff, Nat.one_ne_zero, Nat.zero_ne_one, z_0, z_lt, z_le, z_eq, z_add, z_mul, z_inb, z_cl, z_b0, z_b1, z_b01, z_b010, z_b011, kb_v, kb_n, List.cons_append, List.nil_append, if_true, if_false, ↓reduceIte, Bool.false_eq_true, Bool.true_eq_false, decide_eq_true_eq, decide_eq_false_iff_not, not_false_eq_true, hd]
    rw [if_pos (by omega)]
  | m + 1, k, σ, h, hx => by
    have w1 := ok.1.1
    have okk := OK_dy ok h6 k
    have hT := hx.1
    obtain ⟨σ1, e1, e2, e3⟩ := x_keep hT hx.2.2.2.1 okk.2.2.2.1 d
    have hT1 : XT σ1 8 (dyT T k) := XT_cg hT (fun q _ _ => e3 q (by omega) (by omega))
    obtain ⟨g0, g1, g2, g3, g4, g5, g6, g7, g8, -⟩ := XT8 hT1
    have g2' : σ1 8 2 = nI (T 1 - k) := g2
    have hx1 : XR (up σ1 8 2 (nI (T 1 - k - 1))) (dyT T (k + 1), I0, I1, dyA A T (k + 1), rz, rl, it, tn, tp, ft, fs, cn, ct) := by
      refine XR_act hx (XT_mk hT1 (fun k hk => by rw [dyT_hi (by omega), dyT_hi (by omega)]) (fun q hq => by simp only [up_of hq]) ?_ ?_ ?_ ?_ ?_ ?_ ?_ ?_ ?_) ?_ (fun q q1 q2 q3 => by simp (disch := omega) only [up_of]; exact e3 q q2 q3)
      · simp (disch := omega) only [up_s, up_k, up_j]
      · simp (disch := omega) only [up_s, up_k, up_j]
      · simp (disch := omega) only [up_s, up_k, up_j]
      · simp (disch := omega) only [up_s, up_k, up_j]; rw [g1]; rfl
      · simp (disch := omega) only [up_s, up_k, up_j]; rfl
      · simp (disch := omega) only [up_s, up_k, up_j]; rw [g3]; rfl
      · simp (disch := omega) only [up_s, up_k, up_j]; rw [g6]; rfl
      · simp (disch := omega) only [up_s, up_k, up_j]; rw [g7]; rfl
      · simp (disch := omega) only [up_s, up_k, up_j]; rw [g8]; rfl
      · unfold XA; simp (disch := omega) only [up_of]; exact e2
    obtain ⟨σ', f1, f2, f3⟩ := x_idle_loop ok h6 d hn m (k + 1) _ (by omega) hx1
    refine ⟨σ', ?_, f2, fun a ha => by rw [f3 a ha, up_of (by omega), e3 a (by omega) (by omega)]⟩
    rw [hX6_idle_43]
    simp (disch := omega) only [kX6_idle_0, kX6_idle_1, eq_self, Nat.reduceEqDiff, Nat.one_ne_zero, Nat.zero_ne_one, z_0, z_lt, z_le, z_eq, z_add, z_mul, z_inb, z_cl, z_b0, z_b1, z_b01, z_b010, z_b011, kb_v, kb_n, List.cons_append, List.nil_append, if_true, if_false, ↓reduceIte, Bool.false_eq_true, Bool.true_eq_false, decide_eq_true_eq, decide_eq_false_iff_not, not_false_eq_true, e1, g2', z_sub]
    rw [if_neg (by omega)]
    exact f1
theorem m_idle_loop {T I0 I1 : TT} {A : List TT} {rz rl : TT} {it : Nat → Nat → Int32} {tn : Nat} {tp : TT} {ft fs cn : Nat} {ct : TT} (ok : OKV (T, I0, I1, A, rz, rl, it, tn, tp, ft, fs, cn, ct)) (h6 : T 6 = 1) (d : Nat) {n : Nat} (hn : n ≤ T 1) : ∀ (m k : Nat) (σ : Sg), k + m = n → MR σ (dyT T k, I0, I1, dyA A T k, rz, rl, it, tn, tp, ft, fs, cn, ct) → ∃ σ', exec (d + 1) mX7_idle 40 [.ref 50, .int (nI n), .int (nI k)] [] σ = some (some (.int (nI (T 1 - n))), σ') ∧ MR σ' (dyT T n, I0, I1, dyA A T n, rz, rl, it, tn, tp, ft, fs, cn, ct) ∧ ∀ a, a < 50 ∨ 66 ≤ a → σ' a = σ a
  | 0, k, σ, h, hx => by
    have hk : k = n := by omega
    subst hk
    have w1 := ok.1.1
    refine ⟨σ, ?_, hx, fun _ _ => rfl⟩
    have hd : σ 51 1 = nI (T 1 - k) := (MT0 hx.1).2.1
    rw [hX7_idle_40]
    simp (disch := omega) only [kX7_idle_0, kX7_idle_1, eq_self, Nat.reduceEqDiff, Nat.one_ne_zero, Nat.zero_ne_one, z_0, z_lt, z_le, z_eq, z_add, z_mul, z_inb, z_cl, z_b0, z_b1, z_b01, z_b010, z_b011, kb_v, kb_n, List.cons_append, List.nil_append, if_true, if_false, ↓reduceIte, Bool.false_eq_true, Bool.true_eq_false, decide_eq_true_eq, decide_eq_false_iff_not, not_false_eq_true, hd]
    rw [if_pos (by omega)]
  | m + 1, k, σ, h, hx => by
    have w1 := ok.1.1
    have okk := OK_dy ok h6 k
    have wk := okk.1.1
    have hT := hx.1
    obtain ⟨σ1, e1, e2, e3, e4⟩ := m_minds (T := dyT T k) (fun k hk => by have := hT.1 k (by omega); rwa [Nat.zero_add] at this) hx.2.2.2.2.1 okk.2.2.2.1 d
    have hT1 : MT σ1 0 (dyT T k) := MT_same hT (e4 51 (by omega) (by omega))
    obtain ⟨g0, g1, g2, g3, g4, g5, g6, g7, g8, -⟩ := MT0 hT1
    have g1' : σ1 51 1 = nI (T 1 - k) := g1
    have hx1 : MR (up σ1 51 1 (nI (T 1 - k - 1))) (dyT T (k + 1), I0, I1, dyA A T (k + 1), rz, rl, it, tn, tp, ft, fs, cn, ct) := by
      refine MR_act okk hx (MT_mk (by omega) (by omega) hT1 (fun k hk => by rw [dyT_hi (by omega), dyT_hi (by omega)]) (fun j j1 _ => by simp (disch := omega) only [up_j]) (fun k hk => ?_)) ?_ (fun j hj => by simp (disch := omega) only [up_j]; rw [e4 51 (by omega) (by omega)]) (fun q hq => by simp (disch := omega) only [up_k]; exact e3 q hq) (fun q q1 q2 q3 => by simp (disch := omega) only [up_of]; exact e4 q q1 q3)
      · rcases (show k = 0 ∨ k = 1 ∨ k = 2 ∨ k = 3 ∨ k = 4 ∨ k = 5 by omega) with rfl | rfl | rfl | rfl | rfl | rfl
        all_goals simp (disch := omega) only [up_s, up_k, up_j]
        all_goals first | rfl | (rw [g0]; rfl) | (rw [g2]; rfl) | (rw [g3]; rfl) | (rw [g4]; rfl) | (rw [g5]; rfl)
      · unfold MA; simp (disch := omega) only [up_of]; exact e2
    obtain ⟨σ', f1, f2, f3⟩ := m_idle_loop ok h6 d hn m (k + 1) _ (by omega) hx1
    refine ⟨σ', ?_, f2, fun a ha => by rw [f3 a ha, up_of (by omega), e4 a (by omega) (by omega)]⟩
    rw [hX7_idle_40]
    simp (disch := omega) only [kX7_idle_0, kX7_idle_1, eq_self, Nat.reduceEqDiff, Nat.one_ne_zero, Nat.zero_ne_one, z_0, z_lt, z_le, z_eq, z_add, z_mul, z_inb, z_cl, z_b0, z_b1, z_b01, z_b010, z_b011, kb_v, kb_n, List.cons_append, List.nil_append, if_true, if_false, ↓reduceIte, Bool.false_eq_true, Bool.true_eq_false, decide_eq_true_eq, decide_eq_false_iff_not, not_false_eq_true, e1, g1', z_sub]
    rw [if_neg (by omega)]
    exact f1
theorem b_idle (a : Int32) : BO mX6_idle mX7_idle [.int a] := by
  rintro ⟨T, I0, I1, A, rz, rl, it, tn, tp, ft, fs, cn, ct⟩ ok
  have w : WF T := ok.1
  have w1 := w.1
  rcases (show T 6 = 0 ∨ T 6 = 1 by omega) with h6 | h6
  · refine ⟨.int (-1000002), _, XO_id fun σ d h => ?_, MO_id fun σ d h => ?_, ok⟩
    · have hT := h.1
      rw [aX6_idle_0]
      simp (disch := omega) only [kX6_idle_0, kX6_idle_1, eq_self, Nat.reduceEqDiff, Nat.one_ne_zero, Nat.zero_ne_one, z_0, z_lt, z_le, z_eq, z_add, z_mul, z_inb, z_cl, z_b0, z_b1, z_b01, z_b010, z_b011, kb_v, kb_n, List.cons_append, List.nil_append, if_true, if_false, ↓reduceIte, Bool.false_eq_true, Bool.true_eq_false, decide_eq_true_eq, decide_eq_false_iff_not, not_false_eq_true, XT8 hT, h6]
    · have hT := h.1
      rw [aX7_idle_50]
      simp (disch := omega) only [kX7_idle_0, kX7_idle_1, eq_self, Nat.reduceEqDiff, Nat.one_ne_zero, Nat.zero_ne_one, z_0, z_lt, z_le, z_eq, z_add, z_mul, z_inb, z_cl, z_b0, z_b1, z_b01, z_b010, z_b011, kb_v, kb_n, List.cons_append, List.nil_append, if_true, if_false, ↓reduceIte, Bool.false_eq_true, Bool.true_eq_false, decide_eq_true_eq, decide_eq_false_iff_not, not_false_eq_true, m_isTrial hT w, h6]
  · by_cases ha : inr a 1 20 = true
    · obtain ⟨n, hn1, hn2, rfl⟩ := (inr_t (by omega)).mp ha
      by_cases hd : n ≤ T 1
      · refine ⟨.int (nI (T 1 - n)), (dyT T n, I0, I1, dyA A T n, rz, rl, it, tn, tp, ft, fs, cn, ct), fun σ d h => ?_, fun σ d h => ?_, OK_dy ok h6 n⟩
        · have hT := h.1
          obtain ⟨σ', e1, e2, e3⟩ := x_idle_loop ok h6 (d + 28) hd n 0 σ (by omega) (by rw [dyT_0]; exact h)
          refine ⟨σ', ?_, e2, e3⟩
          rw [aX6_idle_0]
          simp (disch := omega) only [kX6_idle_0, kX6_idle_1, eq_self, Nat.reduceEqDiff, Nat.one_ne_zero, Nat.zero_ne_one, z_0, z_lt, z_le, z_eq, z_add, z_mul, z_inb, z_cl, z_b0, z_b1, z_b01, z_b010, z_b011, kb_v, kb_n, List.cons_append, List.nil_append, if_true, if_false, ↓reduceIte, Bool.false_eq_true, Bool.true_eq_false, decide_eq_true_eq, decide_eq_false_iff_not, not_false_eq_true, XT8 hT, h6]
          repeat first | rw [if_neg (by omega)] | rw [if_pos (by omega)]
          exact e1
        · have hT := h.1
          obtain ⟨σ', e1, e2, e3⟩ := m_idle_loop ok h6 (d + 28) hd n 0 σ (by omega) (by rw [dyT_0]; exact h)
          refine ⟨σ', ?_, e2, e3⟩
          rw [aX7_idle_50]
          simp (disch := omega) only [kX7_idle_0, kX7_idle_1, eq_self, Nat.reduceEqDiff, Nat.one_ne_zero, Nat.zero_ne_one, z_0, z_lt, z_le, z_eq, z_add, z_mul, z_inb, z_cl, z_b0, z_b1, z_b01, z_b010, z_b011, kb_v, kb_n, List.cons_append, List.nil_append, if_true, if_false, ↓reduceIte, Bool.false_eq_true, Bool.true_eq_false, decide_eq_true_eq, decide_eq_false_iff_not, not_false_eq_true, m_isTrial hT w, MT0 hT, h6, m_in, lN_tI, Int32.toInt_toInt64, z_tI]
          repeat first | rw [if_neg (by omega)] | rw [if_pos (by omega)]
          exact e1
      · refine ⟨.int (-1000002), _, XO_id fun σ d h => ?_, MO_id fun σ d h => ?_, ok⟩
        · have hT := h.1
          rw [aX6_idle_0]
          simp (disch := omega) only [kX6_idle_0, kX6_idle_1, eq_self, Nat.reduceEqDiff, Nat.one_ne_zero, Nat.zero_ne_one, z_0, z_lt, z_le, z_eq, z_add, z_mul, z_inb, z_cl, z_b0, z_b1, z_b01, z_b010, z_b011, kb_v, kb_n, List.cons_append, List.nil_append, if_true, if_false, ↓reduceIte, Bool.false_eq_true, Bool.true_eq_false, decide_eq_true_eq, decide_eq_false_iff_not, not_false_eq_true, XT8 hT, h6]
          repeat first | rw [if_neg (by omega)] | rw [if_pos (by omega)]
        · have hT := h.1
          rw [aX7_idle_50]
          simp (disch := omega) only [kX7_idle_0, kX7_idle_1, eq_self, Nat.reduceEqDiff, Nat.one_ne_zero, Nat.zero_ne_one, z_0, z_lt, z_le, z_eq, z_add, z_mul, z_inb, z_cl, z_b0, z_b1, z_b01, z_b010, z_b011, kb_v, kb_n, List.cons_append, List.nil_append, if_true, if_false, ↓reduceIte, Bool.false_eq_true, Bool.true_eq_false, decide_eq_true_eq, decide_eq_false_iff_not, not_false_eq_true, m_isTrial hT w, MT0 hT, h6, m_in, lN_tI, Int32.toInt_toInt64, z_tI]
          repeat first | rw [if_neg (by omega)] | rw [if_pos (by omega)]
    · have ha' : ¬ (((1 : Nat) : Int) ≤ a.toInt ∧ a.toInt ≤ ((20 : Nat) : Int)) := fun q => ha (decide_eq_true q)
      refine ⟨.int (-1000001), _, XO_id fun σ d h => ?_, MO_id fun σ d h => ?_, ok⟩
      · have hT := h.1
        rw [aX6_idle_0]
        simp (disch := omega) only [kX6_idle_0, kX6_idle_1, eq_self, z_eq, XT8 hT, h6, lt_I, le_I, z_tI, Nat.one_ne_zero, if_false]
        (repeat' split) <;> first | rfl | (exfalso; omega)
      · have hT := h.1
        rw [aX7_idle_50]
        simp (disch := omega) only [kX7_idle_0, kX7_idle_1, eq_self, Nat.reduceEqDiff, Nat.one_ne_zero, Nat.zero_ne_one, z_0, z_lt, z_le, z_eq, z_add, z_mul, z_inb, z_cl, z_b0, z_b1, z_b01, z_b010, z_b011, kb_v, kb_n, List.cons_append, List.nil_append, if_true, if_false, ↓reduceIte, Bool.false_eq_true, Bool.true_eq_false, decide_eq_true_eq, decide_eq_false_iff_not, not_false_eq_true, m_isTrial hT w, h6, m_in, lN_tI, Int32.toInt_toInt64]
        rw [if_pos (by omega)]
