/-! who -/
def alF (P : Nat → Bool) : Nat → Nat → Bool
  | _, 0 => true
  | k, m + 1 => P k && alF P (k + 1) m
theorem alF_t {P : Nat → Bool} : ∀ m k, alF P k m = true → ∀ j, k ≤ j → j < k + m → P j = true
  | 0, k, _, j, h1, h2 => by omega
  | m + 1, k, h, j, h1, h2 => by
    rw [alF, Bool.and_eq_true] at h
    by_cases q : j = k
    · rw [q]; exact h.1
    · exact alF_t m (k + 1) h.2 j (by omega) (by omega)
abbrev i21 (g : Nat → Int32) : Nat → Bool := fun k => isin (g k) 21
def wop (T : TT) (p kd : Nat) (sk : TT) (g1 g2 : Nat → Int32) : Nat → Bool := fun k => decide (nI (tak kd (T (16 + p)) (T (23 + p)) (sk k)) = g1 k) && decide (nI (fla kd (T (16 + p)) (sk k)).toNat = g2 k)
def woq (T : TT) (p n : Nat) (sk : TT) (g1 g2 : Nat → Int32) : Nat → Bool := fun kd => decide (1 ≤ kd) && alB (wop T p kd sk g1 g2) n
theorem woq1 (T : TT) (p n : Nat) (sk : TT) (g1 g2 : Nat → Int32) : bse (woq T p n sk g1 g2) 1 = 0 := by simp [bse, woq]
theorem x_tt_loop {σ : Sg} {T rz rl : TT} {it : Nat → Nat → Int32} (h : XT σ 8 T) (w : WF T) (hw : XW σ rz rl it) (d : Nat) {p kd r i n : Nat} {sk : TT} {g1 g2 : Nat → Int32} (hp : p < T 7) (hkd : kd < 6) (hr : r < 8) (h1 : rz r ≤ 41) (hi : i + 3 * n < rz r) (hg : ∀ k, k < n → it r (i + 3 * k) = nI (sk k) ∧ sk k ≤ 20 ∧ it r (i + 3 * k + 1) = g1 k ∧ it r (i + 3 * k + 2) = g2 k) : ∀ m k, k + m = n → alB (wop T p kd sk g1 g2) k = true → ∀ x y z : Value, exec (d + 2) mX6_isTakenAsTold 3 [.ref 0, .int (nI p), .int (nI kd), .int (nI r), .int (nI i), .int (nI n), .int (nI k), x, y, z] [] σ = some (some (.int (nI (alB (wop T p kd sk g1 g2) n).toNat)), σ)
  | 0, k, hk, ha => by
    intro x y z
    obtain rfl : k = n := by omega
    rw [hX6_isTakenAsTold_3]
    simp (disch := omega) only [kX6_isTakenAsTold_0, kX6_isTakenAsTold_1, eq_self, Nat.reduceEqDiff, Nat.one_ne_zero, Nat.zero_ne_one, z_0, z_lt, z_le, z_eq, z_add, z_mul, z_inb, z_cl, z_b0, z_b1, z_b01, z_b010, z_b011, kb_v, kb_n, List.cons_append, List.nil_append, if_true, if_false, ↓reduceIte, Bool.false_eq_true, Bool.true_eq_false, decide_eq_true_eq, decide_eq_false_iff_not, not_false_eq_true, Nat.le_refl]
    rw [ha]
    rfl
  | m + 1, k, hk, ha => by
    intro x y z
    have w1 := w.1
    have wp := w.2.2.2.1 p hp
    obtain ⟨e0, e3, e1, e2⟩ := hg k (by omega)
    have ih := x_tt_loop h w hw d hp hkd hr h1 hi hg m (k + 1) (by omega)
    rw [alB, ha, Bool.true_and] at ih
    rw [hX6_isTakenAsTold_3]
    simp (disch := omega) only [kX6_isTakenAsTold_0, kX6_isTakenAsTold_1, XT8 h, eq_self, Nat.reduceEqDiff, Nat.one_ne_zero, Nat.zero_ne_one, z_0, z_lt, z_le, z_eq, z_add, z_mul, z_inb, z_cl, z_b0, z_b1, z_b01, z_b010, z_b011, kb_v, kb_n, List.cons_append, List.nil_append, if_true, if_false, ↓reduceIte, Bool.false_eq_true, Bool.true_eq_false, decide_eq_true_eq, decide_eq_false_iff_not, not_false_eq_true, x_item hw, e0, e1, e2, e_flawed, e_taken]
    rw [if_neg (by omega)]
    by_cases q : nI (tak kd (T (16 + p)) (T (23 + p)) (sk k)) = g1 k
    · cases q2 : fla kd (T (16 + p)) (sk k)
      · simp only [if_true, q]
        by_cases q3 : nI 0 = g2 k
        · rw [if_pos q3]
          refine ih ?_ _ _ _
          unfold wop
          rw [q2, decide_eq_true q]
          exact decide_eq_true q3
        · have hf : wop T p kd sk g1 g2 k = false := by unfold wop; rw [q2, decide_eq_true q]; exact decide_eq_false q3
          rw [if_neg q3, alB_f hf _ (by omega)]
          rfl
      · simp only [if_false, Bool.true_eq_false, q, if_true]
        by_cases q3 : nI 1 = g2 k
        · rw [if_pos q3]
          refine ih ?_ _ _ _
          unfold wop
          rw [q2, decide_eq_true q]
          exact decide_eq_true q3
        · have hf : wop T p kd sk g1 g2 k = false := by unfold wop; rw [q2, decide_eq_true q]; exact decide_eq_false q3
          rw [if_neg q3, alB_f hf _ (by omega)]
          rfl
    · have hf : wop T p kd sk g1 g2 k = false := by unfold wop; rw [decide_eq_false q]; rfl
      rw [alB_f hf _ (by omega)]
      simp only [q, if_false, ite_self, Bool.toNat_false]
theorem x_tt {σ : Sg} {T rz rl : TT} {it : Nat → Nat → Int32} (h : XT σ 8 T) (w : WF T) (hw : XW σ rz rl it) (d : Nat) {p kd r i n : Nat} {sk : TT} {g1 g2 : Nat → Int32} (hp : p < T 7) (hkd : kd < 6) (hr : r < 8) (h1 : rz r ≤ 41) (hi : i + 3 * n < rz r) (hg : ∀ k, k < n → it r (i + 3 * k) = nI (sk k) ∧ sk k ≤ 20 ∧ it r (i + 3 * k + 1) = g1 k ∧ it r (i + 3 * k + 2) = g2 k) : cal (d + 3) mX6_isTakenAsTold [.ref 0, .int (nI p), .int (nI kd), .int (nI r), .int (nI i), .int (nI n)] σ = some (some (.int (nI (alB (wop T p kd sk g1 g2) n).toNat)), σ) := by
  rw [aX6_isTakenAsTold_0]
  simp (disch := omega) only [kX6_isTakenAsTold_0, kX6_isTakenAsTold_1, eq_self, Nat.reduceEqDiff, Nat.one_ne_zero, Nat.zero_ne_one, z_0, z_lt, z_le, z_eq, z_add, z_mul, z_inb, z_cl, z_b0, z_b1, z_b01, z_b010, z_b011, kb_v, kb_n, List.cons_append, List.nil_append, if_true, if_false, ↓reduceIte, Bool.false_eq_true, Bool.true_eq_false, decide_eq_true_eq, decide_eq_false_iff_not, not_false_eq_true]
  exact x_tt_loop h w hw d hp hkd hr h1 hi hg n 0 (by omega) rfl _ _ _
theorem x_wc_loop {σ : Sg} {rz rl : TT} {it : Nat → Nat → Int32} (hw : XW σ rz rl it) (d : Nat) {r i n : Nat} (p : Value) (hr : r < 8) (h1 : rz r ≤ 41) (hi : i + 3 * n < rz r) : ∀ m k, k + m = n → ∀ x : Value, exec (d + 3) mX6_who 74 [.ref 0, p, .int (nI r), .int (nI i), .int (nI n), .int (nI k), x] [] σ = if alF (i21 fun k => it r (i + 3 * k)) k m = true then exec (d + 3) mX6_who 124 [.ref 0, p, .int (nI r), .int (nI i), .int (nI n), .int (nI 0), .int (nI 1)] [] σ else some (some (.int (-1000001)), σ)
  | 0, k, hk => by
    intro x
    obtain rfl : k = n := by omega
    rw [hX6_who_74]
    simp (disch := omega) only [kX6_who_0, kX6_who_1, kX6_who_2, eq_self, Nat.reduceEqDiff, Nat.one_ne_zero, Nat.zero_ne_one, z_0, z_lt, z_le, z_eq, z_add, z_mul, z_inb, z_cl, z_b0, z_b1, z_b01, z_b010, z_b011, kb_v, kb_n, List.cons_append, List.nil_append, if_true, if_false, ↓reduceIte, Bool.false_eq_true, Bool.true_eq_false, decide_eq_true_eq, decide_eq_false_iff_not, not_false_eq_true, Nat.le_refl, alF]
  | m + 1, k, hk => by
    intro x
    have ih := x_wc_loop hw d p hr h1 hi m (k + 1) (by omega)
    rw [hX6_who_74]
    simp (disch := omega) only [kX6_who_0, kX6_who_1, kX6_who_2, eq_self, Nat.reduceEqDiff, Nat.one_ne_zero, Nat.zero_ne_one, z_0, z_lt, z_le, z_eq, z_add, z_mul, z_inb, z_cl, z_b0, z_b1, z_b01, z_b010, z_b011, kb_v, kb_n, List.cons_append, List.nil_append, if_true, if_false, ↓reduceIte, Bool.false_eq_true, Bool.true_eq_false, decide_eq_true_eq, decide_eq_false_iff_not, not_false_eq_true, x_item hw, lt_I, le_I, z_tI]
    rw [if_neg (by omega), alF]
    by_cases q : isin (it r (i + 3 * k)) 21 = true
    · have q' := q
      unfold isin at q'
      rw [decide_eq_true_iff] at q'
      rw [if_neg (by omega), if_pos (by omega), ih]
      simp only [i21, q, Bool.true_and]
    · have q' := q
      unfold isin at q'
      rw [decide_eq_true_iff] at q'
      simp only [i21, q, Bool.false_and, Bool.false_eq_true, if_false]
      split
      · rfl
      · rw [if_neg (by omega)]
theorem x_wo_loop {σ : Sg} {T rz rl : TT} {it : Nat → Nat → Int32} (h : XT σ 8 T) (w : WF T) (hw : XW σ rz rl it) (d : Nat) {p r i n : Nat} {sk : TT} {g1 g2 : Nat → Int32} (hp : p < T 7) (hr : r < 8) (h1 : rz r ≤ 41) (hi : i + 3 * n < rz r) (hg : ∀ k, k < n → it r (i + 3 * k) = nI (sk k) ∧ sk k ≤ 20 ∧ it r (i + 3 * k + 1) = g1 k ∧ it r (i + 3 * k + 2) = g2 k) : ∀ m k, k + m = 6 → 1 ≤ k → exec (d + 3) mX6_who 124 [.ref 0, .int (nI p), .int (nI r), .int (nI i), .int (nI n), .int (nI (bse (woq T p n sk g1 g2) k)), .int (nI k)] [] σ = some (some (.int (nI (bse (woq T p n sk g1 g2) 6))), up σ 0 10 (nI 0))
  | 0, k, hk, h0 => by
    obtain rfl : k = 6 := by omega
    rw [hX6_who_124]
    simp (disch := omega) only [kX6_who_0, kX6_who_1, kX6_who_2, eq_self, Nat.reduceEqDiff, Nat.one_ne_zero, Nat.zero_ne_one, z_0, z_lt, z_le, z_eq, z_add, z_mul, z_inb, z_cl, z_b0, z_b1, z_b01, z_b010, z_b011, kb_v, kb_n, List.cons_append, List.nil_append, if_true, if_false, ↓reduceIte, Bool.false_eq_true, Bool.true_eq_false, decide_eq_true_eq, decide_eq_false_iff_not, not_false_eq_true, x_clean, Nat.reduceLT]
  | m + 1, k, hk, h0 => by
    have hpw := pw_le (p := k) (by omega)
    have ih := x_wo_loop h w hw d hp hr h1 hi hg m (k + 1) (by omega) (by omega)
    rw [bse] at ih
    rw [hX6_who_124]
    simp (disch := first | omega | assumption) only [kX6_who_0, kX6_who_1, kX6_who_2, eq_self, Nat.reduceEqDiff, Nat.one_ne_zero, Nat.zero_ne_one, z_0, z_lt, z_le, z_eq, z_add, z_mul, z_inb, z_cl, z_b0, z_b1, z_b01, z_b010, z_b011, kb_v, kb_n, List.cons_append, List.nil_append, if_true, if_false, ↓reduceIte, Bool.false_eq_true, Bool.true_eq_false, decide_eq_true_eq, decide_eq_false_iff_not, not_false_eq_true, x_tt h w hw d (g1 := g1) (g2 := g2) (sk := sk), z_one, z_or]
    rw [if_neg (by omega)]
    cases q : alB (wop T p k sk g1 g2) n
    · rw [show woq T p n sk g1 g2 k = false by unfold woq; rw [q, Bool.and_false]] at ih
      simp only [if_true, Bool.false_eq_true, if_false, Nat.or_zero] at ih ⊢
      exact ih
    · rw [show woq T p n sk g1 g2 k = true by unfold woq; rw [q, decide_eq_true h0]; rfl] at ih
      simp only [if_true, Bool.true_eq_false, if_false] at ih ⊢
      exact ih
theorem m_wc_loop {σ : Sg} {g : Nat → Int32} (d : Nat) {r i n : Nat} (p : Value) (b : Int32) (hr : r < 8) (hi : i + 3 * n < 41) (hg : ∀ k, k < n → σ 54 (40 * r + i + 3 * k) = g k) : ∀ m k, k + m = n → ∀ x y z u v : Value, exec (d + 2) mX7_who 54 [.ref 50, p, .int (nI r), .int (nI i), .int (nI n), .int b, .int (nI k), x, y, z, u, v] [] σ = if alF (i21 g) k m = true then exec (d + 2) mX7_who 54 [.ref 50, p, .int (nI r), .int (nI i), .int (nI n), .int b, .int (nI n), x, y, z, u, v] [] σ else some (some (.int (-1000001)), σ)
  | 0, k, hk => by
    intro x y z u v
    obtain rfl : k = n := by omega
    simp only [alF, if_true]
  | m + 1, k, hk => by
    intro x y z u v
    have hgk := hg k (by omega)
    have ih := m_wc_loop d p b hr hi hg m (k + 1) (by omega) x y z u v
    rw [hX7_who_54]
    simp (disch := omega) only [kX7_who_0, kX7_who_1, kX7_who_2, kX7_who_3, eq_self, Nat.reduceEqDiff, Nat.one_ne_zero, Nat.zero_ne_one, z_0, z_lt, z_le, z_eq, z_add, z_mul, z_inb, z_cl, z_b0, z_b1, z_b01, z_b010, z_b011, kb_v, kb_n, List.cons_append, List.nil_append, if_true, if_false, ↓reduceIte, Bool.false_eq_true, Bool.true_eq_false, decide_eq_true_eq, decide_eq_false_iff_not, not_false_eq_true, hgk, m_inN, inr_0]
    rw [if_neg (by omega), alF]
    cases q : isin (g k) 21
    · simp only [i21, q, Bool.false_and, Bool.false_eq_true, if_false, if_true]
    · simp only [i21, q, Bool.true_and, Bool.true_eq_false, if_false]
      exact ih
theorem m_wj_loop {σ : Sg} {T : TT} (h : MT σ 0 T) (w : WF T) (d : Nat) {p kd r i n : Nat} {sk : TT} {g1 g2 : Nat → Int32} (hp : p < T 7) (hkd : kd < 6) (hr : r < 8) (hi : i + 3 * n < 41) (hg : ∀ k, k < n → σ 54 (40 * r + i + 3 * k) = nI (sk k) ∧ sk k ≤ 20 ∧ σ 54 (40 * r + i + 3 * k + 1) = g1 k ∧ σ 54 (40 * r + i + 3 * k + 2) = g2 k) (b s : Value) : ∀ m k, k + m = n → ∀ x y : Value, ∃ x' y' : Value, exec (d + 2) mX7_who 116 [.ref 50, .int (nI p), .int (nI r), .int (nI i), .int (nI n), b, s, .int (nI kd), .int (nI (alB (wop T p kd sk g1 g2) k).toNat), .int (nI k), x, y] [] σ = exec (d + 2) mX7_who 236 [.ref 50, .int (nI p), .int (nI r), .int (nI i), .int (nI n), b, s, .int (nI kd), .int (nI (alB (wop T p kd sk g1 g2) n).toNat), .int (nI n), x', y'] [] σ
  | 0, k, hk => by
    intro x y
    obtain rfl : k = n := by omega
    refine ⟨x, y, ?_⟩
    rw [hX7_who_116]
    simp (disch := omega) only [kX7_who_0, kX7_who_1, kX7_who_2, kX7_who_3, eq_self, Nat.reduceEqDiff, Nat.one_ne_zero, Nat.zero_ne_one, z_0, z_lt, z_le, z_eq, z_add, z_mul, z_inb, z_cl, z_b0, z_b1, z_b01, z_b010, z_b011, kb_v, kb_n, List.cons_append, List.nil_append, if_true, if_false, ↓reduceIte, Bool.false_eq_true, Bool.true_eq_false, decide_eq_true_eq, decide_eq_false_iff_not, not_false_eq_true, Nat.le_refl]
  | m + 1, k, hk => by
    intro x y
    have w1 := w.1
    have wp := w.2.2.2.1 p hp
    obtain ⟨e0, e3, e1, e2⟩ := hg k (by omega)
    obtain ⟨x', y', ih⟩ := m_wj_loop h w d hp hkd hr hi hg b s m (k + 1) (by omega) (.int (nI (40 * r + i + 3 * k))) (.int (nI (sk k)))
    refine ⟨x', y', Eq.trans ?_ ih⟩
    rw [hX7_who_116, alB]
    simp (disch := omega) only [kX7_who_0, kX7_who_1, kX7_who_2, kX7_who_3, MT0 h, eq_self, Nat.reduceEqDiff, Nat.one_ne_zero, Nat.zero_ne_one, z_0, z_lt, z_le, z_eq, z_add, z_mul, z_inb, z_cl, z_b0, z_b1, z_b01, z_b010, z_b011, kb_v, kb_n, List.cons_append, List.nil_append, if_true, if_false, ↓reduceIte, Bool.false_eq_true, Bool.true_eq_false, decide_eq_true_eq, decide_eq_false_iff_not, not_false_eq_true, e0, e1, e2, m_takesOf, m_isFaulty]
    rw [if_neg (by omega)]
    cases q0 : alB (wop T p kd sk g1 g2) k
    · simp only [if_true, Bool.false_and, Bool.toNat_false]
    · simp only [if_false, Bool.true_eq_false, Bool.true_and]
      unfold wop
      by_cases q : nI (tak kd (T (16 + p)) (T (23 + p)) (sk k)) = g1 k
      · cases q2 : fla kd (T (16 + p)) (sk k)
        · simp only [if_true, q, decide_true, Bool.true_and, Bool.toNat_false]
          by_cases q3 : nI 0 = g2 k
          · rw [if_pos q3, decide_eq_true q3]; rfl
          · rw [if_neg q3, decide_eq_false q3]; rfl
        · simp only [if_true, q, decide_true, Bool.true_and, Bool.toNat_true, Bool.true_eq_false, if_false]
          by_cases q3 : nI 1 = g2 k
          · rw [if_pos q3, decide_eq_true q3]; rfl
          · rw [if_neg q3, decide_eq_false q3]; rfl
      · simp only [q, if_false, decide_false, Bool.false_and, Bool.toNat_false]
theorem m_wo_loop {σ : Sg} {T : TT} (h : MT σ 0 T) (w : WF T) (d : Nat) {p r i n : Nat} {sk : TT} {g1 g2 : Nat → Int32} (hp : p < T 7) (hr : r < 8) (hi : i + 3 * n < 41) (hg : ∀ k, k < n → σ 54 (40 * r + i + 3 * k) = nI (sk k) ∧ sk k ≤ 20 ∧ σ 54 (40 * r + i + 3 * k + 1) = g1 k ∧ σ 54 (40 * r + i + 3 * k + 2) = g2 k) (b : Int32) : ∀ m k, k + m = 6 → 1 ≤ k → ∀ x y z u : Value, exec (d + 2) mX7_who 103 [.ref 50, .int (nI p), .int (nI r), .int (nI i), .int (nI n), .int b, .int (nI (bse (woq T p n sk g1 g2) k)), .int (nI k), x, y, z, u] [] σ = some (some (.int (nI (bse (woq T p n sk g1 g2) 6))), up σ 50 7 (nI 0))
  | 0, k, hk, h0 => by
    intro x y z u
    obtain rfl : k = 6 := by omega
    rw [hX7_who_103]
    simp (disch := omega) only [kX7_who_0, kX7_who_1, kX7_who_2, kX7_who_3, eq_self, Nat.reduceEqDiff, Nat.one_ne_zero, Nat.zero_ne_one, z_0, z_lt, z_le, z_eq, z_add, z_mul, z_inb, z_cl, z_b0, z_b1, z_b01, z_b010, z_b011, kb_v, kb_n, List.cons_append, List.nil_append, if_true, if_false, ↓reduceIte, Bool.false_eq_true, Bool.true_eq_false, decide_eq_true_eq, decide_eq_false_iff_not, not_false_eq_true, m_good, Nat.le_refl]
  | m + 1, k, hk, h0 => by
    intro x y z u
    have hpw := pw_le (p := k) (by omega)
    have ih := m_wo_loop h w d hp hr hi hg b m (k + 1) (by omega) (by omega)
    rw [bse] at ih
    rw [hX7_who_103]
    simp (disch := omega) only [kX7_who_0, kX7_who_1, kX7_who_2, kX7_who_3, eq_self, Nat.reduceEqDiff, Nat.one_ne_zero, Nat.zero_ne_one, z_0, z_lt, z_le, z_eq, z_add, z_mul, z_inb, z_cl, z_b0, z_b1, z_b01, z_b010, z_b011, kb_v, kb_n, List.cons_append, List.nil_append, if_true, if_false, ↓reduceIte, Bool.false_eq_true, Bool.true_eq_false, decide_eq_true_eq, decide_eq_false_iff_not, not_false_eq_true]
    rw [if_neg (by omega)]
    obtain ⟨x', y', e⟩ := m_wj_loop h w d hp (kd := k) (by omega) hr hi hg (.int b) (.int (nI (bse (woq T p n sk g1 g2) k))) n 0 (by omega) z u
    refine Eq.trans e ?_
    simp (disch := omega) only [kX7_who_0, kX7_who_1, kX7_who_2, kX7_who_3, eq_self, Nat.reduceEqDiff, Nat.one_ne_zero, Nat.zero_ne_one, z_0, z_lt, z_le, z_eq, z_add, z_mul, z_inb, z_cl, z_b0, z_b1, z_b01, z_b010, z_b011, kb_v, kb_n, List.cons_append, List.nil_append, if_true, if_false, ↓reduceIte, Bool.false_eq_true, Bool.true_eq_false, decide_eq_true_eq, decide_eq_false_iff_not, not_false_eq_true, z_one, z_or]
    cases q : alB (wop T p k sk g1 g2) n
    · rw [show woq T p n sk g1 g2 k = false by unfold woq; rw [q, Bool.and_false]] at ih
      simp only [if_true, Bool.false_eq_true, if_false, Nat.or_zero] at ih ⊢
      exact ih _ _ _ _
    · rw [show woq T p n sk g1 g2 k = true by unfold woq; rw [q, decide_eq_true h0]; rfl] at ih
      simp only [if_true, Bool.true_eq_false, if_false] at ih ⊢
      exact ih _ _ _ _
theorem b_who (u a b c : Int32) : BO mX6_who mX7_who [.int u, .int a, .int b, .int c] := by
  rintro ⟨T, I0, I1, A, rz, rl, it, tn, tp, ft, fs, cn, ct⟩ ok
  have w : WF T := ok.1
  have w1 := w.1
  by_cases hb : isin u (T 7) = true ∧ isin a 8 = true ∧ inr c 1 8 = true
  · obtain ⟨hb0, hb1, hb2⟩ := hb
    obtain ⟨p, hp, rfl⟩ := (isin_t (by omega)).mp hb0
    obtain ⟨r, hr, rfl⟩ := (isin_t (by omega)).mp hb1
    obtain ⟨n, hn1, hn2, rfl⟩ := (inr_t (by omega)).mp hb2
    have hz := (ok.2.2.2.2.2.1 r hr).1
    by_cases h0 : rz r = 0
    · refine ⟨.int (-1000010 - nI 1), _, XO_st 1 fun σ d h => ?_, MO_st ok 1 fun σ d h => ?_, OK_st ok (by omega)⟩
      · have hT := h.1
        have hW := h.2.2.2.2.1
        have ht := hW.1 r hr
        rw [if_pos h0] at ht
        rw [aX6_who_0]
        simp (disch := omega) only [kX6_who_0, kX6_who_1, kX6_who_2, eq_self, Nat.reduceEqDiff, Nat.one_ne_zero, Nat.zero_ne_one, z_0, z_lt, z_le, z_eq, z_add, z_mul, z_inb, z_cl, z_b0, z_b1, z_b01, z_b010, z_b011, kb_v, kb_n, List.cons_append, List.nil_append, if_true, if_false, ↓reduceIte, Bool.false_eq_true, Bool.true_eq_false, decide_eq_true_eq, decide_eq_false_iff_not, not_false_eq_true, XT8 hT, x_isPart hT w, e_isRow, hb0, hb1, ht, x_finding]
        rw [if_neg (by omega), if_pos (by omega)]
      · have hT := h.1
        have hW := h.2.2.2.2.2.1
        rw [aX7_who_50]
        simp (disch := omega) only [kX7_who_0, kX7_who_1, kX7_who_2, kX7_who_3, eq_self, Nat.reduceEqDiff, Nat.one_ne_zero, Nat.zero_ne_one, z_0, z_lt, z_le, z_eq, z_add, z_mul, z_inb, z_cl, z_b0, z_b1, z_b01, z_b010, z_b011, kb_v, kb_n, List.cons_append, List.nil_append, if_true, if_false, ↓reduceIte, Bool.false_eq_true, Bool.true_eq_false, decide_eq_true_eq, decide_eq_false_iff_not, not_false_eq_true, m_isPart hT w, m_isRow, m_inN, hb0, hb1, hb2, MT0 hT, m_against0 hW, neg1]
    cases hh : hld (rz r - 1) b (nI (3 * n))
    · refine ⟨.int (-1000010 - nI 2), _, XO_st 2 fun σ d h => ?_, MO_st ok 2 fun σ d h => ?_, OK_st ok (by omega)⟩
      · have hT := h.1
        have hW := h.2.2.2.2.1
        have ht := hW.1 r hr
        rw [if_neg h0] at ht
        rw [aX6_who_0]
        simp (disch := omega) only [kX6_who_0, kX6_who_1, kX6_who_2, eq_self, Nat.reduceEqDiff, Nat.one_ne_zero, Nat.zero_ne_one, z_0, z_lt, z_le, z_eq, z_add, z_mul, z_inb, z_cl, z_b0, z_b1, z_b01, z_b010, z_b011, kb_v, kb_n, List.cons_append, List.nil_append, if_true, if_false, ↓reduceIte, Bool.false_eq_true, Bool.true_eq_false, decide_eq_true_eq, decide_eq_false_iff_not, not_false_eq_true, XT8 hT, x_isPart hT w, e_isRow, hb0, hb1, ht, x_finding, x_holds hW, hh]
        rw [if_neg (by omega), if_pos (by omega)]
      · have hT := h.1
        have hW := h.2.2.2.2.2.1
        rw [aX7_who_50]
        simp (disch := first | omega | assumption) only [kX7_who_0, kX7_who_1, kX7_who_2, kX7_who_3, eq_self, Nat.reduceEqDiff, Nat.one_ne_zero, Nat.zero_ne_one, z_0, z_lt, z_le, z_eq, z_add, z_mul, z_inb, z_cl, z_b0, z_b1, z_b01, z_b010, z_b011, kb_v, kb_n, List.cons_append, List.nil_append, if_true, if_false, ↓reduceIte, Bool.false_eq_true, Bool.true_eq_false, decide_eq_true_eq, decide_eq_false_iff_not, not_false_eq_true, m_isPart hT w, m_isRow, m_inN, hb0, hb1, hb2, MT0 hT, m_against1 hW, neg2]
    · obtain ⟨i, hi, rfl⟩ := hld_t (by omega) (by omega) hh
      cases hal : alF (i21 fun k => it r (i + 3 * k)) 0 n
      · refine ⟨.int (-1000001), _, XO_id fun σ d h => ?_, MO_id fun σ d h => ?_, ok⟩
        · have hT := h.1
          have hW := h.2.2.2.2.1
          have ht := hW.1 r hr
          rw [if_neg h0] at ht
          rw [aX6_who_0]
          simp (disch := omega) only [kX6_who_0, kX6_who_1, kX6_who_2, eq_self, Nat.reduceEqDiff, Nat.one_ne_zero, Nat.zero_ne_one, z_0, z_lt, z_le, z_eq, z_add, z_mul, z_inb, z_cl, z_b0, z_b1, z_b01, z_b010, z_b011, kb_v, kb_n, List.cons_append, List.nil_append, if_true, if_false, ↓reduceIte, Bool.false_eq_true, Bool.true_eq_false, decide_eq_true_eq, decide_eq_false_iff_not, not_false_eq_true, XT8 hT, x_isPart hT w, e_isRow, hb0, hb1, ht, x_finding, x_holds hW, hh]
          rw [if_neg (by omega), if_pos (by omega), x_wc_loop hW (d + 26) _ hr hz (by omega) n 0 (by omega), hal, if_neg (by simp)]
        · have hT := h.1
          have hW := h.2.2.2.2.2.1
          rw [aX7_who_50]
          simp (disch := first | omega | assumption) only [kX7_who_0, kX7_who_1, kX7_who_2, kX7_who_3, eq_self, Nat.reduceEqDiff, Nat.one_ne_zero, Nat.zero_ne_one, z_0, z_lt, z_le, z_eq, z_add, z_mul, z_inb, z_cl, z_b0, z_b1, z_b01, z_b010, z_b011, kb_v, kb_n, List.cons_append, List.nil_append, if_true, if_false, ↓reduceIte, Bool.false_eq_true, Bool.true_eq_false, decide_eq_true_eq, decide_eq_false_iff_not, not_false_eq_true, m_isPart hT w, m_isRow, m_inN, hb0, hb1, hb2, MT0 hT, m_against2 hW, Nat.le_refl]
          rw [m_wc_loop (g := fun k => it r (i + 3 * k)) (d + 27) _ _ hr (by omega) (fun k hk => (by rw [Nat.add_assoc]; exact hW.2.2 r hr (i + 3 * k) (by omega))) n 0 (by omega), hal, if_neg (by simp)]
      · have hsk : ∀ k, k < n → it r (i + 3 * k) = nI ((it r (i + 3 * k)).toNatClampNeg) ∧ (it r (i + 3 * k)).toNatClampNeg ≤ 20 := fun k hk => by
          obtain ⟨j, hj, e⟩ := (isin_t (by omega)).mp (alF_t n 0 hal k (by omega) (by omega))
          replace e : it r (i + 3 * k) = nI j := e
          rw [e, z_cl (by omega)]
          exact ⟨rfl, by omega⟩
        refine ⟨.int (nI (bse (woq T p n (fun k => (it r (i + 3 * k)).toNatClampNeg) (fun k => it r (i + 3 * k + 1)) (fun k => it r (i + 3 * k + 2))) 6)), _, XO_st 0 fun σ d h => ?_, MO_st ok 0 fun σ d h => ?_, OK_st ok (by omega)⟩
        · have hT := h.1
          have hW := h.2.2.2.2.1
          have ht := hW.1 r hr
          rw [if_neg h0] at ht
          rw [aX6_who_0]
          simp (disch := omega) only [kX6_who_0, kX6_who_1, kX6_who_2, eq_self, Nat.reduceEqDiff, Nat.one_ne_zero, Nat.zero_ne_one, z_0, z_lt, z_le, z_eq, z_add, z_mul, z_inb, z_cl, z_b0, z_b1, z_b01, z_b010, z_b011, kb_v, kb_n, List.cons_append, List.nil_append, if_true, if_false, ↓reduceIte, Bool.false_eq_true, Bool.true_eq_false, decide_eq_true_eq, decide_eq_false_iff_not, not_false_eq_true, XT8 hT, x_isPart hT w, e_isRow, hb0, hb1, ht, x_finding, x_holds hW, hh]
          rw [if_neg (by omega), if_pos (by omega), x_wc_loop hW (d + 26) _ hr hz (by omega) n 0 (by omega), hal, if_pos rfl]
          refine Eq.trans (by rw [woq1]) (x_wo_loop hT w hW (d + 26) hp hr hz (by omega) (fun k hk => ⟨(hsk k hk).1, (hsk k hk).2, rfl, rfl⟩) 5 1 (by omega) (by omega))
        · have hT := h.1
          have hW := h.2.2.2.2.2.1
          rw [aX7_who_50]
          simp (disch := first | omega | assumption) only [kX7_who_0, kX7_who_1, kX7_who_2, kX7_who_3, eq_self, Nat.reduceEqDiff, Nat.one_ne_zero, Nat.zero_ne_one, z_0, z_lt, z_le, z_eq, z_add, z_mul, z_inb, z_cl, z_b0, z_b1, z_b01, z_b010, z_b011, kb_v, kb_n, List.cons_append, List.nil_append, if_true, if_false, ↓reduceIte, Bool.false_eq_true, Bool.true_eq_false, decide_eq_true_eq, decide_eq_false_iff_not, not_false_eq_true, m_isPart hT w, m_isRow, m_inN, hb0, hb1, hb2, MT0 hT, m_against2 hW, Nat.le_refl]
          rw [m_wc_loop (g := fun k => it r (i + 3 * k)) (d + 27) _ _ hr (by omega) (fun k hk => (by rw [Nat.add_assoc]; exact hW.2.2 r hr (i + 3 * k) (by omega))) n 0 (by omega), hal, if_pos rfl, hX7_who_54]
          simp (disch := omega) only [kX7_who_0, kX7_who_1, kX7_who_2, kX7_who_3, eq_self, Nat.reduceEqDiff, Nat.one_ne_zero, Nat.zero_ne_one, z_0, z_lt, z_le, z_eq, z_add, z_mul, z_inb, z_cl, z_b0, z_b1, z_b01, z_b010, z_b011, kb_v, kb_n, List.cons_append, List.nil_append, if_true, if_false, ↓reduceIte, Bool.false_eq_true, Bool.true_eq_false, decide_eq_true_eq, decide_eq_false_iff_not, not_false_eq_true, Nat.le_refl]
          refine Eq.trans (by rw [woq1]) (m_wo_loop hT w (d + 27) hp hr (by omega) (fun k hk => ⟨by rw [Nat.add_assoc, hW.2.2 r hr (i + 3 * k) (by omega)]; exact (hsk k hk).1, (hsk k hk).2, by rw [Nat.add_assoc (40 * r), Nat.add_assoc (40 * r)]; exact hW.2.2 r hr (i + 3 * k + 1) (by omega), by rw [Nat.add_assoc (40 * r), Nat.add_assoc (40 * r)]; exact hW.2.2 r hr (i + 3 * k + 2) (by omega)⟩) _ 5 1 (by omega) (by omega) _ _ _ _)
  · refine ⟨.int (-1000001), _, XO_id fun σ d h => ?_, MO_id fun σ d h => ?_, ok⟩
    · have hT := h.1
      rw [aX6_who_0]
      simp (disch := omega) only [kX6_who_0, kX6_who_1, kX6_who_2, eq_self, Nat.reduceEqDiff, Nat.one_ne_zero, Nat.zero_ne_one, z_0, z_lt, z_le, z_eq, z_add, z_mul, z_inb, z_cl, z_b0, z_b1, z_b01, z_b010, z_b011, kb_v, kb_n, List.cons_append, List.nil_append, if_true, if_false, ↓reduceIte, Bool.false_eq_true, Bool.true_eq_false, decide_eq_true_eq, decide_eq_false_iff_not, not_false_eq_true, XT8 hT, x_isPart hT w, e_isRow, lt_I, le_I, z_tI]
      cases q0 : isin u (T 7)
      · simp
      cases q1 : isin a 8
      · simp
      have q2 : ¬ (inr c 1 8 = true) := fun q => hb ⟨q0, q1, q⟩
      unfold inr at q2
      rw [decide_eq_true_iff] at q2
      simp only [Bool.true_eq_false, if_false]
      split
      · rfl
      · rw [if_neg (by omega)]
    · have hT := h.1
      rw [aX7_who_50]
      simp (disch := omega) only [kX7_who_0, kX7_who_1, kX7_who_2, kX7_who_3, eq_self, Nat.reduceEqDiff, Nat.one_ne_zero, Nat.zero_ne_one, z_0, z_lt, z_le, z_eq, z_add, z_mul, z_inb, z_cl, z_b0, z_b1, z_b01, z_b010, z_b011, kb_v, kb_n, List.cons_append, List.nil_append, if_true, if_false, ↓reduceIte, Bool.false_eq_true, Bool.true_eq_false, decide_eq_true_eq, decide_eq_false_iff_not, not_false_eq_true, m_isPart hT w, m_isRow, m_inN]
      cases q0 : isin u (T 7) <;> cases q1 : isin a 8 <;> cases q2 : inr c 1 8 <;> simp_all
