/-! whereIs -/
def alB (P : Nat → Bool) : Nat → Bool
  | 0 => true
  | n + 1 => alB P n && P n
theorem alB_f {P : Nat → Bool} {k : Nat} (hp : P k = false) : ∀ n, k < n → alB P n = false
  | 0, h => by omega
  | n + 1, h => by
    rw [alB]
    by_cases q : k = n
    · subst q; rw [hp, Bool.and_false]
    · rw [alB_f hp n (by omega), Bool.false_and]
theorem hld_t {sz n : Nat} {a : Int32} (hn : n < 1000) (hz : sz < 1000) (h : hld sz a (nI n) = true) : ∃ i, i + n ≤ sz ∧ a = nI i := by
  unfold hld at h
  rw [decide_eq_true_iff, z_tI (by omega)] at h
  obtain ⟨j, hj, rfl⟩ := (isin_t (a := a) (n := sz + 1) (by omega)).mp (decide_eq_true ⟨h.1, by omega⟩)
  rw [z_tI (by omega)] at h
  exact ⟨j, by omega, rfl⟩
theorem mfit_hld {sz n : Nat} (hn : n < 1000) (a : Int32) : mfit sz a (nI n) = hld sz a (nI n) := by
  unfold mfit hld
  rw [z_tI (by omega)]
  apply decide_eq_decide.mpr
  omega
theorem neg1 : (nI 0 ≤ (-1000010 - nI 1 : Int32)) ↔ False := by decide
theorem neg2 : (nI 0 ≤ (-1000010 - nI 2 : Int32)) ↔ False := by decide
theorem neg3 : (nI 0 ≤ (-1 : Int32)) ↔ False := by decide
theorem m_against0 {σ : Sg} {rz rl : TT} {it : Nat → Nat → Int32} (h : MW σ rz rl it) (d : Nat) {r : Nat} (hr : r < 8) (h0 : rz r = 0) (a b : Int32) : cal (d + 2) mX7_against [.ref 50, .int (nI r), .int a, .int b] σ = some (some (.int (-1000010 - nI 1)), up σ 50 7 (nI 1)) := by
  have hs := h.1 r hr
  rw [if_pos h0] at hs
  rw [aX7_against_50]
  simp (disch := omega) only [kX7_against, hs, eq_self, Nat.reduceEqDiff, Nat.one_ne_zero, Nat.zero_ne_one, z_0, z_lt, z_le, z_eq, z_add, z_mul, z_inb, z_cl, z_b0, z_b1, z_b01, z_b010, z_b011, kb_v, kb_n, List.cons_append, List.nil_append, if_true, if_false, ↓reduceIte, Bool.false_eq_true, Bool.true_eq_false, decide_eq_true_eq, decide_eq_false_iff_not, not_false_eq_true, neg3, m_found]
theorem m_against1 {σ : Sg} {rz rl : TT} {it : Nat → Nat → Int32} (h : MW σ rz rl it) (d : Nat) {r n : Nat} (hr : r < 8) (h0 : rz r ≠ 0) (h1 : rz r ≤ 41) (hn : n < 1000) (a : Int32) (hh : hld (rz r - 1) a (nI n) = false) : cal (d + 2) mX7_against [.ref 50, .int (nI r), .int a, .int (nI n)] σ = some (some (.int (-1000010 - nI 2)), up σ 50 7 (nI 2)) := by
  have hs := h.1 r hr
  rw [if_neg h0] at hs
  rw [aX7_against_50]
  simp (disch := omega) only [kX7_against, hs, eq_self, Nat.reduceEqDiff, Nat.one_ne_zero, Nat.zero_ne_one, z_0, z_lt, z_le, z_eq, z_add, z_mul, z_inb, z_cl, z_b0, z_b1, z_b01, z_b010, z_b011, kb_v, kb_n, List.cons_append, List.nil_append, if_true, if_false, ↓reduceIte, Bool.false_eq_true, Bool.true_eq_false, decide_eq_true_eq, decide_eq_false_iff_not, not_false_eq_true, m_fits, mfit_hld, hh, m_found, Nat.zero_le]
theorem m_against2 {σ : Sg} {rz rl : TT} {it : Nat → Nat → Int32} (h : MW σ rz rl it) (d : Nat) {r n : Nat} (hr : r < 8) (h0 : rz r ≠ 0) (h1 : rz r ≤ 41) (hn : n < 1000) (a : Int32) (hh : hld (rz r - 1) a (nI n) = true) : cal (d + 2) mX7_against [.ref 50, .int (nI r), .int a, .int (nI n)] σ = some (some (.int (nI 0)), σ) := by
  have hs := h.1 r hr
  rw [if_neg h0] at hs
  rw [aX7_against_50]
  simp (disch := omega) only [kX7_against, hs, eq_self, Nat.reduceEqDiff, Nat.one_ne_zero, Nat.zero_ne_one, z_0, z_lt, z_le, z_eq, z_add, z_mul, z_inb, z_cl, z_b0, z_b1, z_b01, z_b010, z_b011, kb_v, kb_n, List.cons_append, List.nil_append, if_true, if_false, ↓reduceIte, Bool.false_eq_true, Bool.true_eq_false, decide_eq_true_eq, decide_eq_false_iff_not, not_false_eq_true, m_fits, mfit_hld, hh, m_found, Nat.zero_le]
def whp (T : TT) (g : Nat → Int32) (s : Nat) : Nat → Bool := fun e => decide (nI (fnd T e s) = g e)
def whq (T : TT) (g : Nat → Int32) (s : Nat) : Bool := decide (ndn s (T 3) = 0) && alB (whp T g s) (T 8)
def lst (Q : Nat → Bool) : Nat → Option Nat
  | 0 => none
  | k + 1 => if (Q k && decide (cnt Q k = 0)) = true then some k else lst Q k
theorem lst_s (Q : Nat → Bool) (k : Nat) : lst Q (k + 1) = if (Q k && decide (cnt Q k = 0)) = true then some k else lst Q k := rfl
theorem cnt_s (Q : Nat → Bool) (k : Nat) : cnt Q (k + 1) = cnt Q k + (Q k).toNat := rfl
theorem lst_hi {Q : Nat → Bool} {n : Nat} : ∀ k, (∀ i, n ≤ i → Q i = false) → lst Q (n + k) = lst Q n
  | 0, _ => rfl
  | k + 1, h => by rw [← Nat.add_assoc, lst, lst_hi k h, h (n + k) (by omega)]; rfl
theorem x_ft_loop {σ : Sg} {T rz rl : TT} {it : Nat → Nat → Int32} (h : XT σ 8 T) (w : WF T) (hw : XW σ rz rl it) (d : Nat) {r i s : Nat} (hr : r < 8) (h1 : rz r ≤ 41) (hi : i + T 8 < rz r) (hs : s < 128) : ∀ m k, k + m = T 8 → alB (whp T (fun e => it r (i + e)) s) k = true → exec (d + 2) mX6_isFoundAsTold 3 [.ref 0, .int (nI r), .int (nI i), .int (nI s), .int (nI k)] [] σ = some (some (.int (nI (alB (whp T (fun e => it r (i + e)) s) (T 8)).toNat)), σ)
  | 0, k, hk, ha => by
    have w1 := w.1
    obtain rfl : k = T 8 := by omega
    rw [hX6_isFoundAsTold_3]
    simp (disch := omega) only [kX6_isFoundAsTold, XT8 h, eq_self, Nat.reduceEqDiff, Nat.one_ne_zero, Nat.zero_ne_one, z_0, z_lt, z_le, z_eq, z_add, z_mul, z_inb, z_cl, z_b0, z_b1, z_b01, z_b010, z_b011, kb_v, kb_n, List.cons_append, List.nil_append, if_true, if_false, ↓reduceIte, Bool.false_eq_true, Bool.true_eq_false, decide_eq_true_eq, decide_eq_false_iff_not, not_false_eq_true, Nat.le_refl]
    rw [ha]
    rfl
  | m + 1, k, hk, ha => by
    have w1 := w.1
    have ih := x_ft_loop h w hw d hr h1 hi hs m (k + 1) (by omega)
    rw [alB, ha, Bool.true_and] at ih
    rw [hX6_isFoundAsTold_3]
    simp (disch := omega) only [kX6_isFoundAsTold, XT8 h, eq_self, Nat.reduceEqDiff, Nat.one_ne_zero, Nat.zero_ne_one, z_0, z_lt, z_le, z_eq, z_add, z_mul, z_inb, z_cl, z_b0, z_b1, z_b01, z_b010, z_b011, kb_v, kb_n, List.cons_append, List.nil_append, if_true, if_false, ↓reduceIte, Bool.false_eq_true, Bool.true_eq_false, decide_eq_true_eq, decide_eq_false_iff_not, not_false_eq_true, x_finds h w, x_item hw]
    rw [if_neg (by omega)]
    by_cases q : nI (fnd T k s) = it r (i + k)
    · simp only [q, if_true]
      exact ih (decide_eq_true q)
    · rw [alB_f (k := k) (decide_eq_false q) _ (by omega)]
      simp only [q, if_false, Bool.toNat_false]
theorem x_ft {σ : Sg} {T rz rl : TT} {it : Nat → Nat → Int32} (h : XT σ 8 T) (w : WF T) (hw : XW σ rz rl it) (d : Nat) {r i s : Nat} (hr : r < 8) (h1 : rz r ≤ 41) (hi : i + T 8 < rz r) (hs : s < 128) : cal (d + 3) mX6_isFoundAsTold [.ref 0, .int (nI r), .int (nI i), .int (nI s)] σ = some (some (.int (nI (alB (whp T (fun e => it r (i + e)) s) (T 8)).toNat)), σ) := by
  rw [aX6_isFoundAsTold_0]
  simp (disch := omega) only [kX6_isFoundAsTold, eq_self, Nat.reduceEqDiff, Nat.one_ne_zero, Nat.zero_ne_one, z_0, z_lt, z_le, z_eq, z_add, z_mul, z_inb, z_cl, z_b0, z_b1, z_b01, z_b010, z_b011, kb_v, kb_n, List.cons_append, List.nil_append, if_true, if_false, ↓reduceIte, Bool.false_eq_true, Bool.true_eq_false, decide_eq_true_eq, decide_eq_false_iff_not, not_false_eq_true]
  exact x_ft_loop h w hw d hr h1 hi hs (T 8) 0 (by omega) rfl
def wan (Q : Nat → Bool) (n : Nat) (c : Int32) : Int32 := if c = nI 0 then nI (cnt Q n) else opt (lst Q n)
theorem x_wh_loop {σ : Sg} {T rz rl : TT} {it : Nat → Nat → Int32} (h : XT σ 8 T) (w : WF T) (hw : XW σ rz rl it) (d : Nat) {r i : Nat} (c : Int32) (hr : r < 8) (h1 : rz r ≤ 41) (hi : i + T 8 < rz r) : ∀ m k, k + m = T 3 + 1 → exec (d + 3) mX6_whereIs 83 [.ref 0, .int (nI r), .int (nI i), .int c, .int (nI (cnt (whq T (fun e => it r (i + e))) k)), .int (opt (lst (whq T (fun e => it r (i + e))) k)), .int (nI k)] [] σ = some (some (.int (wan (whq T (fun e => it r (i + e))) (T 3 + 1) c)), up σ 0 10 (nI 0))
  | 0, k, hk => by
    have w1 := w.1
    rw [hX6_whereIs_83]
    simp (disch := omega) only [kX6_whereIs_0, kX6_whereIs_1, XT8 h, eq_self, Nat.reduceEqDiff, Nat.one_ne_zero, Nat.zero_ne_one, z_0, z_lt, z_le, z_eq, z_add, z_mul, z_inb, z_cl, z_b0, z_b1, z_b01, z_b010, z_b011, kb_v, kb_n, List.cons_append, List.nil_append, if_true, if_false, ↓reduceIte, Bool.false_eq_true, Bool.true_eq_false, decide_eq_true_eq, decide_eq_false_iff_not, not_false_eq_true, x_clean]
    rw [if_pos (by omega), show k = T 3 + 1 by omega]
    unfold wan
    split <;> rfl
  | m + 1, k, hk => by
    have w1 := w.1
    have hn1 := ndn_le k (T 3)
    have hc := cnt_le (whq T (fun e => it r (i + e))) k
    have ih := x_wh_loop h w hw d c hr h1 hi m (k + 1) (by omega)
    rw [lst_s _ k, cnt_s _ k] at ih
    rw [hX6_whereIs_83]
    simp (disch := omega) only [kX6_whereIs_0, kX6_whereIs_1, XT8 h, eq_self, Nat.reduceEqDiff, Nat.one_ne_zero, Nat.zero_ne_one, z_0, z_lt, z_le, z_eq, z_add, z_mul, z_inb, z_cl, z_b0, z_b1, z_b01, z_b010, z_b011, kb_v, kb_n, List.cons_append, List.nil_append, if_true, if_false, ↓reduceIte, Bool.false_eq_true, Bool.true_eq_false, decide_eq_true_eq, decide_eq_false_iff_not, not_false_eq_true, z_nd, x_ft h w hw]
    rw [if_neg (by omega)]
    cases q : whq T (fun e => it r (i + e)) k
    · have q' := q
      unfold whq at q'
      simp only [q, Bool.toNat_false, Nat.add_zero, Bool.false_and, Bool.false_eq_true, if_false] at ih
      rw [Bool.and_eq_false_iff] at q'
      rcases q' with q' | q'
      · rw [decide_eq_false_iff_not] at q'
        simp only [q', if_false]
        exact ih
      · simp only [q', if_true]
        split <;> exact ih
    · have q' := q
      unfold whq at q'
      rw [Bool.and_eq_true, decide_eq_true_eq] at q'
      simp only [q, Bool.toNat_true, Bool.true_and, decide_eq_true_eq] at ih
      simp only [q'.1, q'.2, if_true, Bool.true_eq_false, if_false]
      by_cases q5 : cnt (whq T (fun e => it r (i + e))) k = 0
      · rw [if_pos q5] at ih ⊢
        exact ih
      · rw [if_neg q5] at ih ⊢
        exact ih
theorem m_wi_loop {σ : Sg} {T : TT} (h : MT σ 0 T) (w : WF T) {g : Nat → Int32} (d : Nat) {r i s : Nat} (hr : r < 8) (hi : i + T 8 < 41) (hg : ∀ e, e < T 8 → σ 54 (40 * r + i + e) = g e) (hs : s < 128) (b0 : Bool) (c ba mn le : Value) : ∀ m k, k + m = T 8 → exec (d + 2) mX7_whereIs 101 [.ref 50, .int (nI r), .int (nI i), c, ba, mn, le, .int (nI s), .int (nI (b0 && alB (whp T g s) k).toNat), .int (nI k)] [] σ = exec (d + 2) mX7_whereIs 156 [.ref 50, .int (nI r), .int (nI i), c, ba, mn, le, .int (nI s), .int (nI (b0 && alB (whp T g s) (T 8)).toNat), .int (nI (T 8))] [] σ
  | 0, k, hk => by
    have w1 := w.1
    obtain rfl : k = T 8 := by omega
    rw [hX7_whereIs_101]
    simp (disch := omega) only [kX7_whereIs_0, kX7_whereIs_1, kX7_whereIs_2, MT0 h, eq_self, Nat.reduceEqDiff, Nat.one_ne_zero, Nat.zero_ne_one, z_0, z_lt, z_le, z_eq, z_add, z_mul, z_inb, z_cl, z_b0, z_b1, z_b01, z_b010, z_b011, kb_v, kb_n, List.cons_append, List.nil_append, if_true, if_false, ↓reduceIte, Bool.false_eq_true, Bool.true_eq_false, decide_eq_true_eq, decide_eq_false_iff_not, not_false_eq_true, Nat.le_refl]
  | m + 1, k, hk => by
    have w1 := w.1
    have hgk := hg k (by omega)
    refine Eq.trans ?_ (m_wi_loop h w d hr hi hg hs b0 c ba mn le m (k + 1) (by omega))
    rw [hX7_whereIs_101, alB]
    simp (disch := omega) only [kX7_whereIs_0, kX7_whereIs_1, kX7_whereIs_2, MT0 h, eq_self, Nat.reduceEqDiff, Nat.one_ne_zero, Nat.zero_ne_one, z_0, z_lt, z_le, z_eq, z_add, z_mul, z_inb, z_cl, z_b0, z_b1, z_b01, z_b010, z_b011, kb_v, kb_n, List.cons_append, List.nil_append, if_true, if_false, ↓reduceIte, Bool.false_eq_true, Bool.true_eq_false, decide_eq_true_eq, decide_eq_false_iff_not, not_false_eq_true, m_finds h w, hgk]
    rw [if_neg (by omega), ← Bool.and_assoc]
    cases q1 : b0 && alB (whp T g s) k
    · simp only [if_true, Bool.false_and, Bool.toNat_false]
    · simp only [Bool.true_eq_false, if_false, Bool.true_and]
      by_cases q : nI (fnd T k s) = g k
      · rw [if_pos q, show whp T g s k = true from decide_eq_true q]
        rfl
      · rw [if_neg q, show whp T g s k = false from decide_eq_false q]
        rfl
theorem m_wh_loop {σ : Sg} {T : TT} (h : MT σ 0 T) (w : WF T) {g : Nat → Int32} (d : Nat) {r i : Nat} (c ba : Int32) (hr : r < 8) (hi : i + T 8 < 41) (hg : ∀ e, e < T 8 → σ 54 (40 * r + i + e) = g e) : ∀ m k, k + m = 2 ^ (T 7) → ∀ x y : Value, exec (d + 2) mX7_whereIs 63 [.ref 50, .int (nI r), .int (nI i), .int c, .int ba, .int (nI (cnt (whq T g) k)), .int (opt (lst (whq T g) k)), .int (nI k), x, y] [] σ = some (some (.int (wan (whq T g) (2 ^ (T 7)) c)), up σ 50 7 (nI 0))
  | 0, k, hk => by
    intro x y
    have w1 := w.1
    have h5 := p7_le (n := T 7) (by omega)
    rw [hX7_whereIs_63]
    simp (disch := omega) only [kX7_whereIs_0, kX7_whereIs_1, kX7_whereIs_2, MT0 h, eq_self, Nat.reduceEqDiff, Nat.one_ne_zero, Nat.zero_ne_one, z_0, z_lt, z_le, z_eq, z_add, z_mul, z_inb, z_cl, z_b0, z_b1, z_b01, z_b010, z_b011, kb_v, kb_n, List.cons_append, List.nil_append, if_true, if_false, ↓reduceIte, Bool.false_eq_true, Bool.true_eq_false, decide_eq_true_eq, decide_eq_false_iff_not, not_false_eq_true, z_one, m_good]
    rw [if_pos (by omega), show k = 2 ^ (T 7) by omega]
    unfold wan
    split <;> rfl
  | m + 1, k, hk => by
    intro x y
    have w1 := w.1
    have h5 := p7_le (n := T 7) (by omega)
    have hn1 := ndn_le k (T 3)
    have hc := cnt_le (whq T g) k
    have ih := m_wh_loop h w d c ba hr hi hg m (k + 1) (by omega)
    rw [lst_s _ k, cnt_s _ k] at ih
    have hin := fun b0 => m_wi_loop h w d hr hi hg (s := k) (by omega) b0 (.int c) (.int ba) (.int (nI (cnt (whq T g) k))) (.int (opt (lst (whq T g) k))) (T 8) 0 (by omega)
    have hin1 := hin (decide (ndn k (T 3) = 0))
    rw [← whq] at hin1
    rw [hX7_whereIs_63]
    simp (disch := omega) only [kX7_whereIs_0, kX7_whereIs_1, kX7_whereIs_2, MT0 h, eq_self, Nat.reduceEqDiff, Nat.one_ne_zero, Nat.zero_ne_one, z_0, z_lt, z_le, z_eq, z_add, z_mul, z_inb, z_cl, z_b0, z_b1, z_b01, z_b010, z_b011, kb_v, kb_n, List.cons_append, List.nil_append, if_true, if_false, ↓reduceIte, Bool.false_eq_true, Bool.true_eq_false, decide_eq_true_eq, decide_eq_false_iff_not, not_false_eq_true, z_one, z_nd]
    rw [if_neg (by omega)]
    have step : exec (d + 2) mX7_whereIs 156 [.ref 50, .int (nI r), .int (nI i), .int c, .int ba, .int (nI (cnt (whq T g) k)), .int (opt (lst (whq T g) k)), .int (nI k), .int (nI (whq T g k).toNat), .int (nI (T 8))] [] σ = some (some (.int (wan (whq T g) (2 ^ (T 7)) c)), up σ 50 7 (nI 0)) := by
      simp (disch := omega) only [kX7_whereIs_0, kX7_whereIs_1, kX7_whereIs_2, MT0 h, eq_self, Nat.reduceEqDiff, Nat.one_ne_zero, Nat.zero_ne_one, z_0, z_lt, z_le, z_eq, z_add, z_mul, z_inb, z_cl, z_b0, z_b1, z_b01, z_b010, z_b011, kb_v, kb_n, List.cons_append, List.nil_append, if_true, if_false, ↓reduceIte, Bool.false_eq_true, Bool.true_eq_false, decide_eq_true_eq, decide_eq_false_iff_not, not_false_eq_true]
      cases q : whq T g k
      · simp only [q, Bool.toNat_false, Nat.add_zero, Bool.false_and, Bool.false_eq_true, if_false] at ih
        simp only [if_true, Nat.add_zero]
        exact ih _ _
      · simp only [q, Bool.toNat_true, Bool.true_and, decide_eq_true_eq] at ih
        simp only [if_false, Bool.true_eq_false]
        by_cases q5 : cnt (whq T g) k = 0
        · rw [if_pos q5] at ih ⊢
          exact ih _ _
        · rw [if_neg q5] at ih ⊢
          exact ih _ _
    rw [← step, ← hin1]
    by_cases q : ndn k (T 3) = 0
    · rw [if_pos q, decide_eq_true q]
      rfl
    · rw [if_neg q, decide_eq_false q]
      rfl
theorem b_whereIs (a b c : Int32) : BO mX6_whereIs mX7_whereIs [.int a, .int b, .int c] := by
  rintro ⟨T, I0, I1, A, rz, rl, it, tn, tp, ft, fs, cn, ct⟩ ok
  have w : WF T := ok.1
  have w1 := w.1
  rcases (show T 6 = 0 ∨ T 6 = 1 by omega) with h6 | h6
  · refine ⟨.int (-1000002), _, XO_id fun σ d h => ?_, MO_id fun σ d h => ?_, ok⟩
    · have hT := h.1
      rw [aX6_whereIs_0]
      simp (disch := omega) only [kX6_whereIs_0, kX6_whereIs_1, eq_self, Nat.reduceEqDiff, Nat.one_ne_zero, Nat.zero_ne_one, z_0, z_lt, z_le, z_eq, z_add, z_mul, z_inb, z_cl, z_b0, z_b1, z_b01, z_b010, z_b011, kb_v, kb_n, List.cons_append, List.nil_append, if_true, if_false, ↓reduceIte, Bool.false_eq_true, Bool.true_eq_false, decide_eq_true_eq, decide_eq_false_iff_not, not_false_eq_true, XT8 hT, h6]
    · have hT := h.1
      rw [aX7_whereIs_50]
      simp (disch := omega) only [kX7_whereIs_0, kX7_whereIs_1, kX7_whereIs_2, eq_self, Nat.reduceEqDiff, Nat.one_ne_zero, Nat.zero_ne_one, z_0, z_lt, z_le, z_eq, z_add, z_mul, z_inb, z_cl, z_b0, z_b1, z_b01, z_b010, z_b011, kb_v, kb_n, List.cons_append, List.nil_append, if_true, if_false, ↓reduceIte, Bool.false_eq_true, Bool.true_eq_false, decide_eq_true_eq, decide_eq_false_iff_not, not_false_eq_true, m_isTrial hT w, h6]
  by_cases hb : isin a 8 = true ∧ isin c 2 = true
  · obtain ⟨r, hr, rfl⟩ := (isin_t (by omega)).mp hb.1
    have hz := (ok.2.2.2.2.2.1 r hr).1
    by_cases h0 : rz r = 0
    · refine ⟨.int (-1000010 - nI 1), _, XO_st 1 fun σ d h => ?_, MO_st ok 1 fun σ d h => ?_, OK_st ok (by omega)⟩
      · have hT := h.1
        have hW := h.2.2.2.2.1
        have ht := hW.1 r hr
        rw [if_pos h0] at ht
        rw [aX6_whereIs_0]
        simp (disch := omega) only [kX6_whereIs_0, kX6_whereIs_1, eq_self, Nat.reduceEqDiff, Nat.one_ne_zero, Nat.zero_ne_one, z_0, z_lt, z_le, z_eq, z_add, z_mul, z_inb, z_cl, z_b0, z_b1, z_b01, z_b010, z_b011, kb_v, kb_n, List.cons_append, List.nil_append, if_true, if_false, ↓reduceIte, Bool.false_eq_true, Bool.true_eq_false, decide_eq_true_eq, decide_eq_false_iff_not, not_false_eq_true, XT8 hT, h6, e_isRow, e_isOne, hb.1, hb.2, ht, x_finding]
      · have hT := h.1
        have hW := h.2.2.2.2.2.1
        rw [aX7_whereIs_50]
        simp (disch := omega) only [kX7_whereIs_0, kX7_whereIs_1, kX7_whereIs_2, eq_self, Nat.reduceEqDiff, Nat.one_ne_zero, Nat.zero_ne_one, z_0, z_lt, z_le, z_eq, z_add, z_mul, z_inb, z_cl, z_b0, z_b1, z_b01, z_b010, z_b011, kb_v, kb_n, List.cons_append, List.nil_append, if_true, if_false, ↓reduceIte, Bool.false_eq_true, Bool.true_eq_false, decide_eq_true_eq, decide_eq_false_iff_not, not_false_eq_true, m_isTrial hT w, h6, m_isRow, m_inN, inr_0, hb.1, hb.2, MT0 hT, m_against0 hW, neg1]
    cases hh : hld (rz r - 1) b (nI (T 8))
    · refine ⟨.int (-1000010 - nI 2), _, XO_st 2 fun σ d h => ?_, MO_st ok 2 fun σ d h => ?_, OK_st ok (by omega)⟩
      · have hT := h.1
        have hW := h.2.2.2.2.1
        have ht := hW.1 r hr
        rw [if_neg h0] at ht
        rw [aX6_whereIs_0]
        simp (disch := omega) only [kX6_whereIs_0, kX6_whereIs_1, eq_self, Nat.reduceEqDiff, Nat.one_ne_zero, Nat.zero_ne_one, z_0, z_lt, z_le, z_eq, z_add, z_mul, z_inb, z_cl, z_b0, z_b1, z_b01, z_b010, z_b011, kb_v, kb_n, List.cons_append, List.nil_append, if_true, if_false, ↓reduceIte, Bool.false_eq_true, Bool.true_eq_false, decide_eq_true_eq, decide_eq_false_iff_not, not_false_eq_true, XT8 hT, h6, e_isRow, e_isOne, hb.1, hb.2, ht, x_finding, x_holds hW, hh]
      · have hT := h.1
        have hW := h.2.2.2.2.2.1
        rw [aX7_whereIs_50]
        simp (disch := first | omega | assumption) only [kX7_whereIs_0, kX7_whereIs_1, kX7_whereIs_2, eq_self, Nat.reduceEqDiff, Nat.one_ne_zero, Nat.zero_ne_one, z_0, z_lt, z_le, z_eq, z_add, z_mul, z_inb, z_cl, z_b0, z_b1, z_b01, z_b010, z_b011, kb_v, kb_n, List.cons_append, List.nil_append, if_true, if_false, ↓reduceIte, Bool.false_eq_true, Bool.true_eq_false, decide_eq_true_eq, decide_eq_false_iff_not, not_false_eq_true, m_isTrial hT w, h6, m_isRow, m_inN, inr_0, hb.1, hb.2, MT0 hT, m_against1 hW, neg2]
    · obtain ⟨i, hi, rfl⟩ := hld_t (by omega) (by omega) hh
      have h3 := w.2.1.1
      have hfh : ∀ j, T 3 + 1 ≤ j → whq T (fun e => it r (i + e)) j = false := fun j hj => by
        unfold whq
        rw [decide_eq_false (fun q => by have := ndn_0 q; omega)]
        rfl
      have hq : ∀ c, wan (whq T (fun e => it r (i + e))) (2 ^ (T 7)) c = wan (whq T (fun e => it r (i + e))) (T 3 + 1) c := fun c => by
        have q1 := cnt_big (P := whq T (fun e => it r (i + e))) (n := T 3 + 1) (2 ^ (T 7) - (T 3 + 1)) hfh
        have q2 := lst_hi (Q := whq T (fun e => it r (i + e))) (n := T 3 + 1) (2 ^ (T 7) - (T 3 + 1)) hfh
        rw [show T 3 + 1 + (2 ^ (T 7) - (T 3 + 1)) = 2 ^ (T 7) by omega] at q1 q2
        unfold wan
        rw [q1, q2]
      refine ⟨.int (wan (whq T (fun e => it r (i + e))) (2 ^ (T 7)) c), _, XO_st 0 fun σ d h => ?_, MO_st ok 0 fun σ d h => ?_, OK_st ok (by omega)⟩
      · have hT := h.1
        have hW := h.2.2.2.2.1
        have ht := hW.1 r hr
        rw [if_neg h0] at ht
        rw [aX6_whereIs_0]
        simp (disch := omega) only [kX6_whereIs_0, kX6_whereIs_1, eq_self, Nat.reduceEqDiff, Nat.one_ne_zero, Nat.zero_ne_one, z_0, z_lt, z_le, z_eq, z_add, z_mul, z_inb, z_cl, z_b0, z_b1, z_b01, z_b010, z_b011, kb_v, kb_n, List.cons_append, List.nil_append, if_true, if_false, ↓reduceIte, Bool.false_eq_true, Bool.true_eq_false, decide_eq_true_eq, decide_eq_false_iff_not, not_false_eq_true, XT8 hT, h6, e_isRow, e_isOne, hb.1, hb.2, ht, x_holds hW, hh]
        rw [hq]
        exact x_wh_loop hT w hW (d + 26) c hr hz (by omega) (T 3 + 1) 0 (by omega)
      · have hT := h.1
        have hW := h.2.2.2.2.2.1
        rw [aX7_whereIs_50]
        simp (disch := first | omega | assumption) only [kX7_whereIs_0, kX7_whereIs_1, kX7_whereIs_2, eq_self, Nat.reduceEqDiff, Nat.one_ne_zero, Nat.zero_ne_one, z_0, z_lt, z_le, z_eq, z_add, z_mul, z_inb, z_cl, z_b0, z_b1, z_b01, z_b010, z_b011, kb_v, kb_n, List.cons_append, List.nil_append, if_true, if_false, ↓reduceIte, Bool.false_eq_true, Bool.true_eq_false, decide_eq_true_eq, decide_eq_false_iff_not, not_false_eq_true, m_isTrial hT w, h6, m_isRow, m_inN, inr_0, hb.1, hb.2, MT0 hT, m_against2 hW, Nat.le_refl]
        exact m_wh_loop hT w (d + 27) c _ hr (by omega) (fun e he => by rw [Nat.add_assoc]; exact hW.2.2 r hr (i + e) (by omega)) (2 ^ (T 7)) 0 (by omega) _ _
  · refine ⟨.int (-1000001), _, XO_id fun σ d h => ?_, MO_id fun σ d h => ?_, ok⟩
    · have hT := h.1
      rw [aX6_whereIs_0]
      simp (disch := omega) only [kX6_whereIs_0, kX6_whereIs_1, eq_self, Nat.reduceEqDiff, Nat.one_ne_zero, Nat.zero_ne_one, z_0, z_lt, z_le, z_eq, z_add, z_mul, z_inb, z_cl, z_b0, z_b1, z_b01, z_b010, z_b011, kb_v, kb_n, List.cons_append, List.nil_append, if_true, if_false, ↓reduceIte, Bool.false_eq_true, Bool.true_eq_false, decide_eq_true_eq, decide_eq_false_iff_not, not_false_eq_true, XT8 hT, h6, e_isRow, e_isOne]
      cases q1 : isin a 8 <;> cases q2 : isin c 2 <;> simp_all
    · have hT := h.1
      rw [aX7_whereIs_50]
      simp (disch := omega) only [kX7_whereIs_0, kX7_whereIs_1, kX7_whereIs_2, eq_self, Nat.reduceEqDiff, Nat.one_ne_zero, Nat.zero_ne_one, z_0, z_lt, z_le, z_eq, z_add, z_mul, z_inb, z_cl, z_b0, z_b1, z_b01, z_b010, z_b011, kb_v, kb_n, List.cons_append, List.nil_append, if_true, if_false, ↓reduceIte, Bool.false_eq_true, Bool.true_eq_false, decide_eq_true_eq, decide_eq_false_iff_not, not_false_eq_true, m_isTrial hT w, h6, m_isRow, m_inN, inr_0]
      cases q1 : isin a 8 <;> cases q2 : isin c 2 <;> simp_all
