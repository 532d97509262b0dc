/-! rows -/
theorem J_add (a b : Int32) : (a.toInt64 + b.toInt64).toInt = a.toInt + b.toInt := by
  have h1 := z_bd a
  have h2 := z_bd b
  rw [Int64.toInt_add, Int32.toInt_toInt64, Int32.toInt_toInt64]
  apply Int.bmod_eq_of_le <;> omega
def hld (sz : Nat) (a b : Int32) : Bool := decide (0 ≤ a.toInt ∧ 0 ≤ b.toInt ∧ a.toInt + b.toInt ≤ (sz : Int))
theorem sub_tI {n : Nat} {b : Int32} (hn : n < 1000000) (h0 : 0 ≤ b.toInt) (h1 : b.toInt ≤ n) : (nI n - b).toInt = (n : Int) - b.toInt := by
  obtain ⟨j, hj, rfl⟩ := (isin_t (a := b) (n := n + 1) (by omega) |>.mp (decide_eq_true ⟨h0, by omega⟩))
  rw [z_sub (by omega), z_tI (by omega), z_tI (by omega)]
  omega
theorem x_holds {σ : Sg} {rz rl : TT} {it : Nat → Nat → Int32} (h : XW σ rz rl it) (d : Nat) {r : Nat} (hr : r < 8) (h0 : rz r ≠ 0) (h1 : rz r ≤ 41) (a b : Int32) : cal (d + 1) mX3_holds [.ref 1, .int (nI r), .int a, .int b] σ = some (some (.int (nI (hld (rz r - 1) a b).toNat)), σ) := by
  have hs := h.2.2.1 r hr h0
  rw [aX3_holds_1]
  simp (disch := omega) only [kX3_holds, hs, eq_self, Nat.reduceEqDiff, Nat.one_ne_zero, Nat.zero_ne_one, z_0, z_lt, z_le, z_eq, z_add, z_mul, z_inb, z_cl, z_b0, z_b1, z_b01, z_b010, z_b011, kb_v, kb_n, List.cons_append, List.nil_append, if_true, if_false, ↓reduceIte, Bool.false_eq_true, Bool.true_eq_false, decide_eq_true_eq, decide_eq_false_iff_not, not_false_eq_true, lt_I, le_I, z_tI]
  unfold hld
  by_cases q1 : a.toInt < 0
  · have q1' : ¬ (0 ≤ a.toInt) := by omega
    simp [q1, q1']
  · have q1' : 0 ≤ a.toInt := by omega
    by_cases q2 : b.toInt < 0
    · have q2' : ¬ (0 ≤ b.toInt) := by omega
      simp [q1, q2, q2']
    · by_cases q3 : ((rz r - 1 : Nat) : Int) < b.toInt
      · have q4 : ¬ (a.toInt + b.toInt ≤ ((rz r - 1 : Nat) : Int)) := by omega
        simp [q1, q2, q3, q4]
      · simp (disch := omega) only [sub_tI]
        (repeat' split) <;> first | rfl | (exfalso; omega) | (rw [decide_eq_true (by omega)]; rfl) | (rw [decide_eq_false (by omega)]; rfl) | (simp_all; done) | (exfalso; simp_all; omega)
def mfit (sz : Nat) (a b : Int32) : Bool := decide (0 ≤ a.toInt ∧ a.toInt + b.toInt ≤ (sz : Int))
theorem m_fits (d : Nat) (σ : Sg) {sz : Nat} (hz : sz < 1000) (a b : Int32) : cal (d + 1) mX7_fits [.int a, .int b, .int (nI sz)] σ = some (some (.int (nI (mfit sz a b).toNat)), σ) := by
  rw [aX7_fits]
  simp (disch := omega) only [kX7_fits, eq_self, Nat.reduceEqDiff, Nat.one_ne_zero, Nat.zero_ne_one, z_0, z_lt, z_le, z_eq, z_add, z_mul, z_inb, z_cl, z_b0, z_b1, z_b01, z_b010, z_b011, kb_v, kb_n, List.cons_append, List.nil_append, if_true, if_false, ↓reduceIte, Bool.false_eq_true, Bool.true_eq_false, decide_eq_true_eq, decide_eq_false_iff_not, not_false_eq_true, cmp_gt0, cmp_lt0, lt_J, J_add, Int32.toInt_toInt64, z_tI]
  simp (disch := omega) only [lt_I, z_tI]
  unfold mfit
  (repeat' split) <;> first | rfl | (exfalso; omega) | (rw [decide_eq_true (by omega)]; rfl) | (rw [decide_eq_false (by omega)]; rfl) | (simp_all; done) | (exfalso; simp_all; omega)
theorem x_item {σ : Sg} {rz rl : TT} {it : Nat → Nat → Int32} (h : XW σ rz rl it) (d : Nat) {r i : Nat} (hr : r < 8) (h1 : rz r ≤ 41) (hi : i + 1 < rz r) : cal (d + 2) mX3_item [.ref 1, .int (nI r), .int (nI i)] σ = some (some (.int (it r i)), σ) := by
  have hq : hld (rz r - 1) (nI i) (nI 1) = true := by
    unfold hld
    simp (disch := omega) only [z_tI]
    exact decide_eq_true ⟨by omega, by omega, by omega⟩
  have hv := h.2.2.2 r hr i hi
  rw [aX3_item_1]
  simp (disch := omega) only [kX3_item, eq_self, Nat.reduceEqDiff, Nat.one_ne_zero, Nat.zero_ne_one, z_0, z_lt, z_le, z_eq, z_add, z_mul, z_inb, z_cl, z_b0, z_b1, z_b01, z_b010, z_b011, kb_v, kb_n, List.cons_append, List.nil_append, if_true, if_false, ↓reduceIte, Bool.false_eq_true, Bool.true_eq_false, decide_eq_true_eq, decide_eq_false_iff_not, not_false_eq_true, x_holds h, hq, hv]
/-- row -/
def fzr (f : Nat → Int32) (b e : Nat) : Nat → Int32 := fun j => if b ≤ j ∧ j < e then nI 0 else f j
theorem fzr_step {σ : Sg} {k b e : Nat} (h : b < e) : upf (up σ k b (nI 0)) k (fzr ((up σ k b (nI 0)) k) (b + 1) e) = upf σ k (fzr (σ k) b e) := by
  rw [up_upf]
  congr 1
  funext j
  unfold fzr up
  by_cases q : j = b
  · subst q
    rw [if_neg (by omega), if_pos ⟨rfl, rfl⟩, if_pos (by omega)]
  · by_cases q2 : b + 1 ≤ j ∧ j < e
    · rw [if_pos q2, if_pos (by omega)]
    · rw [if_neg q2, if_neg (by omega), if_neg (by omega)]
theorem fzr_end {σ : Sg} {k b : Nat} : upf σ k (fzr (σ k) b b) = σ := by
  funext a
  by_cases h : a = k
  · subst h
    rw [upf_s]
    funext j
    unfold fzr
    rw [if_neg (by omega)]
  · rw [upf_k h]
theorem x_lay_loop (d : Nat) {r n : Nat} (l : Int32) (hr : r < 8) (hn : n ≤ 40) : ∀ (m i : Nat) (σ : Sg), i + m = n → exec d mX3_lay 24 [.ref 1, .int (nI r), .int l, .int (nI n), .int (nI i)] [] σ = some (none, upf σ 5 (fzr (σ 5) (r * 40 + i) (r * 40 + n)))
  | 0, i, σ, h => by
    rw [hX3_lay_24]
    simp (disch := omega) only [kX3_lay, eq_self, Nat.reduceEqDiff, Nat.one_ne_zero, Nat.zero_ne_one, z_0, z_lt, z_le, z_eq, z_add, z_mul, z_inb, z_cl, z_b0, z_b1, z_b01, z_b010, z_b011, kb_v, kb_n, List.cons_append, List.nil_append, if_true, if_false, ↓reduceIte, Bool.false_eq_true, Bool.true_eq_false, decide_eq_true_eq, decide_eq_false_iff_not, not_false_eq_true]
    rw [if_pos (by omega), show i = n by omega, fzr_end]
  | m + 1, i, σ, h => by
    rw [hX3_lay_24]
    simp (disch := omega) only [kX3_lay, eq_self, Nat.reduceEqDiff, Nat.one_ne_zero, Nat.zero_ne_one, z_0, z_lt, z_le, z_eq, z_add, z_mul, z_inb, z_cl, z_b0, z_b1, z_b01, z_b010, z_b011, kb_v, kb_n, List.cons_append, List.nil_append, if_true, if_false, ↓reduceIte, Bool.false_eq_true, Bool.true_eq_false, decide_eq_true_eq, decide_eq_false_iff_not, not_false_eq_true]
    rw [if_neg (by omega), x_lay_loop d l hr hn m (i + 1) _ (by omega), ← Nat.add_assoc, fzr_step (by omega)]
theorem m_row_loop (d : Nat) {r : Nat} (l n : Int32) (hr : r < 8) : ∀ (m i : Nat) (σ : Sg), i + m = 40 → exec (d + 1) mX7_row 55 [.ref 50, .int (nI r), .int l, .int n, .int (nI i)] [] σ = some (some (.int n), up (upf σ 54 (fzr (σ 54) (40 * r + i) (40 * r + 40))) 50 7 (nI 0))
  | 0, i, σ, h => by
    rw [hX7_row_55]
    simp (disch := omega) only [kX7_row_0, kX7_row_1, eq_self, Nat.reduceEqDiff, Nat.one_ne_zero, Nat.zero_ne_one, z_0, z_lt, z_le, z_eq, z_add, z_mul, z_inb, z_cl, z_b0, z_b1, z_b01, z_b010, z_b011, kb_v, kb_n, List.cons_append, List.nil_append, if_true, if_false, ↓reduceIte, Bool.false_eq_true, Bool.true_eq_false, decide_eq_true_eq, decide_eq_false_iff_not, not_false_eq_true, m_good]
    rw [if_pos (by omega), show i = 40 by omega, fzr_end]
  | m + 1, i, σ, h => by
    rw [hX7_row_55]
    simp (disch := omega) only [kX7_row_0, kX7_row_1, eq_self, Nat.reduceEqDiff, Nat.one_ne_zero, Nat.zero_ne_one, z_0, z_lt, z_le, z_eq, z_add, z_mul, z_inb, z_cl, z_b0, z_b1, z_b01, z_b010, z_b011, kb_v, kb_n, List.cons_append, List.nil_append, if_true, if_false, ↓reduceIte, Bool.false_eq_true, Bool.true_eq_false, decide_eq_true_eq, decide_eq_false_iff_not, not_false_eq_true, m_good]
    rw [if_neg (by omega), m_row_loop d l n hr m (i + 1) _ (by omega), ← Nat.add_assoc, fzr_step (by omega)]
def sR {α : Type} (f : Nat → α) (r : Nat) (v : α) : Nat → α := fun q => if q = r then v else f q
theorem sR_s {α : Type} {f : Nat → α} {r : Nat} {v : α} : sR f r v r = v := by simp [sR]
theorem sR_n {α : Type} {f : Nat → α} {r q : Nat} {v : α} (h : q ≠ r) : sR f r v q = f q := by simp [sR, h]
theorem b_row (a b n : Int32) : BO mX6_row mX7_row [.int a, .int b, .int n] := by
  rintro ⟨T, I0, I1, A, rz, rl, it, tn, tp, ft, fs, cn, ct⟩ ok
  have hbad : ¬ (isin a 8 = true ∧ inr b 0 2 = true ∧ n.toInt ≤ 40) → ∃ r V', XO mX6_row [.int a, .int b, .int n] (T, I0, I1, A, rz, rl, it, tn, tp, ft, fs, cn, ct) r V' ∧ MO mX7_row [.int a, .int b, .int n] (T, I0, I1, A, rz, rl, it, tn, tp, ft, fs, cn, ct) r V' ∧ OKV V' := by
    intro hn
    refine ⟨.int (-1000001), _, XO_id fun σ d h => ?_, MO_id fun σ d h => ?_, ok⟩
    · rw [aX6_row_0]
      simp (disch := omega) only [kX6_row, eq_self, Nat.reduceEqDiff, Nat.one_ne_zero, Nat.zero_ne_one, z_0, z_lt, z_le, z_eq, z_add, z_mul, z_inb, z_cl, z_b0, z_b1, z_b01, z_b010, z_b011, kb_v, kb_n, List.cons_append, List.nil_append, if_true, if_false, ↓reduceIte, Bool.false_eq_true, Bool.true_eq_false, decide_eq_true_eq, decide_eq_false_iff_not, not_false_eq_true, e_isRow, lt_I, le_I, z_tI]
      unfold inr at hn
      simp only [decide_eq_true_eq] at hn
      cases hq : isin a 8
      · simp
      · simp only [hq, true_and] at hn ⊢
        (repeat' split) <;> first | rfl | (exfalso; omega) | (exfalso; simp_all)
    · rw [aX7_row_50]
      simp (disch := omega) only [kX7_row_0, kX7_row_1, eq_self, Nat.reduceEqDiff, Nat.one_ne_zero, Nat.zero_ne_one, z_0, z_lt, z_le, z_eq, z_add, z_mul, z_inb, z_cl, z_b0, z_b1, z_b01, z_b010, z_b011, kb_v, kb_n, List.cons_append, List.nil_append, if_true, if_false, ↓reduceIte, Bool.false_eq_true, Bool.true_eq_false, decide_eq_true_eq, decide_eq_false_iff_not, not_false_eq_true, m_isRow, m_in, lN_tI, Int32.toInt_toInt64, lt_I, le_I, z_tI]
      unfold inr at hn
      simp only [decide_eq_true_eq] at hn
      cases hq : isin a 8
      · simp
      · simp only [hq, true_and] at hn ⊢
        (repeat' split) <;> first | rfl | (exfalso; omega) | (exfalso; simp_all)
  by_cases hg : isin a 8 = true ∧ inr b 0 2 = true ∧ n.toInt ≤ 40
  · obtain ⟨ha, hb, hn⟩ := hg
    obtain ⟨r, hr, rfl⟩ := (isin_t (by omega)).mp ha
    obtain ⟨l, -, hl, rfl⟩ := (inr_t (by omega)).mp hb
    by_cases hn0 : n.toInt < 0
    · refine ⟨.int (-1000010 - nI 4), _, XO_st 4 fun σ d h => ?_, MO_st ok 4 fun σ d h => ?_, OK_st ok (by omega)⟩
      · rw [aX6_row_0]
        simp (disch := omega) only [kX6_row, eq_self, Nat.reduceEqDiff, Nat.one_ne_zero, Nat.zero_ne_one, z_0, z_lt, z_le, z_eq, z_add, z_mul, z_inb, z_cl, z_b0, z_b1, z_b01, z_b010, z_b011, kb_v, kb_n, List.cons_append, List.nil_append, if_true, if_false, ↓reduceIte, Bool.false_eq_true, Bool.true_eq_false, decide_eq_true_eq, decide_eq_false_iff_not, not_false_eq_true, e_isRow, ha, lt_I, le_I, z_tI, x_finding]
        (repeat' split) <;> first | rfl | (exfalso; omega)
      · rw [aX7_row_50]
        simp (disch := omega) only [kX7_row_0, kX7_row_1, eq_self, Nat.reduceEqDiff, Nat.one_ne_zero, Nat.zero_ne_one, z_0, z_lt, z_le, z_eq, z_add, z_mul, z_inb, z_cl, z_b0, z_b1, z_b01, z_b010, z_b011, kb_v, kb_n, List.cons_append, List.nil_append, if_true, if_false, ↓reduceIte, Bool.false_eq_true, Bool.true_eq_false, decide_eq_true_eq, decide_eq_false_iff_not, not_false_eq_true, m_isRow, ha, m_in, lN_tI, Int32.toInt_toInt64, lt_I, le_I, z_tI, m_found]
        (repeat' split) <;> first | rfl | (exfalso; omega)
    · obtain ⟨k, hk, rfl⟩ := (isin_t (a := n) (n := 41) (by omega)).mp (decide_eq_true ⟨by omega, by omega⟩)
      refine ⟨.int (nI k), (T, I0, I1, A, sR rz r (k + 1), sR rl r l, sR it r (fun _ => nI 0), tn, tp, ft, 0, cn, ct), fun σ d h => ?_, fun σ d h => ?_, ?_⟩
      · obtain ⟨g1, g2, g3, g4, ⟨w1, w2, w3, w4⟩, g6, g7, g8, g9⟩ := h
        refine ⟨up (upf (up (up (up σ 2 r (nI 1)) 3 r (nI l)) 4 r (nI k)) 5 (fzr (σ 5) (r * 40 + 0) (r * 40 + k))) 0 10 (nI 0), ?_, ?_, fun a ha => ?_⟩
        · rw [aX6_row_0]
          simp (disch := omega) only [kX6_row, eq_self, Nat.reduceEqDiff, Nat.one_ne_zero, Nat.zero_ne_one, z_0, z_lt, z_le, z_eq, z_add, z_mul, z_inb, z_cl, z_b0, z_b1, z_b01, z_b010, z_b011, kb_v, kb_n, List.cons_append, List.nil_append, if_true, if_false, ↓reduceIte, Bool.false_eq_true, Bool.true_eq_false, decide_eq_true_eq, decide_eq_false_iff_not, not_false_eq_true, e_isRow, ha, lt_I, le_I, z_tI]
          repeat first | rw [if_neg (by omega)] | rw [if_pos (by omega)]
          rw [aX3_lay_1]
          simp (disch := omega) only [kX3_lay, eq_self, Nat.reduceEqDiff, Nat.one_ne_zero, Nat.zero_ne_one, z_0, z_lt, z_le, z_eq, z_add, z_mul, z_inb, z_cl, z_b0, z_b1, z_b01, z_b010, z_b011, kb_v, kb_n, List.cons_append, List.nil_append, if_true, if_false, ↓reduceIte, Bool.false_eq_true, Bool.true_eq_false, decide_eq_true_eq, decide_eq_false_iff_not, not_false_eq_true, and_self]
          rw [x_lay_loop _ _ hr (by omega) k 0 _ (by omega)]
          simp (disch := omega) only [kX6_row, eq_self, Nat.reduceEqDiff, Nat.one_ne_zero, Nat.zero_ne_one, z_0, z_lt, z_le, z_eq, z_add, z_mul, z_inb, z_cl, z_b0, z_b1, z_b01, z_b010, z_b011, kb_v, kb_n, List.cons_append, List.nil_append, if_true, if_false, ↓reduceIte, Bool.false_eq_true, Bool.true_eq_false, decide_eq_true_eq, decide_eq_false_iff_not, not_false_eq_true, x_clean, up_of]
        · refine ⟨XT_cg g1 (fun a _ _ => ?_), XT_cg g2 (fun a _ _ => ?_), XT_cg g3 (fun a _ _ => ?_), ?_, ⟨fun q hq => ?_, fun q hq h0 => ?_, fun q hq h0 => ?_, fun q hq i hi => ?_⟩, ?_, ?_, up_s, ?_⟩
          · simp (disch := omega) only [up_of, upf_k]
          · simp (disch := omega) only [up_of, upf_k]
          · simp (disch := omega) only [up_of, upf_k]
          · unfold XA; simp (disch := omega) only [up_of, upf_k]; exact g4
          · simp (disch := omega) only [up_of, upf_k]
            by_cases e : q = r
            · subst e; simp [up_s, sR_s]
            · rw [up_j e, sR_n e]; exact w1 q hq
          · simp (disch := omega) only [up_of, upf_k]
            by_cases e : q = r
            · subst e; rw [up_s, sR_s]
            · rw [up_j e, sR_n e]
              rw [sR_n e] at h0
              rw [up_of (by omega)]
              exact w2 q hq h0
          · simp (disch := omega) only [up_of, upf_k]
            by_cases e : q = r
            · subst e; rw [up_s, sR_s]; rfl
            · rw [up_j e, sR_n e]
              rw [sR_n e] at h0
              simp (disch := omega) only [up_of]
              exact w3 q hq h0
          · simp (disch := omega) only [up_of, upf_s]
            unfold fzr
            by_cases e : q = r
            · subst e
              rw [sR_s] at hi ⊢
              rw [if_pos (by omega)]
            · rw [sR_n e] at hi ⊢
              have := (ok.2.2.2.2.2.1 q hq).1
              rw [if_neg (by omega)]
              exact w4 q hq i hi
          · unfold XP; simp (disch := omega) only [up_of, upf_k]; exact g6
          · simp (disch := omega) only [up_s, up_k, up_j, upf_k]; exact g7
          · unfold XC; simp (disch := omega) only [up_of, upf_k]; exact g9
        · simp (disch := omega) only [up_of, upf_k]
      · obtain ⟨g1, g2, g3, g4, g5, ⟨w1, w2, w3⟩, g7, g8, g9, g10⟩ := h
        refine ⟨up (upf (up (up σ 55 r (nI k)) 56 r (nI l)) 54 (fzr (σ 54) (40 * r + 0) (40 * r + 40))) 50 7 (nI 0), ?_, ?_, fun a ha => ?_⟩
        · rw [aX7_row_50]
          simp (disch := omega) only [kX7_row_0, kX7_row_1, eq_self, Nat.reduceEqDiff, Nat.one_ne_zero, Nat.zero_ne_one, z_0, z_lt, z_le, z_eq, z_add, z_mul, z_inb, z_cl, z_b0, z_b1, z_b01, z_b010, z_b011, kb_v, kb_n, List.cons_append, List.nil_append, if_true, if_false, ↓reduceIte, Bool.false_eq_true, Bool.true_eq_false, decide_eq_true_eq, decide_eq_false_iff_not, not_false_eq_true, m_isRow, ha, m_in, lN_tI, Int32.toInt_toInt64, lt_I, le_I, z_tI]
          repeat first | rw [if_neg (by omega)] | rw [if_pos (by omega)]
          rw [m_row_loop _ _ _ hr 40 0 _ (by omega)]
          simp (disch := omega) only [up_of]
        · refine ⟨?_, ?_, ?_, ?_, ?_, ⟨fun q hq => ?_, fun q hq h0 => ?_, fun q hq i hi => ?_⟩, ?_, ?_, up_s, ?_⟩
          · refine MT_same g1 ?_; simp (disch := omega) only [up_of, upf_k]
          · refine MT_same g2 ?_; simp (disch := omega) only [up_of, upf_k]
          · refine MT_same g3 ?_; simp (disch := omega) only [up_of, upf_k]
          · simp (disch := omega) only [up_of, upf_k]; exact g4
          · unfold MA; simp (disch := omega) only [up_s, up_k, up_j, up_of, upf_k]; exact g5
          · simp (disch := omega) only [up_of, upf_k]
            by_cases e : q = r
            · subst e; simp [up_s, sR_s]
            · rw [up_j e, sR_n e]; exact w1 q hq
          · simp (disch := omega) only [up_of, upf_k]
            by_cases e : q = r
            · subst e; rw [up_s, sR_s]
            · rw [up_j e, sR_n e]
              rw [sR_n e] at h0
              rw [up_of (by omega)]
              exact w2 q hq h0
          · simp (disch := omega) only [up_of, upf_s]
            unfold fzr
            by_cases e : q = r
            · subst e
              rw [sR_s] at hi ⊢
              rw [if_pos (by omega)]
            · rw [sR_n e] at hi ⊢
              have := (ok.2.2.2.2.2.1 q hq).1
              rw [if_neg (by omega)]
              exact w3 q hq i hi
          · unfold MP; simp (disch := omega) only [up_s, up_k, up_j, up_of, upf_k]; exact g7
          · simp (disch := omega) only [up_s, up_k, up_j, up_of, upf_k]; exact g8
          · unfold MC; simp (disch := omega) only [up_s, up_k, up_j, up_of, upf_k]; exact g10
        · simp (disch := omega) only [up_of, upf_k]
      · obtain ⟨h1, h2, h3, h4, h5, h6, h7, h8, h9, h10, h11, h12⟩ := ok
        refine ⟨h1, h2, h3, h4, h5, fun q hq => ?_, h7, h8, h9, by omega, h11, h12⟩
        by_cases e : q = r
        · subst e; rw [sR_s, sR_s]; omega
        · rw [sR_n e, sR_n e]; exact h6 q hq
  · exact hbad hg
