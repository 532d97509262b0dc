/-! copy, feed, count -/
def fil (f : Nat → Int32) (b e : Nat) (g : Nat → Int32) : Nat → Int32 := fun j => if b ≤ j ∧ j < e then g j else f j
theorem fil_step {σ : Sg} {k b e : Nat} {g : Nat → Int32} {v : Int32} (h : b < e) (hv : v = g b) : upf (up σ k b v) k (fil ((up σ k b v) k) (b + 1) e g) = upf σ k (fil (σ k) b e g) := by
  rw [up_upf]
  congr 1
  funext j
  unfold fil up
  by_cases q : j = b
  · subst q
    rw [if_neg (by omega), if_pos ⟨rfl, rfl⟩, if_pos (by omega), hv]
  · by_cases q2 : b + 1 ≤ j ∧ j < e
    · rw [if_pos q2, if_pos (by omega)]
    · rw [if_neg q2, if_neg (by omega), if_neg (by omega)]
theorem fil_end {σ : Sg} {k b : Nat} {g : Nat → Int32} : upf σ k (fil (σ k) b b g) = σ := by
  funext a
  by_cases h : a = k
  · subst h
    rw [upf_s]
    funext j
    unfold fil
    rw [if_neg (by omega)]
  · rw [upf_k h]
theorem fil_in {f : Nat → Int32} {b e j : Nat} {g : Nat → Int32} (h : b ≤ j) (h2 : j < e) : fil f b e g j = g j := if_pos ⟨h, h2⟩
theorem fil_out {f : Nat → Int32} {b e j : Nat} {g : Nat → Int32} (h : j < b ∨ e ≤ j) : fil f b e g j = f j := if_neg (by omega)
theorem m_copy1 (d : Nat) {a i b j n : Nat} (ha : a < 8) (hb : b < 8) (hi : i + n ≤ 40) (hj : j + n ≤ 40) : ∀ (m k : Nat) (σ : Sg), k + m = n → exec (d + 1) mX7_copy 107 [.ref 50, .int (nI a), .int (nI i), .int (nI b), .int (nI j), .int (nI n), .int (nI k)] [] σ = exec (d + 1) mX7_copy 144 [.ref 50, .int (nI a), .int (nI i), .int (nI b), .int (nI j), .int (nI n), .int (nI 0)] [] (upf σ 59 (fil (σ 59) k n (fun q => σ 54 (40 * a + i + q))))
  | 0, k, σ, h => by
    rw [hX7_copy_107]
    simp (disch := omega) only [kX7_copy_0, kX7_copy_1, kX7_copy_2, eq_self, Nat.reduceEqDiff, Nat.one_ne_zero, Nat.zero_ne_one, z_0, z_lt, z_le, z_eq, z_add, z_mul, z_inb, z_cl, z_b0, z_b1, z_b01, z_b010, z_b011, kb_v, kb_n, List.cons_append, List.nil_append, if_true, if_false, ↓reduceIte, Bool.false_eq_true, Bool.true_eq_false, decide_eq_true_eq, decide_eq_false_iff_not, not_false_eq_true]
    rw [if_pos (by omega), show k = n by omega, fil_end]
  | m + 1, k, σ, h => by
    rw [hX7_copy_107]
    simp (disch := omega) only [kX7_copy_0, kX7_copy_1, kX7_copy_2, eq_self, Nat.reduceEqDiff, Nat.one_ne_zero, Nat.zero_ne_one, z_0, z_lt, z_le, z_eq, z_add, z_mul, z_inb, z_cl, z_b0, z_b1, z_b01, z_b010, z_b011, kb_v, kb_n, List.cons_append, List.nil_append, if_true, if_false, ↓reduceIte, Bool.false_eq_true, Bool.true_eq_false, decide_eq_true_eq, decide_eq_false_iff_not, not_false_eq_true]
    rw [if_neg (by omega), m_copy1 d ha hb hi hj m (k + 1) _ (by omega)]
    simp (disch := omega) only [up_of]
    rw [fil_step (g := fun q => σ 54 (40 * a + i + q)) (by omega) rfl]
theorem m_copy2 (d : Nat) {a i b j n : Nat} (ha : a < 8) (hb : b < 8) (hi : i + n ≤ 40) (hj : j + n ≤ 40) : ∀ (m k : Nat) (σ : Sg), k + m = n → exec (d + 1) mX7_copy 144 [.ref 50, .int (nI a), .int (nI i), .int (nI b), .int (nI j), .int (nI n), .int (nI k)] [] σ = some (some (.int (nI n)), up (upf σ 54 (fil (σ 54) (40 * b + j + k) (40 * b + j + n) (fun q => σ 59 (q - (40 * b + j))))) 50 7 (nI 0))
  | 0, k, σ, h => by
    rw [hX7_copy_144]
    simp (disch := omega) only [kX7_copy_0, kX7_copy_1, kX7_copy_2, eq_self, Nat.reduceEqDiff, Nat.one_ne_zero, Nat.zero_ne_one, z_0, z_lt, z_le, z_eq, z_add, z_mul, z_inb, z_cl, z_b0, z_b1, z_b01, z_b010, z_b011, kb_v, kb_n, List.cons_append, List.nil_append, if_true, if_false, ↓reduceIte, Bool.false_eq_true, Bool.true_eq_false, decide_eq_true_eq, decide_eq_false_iff_not, not_false_eq_true, m_good]
    rw [if_pos (by omega), show k = n by omega, fil_end]
  | m + 1, k, σ, h => by
    rw [hX7_copy_144]
    simp (disch := omega) only [kX7_copy_0, kX7_copy_1, kX7_copy_2, eq_self, Nat.reduceEqDiff, Nat.one_ne_zero, Nat.zero_ne_one, z_0, z_lt, z_le, z_eq, z_add, z_mul, z_inb, z_cl, z_b0, z_b1, z_b01, z_b010, z_b011, kb_v, kb_n, List.cons_append, List.nil_append, if_true, if_false, ↓reduceIte, Bool.false_eq_true, Bool.true_eq_false, decide_eq_true_eq, decide_eq_false_iff_not, not_false_eq_true, m_good]
    rw [if_neg (by omega), m_copy2 d ha hb hi hj m (k + 1) _ (by omega)]
    simp (disch := omega) only [up_of]
    rw [← Nat.add_assoc, fil_step (by omega) (by rw [show 40 * b + j + k - (40 * b + j) = k by omega])]
def cpi (it : Nat → Nat → Int32) (a i b j n : Nat) : Nat → Nat → Int32 := sR it b (fun k => if j ≤ k ∧ k < j + n then it a (i + (k - j)) else it b k)
theorem hld_of {sz : Nat} {a b : Int32} (hz : sz < 1000) (h : hld sz a b = true) : ∃ i n, a = nI i ∧ b = nI n ∧ i + n ≤ sz := by
  unfold hld at h
  obtain ⟨h1, h2, h3⟩ := of_decide_eq_true h
  obtain ⟨i, hi, rfl⟩ := (isin_t (a := a) (n := sz + 1) (by omega)).mp (decide_eq_true ⟨by omega, by omega⟩)
  obtain ⟨n, hn, rfl⟩ := (isin_t (a := b) (n := sz + 1) (by omega)).mp (decide_eq_true ⟨by omega, by omega⟩)
  refine ⟨i, n, rfl, rfl, ?_⟩
  rw [z_tI (by omega), z_tI (by omega)] at h3
  omega
theorem b_copy (a i b j n : Int32) : BO mX6_copy mX7_copy [.int a, .int i, .int b, .int j, .int n] := by
  rintro ⟨T, I0, I1, A, rz, rl, it, tn, tp, ft, fs, cn, ct⟩ ok
  by_cases hab : isin a 8 = true ∧ isin b 8 = true
  · obtain ⟨ha, hb⟩ := hab
    obtain ⟨p, hp, rfl⟩ := (isin_t (by omega)).mp ha
    obtain ⟨q, hq, rfl⟩ := (isin_t (by omega)).mp hb
    have hzp := ok.2.2.2.2.2.1 p hp
    have hzq := ok.2.2.2.2.2.1 q hq
    by_cases h0 : rz p = 0 ∨ rz q = 0
    · refine ⟨.int (-1000010 - nI 1), _, XO_st 1 fun σ d h => ?_, MO_st ok 1 fun σ d h => ?_, OK_st ok (by omega)⟩
      · have hw := h.2.2.2.2.1
        have w1 := hw.1 p hp
        have w2 := hw.1 q hq
        rw [aX6_copy_0]
        simp (disch := omega) only [kX6_copy_0, kX6_copy_1, eq_self, Nat.reduceEqDiff, Nat.one_ne_zero, Nat.zero_ne_one, z_0, z_lt, z_le, z_eq, z_add, z_mul, z_inb, z_cl, z_b0, z_b1, z_b01, z_b010, z_b011, kb_v, kb_n, List.cons_append, List.nil_append, if_true, if_false, ↓reduceIte, Bool.false_eq_true, Bool.true_eq_false, decide_eq_true_eq, decide_eq_false_iff_not, not_false_eq_true, e_isRow, ha, hb, w1, w2, x_finding]
        by_cases e : rz p = 0
        · simp only [e, if_true, z_eq, eq_self]
        · have e2 : rz q = 0 := h0.resolve_left e
          simp (disch := omega) only [e, e2, if_true, if_false, z_eq, eq_self, Nat.one_ne_zero]
      · have hw := h.2.2.2.2.2.1
        have w1 := hw.1 p hp
        have w2 := hw.1 q hq
        rw [aX7_copy_50]
        by_cases e : rz p = 0
        · simp only [e, if_true] at w1
          simp (disch := omega) only [kX7_copy_0, kX7_copy_1, kX7_copy_2, eq_self, Nat.reduceEqDiff, Nat.one_ne_zero, Nat.zero_ne_one, z_0, z_lt, z_le, z_eq, z_add, z_mul, z_inb, z_cl, z_b0, z_b1, z_b01, z_b010, z_b011, kb_v, kb_n, List.cons_append, List.nil_append, if_true, if_false, ↓reduceIte, Bool.false_eq_true, Bool.true_eq_false, decide_eq_true_eq, decide_eq_false_iff_not, not_false_eq_true, m_isRow, ha, hb, w1, m_found, m1_lt]
        · have e2 : rz q = 0 := h0.resolve_left e
          simp only [e, if_false] at w1
          simp only [e2, if_true] at w2
          simp (disch := omega) only [kX7_copy_0, kX7_copy_1, kX7_copy_2, eq_self, Nat.reduceEqDiff, Nat.one_ne_zero, Nat.zero_ne_one, z_0, z_lt, z_le, z_eq, z_add, z_mul, z_inb, z_cl, z_b0, z_b1, z_b01, z_b010, z_b011, kb_v, kb_n, List.cons_append, List.nil_append, if_true, if_false, ↓reduceIte, Bool.false_eq_true, Bool.true_eq_false, decide_eq_true_eq, decide_eq_false_iff_not, not_false_eq_true, m_isRow, ha, hb, w1, w2, m_found, m1_lt, m1_ge]
          (repeat' split) <;> first | rfl | (exfalso; omega)
    · have hp0 : rz p ≠ 0 := fun e => h0 (Or.inl e)
      have hq0 : rz q ≠ 0 := fun e => h0 (Or.inr e)
      by_cases hl : rl p = rl q
      · by_cases hh : hld (rz p - 1) i n = true ∧ hld (rz q - 1) j n = true
        · obtain ⟨hh1, hh2⟩ := hh
          obtain ⟨i', n', rfl, rfl, hs1⟩ := hld_of (by omega) hh1
          obtain ⟨j', n2, rfl, hn2, hs2⟩ := hld_of (by omega) hh2
          have : n' = n2 := (z_eq (by omega) (by omega)).mp hn2
          subst this
          refine ⟨.int (nI n'), (T, I0, I1, A, rz, rl, cpi it p i' q j' n', tn, tp, ft, 0, cn, ct), fun σ d h => ?_, fun σ d h => ?_, OK_st ok (by omega)⟩
          · have hw := h.2.2.2.2.1
            have w1 := hw.1 p hp
            have w2 := hw.1 q hq
            have w3 := hw.2.1 p hp hp0
            have w4 := hw.2.1 q hq hq0
            simp only [hp0, hq0, if_false] at w1 w2
            refine ⟨up (cpA σ 5 5 (p * 40 + i') (q * 40 + j') n') 0 10 (nI 0), ?_, XR_w 0 h (fun a ha => ?_) ?_ up_s ⟨fun r hr => ?_, fun r hr h0 => ?_, fun r hr h0 => ?_, fun r hr k hk => ?_⟩, fun a ha => ?_⟩
            · rw [aX6_copy_0]
              simp (disch := omega) only [kX6_copy_0, kX6_copy_1, eq_self, Nat.reduceEqDiff, Nat.one_ne_zero, Nat.zero_ne_one, z_0, z_lt, z_le, z_eq, z_add, z_mul, z_inb, z_cl, z_b0, z_b1, z_b01, z_b010, z_b011, kb_v, kb_n, List.cons_append, List.nil_append, if_true, if_false, ↓reduceIte, Bool.false_eq_true, Bool.true_eq_false, decide_eq_true_eq, decide_eq_false_iff_not, not_false_eq_true, e_isRow, ha, hb, w1, w2, w3, w4, hl, x_holds hw, hh1, hh2]
              rw [aX3_carry_1]
              simp (disch := omega) only [kX3_carry, eq_self, Nat.reduceEqDiff, Nat.one_ne_zero, Nat.zero_ne_one, z_0, z_lt, z_le, z_eq, z_add, z_mul, z_inb, z_cl, z_b0, z_b1, z_b01, z_b010, z_b011, kb_v, kb_n, List.cons_append, List.nil_append, if_true, if_false, ↓reduceIte, Bool.false_eq_true, Bool.true_eq_false, decide_eq_true_eq, decide_eq_false_iff_not, not_false_eq_true]
              rw [if_pos ⟨by omega, by omega, by omega, by omega, by omega⟩]
              simp (disch := omega) only [kX3_carry, kX6_copy_0, kX6_copy_1, eq_self, Nat.reduceEqDiff, Nat.one_ne_zero, Nat.zero_ne_one, z_0, z_lt, z_le, z_eq, z_add, z_mul, z_inb, z_cl, z_b0, z_b1, z_b01, z_b010, z_b011, kb_v, kb_n, List.cons_append, List.nil_append, if_true, if_false, ↓reduceIte, Bool.false_eq_true, Bool.true_eq_false, decide_eq_true_eq, decide_eq_false_iff_not, not_false_eq_true, x_clean]
            · rw [up_of (by omega)]; simp only [cpA]; rw [if_neg (by omega)]
            · rw [up_j (by omega)]; simp only [cpA]; rw [if_neg (by omega)]
            · rw [up_of (by omega)]; simp only [cpA]; rw [if_neg (by omega)]; exact hw.1 r hr
            · rw [up_of (by omega)]; simp only [cpA]; rw [if_neg (by omega)]; exact hw.2.1 r hr h0
            · rw [up_of (by omega)]; simp only [cpA]; rw [if_neg (by omega)]; exact hw.2.2.1 r hr h0
            · have hzr := ok.2.2.2.2.2.1 r hr
              rw [up_of (by omega)]
              simp only [cpA, if_true, va_cpy, cpi]
              by_cases e : r = q
              · subst e
                rw [sR_s]
                by_cases e2 : j' ≤ k ∧ k < j' + n'
                · rw [if_pos e2, if_pos (by omega), show p * 40 + i' + (r * 40 + k - (r * 40 + j')) = p * 40 + (i' + (k - j')) by omega]
                  exact hw.2.2.2 p hp _ (by omega)
                · rw [if_neg e2, if_neg (by omega)]
                  exact hw.2.2.2 r hr k hk
              · rw [sR_n e, if_neg (by omega)]
                exact hw.2.2.2 r hr k hk
            · rw [up_of (by omega)]; simp only [cpA]; rw [if_neg (by omega)]
          · have hw := h.2.2.2.2.2.1
            have w1 := hw.1 p hp
            have w2 := hw.1 q hq
            have w3 := hw.2.1 p hp hp0
            have w4 := hw.2.1 q hq hq0
            simp only [hp0, hq0, if_false] at w1 w2
            have f1 : mfit (rz p - 1) (nI i') (nI n') = true := by
              unfold mfit; simp (disch := omega) only [z_tI]; exact decide_eq_true ⟨by omega, by omega⟩
            have f2 : mfit (rz q - 1) (nI j') (nI n') = true := by
              unfold mfit; simp (disch := omega) only [z_tI]; exact decide_eq_true ⟨by omega, by omega⟩
            refine ⟨up (upf (upf σ 59 (fil (σ 59) 0 n' (fun k => σ 54 (40 * p + i' + k)))) 54 (fil (σ 54) (40 * q + j' + 0) (40 * q + j' + n') (fun k => (fil (σ 59) 0 n' (fun k => σ 54 (40 * p + i' + k))) (k - (40 * q + j'))))) 50 7 (nI 0), ?_, MR_w 0 h (fun a ha => ?_) ?_ ?_ ?_ ?_ up_s ⟨fun r hr => ?_, fun r hr h0 => ?_, fun r hr k hk => ?_⟩, fun a ha => ?_⟩
            · rw [aX7_copy_50]
              simp (disch := omega) only [kX7_copy_0, kX7_copy_1, kX7_copy_2, eq_self, Nat.reduceEqDiff, Nat.one_ne_zero, Nat.zero_ne_one, z_0, z_lt, z_le, z_eq, z_add, z_mul, z_inb, z_cl, z_b0, z_b1, z_b01, z_b010, z_b011, kb_v, kb_n, List.cons_append, List.nil_append, if_true, if_false, ↓reduceIte, Bool.false_eq_true, Bool.true_eq_false, decide_eq_true_eq, decide_eq_false_iff_not, not_false_eq_true, m_isRow, ha, hb, w1, w2, w3, w4, hl, m_fits, f1, f2]
              repeat first | rw [if_neg (by omega)] | rw [if_pos (by omega)]
              rw [m_copy1 _ hp hq (by omega) (by omega) n' 0 _ (by omega), m_copy2 _ hp hq (by omega) (by omega) n' 0 _ (by omega)]
              simp (disch := omega) only [upf_s, upf_k]
            · simp (disch := omega) only [up_of, upf_k]
            · simp (disch := omega) only [up_s, up_k, up_j, upf_k]
            · simp (disch := omega) only [up_s, up_k, up_j, upf_k]
            · simp (disch := omega) only [up_s, up_k, up_j, upf_k]
            · simp (disch := omega) only [up_s, up_k, up_j, upf_k]
            · simp (disch := omega) only [up_of, upf_k]; exact hw.1 r hr
            · simp (disch := omega) only [up_of, upf_k]; exact hw.2.1 r hr h0
            · have hzr := ok.2.2.2.2.2.1 r hr
              simp (disch := omega) only [up_of, upf_s]
              unfold cpi
              by_cases e : r = q
              · subst e
                rw [sR_s]
                by_cases e2 : j' ≤ k ∧ k < j' + n'
                · rw [if_pos e2, fil_in (by omega) (by omega), fil_in (by omega) (by omega), show 40 * p + i' + (40 * r + k - (40 * r + j')) = 40 * p + (i' + (k - j')) by omega]
                  exact hw.2.2 p hp _ (by omega)
                · rw [if_neg e2, fil_out (by omega)]
                  exact hw.2.2 r hr k hk
              · rw [sR_n e, fil_out (by omega)]
                exact hw.2.2 r hr k hk
            · simp (disch := omega) only [up_of, upf_k]
        · refine ⟨.int (-1000010 - nI 2), _, XO_st 2 fun σ d h => ?_, MO_st ok 2 fun σ d h => ?_, OK_st ok (by omega)⟩
          · have hw := h.2.2.2.2.1
            have w1 := hw.1 p hp
            have w2 := hw.1 q hq
            have w3 := hw.2.1 p hp hp0
            have w4 := hw.2.1 q hq hq0
            simp only [hp0, hq0, if_false] at w1 w2
            rw [aX6_copy_0]
            simp (disch := omega) only [kX6_copy_0, kX6_copy_1, eq_self, Nat.reduceEqDiff, Nat.one_ne_zero, Nat.zero_ne_one, z_0, z_lt, z_le, z_eq, z_add, z_mul, z_inb, z_cl, z_b0, z_b1, z_b01, z_b010, z_b011, kb_v, kb_n, List.cons_append, List.nil_append, if_true, if_false, ↓reduceIte, Bool.false_eq_true, Bool.true_eq_false, decide_eq_true_eq, decide_eq_false_iff_not, not_false_eq_true, e_isRow, ha, hb, w1, w2, w3, w4, hl, x_holds hw, x_finding]
            cases e1 : hld (rz p - 1) i n
            · simp
            · cases e2 : hld (rz q - 1) j n
              · simp
              · exact absurd ⟨e1, e2⟩ hh
          · have hw := h.2.2.2.2.2.1
            have w1 := hw.1 p hp
            have w2 := hw.1 q hq
            have w3 := hw.2.1 p hp hp0
            have w4 := hw.2.1 q hq hq0
            simp only [hp0, hq0, if_false] at w1 w2
            rw [aX7_copy_50]
            simp (disch := omega) only [kX7_copy_0, kX7_copy_1, kX7_copy_2, eq_self, Nat.reduceEqDiff, Nat.one_ne_zero, Nat.zero_ne_one, z_0, z_lt, z_le, z_eq, z_add, z_mul, z_inb, z_cl, z_b0, z_b1, z_b01, z_b010, z_b011, kb_v, kb_n, List.cons_append, List.nil_append, if_true, if_false, ↓reduceIte, Bool.false_eq_true, Bool.true_eq_false, decide_eq_true_eq, decide_eq_false_iff_not, not_false_eq_true, m_isRow, ha, hb, w1, w2, w3, w4, hl, m_fits, m_found, lt_I, le_I, z_tI]
            unfold hld at hh
            unfold mfit
            simp only [decide_eq_true_eq] at hh
            (repeat' split) <;> first | rfl | (exfalso; omega) | (exfalso; simp_all; done) | (exfalso; simp_all; omega)
      · refine ⟨.int (-1000010 - nI 5), _, XO_st 5 fun σ d h => ?_, MO_st ok 5 fun σ d h => ?_, OK_st ok (by omega)⟩
        · have hw := h.2.2.2.2.1
          have w1 := hw.1 p hp
          have w2 := hw.1 q hq
          have w3 := hw.2.1 p hp hp0
          have w4 := hw.2.1 q hq hq0
          simp only [hp0, hq0, if_false] at w1 w2
          rw [aX6_copy_0]
          simp (disch := omega) only [kX6_copy_0, kX6_copy_1, eq_self, Nat.reduceEqDiff, Nat.one_ne_zero, Nat.zero_ne_one, z_0, z_lt, z_le, z_eq, z_add, z_mul, z_inb, z_cl, z_b0, z_b1, z_b01, z_b010, z_b011, kb_v, kb_n, List.cons_append, List.nil_append, if_true, if_false, ↓reduceIte, Bool.false_eq_true, Bool.true_eq_false, decide_eq_true_eq, decide_eq_false_iff_not, not_false_eq_true, e_isRow, ha, hb, w1, w2, w3, w4, hl, x_finding]
        · have hw := h.2.2.2.2.2.1
          have w1 := hw.1 p hp
          have w2 := hw.1 q hq
          have w3 := hw.2.1 p hp hp0
          have w4 := hw.2.1 q hq hq0
          simp only [hp0, hq0, if_false] at w1 w2
          rw [aX7_copy_50]
          simp (disch := omega) only [kX7_copy_0, kX7_copy_1, kX7_copy_2, eq_self, Nat.reduceEqDiff, Nat.one_ne_zero, Nat.zero_ne_one, z_0, z_lt, z_le, z_eq, z_add, z_mul, z_inb, z_cl, z_b0, z_b1, z_b01, z_b010, z_b011, kb_v, kb_n, List.cons_append, List.nil_append, if_true, if_false, ↓reduceIte, Bool.false_eq_true, Bool.true_eq_false, decide_eq_true_eq, decide_eq_false_iff_not, not_false_eq_true, m_isRow, ha, hb, w1, w2, w3, w4, hl, m_found]
          repeat first | rw [if_neg (by omega)] | rw [if_pos (by omega)]
  · refine ⟨.int (-1000001), _, XO_id fun σ d h => ?_, MO_id fun σ d h => ?_, ok⟩
    · rw [aX6_copy_0]
      cases e1 : isin a 8
      · simp (disch := omega) only [kX6_copy_0, kX6_copy_1, eq_self, Nat.reduceEqDiff, Nat.one_ne_zero, Nat.zero_ne_one, z_0, z_lt, z_le, z_eq, z_add, z_mul, z_inb, z_cl, z_b0, z_b1, z_b01, z_b010, z_b011, kb_v, kb_n, List.cons_append, List.nil_append, if_true, if_false, ↓reduceIte, Bool.false_eq_true, Bool.true_eq_false, decide_eq_true_eq, decide_eq_false_iff_not, not_false_eq_true, e_isRow, e1]
      · cases e2 : isin b 8
        · simp (disch := omega) only [kX6_copy_0, kX6_copy_1, eq_self, Nat.reduceEqDiff, Nat.one_ne_zero, Nat.zero_ne_one, z_0, z_lt, z_le, z_eq, z_add, z_mul, z_inb, z_cl, z_b0, z_b1, z_b01, z_b010, z_b011, kb_v, kb_n, List.cons_append, List.nil_append, if_true, if_false, ↓reduceIte, Bool.false_eq_true, Bool.true_eq_false, decide_eq_true_eq, decide_eq_false_iff_not, not_false_eq_true, e_isRow, e1, e2]
        · exact absurd ⟨e1, e2⟩ hab
    · rw [aX7_copy_50]
      cases e1 : isin a 8
      · simp (disch := omega) only [kX7_copy_0, kX7_copy_1, kX7_copy_2, eq_self, Nat.reduceEqDiff, Nat.one_ne_zero, Nat.zero_ne_one, z_0, z_lt, z_le, z_eq, z_add, z_mul, z_inb, z_cl, z_b0, z_b1, z_b01, z_b010, z_b011, kb_v, kb_n, List.cons_append, List.nil_append, if_true, if_false, ↓reduceIte, Bool.false_eq_true, Bool.true_eq_false, decide_eq_true_eq, decide_eq_false_iff_not, not_false_eq_true, m_isRow, e1]
      · cases e2 : isin b 8
        · simp (disch := omega) only [kX7_copy_0, kX7_copy_1, kX7_copy_2, eq_self, Nat.reduceEqDiff, Nat.one_ne_zero, Nat.zero_ne_one, z_0, z_lt, z_le, z_eq, z_add, z_mul, z_inb, z_cl, z_b0, z_b1, z_b01, z_b010, z_b011, kb_v, kb_n, List.cons_append, List.nil_append, if_true, if_false, ↓reduceIte, Bool.false_eq_true, Bool.true_eq_false, decide_eq_true_eq, decide_eq_false_iff_not, not_false_eq_true, m_isRow, e1, e2]
        · exact absurd ⟨e1, e2⟩ hab
