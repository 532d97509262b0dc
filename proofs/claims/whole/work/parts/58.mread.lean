/-! the reference reads numbers -/
theorem m_byt {σ : Sg} {tn : Nat} {tp : TT} (h : MP σ tn tp) (d : Nat) {i : Nat} (hi : i < 1000) (htn : tn ≤ 120) : cal (d + 1) mX7_byteAt [.ref 50, .int (nI i)] σ = some (some (.int (ltr tn tp i)), σ) := by
  obtain ⟨h1, h2⟩ := h
  rw [aX7_byteAt_50]
  unfold ltr
  by_cases q : i < tn
  · have := h2 i q
    simp (disch := omega) only [kX7_byteAt, eq_self, Nat.reduceEqDiff, Nat.one_ne_zero, Nat.zero_ne_one, z_0, z_lt, z_le, z_eq, z_add, z_mul, z_inb, z_cl, z_b0, z_b1, z_b01, z_b010, z_b011, kb_v, kb_n, List.cons_append, List.nil_append, if_true, if_false, ↓reduceIte, Bool.false_eq_true, Bool.true_eq_false, decide_eq_true_eq, decide_eq_false_iff_not, not_false_eq_true, h1, this]
    rw [if_neg (by omega), if_pos q]
  · simp (disch := omega) only [kX7_byteAt, eq_self, Nat.reduceEqDiff, Nat.one_ne_zero, Nat.zero_ne_one, z_0, z_lt, z_le, z_eq, z_add, z_mul, z_inb, z_cl, z_b0, z_b1, z_b01, z_b010, z_b011, kb_v, kb_n, List.cons_append, List.nil_append, if_true, if_false, ↓reduceIte, Bool.false_eq_true, Bool.true_eq_false, decide_eq_true_eq, decide_eq_false_iff_not, not_false_eq_true, h1]
    rw [if_pos (by omega), if_neg q]
theorem m_fails {σ : Sg} (d : Nat) (f a : Int32) : cal (d + 1) mX7_fails [.ref 50, .int f, .int a] σ = some (some (.int (nI 0)), up (up σ 50 10 f) 50 16 a) := by
  rw [aX7_fails_50]
  simp (disch := omega) only [kX7_fails, eq_self, Nat.reduceEqDiff, Nat.one_ne_zero, Nat.zero_ne_one, z_0, z_lt, z_le, z_eq, z_add, z_mul, z_inb, z_cl, z_b0, z_b1, z_b01, z_b010, z_b011, kb_v, kb_n, List.cons_append, List.nil_append, if_true, if_false, ↓reduceIte, Bool.false_eq_true, Bool.true_eq_false, decide_eq_true_eq, decide_eq_false_iff_not, not_false_eq_true]
theorem m_tks {σ : Sg} {tn : Nat} {tp : TT} (h : MP σ tn tp) (d : Nat) {a : Nat} (c : Int32) (ha : a < 1000) (htn : tn ≤ 120) (h2 : σ 50 14 = nI a) : cal (d + 2) mX7_takes [.ref 50, .int c] σ = if ltr tn tp a = c then some (some (.int (nI 1)), up σ 50 14 (nI (a + 1))) else some (some (.int (nI 0)), up (up σ 50 10 (nI 1)) 50 16 (nI a)) := by
  rw [aX7_takes_50]
  simp (disch := omega) only [kX7_takes, eq_self, Nat.reduceEqDiff, Nat.one_ne_zero, Nat.zero_ne_one, z_0, z_lt, z_le, z_eq, z_add, z_mul, z_inb, z_cl, z_b0, z_b1, z_b01, z_b010, z_b011, kb_v, kb_n, List.cons_append, List.nil_append, if_true, if_false, ↓reduceIte, Bool.false_eq_true, Bool.true_eq_false, decide_eq_true_eq, decide_eq_false_iff_not, not_false_eq_true, h2, m_byt h, m_fails]
theorem MP_50 {σ : Sg} {tn : Nat} {tp : TT} (h : MP σ tn tp) {j : Nat} (hj : j ≠ 9) (v : Int32) : MP (up σ 50 j v) tn tp := ⟨by rw [up_j (by omega)]; exact h.1, fun i hi => by rw [up_k (by omega)]; exact h.2 i hi⟩
theorem m_fg {σ : Sg} {tn : Nat} {tp : TT} (d : Nat) (i : Nat) : cal (d + 1) mX7_in [.long (ltr tn tp i).toInt64, .long (lN 48), .long (lN 57)] σ = some (some (.int (nI (fg tn tp i).toNat)), σ) := m_inN d σ _ (by omega) (by omega)
/-- the run from the third figure on -/
theorem m_run {tn : Nat} {tp : TT} (d : Nat) {s : Nat} (lo hi sg : Value) (htn : tn ≤ 120) : ∀ m a (σ : Sg), tn ≤ a + m → s + 2 ≤ a → a < 300 → MP σ tn tp → σ 50 14 = nI a → ∃ σ' a', exec (d + 2) mX7_takesNumber 11 [.ref 50, lo, hi, sg, .int (nI s)] [] σ = exec (d + 2) mX7_takesNumber 86 [.ref 50, lo, hi, sg, .int (nI s)] [] σ' ∧ a ≤ a' ∧ a' < 300 ∧ (fg tn tp a = true → a < a') ∧ (fg tn tp a = false → a' = a) ∧ σ' 50 14 = nI a' ∧ σ' 50 15 = σ 50 15 ∧ (∀ j, j ≠ 14 → j ≠ 15 → σ' 50 j = σ 50 j) ∧ ∀ c, c ≠ 50 → σ' c = σ c
  | m, a, σ, hm, hs, ha, h, h2 => by
    cases q : fg tn tp a
    · refine ⟨σ, a, ?_, by omega, ha, fun z => absurd z (by simp), fun _ => rfl, h2, rfl, fun _ _ _ => rfl, fun _ _ => rfl⟩
      have hq := m_fg (σ := σ) (tn := tn) (tp := tp) (d + 1) a
      rw [q] at hq
      rw [hX7_takesNumber_11]
      simp (disch := omega) only [kX7_takesNumber_0, kX7_takesNumber_1, eq_self, Nat.reduceEqDiff, Nat.one_ne_zero, Nat.zero_ne_one, z_0, z_lt, z_le, z_eq, z_add, z_mul, z_inb, z_cl, z_b0, z_b1, z_b01, z_b010, z_b011, kb_v, kb_n, List.cons_append, List.nil_append, if_true, if_false, ↓reduceIte, Bool.false_eq_true, Bool.true_eq_false, decide_eq_true_eq, decide_eq_false_iff_not, not_false_eq_true, h2, m_byt h, hq]
    · have hlt := fg_lt q
      match m, hm with
      | 0, hm => omega
      | m + 1, hm =>
        have hP1 : MP (up (up σ 50 15 (σ 50 15)) 50 14 (nI (a + 1))) tn tp := MP_50 (MP_50 h (by omega) _) (by omega) _
        obtain ⟨σ', a', e1, e2, e3, e4, e5, e6, e7, e8, e9⟩ := m_run (s := s) d lo hi sg htn m (a + 1) (up (up σ 50 15 (σ 50 15)) 50 14 (nI (a + 1))) (by omega) (by omega) (by omega) hP1 up_s
        refine ⟨σ', a', Eq.trans ?_ e1, by omega, e3, fun _ => by omega, fun z => absurd z (by simp), e6, by rw [e7, up_j (by omega), up_s], fun j h1 h3 => by rw [e8 j h1 h3, up_j h1, up_j h3], fun c hc => by rw [e9 c hc, up_of hc, up_of hc]⟩
        have hq := m_fg (σ := σ) (tn := tn) (tp := tp) (d + 1) a
        rw [q] at hq
        rw [hX7_takesNumber_11]
        simp (disch := omega) only [kX7_takesNumber_0, kX7_takesNumber_1, eq_self, Nat.reduceEqDiff, Nat.one_ne_zero, Nat.zero_ne_one, z_0, z_lt, z_le, z_eq, z_add, z_mul, z_inb, z_cl, z_b0, z_b1, z_b01, z_b010, z_b011, kb_v, kb_n, List.cons_append, List.nil_append, if_true, if_false, ↓reduceIte, Bool.false_eq_true, Bool.true_eq_false, decide_eq_true_eq, decide_eq_false_iff_not, not_false_eq_true, h2, m_byt h, hq, z_sub, up_s, up_k, up_j]
        rw [if_pos (by omega)]
/-- what taking a number does -/
def MNm (tn : Nat) (σ σ' : Sg) (a : Nat) (e : Oc) (okp : Nat → Bool) (r : RR (Nat × Nat)) : Prop := (∀ c, c ≠ 50 → σ' c = σ c) ∧ (∀ j, j ≠ 10 → j ≠ 14 → j ≠ 15 → j ≠ 16 → σ' 50 j = σ 50 j) ∧ ((∃ f pl, e = some (some (.int (nI 0)), σ') ∧ r = .inl (f, pl) ∧ σ' 50 10 = nI f ∧ σ' 50 16 = nI pl ∧ (1 ≤ f ∧ f ≤ 3) ∧ pl ≤ 300) ∨ (∃ v a', e = some (some (.int (nI 1)), σ') ∧ r = .inr (v, a') ∧ σ' 50 15 = nI v ∧ σ' 50 14 = nI a' ∧ σ' 50 10 = σ 50 10 ∧ v ≤ 99 ∧ okp v = true ∧ a < a' ∧ a' ≤ tn))
theorem m_num {σ : Sg} {tn : Nat} {tp : TT} (h : MP σ tn tp) (d : Nat) {a lo hi sg : Nat} (ha : a ≤ 200) (hlo : lo < 256) (hhi : hi < 256) (hsg : sg < 256) (htn : tn ≤ 120) (ht : ∀ j, j < tn → tp j < 256) (h2 : σ 50 14 = nI a) : ∃ σ', MNm tn σ σ' a (cal (d + 4) mX7_takesNumber [.ref 50, .int (nI lo), .int (nI hi), .int (nI sg)] σ) (fun v => decide (lo ≤ v ∧ v ≤ hi)) (rn tn tp a (fun v => decide (lo ≤ v ∧ v ≤ hi)) sg) := by
  have hP0 : MP (up σ 50 15 (nI 0)) tn tp := MP_50 h (by omega) _
  have h20 : (up σ 50 15 (nI 0)) 50 14 = nI a := by rw [up_j (by omega)]; exact h2
  have start : cal (d + 4) mX7_takesNumber [.ref 50, .int (nI lo), .int (nI hi), .int (nI sg)] σ = exec (d + 3) mX7_takesNumber 11 [.ref 50, .int (nI lo), .int (nI hi), .int (nI sg), .int (nI a)] [] (up σ 50 15 (nI 0)) := by
    rw [aX7_takesNumber_50]
    simp (disch := omega) only [kX7_takesNumber_0, kX7_takesNumber_1, eq_self, Nat.reduceEqDiff, Nat.one_ne_zero, Nat.zero_ne_one, z_0, z_lt, z_le, z_eq, z_add, z_mul, z_inb, z_cl, z_b0, z_b1, z_b01, z_b010, z_b011, kb_v, kb_n, List.cons_append, List.nil_append, if_true, if_false, ↓reduceIte, Bool.false_eq_true, Bool.true_eq_false, decide_eq_true_eq, decide_eq_false_iff_not, not_false_eq_true, h2]
  have stop : ∀ (i : Nat) (τ : Sg), i < 300 → MP τ tn tp → τ 50 14 = nI i → fg tn tp i = false → exec (d + 3) mX7_takesNumber 11 [.ref 50, .int (nI lo), .int (nI hi), .int (nI sg), .int (nI a)] [] τ = exec (d + 3) mX7_takesNumber 86 [.ref 50, .int (nI lo), .int (nI hi), .int (nI sg), .int (nI a)] [] τ := fun i τ hi' hP hi2 hf => by
    have hq := m_fg (σ := τ) (tn := tn) (tp := tp) (d + 2) i
    rw [hf] at hq
    rw [hX7_takesNumber_11]
    simp (disch := omega) only [kX7_takesNumber_0, kX7_takesNumber_1, eq_self, Nat.reduceEqDiff, Nat.one_ne_zero, Nat.zero_ne_one, z_0, z_lt, z_le, z_eq, z_add, z_mul, z_inb, z_cl, z_b0, z_b1, z_b01, z_b010, z_b011, kb_v, kb_n, List.cons_append, List.nil_append, if_true, if_false, ↓reduceIte, Bool.false_eq_true, Bool.true_eq_false, decide_eq_true_eq, decide_eq_false_iff_not, not_false_eq_true, hi2, m_byt hP, hq]
  have bad1 : ∀ (i : Nat) (τ : Sg), i < 300 → (i = a ∨ a + 3 ≤ i) → τ 50 14 = nI i → exec (d + 3) mX7_takesNumber 86 [.ref 50, .int (nI lo), .int (nI hi), .int (nI sg), .int (nI a)] [] τ = some (some (.int (nI 0)), up (up τ 50 10 (nI 1)) 50 16 (nI a)) := fun i τ hi' hc hi2 => by
    simp (disch := omega) only [kX7_takesNumber_0, kX7_takesNumber_1, eq_self, Nat.reduceEqDiff, Nat.one_ne_zero, Nat.zero_ne_one, z_0, z_lt, z_le, z_eq, z_add, z_mul, z_inb, z_cl, z_b0, z_b1, z_b01, z_b010, z_b011, kb_v, kb_n, List.cons_append, List.nil_append, if_true, if_false, ↓reduceIte, Bool.false_eq_true, Bool.true_eq_false, decide_eq_true_eq, decide_eq_false_iff_not, not_false_eq_true, hi2, z_sub, m_fails]
    by_cases z : i = a
    · rw [if_pos z]
    · rw [if_neg z, if_neg (by omega)]
  have good : ∀ (i v : Nat) (τ : Sg), (i = a + 1 ∨ i = a + 2) → MP τ tn tp → τ 50 14 = nI i → τ 50 15 = nI v → v ≤ 99 → nfg tn tp a = i - a → vlu tn tp a = v → (∀ c, c ≠ 50 → τ c = σ c) → (∀ j, j ≠ 14 → j ≠ 15 → τ 50 j = σ 50 j) → ∃ σ', MNm tn σ σ' a (exec (d + 3) mX7_takesNumber 86 [.ref 50, .int (nI lo), .int (nI hi), .int (nI sg), .int (nI a)] [] τ) (fun v => decide (lo ≤ v ∧ v ≤ hi)) (rn tn tp a (fun v => decide (lo ≤ v ∧ v ≤ hi)) sg) := by
    intro i v τ hi' hP hi2 hv hv9 hnf hvl fr1 fr2
    have hin := m_inI (d + 2) τ (nI v) (lo := lo) (hi := hi) (by omega) (by omega)
    have hin : cal (d + 3) mX7_in [.long (nI v).toInt64, .long (nI lo).toInt64, .long (nI hi).toInt64] τ = _ := hin
    rw [inr_n (by omega)] at hin
    have htk := m_tks hP (d + 1) (nI sg) (show i < 1000 by omega) htn hi2
    have htk : cal (d + 3) mX7_takes [.ref 50, .int (nI sg)] τ = _ := htk
    unfold rn
    rw [if_neg (by omega), hvl, hnf, show a + (i - a) = i by omega]
    by_cases c : lo ≤ v ∧ v ≤ hi
    · rw [decide_eq_true c] at hin
      rw [if_pos (decide_eq_true c)]
      by_cases g : ltr tn tp i = nI sg
      · rw [if_pos g] at htk ⊢
        have hlt : i < tn := by
          by_cases y : i < tn
          · exact y
          · unfold ltr at g
            rw [if_neg y] at g
            exact absurd g.symm ((enc_n (by omega)).mp)
        refine ⟨up τ 50 14 (nI (i + 1)), fun c hc => ?_, fun j h1 h3 h4 h5 => ?_, Or.inr ⟨v, i + 1, ?_, rfl, ?_, up_s, ?_, hv9, decide_eq_true c, by omega, by omega⟩⟩
        · rw [up_of hc]; exact fr1 c hc
        · rw [up_j h3]; exact fr2 j h3 h4
        · simp (disch := omega) only [kX7_takesNumber_0, kX7_takesNumber_1, eq_self, Nat.reduceEqDiff, Nat.one_ne_zero, Nat.zero_ne_one, z_0, z_lt, z_le, z_eq, z_add, z_mul, z_inb, z_cl, z_b0, z_b1, z_b01, z_b010, z_b011, kb_v, kb_n, List.cons_append, List.nil_append, if_true, if_false, ↓reduceIte, Bool.false_eq_true, Bool.true_eq_false, decide_eq_true_eq, decide_eq_false_iff_not, not_false_eq_true, hi2, hv, z_sub, hin, htk]
          rw [if_neg (by omega), if_pos (by omega)]
        · rw [up_j (by omega)]; exact hv
        · rw [up_j (by omega)]; exact fr2 10 (by omega) (by omega)
      · rw [if_neg g] at htk ⊢
        refine ⟨up (up τ 50 10 (nI 1)) 50 16 (nI i), fun c hc => ?_, fun j h1 h3 h4 h5 => ?_, Or.inl ⟨1, i, ?_, rfl, ?_, up_s, by omega, by omega⟩⟩
        · rw [up_of hc, up_of hc]; exact fr1 c hc
        · rw [up_j h5, up_j h1]; exact fr2 j h3 h4
        · simp (disch := omega) only [kX7_takesNumber_0, kX7_takesNumber_1, eq_self, Nat.reduceEqDiff, Nat.one_ne_zero, Nat.zero_ne_one, z_0, z_lt, z_le, z_eq, z_add, z_mul, z_inb, z_cl, z_b0, z_b1, z_b01, z_b010, z_b011, kb_v, kb_n, List.cons_append, List.nil_append, if_true, if_false, ↓reduceIte, Bool.false_eq_true, Bool.true_eq_false, decide_eq_true_eq, decide_eq_false_iff_not, not_false_eq_true, hi2, hv, z_sub, hin, htk]
          rw [if_neg (by omega), if_pos (by omega)]
        · rw [up_j (by omega), up_s]
    · rw [decide_eq_false c] at hin
      rw [if_neg (by rw [decide_eq_true_iff]; exact c)]
      refine ⟨up (up τ 50 10 (nI 2)) 50 16 (nI a), fun c hc => ?_, fun j h1 h3 h4 h5 => ?_, Or.inl ⟨2, a, ?_, rfl, ?_, up_s, by omega, by omega⟩⟩
      · rw [up_of hc, up_of hc]; exact fr1 c hc
      · rw [up_j h5, up_j h1]; exact fr2 j h3 h4
      · simp (disch := omega) only [kX7_takesNumber_0, kX7_takesNumber_1, eq_self, Nat.reduceEqDiff, Nat.one_ne_zero, Nat.zero_ne_one, z_0, z_lt, z_le, z_eq, z_add, z_mul, z_inb, z_cl, z_b0, z_b1, z_b01, z_b010, z_b011, kb_v, kb_n, List.cons_append, List.nil_append, if_true, if_false, ↓reduceIte, Bool.false_eq_true, Bool.true_eq_false, decide_eq_true_eq, decide_eq_false_iff_not, not_false_eq_true, hi2, hv, z_sub, hin, m_fails]
        rw [if_neg (by omega), if_pos (by omega)]
      · rw [up_j (by omega), up_s]
  have step : ∀ (i : Nat) (τ : Sg), (i = a ∨ i = a + 1) → MP τ tn tp → τ 50 14 = nI i → ∀ n : Nat, τ 50 15 = nI n → fg tn tp i = true → exec (d + 3) mX7_takesNumber 11 [.ref 50, .int (nI lo), .int (nI hi), .int (nI sg), .int (nI a)] [] τ = exec (d + 3) mX7_takesNumber 11 [.ref 50, .int (nI lo), .int (nI hi), .int (nI sg), .int (nI a)] [] (up (up τ 50 15 (nI (10 * n + dg tp i))) 50 14 (nI (i + 1))) := by
    intro i τ hi' hP hi2 n hn hf
    obtain ⟨l0, d0⟩ := fg_d ht hf
    have hq := m_fg (σ := τ) (tn := tn) (tp := tp) (d + 2) i
    rw [hf, l0] at hq
    rw [hX7_takesNumber_11]
    simp (disch := omega) only [kX7_takesNumber_0, kX7_takesNumber_1, eq_self, Nat.reduceEqDiff, Nat.one_ne_zero, Nat.zero_ne_one, z_0, z_lt, z_le, z_eq, z_add, z_mul, z_inb, z_cl, z_b0, z_b1, z_b01, z_b010, z_b011, kb_v, kb_n, List.cons_append, List.nil_append, if_true, if_false, ↓reduceIte, Bool.false_eq_true, Bool.true_eq_false, decide_eq_true_eq, decide_eq_false_iff_not, not_false_eq_true, hi2, m_byt hP, l0, hq, z_sub, hn, up_s, up_k, up_j, ← Nat.add_assoc, Nat.add_sub_cancel]
    rw [if_neg (by omega)]
  rcases nfg_c tn tp a with ⟨q, q0⟩ | ⟨q, q0, q1⟩ | ⟨q, q0, q1, q2⟩ | ⟨q, q0, q1, q2⟩
  · rw [start, stop a _ (by omega) hP0 h20 q0, bad1 a _ (by omega) (Or.inl rfl) h20]
    refine ⟨_, fun c hc => by rw [up_of hc, up_of hc, up_of hc], fun j h1 h3 h4 h5 => by rw [up_j h5, up_j h1, up_j h4], Or.inl ⟨1, a, rfl, by unfold rn; rw [if_pos (Or.inl q)], by simp (disch := omega) only [up_s, up_k, up_j], by simp (disch := omega) only [up_s, up_k, up_j], by omega, by omega⟩⟩
  · have d0 := (fg_d ht q0).2
    have hP1 : MP (up (up (up σ 50 15 (nI 0)) 50 15 (nI (10 * 0 + dg tp a))) 50 14 (nI (a + 1))) tn tp := MP_50 (MP_50 hP0 (by omega) _) (by omega) _
    rw [start, step a _ (Or.inl rfl) hP0 h20 0 up_s q0, stop (a + 1) _ (by omega) hP1 up_s q1]
    exact good (a + 1) (10 * 0 + dg tp a) _ (Or.inl rfl) hP1 up_s (by simp (disch := omega) only [up_s, up_k, up_j]) (by omega) (by omega) (by rw [vlu_1 q]; omega) (fun c hc => by simp only [up_of hc]) (fun j h1 h3 => by rw [up_j h1, up_j h3, up_j h3])
  · have d0 := (fg_d ht q0).2
    have d1 := (fg_d ht q1).2
    have hP1 : MP (up (up (up σ 50 15 (nI 0)) 50 15 (nI (10 * 0 + dg tp a))) 50 14 (nI (a + 1))) tn tp := MP_50 (MP_50 hP0 (by omega) _) (by omega) _
    have hP2 : MP (up (up (up (up (up σ 50 15 (nI 0)) 50 15 (nI (10 * 0 + dg tp a))) 50 14 (nI (a + 1))) 50 15 (nI (10 * (10 * 0 + dg tp a) + dg tp (a + 1)))) 50 14 (nI (a + 1 + 1))) tn tp := MP_50 (MP_50 hP1 (by omega) _) (by omega) _
    rw [start, step a _ (Or.inl rfl) hP0 h20 0 up_s q0, step (a + 1) _ (Or.inr rfl) hP1 up_s (10 * 0 + dg tp a) (by simp (disch := omega) only [up_s, up_k, up_j]) q1, stop (a + 1 + 1) _ (by omega) hP2 up_s q2]
    exact good (a + 2) (10 * (10 * 0 + dg tp a) + dg tp (a + 1)) _ (Or.inr rfl) hP2 up_s (by simp (disch := omega) only [up_s, up_k, up_j]) (by omega) (by omega) (by rw [vlu_2 q]; omega) (fun c hc => by simp only [up_of hc]) (fun j h1 h3 => by rw [up_j h1, up_j h3, up_j h1, up_j h3, up_j h3])
  · have hP1 : MP (up (up (up σ 50 15 (nI 0)) 50 15 (nI (10 * 0 + dg tp a))) 50 14 (nI (a + 1))) tn tp := MP_50 (MP_50 hP0 (by omega) _) (by omega) _
    have hP2 : MP (up (up (up (up (up σ 50 15 (nI 0)) 50 15 (nI (10 * 0 + dg tp a))) 50 14 (nI (a + 1))) 50 15 (nI (10 * (10 * 0 + dg tp a) + dg tp (a + 1)))) 50 14 (nI (a + 1 + 1))) tn tp := MP_50 (MP_50 hP1 (by omega) _) (by omega) _
    obtain ⟨τ, a', e1, e2, e3, e4, e5, e6, e7, e8, e9⟩ := m_run (tn := tn) (tp := tp) (d + 1) (s := a) (.int (nI lo)) (.int (nI hi)) (.int (nI sg)) htn tn (a + 1 + 1) _ (by omega) (by omega) (by omega) hP2 up_s
    have hlt := e4 q2
    rw [start, step a _ (Or.inl rfl) hP0 h20 0 up_s q0, step (a + 1) _ (Or.inr rfl) hP1 up_s (10 * 0 + dg tp a) (by simp (disch := omega) only [up_s, up_k, up_j]) q1, e1, bad1 a' _ (by omega) (Or.inr (by omega)) e6]
    refine ⟨_, fun c hc => by rw [up_of hc, up_of hc, e9 c hc]; simp only [up_of hc], fun j h1 h3 h4 h5 => by rw [up_j h5, up_j h1, e8 j h3 h4, up_j h3, up_j h4, up_j h3, up_j h4, up_j h4], Or.inl ⟨1, a, rfl, by unfold rn; rw [if_pos (Or.inr q)], by simp (disch := omega) only [up_s, up_k, up_j], by simp (disch := omega) only [up_s, up_k, up_j], by omega, by omega⟩⟩
