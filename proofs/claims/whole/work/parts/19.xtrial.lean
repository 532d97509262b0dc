/-! a trial's own functions in the class -/
def mkT (T : TT) (p : Nat) : TT := fun k => if k = 0 then skb (T (9 + p)) (T 0) else if k = 1 then (if T (9 + p) = 5 then T 1 else T 1 - cst T p (T 0)) else if k = 2 then (if T (9 + p) = 5 then T 2 - cst T p (T 0) else T 2) else if k = 3 then T 3 ||| 2 ^ p else if k = 4 then (if flt T p (T 0) = true then T 4 ||| 2 ^ p else T 4) else T k
theorem mkT_hi {T : TT} {p k : Nat} (h : 5 ≤ k) : mkT T p k = T k := by
  unfold mkT
  rw [if_neg (by omega), if_neg (by omega), if_neg (by omega), if_neg (by omega), if_neg (by omega)]
theorem pw_le {p : Nat} (h : p < 7) : 2 ^ p ≤ 64 := by
  have : 2 ^ p ≤ 2 ^ 6 := Nat.pow_le_pow_right (by omega) (by omega)
  omega
theorem pw_le5 {p : Nat} (h : p < 5) : 2 ^ p ≤ 16 := by
  have : 2 ^ p ≤ 2 ^ 4 := Nat.pow_le_pow_right (by omega) (by omega)
  omega
theorem sig_cg {T U : TT} (h : ∀ k, 6 ≤ k → U k = T k) (e : Nat) : sig U e = sig T e := by
  unfold sig
  rw [h 7 (by omega)]
  exact bse_cg _ (fun i _ => by rw [h _ (by omega), h _ (by omega), h _ (by omega)])
theorem XT_mk {σ σ' : Sg} {c : Nat} {T U : TT} (h : XT σ c T) (hU : ∀ k, 6 ≤ k → U k = T k) (ha : ∀ a, a ≠ c → σ' a = σ a) (h0 : σ' c 0 = σ c 0) (h4 : σ' c 4 = σ c 4) (h5 : σ' c 5 = σ c 5) (h1 : σ' c 1 = nI (U 0)) (h2 : σ' c 2 = nI (U 1)) (h3 : σ' c 3 = nI (U 2)) (h6 : σ' c 6 = nI (U 3)) (h7 : σ' c 7 = nI (U 4)) (h8 : σ' c 8 = nI (U 5)) : XT σ' c U := by
  obtain ⟨g0, g1, g2, g3, g4, g5, g6, g7, g8, q1, q2, q3, q4, q5, q6, q7, q8⟩ := h
  unfold XT
  rw [ha (c + 1) (by omega), ha (c + 2) (by omega), ha (c + 3) (by omega), ha (c + 4) (by omega), ha (c + 5) (by omega), ha (c + 6) (by omega), ha (c + 7) (by omega), ha (c + 8) (by omega), hU 6 (by omega), hU 7 (by omega), hU 8 (by omega)]
  refine ⟨by rw [h0]; exact g0, h1, h2, h3, by rw [h4]; exact g4, by rw [h5]; exact g5, h6, h7, h8, fun p hp => ?_, fun p hp => ?_, fun p hp => ?_, fun p hp => ?_, fun p hp => ?_, fun p hp => ?_, fun p hp => ?_, fun p hp => ?_⟩
  · rw [hU _ (by omega)]; exact q1 p hp
  · rw [hU _ (by omega)]; exact q2 p hp
  · rw [hU _ (by omega)]; exact q3 p hp
  · rw [hU _ (by omega)]; exact q4 p hp
  · rw [hU _ (by omega)]; exact q5 p hp
  · rw [hU _ (by omega)]; exact q6 p hp
  · rw [hU _ (by omega)]; exact q7 p hp
  · rw [sig_cg hU]; exact q8 p hp
theorem MT_mk {σ σ' : Sg} {T U : TT} (h7 : T 7 ≤ 7) (h8 : T 8 ≤ 5) (h : MT σ 0 T) (hU : ∀ k, 6 ≤ k → U k = T k) (ha : ∀ j, 6 ≤ j → j < 52 → σ' 51 j = σ 51 j) (h1 : ∀ k, k < 6 → σ' 51 k = nI (U k)) : MT σ' 0 U := by
  obtain ⟨a0, a1, a2, a3, a4, a5, a6, a7⟩ := h
  unfold MT
  rw [hU 7 (by omega), hU 8 (by omega)]
  refine ⟨fun k hk => ?_, fun p hp => ?_, fun p hp => ?_, fun p hp => ?_, fun p hp => ?_, fun p hp => ?_, fun p hp => ?_, fun p hp => ?_⟩
  · by_cases q : k < 6
    · rw [Nat.zero_add]; exact h1 k q
    · rw [ha _ (by omega) (by omega), hU k (by omega)]; exact a0 k hk
  · rw [ha _ (by omega) (by omega), hU _ (by omega)]; exact a1 p hp
  · rw [ha _ (by omega) (by omega), hU _ (by omega)]; exact a2 p hp
  · rw [ha _ (by omega) (by omega), hU _ (by omega)]; exact a3 p hp
  · rw [ha _ (by omega) (by omega), hU _ (by omega)]; exact a4 p hp
  · rw [ha _ (by omega) (by omega), hU _ (by omega)]; exact a5 p hp
  · rw [ha _ (by omega) (by omega), hU _ (by omega)]; exact a6 p hp
  · rw [ha _ (by omega) (by omega), hU _ (by omega)]; exact a7 p hp
theorem up_of {σ : Sg} {k j a : Nat} {v : Int32} (h : a ≠ k) : up σ k j v a = σ a := up_off h
theorem x_build_8 {σ : Sg} {T : TT} (h : XT σ 8 T) (w : WF T) (d : Nat) {p : Nat} (hp : p < T 7) (hm : may T p (T 3) (T 0) (T 1) (T 2) = true) :
    ∃ σ', cal (d + 2) mX5_build [.ref 8, .int (nI p)] σ = some (some (.int (nI (flt T p (T 0)).toNat)), σ') ∧ XT σ' 8 (mkT T p) ∧ ∀ a, a ≠ 8 → σ' a = σ a := by
  have w1 := w.1
  have wp := w.2.2.2.1 p hp
  have hc := cst_le w (sk := T 0) hp
  have hm2 : cst T p (T 0) ≤ if T (9 + p) = 5 then T 2 else T 1 := by
    unfold may at hm
    simp only [Bool.and_eq_true, decide_eq_true_eq] at hm
    exact hm.2.2
  unfold cst at hm2 hc
  have hpw := pw_le (p := p) (by omega)
  have hsk : skb (T (9 + p)) (T 0) ≤ 20 := by unfold skb; split <;> omega
  obtain ⟨g0, g1, g2, g3, g4, g5, g6, g7, g8, q1, q2, q3, q4, q5, q6, q7, q8⟩ := XT8 h
  by_cases hb : T (9 + p) = 5
  all_goals first | have hbp := eq_false hb | have hbp := eq_true hb
  all_goals cases hf : flt T p (T 0)
  all_goals simp only [hbp, if_true, if_false] at hm2
  all_goals have hf' : fla (T (9 + p)) (T (16 + p)) (T 0) = _ := hf
  all_goals (apply Exists.intro; refine ⟨?_, ?_, ?_⟩)
  all_goals first
    | (rw [aX5_build_8]
       simp (disch := omega) only [kX5_build_0, kX5_build_1, kX5_build_2, g0, g1, g2, g3, g4, g5, g6, g7, g8, q1, q2, q3, q4, eq_self, Nat.reduceEqDiff, Nat.one_ne_zero, Nat.zero_ne_one, z_0, z_lt, z_le, z_eq, z_add, z_mul, z_inb, z_cl, z_b0, z_b1, z_b01, z_b010, z_b011, kb_v, kb_n, List.cons_append, List.nil_append, if_true, if_false, ↓reduceIte, Bool.false_eq_true, Bool.true_eq_false, decide_eq_true_eq, decide_eq_false_iff_not, not_false_eq_true, up_s, up_k, up_j, e_taken, e_flawed, e_skb, hf', Bool.toNat_false, Bool.toNat_true, z_one, z_or, z_sub, hbp]
       rfl)
    | (refine XT_mk h (fun k hk => mkT_hi (by omega)) (fun a ha => by simp only [up_of ha]) ?_ ?_ ?_ ?_ ?_ ?_ ?_ ?_ ?_
       all_goals simp (disch := omega) only [up_s, up_k, up_j, g8, mkT_hi]
       all_goals simp [mkT, hbp, hf, cst, g2, g3, g7])
    | (intro a ha
       simp only [up_of ha])
theorem x_build_35 {σ : Sg} {T : TT} (h : XT σ 35 T) (w : WF T) (d : Nat) {p : Nat} (hp : p < T 7) (hm : may T p (T 3) (T 0) (T 1) (T 2) = true) :
    ∃ σ', cal (d + 2) mX5_build [.ref 35, .int (nI p)] σ = some (some (.int (nI (flt T p (T 0)).toNat)), σ') ∧ XT σ' 35 (mkT T p) ∧ ∀ a, a ≠ 35 → σ' a = σ a := by
  have w1 := w.1
  have wp := w.2.2.2.1 p hp
  have hc := cst_le w (sk := T 0) hp
  have hm2 : cst T p (T 0) ≤ if T (9 + p) = 5 then T 2 else T 1 := by
    unfold may at hm
    simp only [Bool.and_eq_true, decide_eq_true_eq] at hm
    exact hm.2.2
  unfold cst at hm2 hc
  have hpw := pw_le (p := p) (by omega)
  have hsk : skb (T (9 + p)) (T 0) ≤ 20 := by unfold skb; split <;> omega
  obtain ⟨g0, g1, g2, g3, g4, g5, g6, g7, g8, q1, q2, q3, q4, q5, q6, q7, q8⟩ := XT35 h
  by_cases hb : T (9 + p) = 5
  all_goals first | have hbp := eq_false hb | have hbp := eq_true hb
  all_goals cases hf : flt T p (T 0)
  all_goals simp only [hbp, if_true, if_false] at hm2
  all_goals have hf' : fla (T (9 + p)) (T (16 + p)) (T 0) = _ := hf
  all_goals (apply Exists.intro; refine ⟨?_, ?_, ?_⟩)
  all_goals first
    | (rw [aX5_build_35]
       simp (disch := omega) only [kX5_build_0, kX5_build_1, kX5_build_2, g0, g1, g2, g3, g4, g5, g6, g7, g8, q1, q2, q3, q4, eq_self, Nat.reduceEqDiff, Nat.one_ne_zero, Nat.zero_ne_one, z_0, z_lt, z_le, z_eq, z_add, z_mul, z_inb, z_cl, z_b0, z_b1, z_b01, z_b010, z_b011, kb_v, kb_n, List.cons_append, List.nil_append, if_true, if_false, ↓reduceIte, Bool.false_eq_true, Bool.true_eq_false, decide_eq_true_eq, decide_eq_false_iff_not, not_false_eq_true, up_s, up_k, up_j, e_taken, e_flawed, e_skb, hf', Bool.toNat_false, Bool.toNat_true, z_one, z_or, z_sub, hbp]
       rfl)
    | (refine XT_mk h (fun k hk => mkT_hi (by omega)) (fun a ha => by simp only [up_of ha]) ?_ ?_ ?_ ?_ ?_ ?_ ?_ ?_ ?_
       all_goals simp (disch := omega) only [up_s, up_k, up_j, g8, mkT_hi]
       all_goals simp [mkT, hbp, hf, cst, g2, g3, g7])
    | (intro a ha
       simp only [up_of ha])
theorem x_mendingDays {σ : Sg} {T : TT} (h : XT σ 8 T) (w : WF T) (d : Nat) {p : Nat} (hp : p < T 7) : cal (d + 1) mX5_mendingDays [.ref 8, .int (nI p)] σ = some (some (.int (nI (T (23 + p) + 1))), σ) := by
  have w1 := w.1
  rw [aX5_mendingDays_8]
  simp (disch := omega) only [kX5_mendingDays, XT8 h, eq_self, Nat.reduceEqDiff, Nat.one_ne_zero, Nat.zero_ne_one, z_0, z_lt, z_le, z_eq, z_add, z_mul, z_inb, z_cl, z_b0, z_b1, z_b01, z_b010, z_b011, kb_v, kb_n, List.cons_append, List.nil_append, if_true, if_false, ↓reduceIte, Bool.false_eq_true, Bool.true_eq_false, decide_eq_true_eq, decide_eq_false_iff_not, not_false_eq_true]
def mdc (T : TT) (s : Nat) : Nat := smn (fun p => if s.testBit p = true then T (23 + p) + 1 else 0) (T 7)
def fsc (T : TT) (s : Nat) : Nat := smn (fun e => if s.testBit e = true then T (47 + e) else 0) (T 8)
theorem x_mdc_loop {σ : Sg} {T : TT} (h : XT σ 8 T) (w : WF T) (d : Nat) {s : Nat} (hs : s < 128) : ∀ n k, k + n = T 7 → exec (d + 2) mX5_mendingDaysOf 4 [.ref 8, .int (nI s), .int (nI (smn (fun p => if s.testBit p = true then T (23 + p) + 1 else 0) k)), .int (nI k)] [] σ = some (some (.int (nI (mdc T s))), σ)
  | 0, k, hk => by
    have w1 := w.1
    rw [hX5_mendingDaysOf_4]
    simp (disch := omega) only [kX5_mendingDaysOf, XT8 h, eq_self, Nat.reduceEqDiff, Nat.one_ne_zero, Nat.zero_ne_one, z_0, z_lt, z_le, z_eq, z_add, z_mul, z_inb, z_cl, z_b0, z_b1, z_b01, z_b010, z_b011, kb_v, kb_n, List.cons_append, List.nil_append, if_true, if_false, ↓reduceIte, Bool.false_eq_true, Bool.true_eq_false, decide_eq_true_eq, decide_eq_false_iff_not, not_false_eq_true]
    rw [if_pos (by omega)]
    rw [show k = T 7 by omega]
    rfl
  | n + 1, k, hk => by
    have w1 := w.1
    have wp := w.2.2.2.1 k (by omega)
    have hb : smn (fun p => if s.testBit p = true then T (23 + p) + 1 else 0) k ≤ k * 21 := smn_le k (fun i hi => by have := w.2.2.2.1 i (by omega); split <;> omega)
    rw [hX5_mendingDaysOf_4]
    simp (disch := omega) only [kX5_mendingDaysOf, XT8 h, eq_self, Nat.reduceEqDiff, Nat.one_ne_zero, Nat.zero_ne_one, z_0, z_lt, z_le, z_eq, z_add, z_mul, z_inb, z_cl, z_b0, z_b1, z_b01, z_b010, z_b011, kb_v, kb_n, List.cons_append, List.nil_append, if_true, if_false, ↓reduceIte, Bool.false_eq_true, Bool.true_eq_false, decide_eq_true_eq, decide_eq_false_iff_not, not_false_eq_true, e_bit, x_mendingDays h w]
    rw [if_neg (by omega)]
    have ih := x_mdc_loop h w d hs n (k + 1) (by omega)
    rw [smn] at ih
    cases hq : s.testBit k
    · simp only [hq, Bool.false_eq_true, if_false] at ih ⊢
      exact ih
    · simp only [hq, if_true, Bool.true_eq_false, if_false] at ih ⊢
      exact ih
theorem x_mdc {σ : Sg} {T : TT} (h : XT σ 8 T) (w : WF T) (d : Nat) {s : Nat} (hs : s < 128) : cal (d + 3) mX5_mendingDaysOf [.ref 8, .int (nI s)] σ = some (some (.int (nI (mdc T s))), σ) := by
  rw [aX5_mendingDaysOf_8]
  simp (disch := omega) only [kX5_mendingDaysOf, eq_self, Nat.reduceEqDiff, Nat.one_ne_zero, Nat.zero_ne_one, z_0, z_lt, z_le, z_eq, z_add, z_mul, z_inb, z_cl, z_b0, z_b1, z_b01, z_b010, z_b011, kb_v, kb_n, List.cons_append, List.nil_append, if_true, if_false, ↓reduceIte, Bool.false_eq_true, Bool.true_eq_false, decide_eq_true_eq, decide_eq_false_iff_not, not_false_eq_true]
  exact x_mdc_loop h w d hs (T 7) 0 (by omega)
theorem x_fsc_loop {σ : Sg} {T : TT} (h : XT σ 8 T) (w : WF T) (d : Nat) {s : Nat} (hs : s < 128) : ∀ n k, k + n = T 8 → exec (d + 2) mX5_feastingMoney 4 [.ref 8, .int (nI s), .int (nI (smn (fun e => if s.testBit e = true then T (47 + e) else 0) k)), .int (nI k)] [] σ = some (some (.int (nI (fsc T s))), σ)
  | 0, k, hk => by
    have w1 := w.1
    rw [hX5_feastingMoney_4]
    simp (disch := omega) only [kX5_feastingMoney, XT8 h, eq_self, Nat.reduceEqDiff, Nat.one_ne_zero, Nat.zero_ne_one, z_0, z_lt, z_le, z_eq, z_add, z_mul, z_inb, z_cl, z_b0, z_b1, z_b01, z_b010, z_b011, kb_v, kb_n, List.cons_append, List.nil_append, if_true, if_false, ↓reduceIte, Bool.false_eq_true, Bool.true_eq_false, decide_eq_true_eq, decide_eq_false_iff_not, not_false_eq_true]
    rw [if_pos (by omega)]
    rw [show k = T 8 by omega]
    rfl
  | n + 1, k, hk => by
    have w1 := w.1
    have wp := w.2.2.2.2.1 k (by omega)
    have hb : smn (fun e => if s.testBit e = true then T (47 + e) else 0) k ≤ k * 50 := smn_le k (fun i hi => by have := w.2.2.2.2.1 i (by omega); split <;> omega)
    rw [hX5_feastingMoney_4]
    simp (disch := omega) only [kX5_feastingMoney, XT8 h, eq_self, Nat.reduceEqDiff, Nat.one_ne_zero, Nat.zero_ne_one, z_0, z_lt, z_le, z_eq, z_add, z_mul, z_inb, z_cl, z_b0, z_b1, z_b01, z_b010, z_b011, kb_v, kb_n, List.cons_append, List.nil_append, if_true, if_false, ↓reduceIte, Bool.false_eq_true, Bool.true_eq_false, decide_eq_true_eq, decide_eq_false_iff_not, not_false_eq_true, e_bit]
    rw [if_neg (by omega)]
    have ih := x_fsc_loop h w d hs n (k + 1) (by omega)
    rw [smn] at ih
    cases hq : s.testBit k
    · simp only [hq, Bool.false_eq_true, if_false] at ih ⊢
      exact ih
    · simp only [hq, if_true, Bool.true_eq_false, if_false] at ih ⊢
      exact ih
theorem x_fsc {σ : Sg} {T : TT} (h : XT σ 8 T) (w : WF T) (d : Nat) {s : Nat} (hs : s < 128) : cal (d + 3) mX5_feastingMoney [.ref 8, .int (nI s)] σ = some (some (.int (nI (fsc T s))), σ) := by
  rw [aX5_feastingMoney_8]
  simp (disch := omega) only [kX5_feastingMoney, eq_self, Nat.reduceEqDiff, Nat.one_ne_zero, Nat.zero_ne_one, z_0, z_lt, z_le, z_eq, z_add, z_mul, z_inb, z_cl, z_b0, z_b1, z_b01, z_b010, z_b011, kb_v, kb_n, List.cons_append, List.nil_append, if_true, if_false, ↓reduceIte, Bool.false_eq_true, Bool.true_eq_false, decide_eq_true_eq, decide_eq_false_iff_not, not_false_eq_true]
  exact x_fsc_loop h w d hs (T 8) 0 (by omega)
theorem x_finds {σ : Sg} {T : TT} (h : XT σ 8 T) (w : WF T) (d : Nat) {e f : Nat} (he : e < T 8) (hf : f < 128) : cal (d + 2) mX5_finds [.ref 8, .int (nI e), .int (nI f)] σ = some (some (.int (nI (fnd T e f))), σ) := by
  have w1 := w.1
  have hl : f &&& sig T e < 128 := Nat.lt_of_le_of_lt Nat.and_le_left hf
  rw [aX5_finds_8]
  simp (disch := omega) only [kX5_finds, XT8 h, eq_self, Nat.reduceEqDiff, Nat.one_ne_zero, Nat.zero_ne_one, z_0, z_lt, z_le, z_eq, z_add, z_mul, z_inb, z_cl, z_b0, z_b1, z_b01, z_b010, z_b011, kb_v, kb_n, List.cons_append, List.nil_append, if_true, if_false, ↓reduceIte, Bool.false_eq_true, Bool.true_eq_false, decide_eq_true_eq, decide_eq_false_iff_not, not_false_eq_true, z_and, e_bitCount]
  exact rI (pop_bse (by omega))
theorem x_votes_loop {σ : Sg} {T : TT} (h : XT σ 8 T) (w : WF T) (d : Nat) {f g : Nat} (hf : f < 128) (hg : g < 128) : ∀ n k, k + n = T 8 → exec (d + 2) mX5_votes 5 [.ref 8, .int (nI f), .int (nI g), .int (nI (bse (fun e => g.testBit e || decide (fnd T e f ≤ T (42 + e))) k)), .int (nI k)] [] σ = some (some (.int (nI (vot T f g))), σ)
  | 0, k, hk => by
    have w1 := w.1
    rw [hX5_votes_5]
    simp (disch := omega) only [kX5_votes, XT8 h, eq_self, Nat.reduceEqDiff, Nat.one_ne_zero, Nat.zero_ne_one, z_0, z_lt, z_le, z_eq, z_add, z_mul, z_inb, z_cl, z_b0, z_b1, z_b01, z_b010, z_b011, kb_v, kb_n, List.cons_append, List.nil_append, if_true, if_false, ↓reduceIte, Bool.false_eq_true, Bool.true_eq_false, decide_eq_true_eq, decide_eq_false_iff_not, not_false_eq_true]
    rw [if_pos (by omega)]
    rw [show k = T 8 by omega]
    rfl
  | n + 1, k, hk => by
    have w1 := w.1
    have wp := w.2.2.2.2.1 k (by omega)
    have hfn := fnd_le T k f
    have hpw := pw_le5 (p := k) (by omega)
    rw [hX5_votes_5]
    simp (disch := omega) only [kX5_votes, XT8 h, eq_self, Nat.reduceEqDiff, Nat.one_ne_zero, Nat.zero_ne_one, z_0, z_lt, z_le, z_eq, z_add, z_mul, z_inb, z_cl, z_b0, z_b1, z_b01, z_b010, z_b011, kb_v, kb_n, List.cons_append, List.nil_append, if_true, if_false, ↓reduceIte, Bool.false_eq_true, Bool.true_eq_false, decide_eq_true_eq, decide_eq_false_iff_not, not_false_eq_true, e_bit, x_finds h w, z_one, z_or]
    rw [if_neg (by omega)]
    have ih := x_votes_loop h w d hf hg n (k + 1) (by omega)
    rw [bse] at ih
    cases hq : g.testBit k
    · simp only [hq, Bool.false_or, decide_eq_true_eq, if_false, if_true] at ih ⊢
      by_cases hx : fnd T k f ≤ T (42 + k)
      · simp only [hx, if_true, show ¬ T (42 + k) < fnd T k f by omega, if_false] at ih ⊢
        exact ih
      · simp only [hx, if_false, show T (42 + k) < fnd T k f by omega, if_true, Nat.or_zero] at ih ⊢
        exact ih
    · simp only [hq, Bool.true_or, if_true, Bool.true_eq_false, if_false] at ih ⊢
      exact ih
theorem x_votes {σ : Sg} {T : TT} (h : XT σ 8 T) (w : WF T) (d : Nat) {f g : Nat} (hf : f < 128) (hg : g < 128) : cal (d + 3) mX5_votes [.ref 8, .int (nI f), .int (nI g)] σ = some (some (.int (nI (vot T f g))), σ) := by
  rw [aX5_votes_8]
  simp (disch := omega) only [kX5_votes, eq_self, Nat.reduceEqDiff, Nat.one_ne_zero, Nat.zero_ne_one, z_0, z_lt, z_le, z_eq, z_add, z_mul, z_inb, z_cl, z_b0, z_b1, z_b01, z_b010, z_b011, kb_v, kb_n, List.cons_append, List.nil_append, if_true, if_false, ↓reduceIte, Bool.false_eq_true, Bool.true_eq_false, decide_eq_true_eq, decide_eq_false_iff_not, not_false_eq_true]
  exact x_votes_loop h w d hf hg (T 8) 0 (by omega)
theorem x_wins {σ : Sg} {T : TT} (h : XT σ 8 T) (w : WF T) (d : Nat) {v : Nat} (hv : v < 128) : cal (d + 2) mX5_wins [.ref 8, .int (nI v)] σ = some (some (.int (nI (wns T v).toNat)), σ) := by
  have w1 := w.1
  have := pop_le v
  rw [aX5_wins_8]
  simp (disch := omega) only [kX5_wins, XT8 h, eq_self, Nat.reduceEqDiff, Nat.one_ne_zero, Nat.zero_ne_one, z_0, z_lt, z_le, z_eq, z_add, z_mul, z_inb, z_cl, z_b0, z_b1, z_b01, z_b010, z_b011, kb_v, kb_n, List.cons_append, List.nil_append, if_true, if_false, ↓reduceIte, Bool.false_eq_true, Bool.true_eq_false, decide_eq_true_eq, decide_eq_false_iff_not, not_false_eq_true, e_bitCount]
  unfold wns
  (repeat' split) <;> first | rfl | (exfalso; omega) | (rw [decide_eq_true (by omega)]; rfl) | (rw [decide_eq_false (by omega)]; rfl) | (simp_all; done) | (exfalso; simp_all; omega)
def pas (T : TT) : Bool := decide (T 3 = 2 ^ (T 7) - 1) && wns T (vot T (T 4) (T 5))
theorem x_passes {σ : Sg} {T : TT} (h : XT σ 8 T) (w : WF T) (d : Nat) : cal (d + 4) mX5_passes [.ref 8] σ = some (some (.int (nI (pas T).toNat)), σ) := by
  have w1 := w.1
  have hv := vot_lt T (T 4) (T 5) (by omega)
  have hp : 2 ^ (T 7) ≤ 2 ^ 7 := Nat.pow_le_pow_right (by omega) (by omega)
  have hp1 : 1 ≤ 2 ^ (T 7) := Nat.one_le_two_pow
  rw [aX5_passes_8]
  simp (disch := omega) only [kX5_passes, XT8 h, eq_self, Nat.reduceEqDiff, Nat.one_ne_zero, Nat.zero_ne_one, z_0, z_lt, z_le, z_eq, z_add, z_mul, z_inb, z_cl, z_b0, z_b1, z_b01, z_b010, z_b011, kb_v, kb_n, List.cons_append, List.nil_append, if_true, if_false, ↓reduceIte, Bool.false_eq_true, Bool.true_eq_false, decide_eq_true_eq, decide_eq_false_iff_not, not_false_eq_true, x_votes h w, x_wins h w, z_one, z_sub]
  unfold pas
  by_cases q : T 3 = 2 ^ (T 7) - 1
  · simp only [q, if_true, decide_true, Bool.true_and]
    cases wns T (vot T (T 4) (T 5)) <;> simp [z_b010, z_b011]
  · simp [q, z_b010]
