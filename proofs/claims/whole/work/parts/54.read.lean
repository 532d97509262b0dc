/-! the text: letters, numbers -/
def ltr (tn : Nat) (tp : TT) (i : Nat) : Int32 := if i < tn then nI (tp i) else -1
def fg (tn : Nat) (tp : TT) (i : Nat) : Bool := inr (ltr tn tp i) 48 57
def nfg (tn : Nat) (tp : TT) (i : Nat) : Nat := if fg tn tp i = true then (if fg tn tp (i + 1) = true then (if fg tn tp (i + 2) = true then 3 else 2) else 1) else 0
def dg (tp : TT) (i : Nat) : Nat := tp i - 48
def vlu (tn : Nat) (tp : TT) (i : Nat) : Nat := if nfg tn tp i = 1 then dg tp i else 10 * dg tp i + dg tp (i + 1)
abbrev RR (α : Type) : Type := (Nat × Nat) ⊕ α
def rn (tn : Nat) (tp : TT) (a : Nat) (okp : Nat → Bool) (sg : Nat) : RR (Nat × Nat) :=
  if nfg tn tp a = 0 ∨ nfg tn tp a = 3 then .inl (1, a) else if okp (vlu tn tp a) = true then (if ltr tn tp (a + nfg tn tp a) = nI sg then .inr (vlu tn tp a, a + nfg tn tp a + 1) else .inl (1, a + nfg tn tp a)) else .inl (2, a)
def rd3 (tn : Nat) (tp : TT) (a : Nat) (ok1 ok2 ok3 : Nat → Bool) : RR (Nat × Nat × Nat × Nat) := match rn tn tp a ok1 44 with
  | .inl e => .inl e
  | .inr (v1, a1) => match rn tn tp a1 ok2 44 with
    | .inl e => .inl e
    | .inr (v2, a2) => match rn tn tp a2 ok3 59 with
      | .inl e => .inl e
      | .inr (v3, a3) => .inr (v1, v2, v3, a3)
theorem fg_lt {tn : Nat} {tp : TT} {i : Nat} (h : fg tn tp i = true) : i < tn := by
  unfold fg ltr at h
  by_cases q : i < tn
  · exact q
  · rw [if_neg q] at h
    exact absurd h (by decide)
theorem fg_d {tn : Nat} {tp : TT} {i : Nat} (ht : ∀ j, j < tn → tp j < 256) (h : fg tn tp i = true) : ltr tn tp i = nI (dg tp i + 48) ∧ dg tp i ≤ 9 := by
  have hl := fg_lt h
  have := ht i hl
  unfold fg ltr at h
  rw [if_pos hl, inr_n (by omega), decide_eq_true_iff] at h
  unfold ltr dg
  rw [if_pos hl, show tp i - 48 + 48 = tp i by omega]
  exact ⟨rfl, by omega⟩
theorem nfg_c (tn : Nat) (tp : TT) (i : Nat) : (nfg tn tp i = 0 ∧ fg tn tp i = false) ∨ (nfg tn tp i = 1 ∧ fg tn tp i = true ∧ fg tn tp (i + 1) = false) ∨ (nfg tn tp i = 2 ∧ fg tn tp i = true ∧ fg tn tp (i + 1) = true ∧ fg tn tp (i + 2) = false) ∨ (nfg tn tp i = 3 ∧ fg tn tp i = true ∧ fg tn tp (i + 1) = true ∧ fg tn tp (i + 2) = true) := by
  unfold nfg
  cases q1 : fg tn tp i
  · simp
  · cases q2 : fg tn tp (i + 1)
    · simp
    · cases q3 : fg tn tp (i + 2) <;> simp
theorem x_let {σ : Sg} {tn : Nat} {tp : TT} (h : XP σ tn tp) (d : Nat) {i : Nat} (hi : i < 2147483000) (htn : tn ≤ 120) : cal (d + 1) mX4_letterAt [.ref 6, .int (nI i)] σ = some (some (.int (ltr tn tp i)), σ) := by
  obtain ⟨h1, h2⟩ := h
  rw [aX4_letterAt_6]
  unfold ltr
  by_cases q : i < tn
  · have := h2 i q
    simp (disch := omega) only [kX4_letterAt, eq_self, Nat.reduceEqDiff, Nat.one_ne_zero, Nat.zero_ne_one, z_0, z_lt, z_le, z_eq, z_add, z_mul, z_inb, z_cl, z_b0, z_b1, z_b01, z_b010, z_b011, kb_v, kb_n, List.cons_append, List.nil_append, if_true, if_false, ↓reduceIte, Bool.false_eq_true, Bool.true_eq_false, decide_eq_true_eq, decide_eq_false_iff_not, not_false_eq_true, h1, this, Nat.not_lt_zero]
    rw [if_neg (by omega), if_neg (by omega), if_pos q]
  · simp (disch := omega) only [kX4_letterAt, eq_self, Nat.reduceEqDiff, Nat.one_ne_zero, Nat.zero_ne_one, z_0, z_lt, z_le, z_eq, z_add, z_mul, z_inb, z_cl, z_b0, z_b1, z_b01, z_b010, z_b011, kb_v, kb_n, List.cons_append, List.nil_append, if_true, if_false, ↓reduceIte, Bool.false_eq_true, Bool.true_eq_false, decide_eq_true_eq, decide_eq_false_iff_not, not_false_eq_true, h1, Nat.not_lt_zero]
    rw [if_pos (by omega), if_neg q]
theorem x_isF (d : Nat) (σ : Sg) (a : Int32) : cal (d + 1) mX4_isFigure [.int a] σ = some (some (.int (nI (inr a 48 57).toNat)), σ) := by
  rw [aX4_isFigure]
  simp (disch := omega) only [kX4_isFigure, eq_self, Nat.reduceEqDiff, Nat.one_ne_zero, Nat.zero_ne_one, z_0, z_lt, z_le, z_eq, z_add, z_mul, z_inb, z_cl, z_b0, z_b1, z_b01, z_b010, z_b011, kb_v, kb_n, List.cons_append, List.nil_append, if_true, if_false, ↓reduceIte, Bool.false_eq_true, Bool.true_eq_false, decide_eq_true_eq, decide_eq_false_iff_not, not_false_eq_true, lt_I, le_I, z_tI]
  unfold inr
  (repeat' split) <;> first | rfl | (exfalso; omega) | (rw [decide_eq_true (by omega)]; rfl) | (rw [decide_eq_false (by omega)]; rfl) | (simp_all; done) | (exfalso; simp_all; omega)
theorem vlu_1 {tn : Nat} {tp : TT} {i : Nat} (h : nfg tn tp i = 1) : vlu tn tp i = dg tp i := by unfold vlu; rw [if_pos h]
theorem vlu_2 {tn : Nat} {tp : TT} {i : Nat} (h : nfg tn tp i = 2) : vlu tn tp i = 10 * dg tp i + dg tp (i + 1) := by unfold vlu; rw [if_neg (by omega)]
theorem x_fail {σ : Sg} (d : Nat) (v : Int32) {a : Nat} (h : σ 6 2 = nI a) : cal (d + 1) mX4_fail [.ref 6, .int v] σ = some (some (.int (nI 0)), up (up σ 6 3 v) 6 4 (nI a)) := by
  rw [aX4_fail_6]
  simp (disch := omega) only [kX4_fail, eq_self, Nat.reduceEqDiff, Nat.one_ne_zero, Nat.zero_ne_one, z_0, z_lt, z_le, z_eq, z_add, z_mul, z_inb, z_cl, z_b0, z_b1, z_b01, z_b010, z_b011, kb_v, kb_n, List.cons_append, List.nil_append, if_true, if_false, ↓reduceIte, Bool.false_eq_true, Bool.true_eq_false, decide_eq_true_eq, decide_eq_false_iff_not, not_false_eq_true, up_s, up_k, up_j, h]
theorem vlu_lt {tn : Nat} {tp : TT} {i : Nat} (ht : ∀ j, j < tn → tp j < 256) (hn : nfg tn tp i = 1 ∨ nfg tn tp i = 2) : vlu tn tp i ≤ 99 := by
  rcases nfg_c tn tp i with ⟨q, q0⟩ | ⟨q, q0, q1⟩ | ⟨q, q0, q1, q2⟩ | ⟨q, q0, q1, q2⟩
  · omega
  · have := (fg_d ht q0).2; rw [vlu_1 q]; omega
  · have := (fg_d ht q0).2; have := (fg_d ht q1).2; rw [vlu_2 q]; omega
  · omega
theorem XP_6 {σ : Sg} {tn : Nat} {tp : TT} (h : XP σ tn tp) {j : Nat} (hj : j ≠ 1) (v : Int32) : XP (up σ 6 j v) tn tp := ⟨by rw [up_j (by omega)]; exact h.1, fun i hi => by rw [up_k (by omega)]; exact h.2 i hi⟩
theorem x_rl {σ : Sg} {tn : Nat} {tp : TT} (h : XP σ tn tp) (d : Nat) {a : Nat} (c : Int32) (ha : a ≤ 300) (htn : tn ≤ 120) (h2 : σ 6 2 = nI a) : cal (d + 2) mX4_readLetter [.ref 6, .int c] σ = if ltr tn tp a = c then some (some (.int (nI 1)), up σ 6 2 (nI (a + 1))) else some (some (.int (nI 0)), up (up σ 6 3 (nI 1)) 6 4 (nI a)) := by
  rw [aX4_readLetter_6]
  simp (disch := omega) only [kX4_readLetter, eq_self, Nat.reduceEqDiff, Nat.one_ne_zero, Nat.zero_ne_one, z_0, z_lt, z_le, z_eq, z_add, z_mul, z_inb, z_cl, z_b0, z_b1, z_b01, z_b010, z_b011, kb_v, kb_n, List.cons_append, List.nil_append, if_true, if_false, ↓reduceIte, Bool.false_eq_true, Bool.true_eq_false, decide_eq_true_eq, decide_eq_false_iff_not, not_false_eq_true, h2, x_let h, x_fail (a := a) _ _ h2]
theorem up_u2 (σ : Sg) (k j : Nat) (x y : Int32) : up (up σ k j x) k j y = up σ k j y := by
  funext a b
  unfold up
  split <;> rfl
theorem x_nst {σ : Sg} {tn : Nat} {tp : TT} (h : XP σ tn tp) (d : Nat) {a k V : Nat} (lo hi ot : Int32) (ha : a ≤ 200) (htn : tn ≤ 120) (ht : ∀ j, j < tn → tp j < 256) (h2 : σ 6 2 = nI a) (hk : k < 3) (hV : V < 1000) (q : fg tn tp (a + k) = true) : exec (d + 2) mX4_readNumber 8 [.ref 6, .int lo, .int hi, .int ot, .int (nI k)] [] (up σ 6 5 (nI V)) = exec (d + 2) mX4_readNumber 8 [.ref 6, .int lo, .int hi, .int ot, .int (nI (k + 1))] [] (up σ 6 5 (nI (10 * V + dg tp (a + k)))) := by
  have hX : XP (up σ 6 5 (nI V)) tn tp := XP_6 h (by omega) _
  obtain ⟨l0, d0⟩ := fg_d ht q
  have e0 : cal (d + 2) mX4_isFigure [.int (nI (dg tp (a + k) + 48))] (up σ 6 5 (nI V)) = some (some (.int (nI 1)), up σ 6 5 (nI V)) := by
    rw [← l0]
    refine (x_isF (d + 1) _ _).trans ?_
    rw [show inr (ltr tn tp (a + k)) 48 57 = true from q]
    rfl
  rw [hX4_readNumber_8]
  simp (disch := omega) only [kX4_readNumber_0, kX4_readNumber_1, eq_self, Nat.reduceEqDiff, Nat.one_ne_zero, Nat.zero_ne_one, z_0, z_lt, z_le, z_eq, z_add, z_mul, z_inb, z_cl, z_b0, z_b1, z_b01, z_b010, z_b011, kb_v, kb_n, List.cons_append, List.nil_append, if_true, if_false, ↓reduceIte, Bool.false_eq_true, Bool.true_eq_false, decide_eq_true_eq, decide_eq_false_iff_not, not_false_eq_true, up_s, up_k, up_j, h2, x_let hX, l0, e0, z_sub, up_u2]
  rw [if_neg (by omega), show 10 * V + (dg tp (a + k) + 48) - 48 = 10 * V + dg tp (a + k) by omega]
theorem x_nsp {σ : Sg} {tn : Nat} {tp : TT} (h : XP σ tn tp) (d : Nat) {a k V : Nat} (lo hi ot : Int32) (ha : a ≤ 200) (htn : tn ≤ 120) (h2 : σ 6 2 = nI a) (hk : k < 3) (q : fg tn tp (a + k) = false) : exec (d + 2) mX4_readNumber 8 [.ref 6, .int lo, .int hi, .int ot, .int (nI k)] [] (up σ 6 5 (nI V)) = exec (d + 2) mX4_readNumber 63 [.ref 6, .int lo, .int hi, .int ot, .int (nI k)] [] (up σ 6 5 (nI V)) := by
  have hX : XP (up σ 6 5 (nI V)) tn tp := XP_6 h (by omega) _
  have e0 : cal (d + 2) mX4_isFigure [.int (ltr tn tp (a + k))] (up σ 6 5 (nI V)) = some (some (.int (nI 0)), up σ 6 5 (nI V)) := by
    refine (x_isF (d + 1) _ _).trans ?_
    rw [show inr (ltr tn tp (a + k)) 48 57 = false from q]
    rfl
  rw [hX4_readNumber_8]
  simp (disch := omega) only [kX4_readNumber_0, kX4_readNumber_1, eq_self, Nat.reduceEqDiff, Nat.one_ne_zero, Nat.zero_ne_one, z_0, z_lt, z_le, z_eq, z_add, z_mul, z_inb, z_cl, z_b0, z_b1, z_b01, z_b010, z_b011, kb_v, kb_n, List.cons_append, List.nil_append, if_true, if_false, ↓reduceIte, Bool.false_eq_true, Bool.true_eq_false, decide_eq_true_eq, decide_eq_false_iff_not, not_false_eq_true, up_s, up_k, up_j, h2, x_let hX, e0]
  rw [if_neg (show ¬ 3 ≤ k by omega)]
theorem x_nen (σ : Sg) (d : Nat) (lo hi ot : Int32) : exec (d + 2) mX4_readNumber 8 [.ref 6, .int lo, .int hi, .int ot, .int (nI 3)] [] σ = exec (d + 2) mX4_readNumber 63 [.ref 6, .int lo, .int hi, .int ot, .int (nI 3)] [] σ := by
  rw [hX4_readNumber_8]
  simp (disch := omega) only [kX4_readNumber_0, kX4_readNumber_1, eq_self, Nat.reduceEqDiff, Nat.one_ne_zero, Nat.zero_ne_one, z_0, z_lt, z_le, z_eq, z_add, z_mul, z_inb, z_cl, z_b0, z_b1, z_b01, z_b010, z_b011, kb_v, kb_n, List.cons_append, List.nil_append, if_true, if_false, ↓reduceIte, Bool.false_eq_true, Bool.true_eq_false, decide_eq_true_eq, decide_eq_false_iff_not, not_false_eq_true, Nat.le_refl]
theorem x_nlp {σ : Sg} {tn : Nat} {tp : TT} (h : XP σ tn tp) (d : Nat) {a : Nat} (lo hi ot : Int32) (ha : a ≤ 200) (htn : tn ≤ 120) (ht : ∀ j, j < tn → tp j < 256) (h2 : σ 6 2 = nI a) : ∃ V, exec (d + 2) mX4_readNumber 8 [.ref 6, .int lo, .int hi, .int ot, .int (nI 0)] [] (up σ 6 5 (nI 0)) = exec (d + 2) mX4_readNumber 63 [.ref 6, .int lo, .int hi, .int ot, .int (nI (nfg tn tp a))] [] (up σ 6 5 (nI V)) ∧ (nfg tn tp a = 1 ∨ nfg tn tp a = 2 → V = vlu tn tp a) := by
  rcases nfg_c tn tp a with ⟨q, q0⟩ | ⟨q, q0, q1⟩ | ⟨q, q0, q1, q2⟩ | ⟨q, q0, q1, q2⟩
  · refine ⟨0, ?_, fun c => by omega⟩
    rw [q]
    exact x_nsp h d lo hi ot ha htn h2 (by omega) q0
  · have d0 := (fg_d ht q0).2
    have s1 := x_nst h d (V := 0) (k := 0) lo hi ot ha htn ht h2 (by omega) (by omega) q0
    refine ⟨10 * 0 + dg tp (a + 0), ?_, fun _ => by rw [vlu_1 q, Nat.add_zero]; omega⟩
    rw [q]
    exact s1.trans (x_nsp h d lo hi ot ha htn h2 (by omega) q1)
  · have d0 := (fg_d ht q0).2
    have d1 := (fg_d ht q1).2
    have s1 := x_nst h d (V := 0) (k := 0) lo hi ot ha htn ht h2 (by omega) (by omega) q0
    have s2 := x_nst h d (V := 10 * 0 + dg tp (a + 0)) (k := 1) lo hi ot ha htn ht h2 (by omega) (by rw [Nat.add_zero]; omega) q1
    refine ⟨10 * (10 * 0 + dg tp (a + 0)) + dg tp (a + 1), ?_, fun _ => by rw [vlu_2 q, Nat.add_zero]; omega⟩
    rw [q]
    exact s1.trans (s2.trans (x_nsp h d lo hi ot ha htn h2 (by omega) q2))
  · have d0 := (fg_d ht q0).2
    have d1 := (fg_d ht q1).2
    have s1 := x_nst h d (V := 0) (k := 0) lo hi ot ha htn ht h2 (by omega) (by omega) q0
    have s2 := x_nst h d (V := 10 * 0 + dg tp (a + 0)) (k := 1) lo hi ot ha htn ht h2 (by omega) (by rw [Nat.add_zero]; omega) q1
    have s3 := x_nst h d (V := 10 * (10 * 0 + dg tp (a + 0)) + dg tp (a + 1)) (k := 2) lo hi ot ha htn ht h2 (by omega) (by rw [Nat.add_zero]; omega) q2
    refine ⟨10 * (10 * (10 * 0 + dg tp (a + 0)) + dg tp (a + 1)) + dg tp (a + 2), ?_, fun c => by omega⟩
    rw [q]
    exact s1.trans (s2.trans (s3.trans (x_nen _ d lo hi ot)))
/-- a number and its sign -/
theorem x_num {σ : Sg} {tn : Nat} {tp : TT} (h : XP σ tn tp) (d : Nat) {a sg : Nat} (lo hi ot : Int32) (okp : Nat → Bool) (ha : a ≤ 200) (hsg : sg < 256) (htn : tn ≤ 120) (ht : ∀ j, j < tn → tp j < 256) (h2 : σ 6 2 = nI a) (hok : ∀ v, v ≤ 99 → (okp v = true ↔ ¬ (nI v < lo ∨ hi < nI v) ∨ nI v = ot)) :
    (∃ σ', (cal (d + 3) mX4_readNumber [.ref 6, .int lo, .int hi, .int ot] σ = some (some (.int (nI 0)), σ') ∨ ∃ σ1, cal (d + 3) mX4_readNumber [.ref 6, .int lo, .int hi, .int ot] σ = some (some (.int (nI 1)), σ1) ∧ cal (d + 3) mX4_readLetter [.ref 6, .int (nI sg)] σ1 = some (some (.int (nI 0)), σ')) ∧ (∃ f pl, rn tn tp a okp sg = .inl (f, pl) ∧ σ' 6 3 = nI f ∧ σ' 6 4 = nI pl ∧ (1 ≤ f ∧ f ≤ 3) ∧ pl ≤ 300) ∧ σ' 6 1 = σ 6 1 ∧ ∀ c, c ≠ 6 → σ' c = σ c) ∨
    (∃ σ1 σ', cal (d + 3) mX4_readNumber [.ref 6, .int lo, .int hi, .int ot] σ = some (some (.int (nI 1)), σ1) ∧ cal (d + 3) mX4_readLetter [.ref 6, .int (nI sg)] σ1 = some (some (.int (nI 1)), σ') ∧ (∃ v a', rn tn tp a okp sg = .inr (v, a') ∧ σ' 6 5 = nI v ∧ σ' 6 2 = nI a' ∧ v ≤ 99 ∧ okp v = true ∧ a < a' ∧ a' ≤ tn) ∧ (∀ j, j ≠ 2 → j ≠ 5 → σ' 6 j = σ 6 j) ∧ ∀ c, c ≠ 6 → σ' c = σ c) := by
  have hb : ∀ v, v ≤ 99 → okp v = true → ¬ (nI v < lo ∨ hi < nI v) ∨ nI v = ot := fun v hv q => (hok v hv).mp q
  have hb2 : ∀ v, v ≤ 99 → ¬ (okp v = true) → (nI v < lo ∨ hi < nI v) ∧ ¬ (nI v = ot) := fun v hv q => by
    have := mt (hok v hv).mpr q
    exact ⟨Classical.byContradiction fun c => this (Or.inl c), fun c => this (Or.inr c)⟩
  obtain ⟨V, hlp, hVv⟩ := x_nlp h d lo hi ot ha htn ht h2
  by_cases q : nfg tn tp a = 0 ∨ nfg tn tp a = 3
  · have hf0 : (up σ 6 5 (nI V)) 6 2 = nI a := by rw [up_j (by omega)]; exact h2
    refine Or.inl ⟨up (up (up σ 6 5 (nI V)) 6 3 (nI 1)) 6 4 (nI a), Or.inl ?_, ⟨1, a, by unfold rn; rw [if_pos q], by rw [up_j (by omega), up_s], up_s, by omega, by omega⟩, by rw [up_j (by omega), up_j (by omega), up_j (by omega)], fun c hc => by rw [up_of hc, up_of hc, up_of hc]⟩
    rw [aX4_readNumber_6]
    simp (disch := omega) only [kX4_readNumber_0, kX4_readNumber_1, eq_self, Nat.reduceEqDiff, Nat.one_ne_zero, Nat.zero_ne_one, z_0, z_lt, z_le, z_eq, z_add, z_mul, z_inb, z_cl, z_b0, z_b1, z_b01, z_b010, z_b011, kb_v, kb_n, List.cons_append, List.nil_append, if_true, if_false, ↓reduceIte, Bool.false_eq_true, Bool.true_eq_false, decide_eq_true_eq, decide_eq_false_iff_not, not_false_eq_true]
    rw [hlp]
    rcases q with q | q
    · simp (disch := omega) only [kX4_readNumber_0, kX4_readNumber_1, eq_self, Nat.reduceEqDiff, Nat.one_ne_zero, Nat.zero_ne_one, z_0, z_lt, z_le, z_eq, z_add, z_mul, z_inb, z_cl, z_b0, z_b1, z_b01, z_b010, z_b011, kb_v, kb_n, List.cons_append, List.nil_append, if_true, if_false, ↓reduceIte, Bool.false_eq_true, Bool.true_eq_false, decide_eq_true_eq, decide_eq_false_iff_not, not_false_eq_true, q, x_fail (a := a) _ _ hf0, Nat.reduceLeDiff, Nat.zero_lt_one]
    · simp (disch := omega) only [kX4_readNumber_0, kX4_readNumber_1, eq_self, Nat.reduceEqDiff, Nat.one_ne_zero, Nat.zero_ne_one, z_0, z_lt, z_le, z_eq, z_add, z_mul, z_inb, z_cl, z_b0, z_b1, z_b01, z_b010, z_b011, kb_v, kb_n, List.cons_append, List.nil_append, if_true, if_false, ↓reduceIte, Bool.false_eq_true, Bool.true_eq_false, decide_eq_true_eq, decide_eq_false_iff_not, not_false_eq_true, q, x_fail (a := a) _ _ hf0, Nat.reduceLeDiff, Nat.reduceLT]
  · have hnf : nfg tn tp a = 1 ∨ nfg tn tp a = 2 := by
      rcases nfg_c tn tp a with c | c | c | c <;> omega
    have hv := vlu_lt ht hnf
    have hrn : ∀ b : Bool, okp (vlu tn tp a) = b → rn tn tp a okp sg = if b = true then (if ltr tn tp (a + nfg tn tp a) = nI sg then .inr (vlu tn tp a, a + nfg tn tp a + 1) else .inl (1, a + nfg tn tp a)) else .inl (2, a) := fun b hb => by unfold rn; rw [if_neg q, hb]
    have hrd : cal (d + 3) mX4_readNumber [.ref 6, .int lo, .int hi, .int ot] σ = if okp (vlu tn tp a) = true then some (some (.int (nI 1)), up (up σ 6 5 (nI (vlu tn tp a))) 6 2 (nI (a + nfg tn tp a))) else some (some (.int (nI 0)), up (up (up σ 6 5 (nI (vlu tn tp a))) 6 3 (nI 2)) 6 4 (nI a)) := by
      have hf2 : (up σ 6 5 (nI (vlu tn tp a))) 6 2 = nI a := by rw [up_j (by omega)]; exact h2
      rw [hVv hnf] at hlp
      rw [aX4_readNumber_6]
      simp (disch := omega) only [kX4_readNumber_0, kX4_readNumber_1, eq_self, Nat.reduceEqDiff, Nat.one_ne_zero, Nat.zero_ne_one, z_0, z_lt, z_le, z_eq, z_add, z_mul, z_inb, z_cl, z_b0, z_b1, z_b01, z_b010, z_b011, kb_v, kb_n, List.cons_append, List.nil_append, if_true, if_false, ↓reduceIte, Bool.false_eq_true, Bool.true_eq_false, decide_eq_true_eq, decide_eq_false_iff_not, not_false_eq_true]
      rw [hlp]
      simp (disch := omega) only [kX4_readNumber_0, kX4_readNumber_1, eq_self, Nat.reduceEqDiff, Nat.one_ne_zero, Nat.zero_ne_one, z_0, z_lt, z_le, z_eq, z_add, z_mul, z_inb, z_cl, z_b0, z_b1, z_b01, z_b010, z_b011, kb_v, kb_n, List.cons_append, List.nil_append, if_true, if_false, ↓reduceIte, Bool.false_eq_true, Bool.true_eq_false, decide_eq_true_eq, decide_eq_false_iff_not, not_false_eq_true, up_s, up_k, up_j, h2, x_fail (a := a) _ _ hf2]
      rw [if_neg (by omega), if_pos (by omega)]
      by_cases c : okp (vlu tn tp a) = true
      · rw [if_pos c]
        rcases hb _ hv c with e | e
        · rw [if_neg (fun z => e (Or.inl z)), if_pos]
          rw [le_I]
          have := mt Or.inr e
          rw [lt_I] at this
          omega
        · rw [if_pos e]
          split
          · rfl
          · split <;> rfl
      · obtain ⟨e1, e2⟩ := hb2 _ hv c
        rw [if_neg c, if_neg e2]
        split
        · rfl
        · rename_i z
          rw [if_neg]
          rw [le_I]
          rcases e1 with e1 | e1
          · exact absurd e1 z
          · rw [lt_I] at e1
            omega
    cases c : okp (vlu tn tp a)
    · rw [if_neg (by rw [c]; simp)] at hrd
      have e := hrn false c
      rw [if_neg (by simp)] at e
      exact Or.inl ⟨_, Or.inl hrd, ⟨2, a, e, by simp (disch := omega) only [up_s, up_k, up_j], by simp (disch := omega) only [up_s, up_k, up_j], by omega, by omega⟩, by simp (disch := omega) only [up_s, up_k, up_j], fun c hc => by simp only [up_of hc]⟩
    · rw [if_pos c] at hrd
      have e := hrn true c
      rw [if_pos rfl] at e
      have hX : XP (up (up σ 6 5 (nI (vlu tn tp a))) 6 2 (nI (a + nfg tn tp a))) tn tp := XP_6 (XP_6 h (by omega) _) (by omega) _
      have hrl := x_rl hX (d + 1) (nI sg) (a := a + nfg tn tp a) (by omega) htn up_s
      by_cases g : ltr tn tp (a + nfg tn tp a) = nI sg
      · rw [if_pos g] at hrl e
        have hlt : a + nfg tn tp a < tn := by
          by_cases y : a + nfg tn tp a < tn
          · exact y
          · unfold ltr at g
            rw [if_neg y] at g
            exact absurd g.symm ((enc_n (by omega)).mp)
        exact Or.inr ⟨_, _, hrd, hrl, ⟨_, _, e, by simp (disch := omega) only [up_s, up_k, up_j], by simp (disch := omega) only [up_s, up_k, up_j], hv, c, by omega, by omega⟩, fun j h1 h2 => by simp (disch := omega) only [up_s, up_k, up_j], fun c hc => by simp only [up_of hc]⟩
      · rw [if_neg g] at hrl e
        exact Or.inl ⟨_, Or.inr ⟨_, hrd, hrl⟩, ⟨1, _, e, by simp (disch := omega) only [up_s, up_k, up_j], by simp (disch := omega) only [up_s, up_k, up_j], by omega, by omega⟩, by simp (disch := omega) only [up_s, up_k, up_j], fun c hc => by simp only [up_of hc]⟩
/-- three numbers -/
theorem x_th {σ : Sg} {tn : Nat} {tp : TT} (h : XP σ tn tp) (d : Nat) {a : Nat} (l2 u2 l3 u3 o3 : Int32) (ok2 ok3 : Nat → Bool) (ha : a ≤ 200) (htn : tn ≤ 120) (ht : ∀ j, j < tn → tp j < 256) (h2 : σ 6 2 = nI a) (hk2 : ∀ v, v ≤ 99 → (ok2 v = true ↔ ¬ (nI v < l2 ∨ u2 < nI v) ∨ nI v = -1)) (hk3 : ∀ v, v ≤ 99 → (ok3 v = true ↔ ¬ (nI v < l3 ∨ u3 < nI v) ∨ nI v = o3)) :
    ∃ σ', (∀ c, c ≠ 6 → σ' c = σ c) ∧ σ' 6 1 = σ 6 1 ∧ ((∃ f pl, cal (d + 4) mX4_readThree [.ref 6, .int l2, .int u2, .int l3, .int u3, .int o3] σ = some (some (.int (nI 0)), σ') ∧ rd3 tn tp a (fun v => decide (v ≤ 20)) ok2 ok3 = .inl (f, pl) ∧ σ' 6 3 = nI f ∧ σ' 6 4 = nI pl ∧ (1 ≤ f ∧ f ≤ 3) ∧ pl ≤ 300) ∨
    (∃ v1 v2 v3 a', cal (d + 4) mX4_readThree [.ref 6, .int l2, .int u2, .int l3, .int u3, .int o3] σ = some (some (.int (nI 1)), σ') ∧ rd3 tn tp a (fun v => decide (v ≤ 20)) ok2 ok3 = .inr (v1, v2, v3, a') ∧ (σ' 6 6 = nI v1 ∧ σ' 6 7 = nI v2 ∧ σ' 6 8 = nI v3 ∧ σ' 6 2 = nI a') ∧ (v1 ≤ 20 ∧ ok2 v2 = true ∧ ok3 v3 = true ∧ v2 ≤ 99 ∧ v3 ≤ 99) ∧ a < a' ∧ a' ≤ tn)) := by
  have hk1 : ∀ v, v ≤ 99 → (decide (v ≤ 20) = true ↔ ¬ (nI v < nI 0 ∨ nI 20 < nI v) ∨ nI v = -1) := fun v hv => by
    rw [decide_eq_true_iff, z_lt (by omega) (by omega), z_lt (by omega) (by omega), show (nI v = -1) ↔ False from enc_n (by omega)]
    constructor
    · intro q; left; omega
    · rintro (q | q)
      · omega
      · exact q.elim
  rcases x_num h d (sg := 44) (nI 0) (nI 20) (-1) _ ha (by omega) htn ht h2 hk1 with ⟨σ', hc, ⟨f, pl, hr, g1, g2, g3⟩, g4, g5⟩ | ⟨σ1, σ', c1, c2, ⟨v1, a1, hr, g1, g2, g3, g4, g5, g6⟩, g7, g8⟩
  · refine ⟨σ', g5, g4, Or.inl ⟨f, pl, ?_, by unfold rd3; rw [hr], g1, g2, g3⟩⟩
    rw [aX4_readThree_6]
    rcases hc with hc | ⟨σ1, hc1, hc2⟩
    · simp (disch := omega) only [kX4_readThree_0, kX4_readThree_1, eq_self, Nat.reduceEqDiff, Nat.one_ne_zero, Nat.zero_ne_one, z_0, z_lt, z_le, z_eq, z_add, z_mul, z_inb, z_cl, z_b0, z_b1, z_b01, z_b010, z_b011, kb_v, kb_n, List.cons_append, List.nil_append, if_true, if_false, ↓reduceIte, Bool.false_eq_true, Bool.true_eq_false, decide_eq_true_eq, decide_eq_false_iff_not, not_false_eq_true, hc]
    · simp (disch := omega) only [kX4_readThree_0, kX4_readThree_1, eq_self, Nat.reduceEqDiff, Nat.one_ne_zero, Nat.zero_ne_one, z_0, z_lt, z_le, z_eq, z_add, z_mul, z_inb, z_cl, z_b0, z_b1, z_b01, z_b010, z_b011, kb_v, kb_n, List.cons_append, List.nil_append, if_true, if_false, ↓reduceIte, Bool.false_eq_true, Bool.true_eq_false, decide_eq_true_eq, decide_eq_false_iff_not, not_false_eq_true, hc1, hc2]
  have hX1 : XP (up σ' 6 6 (nI v1)) tn tp := XP_6 ⟨by rw [g7 1 (by omega) (by omega)]; exact h.1, fun i hi => by rw [g8 7 (by omega)]; exact h.2 i hi⟩ (by omega) _
  rcases x_num hX1 d (sg := 44) l2 u2 (-1) ok2 (show a1 ≤ 200 by omega) (by omega) htn ht (by rw [up_j (by omega)]; exact g2) hk2 with ⟨σ'', hc, ⟨f, pl, hr2, j1, j2, j3⟩, j4, j5⟩ | ⟨σ2, σ'', e1, e2, ⟨v2, a2, hr2, j1, j2, j3, j4, j5, j6⟩, j7, j8⟩
  · refine ⟨σ'', fun c hc => by rw [j5 c hc, up_of hc, g8 c hc], by rw [j4, up_j (by omega), g7 1 (by omega) (by omega)], Or.inl ⟨f, pl, ?_, by unfold rd3; rw [hr]; simp only [hr2], j1, j2, j3⟩⟩
    rw [aX4_readThree_6]
    rcases hc with hc | ⟨σ3, hc1, hc2⟩
    · simp (disch := omega) only [kX4_readThree_0, kX4_readThree_1, eq_self, Nat.reduceEqDiff, Nat.one_ne_zero, Nat.zero_ne_one, z_0, z_lt, z_le, z_eq, z_add, z_mul, z_inb, z_cl, z_b0, z_b1, z_b01, z_b010, z_b011, kb_v, kb_n, List.cons_append, List.nil_append, if_true, if_false, ↓reduceIte, Bool.false_eq_true, Bool.true_eq_false, decide_eq_true_eq, decide_eq_false_iff_not, not_false_eq_true, c1, c2, g1, hc]
    · simp (disch := omega) only [kX4_readThree_0, kX4_readThree_1, eq_self, Nat.reduceEqDiff, Nat.one_ne_zero, Nat.zero_ne_one, z_0, z_lt, z_le, z_eq, z_add, z_mul, z_inb, z_cl, z_b0, z_b1, z_b01, z_b010, z_b011, kb_v, kb_n, List.cons_append, List.nil_append, if_true, if_false, ↓reduceIte, Bool.false_eq_true, Bool.true_eq_false, decide_eq_true_eq, decide_eq_false_iff_not, not_false_eq_true, c1, c2, g1, hc1, hc2]
  have hX2 : XP (up σ'' 6 7 (nI v2)) tn tp := XP_6 ⟨by rw [j7 1 (by omega) (by omega)]; exact hX1.1, fun i hi => by rw [j8 7 (by omega)]; exact hX1.2 i hi⟩ (by omega) _
  rcases x_num hX2 d (sg := 59) l3 u3 o3 ok3 (show a2 ≤ 200 by omega) (by omega) htn ht (by rw [up_j (by omega)]; exact j2) hk3 with ⟨τ, hc, ⟨f, pl, hr3, k1, k2, k3⟩, k4, k5⟩ | ⟨σ3, τ, f1, f2, ⟨v3, a3, hr3, k1, k2, k3, k4, k5, k6⟩, k7, k8⟩
  · refine ⟨τ, fun c hc => by rw [k5 c hc, up_of hc, j8 c hc, up_of hc, g8 c hc], by rw [k4, up_j (by omega), j7 1 (by omega) (by omega), up_j (by omega), g7 1 (by omega) (by omega)], Or.inl ⟨f, pl, ?_, by unfold rd3; rw [hr]; simp only [hr2, hr3], k1, k2, k3⟩⟩
    rw [aX4_readThree_6]
    rcases hc with hc | ⟨σ4, hc1, hc2⟩
    · simp (disch := omega) only [kX4_readThree_0, kX4_readThree_1, eq_self, Nat.reduceEqDiff, Nat.one_ne_zero, Nat.zero_ne_one, z_0, z_lt, z_le, z_eq, z_add, z_mul, z_inb, z_cl, z_b0, z_b1, z_b01, z_b010, z_b011, kb_v, kb_n, List.cons_append, List.nil_append, if_true, if_false, ↓reduceIte, Bool.false_eq_true, Bool.true_eq_false, decide_eq_true_eq, decide_eq_false_iff_not, not_false_eq_true, c1, c2, g1, e1, e2, j1, hc]
    · simp (disch := omega) only [kX4_readThree_0, kX4_readThree_1, eq_self, Nat.reduceEqDiff, Nat.one_ne_zero, Nat.zero_ne_one, z_0, z_lt, z_le, z_eq, z_add, z_mul, z_inb, z_cl, z_b0, z_b1, z_b01, z_b010, z_b011, kb_v, kb_n, List.cons_append, List.nil_append, if_true, if_false, ↓reduceIte, Bool.false_eq_true, Bool.true_eq_false, decide_eq_true_eq, decide_eq_false_iff_not, not_false_eq_true, c1, c2, g1, e1, e2, j1, hc1, hc2]
  · refine ⟨up τ 6 8 (nI v3), fun c hc => by rw [up_of hc, k8 c hc, up_of hc, j8 c hc, up_of hc, g8 c hc], by rw [up_j (by omega), k7 1 (by omega) (by omega), up_j (by omega), j7 1 (by omega) (by omega), up_j (by omega), g7 1 (by omega) (by omega)], Or.inr ⟨v1, v2, v3, a3, ?_, by unfold rd3; rw [hr]; simp only [hr2, hr3], ⟨?_, ?_, up_s, ?_⟩, ⟨by simpa using g4, j4, k4, j3, k3⟩, by omega, by omega⟩⟩
    · rw [aX4_readThree_6]
      simp (disch := omega) only [kX4_readThree_0, kX4_readThree_1, eq_self, Nat.reduceEqDiff, Nat.one_ne_zero, Nat.zero_ne_one, z_0, z_lt, z_le, z_eq, z_add, z_mul, z_inb, z_cl, z_b0, z_b1, z_b01, z_b010, z_b011, kb_v, kb_n, List.cons_append, List.nil_append, if_true, if_false, ↓reduceIte, Bool.false_eq_true, Bool.true_eq_false, decide_eq_true_eq, decide_eq_false_iff_not, not_false_eq_true, c1, c2, g1, e1, e2, j1, f1, f2, k1]
    · rw [up_j (by omega), k7 6 (by omega) (by omega), up_j (by omega), j7 6 (by omega) (by omega), up_s]
    · rw [up_j (by omega), k7 7 (by omega) (by omega), up_s]
    · rw [up_j (by omega)]; exact k2
