/-! what a trial is, and how the class and the reference hold it -/
abbrev TT : Type := Nat → Nat
/-- the parts whose faults an elder finds -/
def sig (T : TT) (e : Nat) : Nat := bse (fun p => see (T (9 + p)) (T (16 + p)) (T (37 + e))) (T 7)
def WF (T : TT) : Prop := (T 0 ≤ 20 ∧ T 1 ≤ 60 ∧ T 2 ≤ 99 ∧ T 6 ≤ 1 ∧ T 7 ≤ 7 ∧ T 8 ≤ 5 ∧ T 3 < 128 ∧ T 4 < 128 ∧ T 5 < 32) ∧ (T 3 < 2 ^ (T 7) ∧ T 5 < 2 ^ (T 8)) ∧ (∀ i, (T 4).testBit i = true → (T 3).testBit i = true) ∧
  (∀ p, p < T 7 → 1 ≤ T (9 + p) ∧ T (9 + p) ≤ 5 ∧ T (16 + p) ≤ 20 ∧ 1 ≤ T (23 + p) ∧ T (23 + p) ≤ 20 ∧ (T (30 + p) = 7 ∨ T (30 + p) < p)) ∧
  (∀ e, e < T 8 → T (37 + e) ≤ 20 ∧ T (42 + e) ≤ 7 ∧ 1 ≤ T (47 + e) ∧ T (47 + e) ≤ 50) ∧ (T 6 = 0 → T 7 = 0 ∧ T 8 = 0 ∧ T 1 = 0 ∧ T 2 = 0 ∧ T 0 = 0) ∧ (T 6 = 1 → 1 ≤ T 7)
def XT (σ : Sg) (c : Nat) (T : TT) : Prop := σ c 0 = nI (T 6) ∧ σ c 1 = nI (T 0) ∧ σ c 2 = nI (T 1) ∧ σ c 3 = nI (T 2) ∧ σ c 4 = nI (T 7) ∧ σ c 5 = nI (T 8) ∧ σ c 6 = nI (T 3) ∧ σ c 7 = nI (T 4) ∧ σ c 8 = nI (T 5) ∧
  (∀ p, p < T 7 → σ (c + 1) p = nI (T (9 + p))) ∧ (∀ p, p < T 7 → σ (c + 2) p = nI (T (16 + p))) ∧ (∀ p, p < T 7 → σ (c + 3) p = nI (T (23 + p))) ∧ (∀ p, p < T 7 → σ (c + 4) p = nI (T (30 + p))) ∧
  (∀ e, e < T 8 → σ (c + 5) e = nI (T (37 + e))) ∧ (∀ e, e < T 8 → σ (c + 6) e = nI (T (42 + e))) ∧ (∀ e, e < T 8 → σ (c + 7) e = nI (T (47 + e))) ∧ (∀ e, e < T 8 → σ (c + 8) e = nI (sig T e))
theorem XT8 {σ : Sg} {T : TT} (h : XT σ 8 T) : σ 8 0 = nI (T 6) ∧ σ 8 1 = nI (T 0) ∧ σ 8 2 = nI (T 1) ∧ σ 8 3 = nI (T 2) ∧ σ 8 4 = nI (T 7) ∧ σ 8 5 = nI (T 8) ∧ σ 8 6 = nI (T 3) ∧ σ 8 7 = nI (T 4) ∧ σ 8 8 = nI (T 5) ∧
  (∀ p, p < T 7 → σ 9 p = nI (T (9 + p))) ∧ (∀ p, p < T 7 → σ 10 p = nI (T (16 + p))) ∧ (∀ p, p < T 7 → σ 11 p = nI (T (23 + p))) ∧ (∀ p, p < T 7 → σ 12 p = nI (T (30 + p))) ∧
  (∀ e, e < T 8 → σ 13 e = nI (T (37 + e))) ∧ (∀ e, e < T 8 → σ 14 e = nI (T (42 + e))) ∧ (∀ e, e < T 8 → σ 15 e = nI (T (47 + e))) ∧ (∀ e, e < T 8 → σ 16 e = nI (sig T e)) := h
theorem XT17 {σ : Sg} {T : TT} (h : XT σ 17 T) : σ 17 0 = nI (T 6) ∧ σ 17 1 = nI (T 0) ∧ σ 17 2 = nI (T 1) ∧ σ 17 3 = nI (T 2) ∧ σ 17 4 = nI (T 7) ∧ σ 17 5 = nI (T 8) ∧ σ 17 6 = nI (T 3) ∧ σ 17 7 = nI (T 4) ∧ σ 17 8 = nI (T 5) ∧
  (∀ p, p < T 7 → σ 18 p = nI (T (9 + p))) ∧ (∀ p, p < T 7 → σ 19 p = nI (T (16 + p))) ∧ (∀ p, p < T 7 → σ 20 p = nI (T (23 + p))) ∧ (∀ p, p < T 7 → σ 21 p = nI (T (30 + p))) ∧
  (∀ e, e < T 8 → σ 22 e = nI (T (37 + e))) ∧ (∀ e, e < T 8 → σ 23 e = nI (T (42 + e))) ∧ (∀ e, e < T 8 → σ 24 e = nI (T (47 + e))) ∧ (∀ e, e < T 8 → σ 25 e = nI (sig T e)) := h
theorem XT26 {σ : Sg} {T : TT} (h : XT σ 26 T) : σ 26 0 = nI (T 6) ∧ σ 26 1 = nI (T 0) ∧ σ 26 2 = nI (T 1) ∧ σ 26 3 = nI (T 2) ∧ σ 26 4 = nI (T 7) ∧ σ 26 5 = nI (T 8) ∧ σ 26 6 = nI (T 3) ∧ σ 26 7 = nI (T 4) ∧ σ 26 8 = nI (T 5) ∧
  (∀ p, p < T 7 → σ 27 p = nI (T (9 + p))) ∧ (∀ p, p < T 7 → σ 28 p = nI (T (16 + p))) ∧ (∀ p, p < T 7 → σ 29 p = nI (T (23 + p))) ∧ (∀ p, p < T 7 → σ 30 p = nI (T (30 + p))) ∧
  (∀ e, e < T 8 → σ 31 e = nI (T (37 + e))) ∧ (∀ e, e < T 8 → σ 32 e = nI (T (42 + e))) ∧ (∀ e, e < T 8 → σ 33 e = nI (T (47 + e))) ∧ (∀ e, e < T 8 → σ 34 e = nI (sig T e)) := h
theorem XT35 {σ : Sg} {T : TT} (h : XT σ 35 T) : σ 35 0 = nI (T 6) ∧ σ 35 1 = nI (T 0) ∧ σ 35 2 = nI (T 1) ∧ σ 35 3 = nI (T 2) ∧ σ 35 4 = nI (T 7) ∧ σ 35 5 = nI (T 8) ∧ σ 35 6 = nI (T 3) ∧ σ 35 7 = nI (T 4) ∧ σ 35 8 = nI (T 5) ∧
  (∀ p, p < T 7 → σ 36 p = nI (T (9 + p))) ∧ (∀ p, p < T 7 → σ 37 p = nI (T (16 + p))) ∧ (∀ p, p < T 7 → σ 38 p = nI (T (23 + p))) ∧ (∀ p, p < T 7 → σ 39 p = nI (T (30 + p))) ∧
  (∀ e, e < T 8 → σ 40 e = nI (T (37 + e))) ∧ (∀ e, e < T 8 → σ 41 e = nI (T (42 + e))) ∧ (∀ e, e < T 8 → σ 42 e = nI (T (47 + e))) ∧ (∀ e, e < T 8 → σ 43 e = nI (sig T e)) := h
/-- a trial in the reference's row, from b on -/
def MT (σ : Sg) (b : Nat) (T : TT) : Prop := (∀ k, k < 9 → σ 51 (b + k) = nI (T k)) ∧ (∀ p, p < T 7 → σ 51 (b + (9 + p)) = nI (T (9 + p))) ∧ (∀ p, p < T 7 → σ 51 (b + (16 + p)) = nI (T (16 + p))) ∧ (∀ p, p < T 7 → σ 51 (b + (23 + p)) = nI (T (23 + p))) ∧ (∀ p, p < T 7 → σ 51 (b + (30 + p)) = nI (T (30 + p))) ∧
  (∀ e, e < T 8 → σ 51 (b + (37 + e)) = nI (T (37 + e))) ∧ (∀ e, e < T 8 → σ 51 (b + (42 + e)) = nI (T (42 + e))) ∧ (∀ e, e < T 8 → σ 51 (b + (47 + e)) = nI (T (47 + e)))
theorem MT0 {σ : Sg} {T : TT} (h : MT σ 0 T) : σ 51 0 = nI (T 0) ∧ σ 51 1 = nI (T 1) ∧ σ 51 2 = nI (T 2) ∧ σ 51 3 = nI (T 3) ∧ σ 51 4 = nI (T 4) ∧ σ 51 5 = nI (T 5) ∧ σ 51 6 = nI (T 6) ∧ σ 51 7 = nI (T 7) ∧ σ 51 8 = nI (T 8) ∧
  (∀ p, p < T 7 → σ 51 (9 + p) = nI (T (9 + p))) ∧ (∀ p, p < T 7 → σ 51 (16 + p) = nI (T (16 + p))) ∧ (∀ p, p < T 7 → σ 51 (23 + p) = nI (T (23 + p))) ∧ (∀ p, p < T 7 → σ 51 (30 + p) = nI (T (30 + p))) ∧
  (∀ e, e < T 8 → σ 51 (37 + e) = nI (T (37 + e))) ∧ (∀ e, e < T 8 → σ 51 (42 + e) = nI (T (42 + e))) ∧ (∀ e, e < T 8 → σ 51 (47 + e) = nI (T (47 + e))) := by
  obtain ⟨h0, h1, h2, h3, h4, h5, h6, h7⟩ := h
  simp only [Nat.zero_add] at h0 h1 h2 h3 h4 h5 h6 h7
  exact ⟨h0 0 (by omega), h0 1 (by omega), h0 2 (by omega), h0 3 (by omega), h0 4 (by omega), h0 5 (by omega), h0 6 (by omega), h0 7 (by omega), h0 8 (by omega), h1, h2, h3, h4, h5, h6, h7⟩
theorem XT_cg {σ σ' : Sg} {c : Nat} {T : TT} (h : XT σ c T) (hc : ∀ a, c ≤ a → a ≤ c + 8 → σ' a = σ a) : XT σ' c T := by
  unfold XT
  rw [hc c (by omega) (by omega), hc (c + 1) (by omega) (by omega), hc (c + 2) (by omega) (by omega), hc (c + 3) (by omega) (by omega), hc (c + 4) (by omega) (by omega), hc (c + 5) (by omega) (by omega), hc (c + 6) (by omega) (by omega), hc (c + 7) (by omega) (by omega), hc (c + 8) (by omega) (by omega)]
  exact h
theorem MT_cg {σ σ' : Sg} {b : Nat} {T : TT} (h7 : T 7 ≤ 7) (h8 : T 8 ≤ 5) (h : MT σ b T) (hc : ∀ j, b ≤ j → j < b + 52 → σ' 51 j = σ 51 j) : MT σ' b T := by
  obtain ⟨a0, a1, a2, a3, a4, a5, a6, a7⟩ := h
  refine ⟨fun k hk => ?_, fun p hp => ?_, fun p hp => ?_, fun p hp => ?_, fun p hp => ?_, fun p hp => ?_, fun p hp => ?_, fun p hp => ?_⟩
  · rw [hc _ (by omega) (by omega)]; exact a0 k hk
  · rw [hc _ (by omega) (by omega)]; exact a1 p hp
  · rw [hc _ (by omega) (by omega)]; exact a2 p hp
  · rw [hc _ (by omega) (by omega)]; exact a3 p hp
  · rw [hc _ (by omega) (by omega)]; exact a4 p hp
  · rw [hc _ (by omega) (by omega)]; exact a5 p hp
  · rw [hc _ (by omega) (by omega)]; exact a6 p hp
  · rw [hc _ (by omega) (by omega)]; exact a7 p hp
/-- is what must be ahead of it in the set -/
def rdy (T : TT) (p s : Nat) : Bool := decide (T (30 + p) = 7) || s.testBit (T (30 + p))
def cst (T : TT) (p sk : Nat) : Nat := tak (T (9 + p)) (T (16 + p)) (T (23 + p)) sk
def flt (T : TT) (p sk : Nat) : Bool := fla (T (9 + p)) (T (16 + p)) sk
def may (T : TT) (p s sk dy mo : Nat) : Bool := !s.testBit p && (rdy T p s && decide (cst T p sk ≤ if T (9 + p) = 5 then mo else dy))
def fnd (T : TT) (e f : Nat) : Nat := cnt (fun p => f.testBit p && see (T (9 + p)) (T (16 + p)) (T (37 + e))) (T 7)
def vot (T : TT) (f g : Nat) : Nat := bse (fun e => g.testBit e || decide (fnd T e f ≤ T (42 + e))) (T 8)
def wns (T : TT) (v : Nat) : Bool := decide (T 8 = 0 ∨ T 8 < 2 * pop v)
theorem cst_le {T : TT} (w : WF T) {p sk : Nat} (hp : p < T 7) : cst T p sk ≤ 40 := by
  have := w.2.2.2.1 p hp
  unfold cst tak
  (repeat' split) <;> omega
theorem fnd_le (T : TT) (e f : Nat) : fnd T e f ≤ T 7 := cnt_le _ _
theorem sig_lt (T : TT) (e : Nat) (h : T 7 ≤ 7) : sig T e < 128 := by
  have := bse_lt (fun p => see (T (9 + p)) (T (16 + p)) (T (37 + e))) (T 7)
  have : 2 ^ (T 7) ≤ 2 ^ 7 := Nat.pow_le_pow_right (by omega) h
  unfold sig
  omega
theorem vot_lt (T : TT) (f g : Nat) (h : T 8 ≤ 5) : vot T f g < 32 := by
  have := bse_lt (fun e => g.testBit e || decide (fnd T e f ≤ T (42 + e))) (T 8)
  have : 2 ^ (T 8) ≤ 2 ^ 5 := Nat.pow_le_pow_right (by omega) h
  unfold vot
  omega
theorem x_isReady_8 {σ : Sg} {T : TT} (h : XT σ 8 T) (w : WF T) (d : Nat) {p s : Nat} (hp : p < T 7) (hs : s < 128) : cal (d + 2) mX5_isReady [.ref 8, .int (nI p), .int (nI s)] σ = some (some (.int (nI (rdy T p s).toNat)), σ) := by
  have w1 := w.1
  have wp := w.2.2.2.1 p hp
  rw [aX5_isReady_8]
  simp (disch := omega) only [kX5_isReady, XT8 h, eq_self, Nat.reduceEqDiff, Nat.one_ne_zero, Nat.zero_ne_one, z_0, z_lt, z_le, z_eq, z_add, z_mul, z_inb, z_cl, z_b0, z_b1, z_b01, z_b010, z_b011, kb_v, kb_n, List.cons_append, List.nil_append, if_true, if_false, ↓reduceIte, Bool.false_eq_true, Bool.true_eq_false, decide_eq_true_eq, decide_eq_false_iff_not, not_false_eq_true, e_bit]
  unfold rdy
  by_cases q : T (30 + p) = 7
  · simp [q]
  · simp only [q, decide_false, Bool.false_or, if_false]
    cases s.testBit (T (30 + p)) <;> simp [z_b010, z_b011, nI]
theorem x_mayBuild_8 {σ : Sg} {T : TT} (h : XT σ 8 T) (w : WF T) (d : Nat) {p : Nat} (hp : p < T 7) : cal (d + 3) mX5_mayBuild [.ref 8, .int (nI p)] σ = some (some (.int (nI (may T p (T 3) (T 0) (T 1) (T 2)).toNat)), σ) := by
  have w1 := w.1
  have wp := w.2.2.2.1 p hp
  have hc := cst_le w (sk := T 0) hp
  unfold cst at hc
  rw [aX5_mayBuild_8]
  simp (disch := omega) only [kX5_mayBuild_0, kX5_mayBuild_1, XT8 h, eq_self, Nat.reduceEqDiff, Nat.one_ne_zero, Nat.zero_ne_one, z_0, z_lt, z_le, z_eq, z_add, z_mul, z_inb, z_cl, z_b0, z_b1, z_b01, z_b010, z_b011, kb_v, kb_n, List.cons_append, List.nil_append, if_true, if_false, ↓reduceIte, Bool.false_eq_true, Bool.true_eq_false, decide_eq_true_eq, decide_eq_false_iff_not, not_false_eq_true, e_bit, x_isReady_8 h w, e_taken]
  unfold may cst
  cases (T 3).testBit p
  · cases rdy T p (T 3)
    · simp
    · simp
      (repeat' split) <;> first | rfl | (exfalso; omega) | (rw [decide_eq_true (by omega)]; rfl) | (rw [decide_eq_false (by omega)]; rfl) | (simp_all; done) | (exfalso; simp_all; omega)
  · simp
theorem x_isReady_35 {σ : Sg} {T : TT} (h : XT σ 35 T) (w : WF T) (d : Nat) {p s : Nat} (hp : p < T 7) (hs : s < 128) : cal (d + 2) mX5_isReady [.ref 35, .int (nI p), .int (nI s)] σ = some (some (.int (nI (rdy T p s).toNat)), σ) := by
  have w1 := w.1
  have wp := w.2.2.2.1 p hp
  rw [aX5_isReady_35]
  simp (disch := omega) only [kX5_isReady, XT35 h, eq_self, Nat.reduceEqDiff, Nat.one_ne_zero, Nat.zero_ne_one, z_0, z_lt, z_le, z_eq, z_add, z_mul, z_inb, z_cl, z_b0, z_b1, z_b01, z_b010, z_b011, kb_v, kb_n, List.cons_append, List.nil_append, if_true, if_false, ↓reduceIte, Bool.false_eq_true, Bool.true_eq_false, decide_eq_true_eq, decide_eq_false_iff_not, not_false_eq_true, e_bit]
  unfold rdy
  by_cases q : T (30 + p) = 7
  · simp [q]
  · simp only [q, decide_false, Bool.false_or, if_false]
    cases s.testBit (T (30 + p)) <;> simp [z_b010, z_b011, nI]
theorem x_mayBuild_35 {σ : Sg} {T : TT} (h : XT σ 35 T) (w : WF T) (d : Nat) {p : Nat} (hp : p < T 7) : cal (d + 3) mX5_mayBuild [.ref 35, .int (nI p)] σ = some (some (.int (nI (may T p (T 3) (T 0) (T 1) (T 2)).toNat)), σ) := by
  have w1 := w.1
  have wp := w.2.2.2.1 p hp
  have hc := cst_le w (sk := T 0) hp
  unfold cst at hc
  rw [aX5_mayBuild_35]
  simp (disch := omega) only [kX5_mayBuild_0, kX5_mayBuild_1, XT35 h, eq_self, Nat.reduceEqDiff, Nat.one_ne_zero, Nat.zero_ne_one, z_0, z_lt, z_le, z_eq, z_add, z_mul, z_inb, z_cl, z_b0, z_b1, z_b01, z_b010, z_b011, kb_v, kb_n, List.cons_append, List.nil_append, if_true, if_false, ↓reduceIte, Bool.false_eq_true, Bool.true_eq_false, decide_eq_true_eq, decide_eq_false_iff_not, not_false_eq_true, e_bit, x_isReady_35 h w, e_taken]
  unfold may cst
  cases (T 3).testBit p
  · cases rdy T p (T 3)
    · simp
    · simp
      (repeat' split) <;> first | rfl | (exfalso; omega) | (rw [decide_eq_true (by omega)]; rfl) | (rw [decide_eq_false (by omega)]; rfl) | (simp_all; done) | (exfalso; simp_all; omega)
  · simp
