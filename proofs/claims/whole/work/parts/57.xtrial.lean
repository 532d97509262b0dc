/-! trial of the class -/
def Ul (v1 v2 v3 : Nat) : TT := fun k => if k = 0 then v1 else if k = 1 then v2 else if k = 2 then v3 else 0
def s6 (U : TT) (v : Nat) : TT := fun k => if k = 6 then v else U k
abbrev oL2 : Nat → Bool := fun v => decide (v ≤ 60)
abbrev oL3 : Nat → Bool := fun v => decide (v ≤ 99)
def lw (tn : Nat) (tp : TT) : RR (TT × Nat) := if ltr tn tp 0 = nI 103 then (match rd3 tn tp 1 o20 oL2 oL3 with
  | .inl e => .inl e
  | .inr (v1, v2, v3, a') => .inr (Ul v1 v2 v3, a')) else .inl (1, 0)
def psr (tn : Nat) (tp : TT) : Nat → TT → Nat → RR TT
  | 0, U, _ => .inr U
  | m + 1, U, a => if a < tn then (match pit tn tp U a with
    | .inl e => .inl e
    | .inr (U', a') => psr tn tp m U' a') else if U 7 = 0 then .inl (1, a) else .inr U
def prl (tn : Nat) (tp : TT) : RR TT := match lw tn tp with
  | .inl e => .inl e
  | .inr (U, a) => psr tn tp (tn + 1) U a
theorem s6_n {U : TT} {v k : Nat} (h : k ≠ 6) : s6 U v k = U k := by unfold s6; rw [if_neg h]
theorem s6_6 {U : TT} {v : Nat} : s6 U v 6 = v := by unfold s6; rw [if_pos rfl]
theorem sig_s6 (U : TT) (v e : Nat) : sig (s6 U v) e = sig U e := by
  unfold sig
  rw [show s6 U v 7 = U 7 from s6_n (by omega)]
  exact bse_cg _ (fun i hi => by rw [s6_n (k := 9 + i) (by omega), s6_n (k := 16 + i) (by omega), s6_n (k := 37 + e) (by omega)])
theorem XT_s6 {σ : Sg} {U : TT} (h : XT σ 35 U) (v : Nat) : XT (up σ 35 0 (nI v)) 35 (s6 U v) := by
  obtain ⟨g0, g1, g2, g3, g4, g5, g6, g7, g8, q1, q2, q3, q4, q5, q6, q7, q8⟩ := XT35 h
  unfold XT
  rw [s6_n (k := 7) (by omega), s6_n (k := 8) (by omega)]
  refine ⟨by rw [up_s, s6_6], ?_, ?_, ?_, ?_, ?_, ?_, ?_, ?_, fun p hp => ?_, fun p hp => ?_, fun p hp => ?_, fun p hp => ?_, fun p hp => ?_, fun p hp => ?_, fun p hp => ?_, fun p hp => ?_⟩
  all_goals simp (disch := omega) only [up_s, up_k, up_j, s6_n, sig_s6]
  · exact g1
  · exact g2
  · exact g3
  · exact g4
  · exact g5
  · exact g6
  · exact g7
  · exact g8
  · exact q1 p hp
  · exact q2 p hp
  · exact q3 p hp
  · exact q4 p hp
  · exact q5 p hp
  · exact q6 p hp
  · exact q7 p hp
  · exact q8 p hp
theorem WF_WP {U : TT} (w : WP U) (h7 : 1 ≤ U 7) : WF (s6 U 1) := by
  obtain ⟨a1, a2, a3, a4⟩ := w
  unfold WF
  rw [s6_6]
  simp (disch := omega) only [s6_n]
  have p1 : 1 ≤ 2 ^ (U 7) := Nat.one_le_two_pow
  have p2 : 1 ≤ 2 ^ (U 8) := Nat.one_le_two_pow
  refine ⟨by omega, by omega, fun i hi => ?_, a3, a4, fun q => by omega, fun _ => h7⟩
  rw [a2.2.1] at hi
  simp at hi
def XRd (tn : Nat) (σ σ' : Sg) (e : Oc) (r : RR TT) : Prop := (∀ c, c ≠ 6 → c < 35 ∨ 43 < c → σ' c = σ c) ∧ ((∃ f pl, e = some (some (.int (nI 0)), σ') ∧ r = .inl (f, pl) ∧ σ' 6 3 = nI f ∧ σ' 6 4 = nI pl ∧ (1 ≤ f ∧ f ≤ 3) ∧ pl ≤ 300) ∨ (∃ U', e = some (some (.int (nI 1)), σ') ∧ r = .inr U' ∧ XT σ' 35 (s6 U' 1) ∧ WP U' ∧ 1 ≤ U' 7))
theorem x_ri_loop {tn : Nat} {tp : TT} (d : Nat) (htn : tn ≤ 120) (ht : ∀ j, j < tn → tp j < 256) : ∀ m U a tl (σ : Sg), tn + 1 ≤ m + a → a ≤ tn → tl ≤ a → XT σ 35 U → WP U → XP σ tn tp → σ 6 2 = nI a → ∃ σ', XRd tn σ σ' (exec (d + 6) mX4_readInto 21 [.ref 6, .ref 35, .int (nI tl)] [] σ) (psr tn tp m U a)
  | 0, U, a, tl, σ, hm, ha, hl, h, w, hx, h2 => by omega
  | m + 1, U, a, tl, σ, hm, ha, hl, h, w, hx, h2 => by
    have w1 := w.1
    have hx1 := hx.1
    unfold psr
    by_cases q : a < tn
    · rw [if_pos q]
      obtain ⟨σ1, g1, g2, g3⟩ := x_one h w hx d ha htn ht h2
      rcases g3 with ⟨f, pl, c1, c2, c3⟩ | ⟨U', a', c1, c2, c3, c4, c5, c6, c7⟩
      · refine ⟨σ1, g1, Or.inl ⟨f, pl, ?_, by rw [c2], c3⟩⟩
        rw [hX4_readInto_21]
        simp (disch := omega) only [kX4_readInto, eq_self, Nat.reduceEqDiff, Nat.one_ne_zero, Nat.zero_ne_one, z_0, z_lt, z_le, z_eq, z_add, z_mul, z_inb, z_cl, z_b0, z_b1, z_b01, z_b010, z_b011, kb_v, kb_n, List.cons_append, List.nil_append, if_true, if_false, ↓reduceIte, Bool.false_eq_true, Bool.true_eq_false, decide_eq_true_eq, decide_eq_false_iff_not, not_false_eq_true, h2, hx1, c1]
        rw [if_neg (by omega), if_neg (by omega)]
      · have hx' : XP σ1 tn tp := ⟨by rw [g2]; exact hx1, fun i hi => by rw [g1 7 (by omega) (by omega)]; exact hx.2 i hi⟩
        obtain ⟨σ2, k1, k2⟩ := x_ri_loop d htn ht m U' a' (tl + 1) σ1 (by omega) c7 (by omega) c3 c4 hx' c5
        have he : exec (d + 6) mX4_readInto 21 [.ref 6, .ref 35, .int (nI tl)] [] σ = exec (d + 6) mX4_readInto 21 [.ref 6, .ref 35, .int (nI (tl + 1))] [] σ1 := by
          rw [hX4_readInto_21]
          simp (disch := omega) only [kX4_readInto, eq_self, Nat.reduceEqDiff, Nat.one_ne_zero, Nat.zero_ne_one, z_0, z_lt, z_le, z_eq, z_add, z_mul, z_inb, z_cl, z_b0, z_b1, z_b01, z_b010, z_b011, kb_v, kb_n, List.cons_append, List.nil_append, if_true, if_false, ↓reduceIte, Bool.false_eq_true, Bool.true_eq_false, decide_eq_true_eq, decide_eq_false_iff_not, not_false_eq_true, h2, hx1, c1]
          rw [if_neg (by omega), if_neg (by omega)]
        rw [he, c2]
        exact ⟨σ2, fun c h1 h2 => by rw [k1 c h1 h2, g1 c h1 h2], k2⟩
    · rw [if_neg q]
      by_cases q7 : U 7 = 0
      · rw [if_pos q7]
        refine ⟨up (up σ 6 3 (nI 1)) 6 4 (nI a), fun c h1 _ => by rw [up_of h1, up_of h1], Or.inl ⟨1, a, ?_, rfl, by simp (disch := omega) only [up_s, up_k, up_j], by simp (disch := omega) only [up_s, up_k, up_j], by omega, by omega⟩⟩
        have hfl := x_fail (d + 5) (nI 1) h2
        have hfl : cal (d + 6) mX4_fail [.ref 6, .int (nI 1)] σ = _ := hfl
        rw [hX4_readInto_21]
        simp (disch := omega) only [kX4_readInto, eq_self, Nat.reduceEqDiff, Nat.one_ne_zero, Nat.zero_ne_one, z_0, z_lt, z_le, z_eq, z_add, z_mul, z_inb, z_cl, z_b0, z_b1, z_b01, z_b010, z_b011, kb_v, kb_n, List.cons_append, List.nil_append, if_true, if_false, ↓reduceIte, Bool.false_eq_true, Bool.true_eq_false, decide_eq_true_eq, decide_eq_false_iff_not, not_false_eq_true, h2, hx1, XT35 h, q7, hfl]
        rw [if_neg (by omega), if_pos (by omega)]
      · rw [if_neg q7]
        refine ⟨up σ 35 0 (nI 1), fun c h1 _ => up_of (by omega), Or.inr ⟨U, ?_, rfl, XT_s6 h 1, w, by omega⟩⟩
        rw [hX4_readInto_21]
        simp (disch := omega) only [kX4_readInto, eq_self, Nat.reduceEqDiff, Nat.one_ne_zero, Nat.zero_ne_one, z_0, z_lt, z_le, z_eq, z_add, z_mul, z_inb, z_cl, z_b0, z_b1, z_b01, z_b010, z_b011, kb_v, kb_n, List.cons_append, List.nil_append, if_true, if_false, ↓reduceIte, Bool.false_eq_true, Bool.true_eq_false, decide_eq_true_eq, decide_eq_false_iff_not, not_false_eq_true, h2, hx1, XT35 h, q7]
        rw [if_neg (by omega), if_pos (by omega)]
theorem x_law {σ : Sg} {tn : Nat} {tp : TT} (h : XT σ 35 zT) (hx : XP σ tn tp) (d : Nat) (htn : tn ≤ 120) (ht : ∀ j, j < tn → tp j < 256) (h2 : σ 6 2 = nI 0) : ∃ σ', XOne (d + 5) tn σ σ' 0 mX4_readLaw [.ref 6, .ref 35] (lw tn tp) := by
  obtain ⟨g0, g1, g2, g3, g4, g5, g6, g7, g8, _⟩ := XT35 h
  have hrl := x_rl hx (d + 2) (nI 103) (a := 0) (by omega) htn h2
  have hrl : cal (d + 4) mX4_readLetter [.ref 6, .int (nI 103)] σ = _ := hrl
  unfold lw
  by_cases q : ltr tn tp 0 = nI 103
  · rw [if_pos q] at hrl ⊢
    have hx1 : XP (up σ 6 2 (nI (0 + 1))) tn tp := XP_6 hx (by omega) _
    obtain ⟨σ1, f1, f2, f3⟩ := x_th hx1 d (a := 0 + 1) (nI 0) (nI 60) (nI 0) (nI 99) (-1) oL2 oL3 (by omega) htn ht up_s (fun v hv => by
      rw [decide_eq_true_iff, z_lt (by omega) (by omega), z_lt (by omega) (by omega), show (nI v = -1) ↔ False from enc_n (by omega)]
      constructor
      · intro q; left; omega
      · rintro (q | q)
        · omega
        · exact q.elim) (fun v hv => by
      rw [decide_eq_true_iff, z_lt (by omega) (by omega), z_lt (by omega) (by omega), show (nI v = -1) ↔ False from enc_n (by omega)]
      constructor
      · intro q; left; omega
      · rintro (q | q)
        · omega
        · exact q.elim)
    rcases f3 with ⟨f, pl, c1, c2, c3, c4, c5, c6⟩ | ⟨v1, v2, v3, a', c1, c2, ⟨c3, c4, c5, c6⟩, ⟨b1, b2, b3, b4, b5⟩, b6, b7⟩
    · refine ⟨σ1, fun c h1 _ => by rw [f1 c h1, up_of h1], by rw [f2, up_j (by omega)], Or.inl ⟨f, pl, ?_, by rw [c2], c3, c4, c5, c6⟩⟩
      rw [aX4_readLaw_6_35]
      simp (disch := omega) only [kX4_readLaw, eq_self, Nat.reduceEqDiff, Nat.one_ne_zero, Nat.zero_ne_one, z_0, z_lt, z_le, z_eq, z_add, z_mul, z_inb, z_cl, z_b0, z_b1, z_b01, z_b010, z_b011, kb_v, kb_n, List.cons_append, List.nil_append, if_true, if_false, ↓reduceIte, Bool.false_eq_true, Bool.true_eq_false, decide_eq_true_eq, decide_eq_false_iff_not, not_false_eq_true, hrl, c1]
    · have b2 := of_decide_eq_true b2
      have b3 := of_decide_eq_true b3
      have k35 : σ1 35 = σ 35 := by rw [f1 35 (by omega), up_of (by omega)]
      refine ⟨up (up (up σ1 35 1 (nI v1)) 35 2 (nI v2)) 35 3 (nI v3), fun c h1 h2 => by rw [up_of (by omega), up_of (by omega), up_of (by omega), f1 c h1, up_of h1], by simp (disch := omega) only [up_s, up_k, up_j]; rw [f2, up_j (by omega)], Or.inr ⟨_, a', ?_, by rw [c2], ?_, ?_, by simp (disch := omega) only [up_s, up_k, up_j]; exact c6, by omega, b7⟩⟩
      · rw [aX4_readLaw_6_35]
        simp (disch := omega) only [kX4_readLaw, eq_self, Nat.reduceEqDiff, Nat.one_ne_zero, Nat.zero_ne_one, z_0, z_lt, z_le, z_eq, z_add, z_mul, z_inb, z_cl, z_b0, z_b1, z_b01, z_b010, z_b011, kb_v, kb_n, List.cons_append, List.nil_append, if_true, if_false, ↓reduceIte, Bool.false_eq_true, Bool.true_eq_false, decide_eq_true_eq, decide_eq_false_iff_not, not_false_eq_true, up_s, up_k, up_j, hrl, c1, c3, c4, c5]
      · unfold XT
        refine ⟨?_, ?_, ?_, ?_, ?_, ?_, ?_, ?_, ?_, fun p hp => absurd hp (by simp [Ul]), fun p hp => absurd hp (by simp [Ul]), fun p hp => absurd hp (by simp [Ul]), fun p hp => absurd hp (by simp [Ul]), fun p hp => absurd hp (by simp [Ul]), fun p hp => absurd hp (by simp [Ul]), fun p hp => absurd hp (by simp [Ul]), fun p hp => absurd hp (by simp [Ul])⟩
        all_goals simp (disch := omega) only [up_s, up_k, up_j, k35, g0, g4, g5, g6, g7, g8, Ul, Nat.reduceEqDiff, if_false, if_true, Nat.one_ne_zero]
      · exact ⟨⟨b1, b2, b3, Nat.zero_le 7, Nat.zero_le 5⟩, ⟨rfl, rfl, rfl, rfl⟩, fun p hp => absurd hp (Nat.not_lt_zero p), fun p hp => absurd hp (Nat.not_lt_zero p)⟩
  · rw [if_neg q] at hrl ⊢
    refine ⟨up (up σ 6 3 (nI 1)) 6 4 (nI 0), fun c h1 _ => by rw [up_of h1, up_of h1], by simp (disch := omega) only [up_s, up_k, up_j], Or.inl ⟨1, 0, ?_, rfl, by simp (disch := omega) only [up_s, up_k, up_j], by simp (disch := omega) only [up_s, up_k, up_j], by omega, by omega⟩⟩
    rw [aX4_readLaw_6_35]
    simp (disch := omega) only [kX4_readLaw, eq_self, Nat.reduceEqDiff, Nat.one_ne_zero, Nat.zero_ne_one, z_0, z_lt, z_le, z_eq, z_add, z_mul, z_inb, z_cl, z_b0, z_b1, z_b01, z_b010, z_b011, kb_v, kb_n, List.cons_append, List.nil_append, if_true, if_false, ↓reduceIte, Bool.false_eq_true, Bool.true_eq_false, decide_eq_true_eq, decide_eq_false_iff_not, not_false_eq_true, hrl]
theorem x_rd {σ : Sg} {tn : Nat} {tp : TT} (hx : XP σ tn tp) (d : Nat) (htn : tn ≤ 120) (ht : ∀ j, j < tn → tp j < 256) : ∃ σ', XRd tn σ σ' (cal (d + 7) mX4_readInto [.ref 6, .ref 35] σ) (prl tn tp) := by
  let σ0 := up (up (up (up (up (up (up (up (up σ 35 0 (nI 0)) 35 1 (nI 0)) 35 2 (nI 0)) 35 3 (nI 0)) 35 4 (nI 0)) 35 5 (nI 0)) 35 6 (nI 0)) 35 7 (nI 0)) 35 8 (nI 0)
  have hcl : cal (d + 6) mX5_clear [.ref 35] σ = some (none, σ0) := by
    rw [aX5_clear_35]
    simp (disch := omega) only [kX5_clear, eq_self, Nat.reduceEqDiff, Nat.one_ne_zero, Nat.zero_ne_one, z_0, z_lt, z_le, z_eq, z_add, z_mul, z_inb, z_cl, z_b0, z_b1, z_b01, z_b010, z_b011, kb_v, kb_n, List.cons_append, List.nil_append, if_true, if_false, ↓reduceIte, Bool.false_eq_true, Bool.true_eq_false, decide_eq_true_eq, decide_eq_false_iff_not, not_false_eq_true, σ0]
  have h0 : XT (up σ0 6 2 (nI 0)) 35 zT := by
    unfold XT
    refine ⟨?_, ?_, ?_, ?_, ?_, ?_, ?_, ?_, ?_, fun p hp => absurd hp (by simp), fun p hp => absurd hp (by simp), fun p hp => absurd hp (by simp), fun p hp => absurd hp (by simp), fun p hp => absurd hp (by simp), fun p hp => absurd hp (by simp), fun p hp => absurd hp (by simp), fun p hp => absurd hp (by simp)⟩
    all_goals simp (disch := omega) only [up_s, up_k, up_j, σ0]
  have fr : ∀ c, c ≠ 6 → c < 35 ∨ 43 < c → (up σ0 6 2 (nI 0)) c = σ c := fun c h1 h2 => by simp (disch := omega) only [σ0, up_of]
  have hx0 : XP (up σ0 6 2 (nI 0)) tn tp := XP_6 ⟨by simp (disch := omega) only [σ0, up_s, up_k, up_j]; exact hx.1, fun i hi => by simp (disch := omega) only [σ0, up_s, up_k, up_j]; exact hx.2 i hi⟩ (by omega) _
  obtain ⟨σ1, g1, g2, g3⟩ := x_law h0 hx0 (d + 1) htn ht up_s
  unfold prl
  rcases g3 with ⟨f, pl, c1, c2, c3⟩ | ⟨U', a', c1, c2, c3, c4, c5, c6, c7⟩
  · rw [c2]
    refine ⟨σ1, fun c h1 h2 => by rw [g1 c h1 h2, fr c h1 h2], Or.inl ⟨f, pl, ?_, rfl, c3⟩⟩
    have c1 : cal (d + 6) mX4_readLaw [.ref 6, .ref 35] _ = _ := c1
    rw [aX4_readInto_6_35]
    simp (disch := omega) only [kX4_readInto, eq_self, Nat.reduceEqDiff, Nat.one_ne_zero, Nat.zero_ne_one, z_0, z_lt, z_le, z_eq, z_add, z_mul, z_inb, z_cl, z_b0, z_b1, z_b01, z_b010, z_b011, kb_v, kb_n, List.cons_append, List.nil_append, if_true, if_false, ↓reduceIte, Bool.false_eq_true, Bool.true_eq_false, decide_eq_true_eq, decide_eq_false_iff_not, not_false_eq_true, hcl, c1]
  · rw [c2]
    have hx1 : XP σ1 tn tp := ⟨by rw [g2]; exact hx0.1, fun i hi => by rw [g1 7 (by omega) (by omega)]; exact hx0.2 i hi⟩
    obtain ⟨σ2, k1, k2⟩ := x_ri_loop d htn ht (tn + 1) U' a' 0 σ1 (by omega) c7 (by omega) c3 c4 hx1 c5
    have he : cal (d + 7) mX4_readInto [.ref 6, .ref 35] σ = exec (d + 6) mX4_readInto 21 [.ref 6, .ref 35, .int (nI 0)] [] σ1 := by
      have c1 : cal (d + 6) mX4_readLaw [.ref 6, .ref 35] _ = _ := c1
      rw [aX4_readInto_6_35]
      simp (disch := omega) only [kX4_readInto, eq_self, Nat.reduceEqDiff, Nat.one_ne_zero, Nat.zero_ne_one, z_0, z_lt, z_le, z_eq, z_add, z_mul, z_inb, z_cl, z_b0, z_b1, z_b01, z_b010, z_b011, kb_v, kb_n, List.cons_append, List.nil_append, if_true, if_false, ↓reduceIte, Bool.false_eq_true, Bool.true_eq_false, decide_eq_true_eq, decide_eq_false_iff_not, not_false_eq_true, hcl, c1]
    rw [he]
    exact ⟨σ2, fun c h1 h2 => by rw [k1 c h1 h2, g1 c h1 h2, fr c h1 h2], k2⟩
