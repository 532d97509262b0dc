/-! trial -/
theorem OK_f {T I0 I1 : TT} {A : List TT} {rz rl : TT} {it : Nat → Nat → Int32} {tn : Nat} {tp : TT} {ft fs cn : Nat} {ct : TT} (ok : OKV (T, I0, I1, A, rz, rl, it, tn, tp, ft, fs, cn, ct)) {f : Nat} (h : f < 10) : OKV (T, I0, I1, A, rz, rl, it, 0, tp, f, fs, cn, ct) := by
  obtain ⟨h1, h2, h3, h4, h5, h6, h7, h8, h9, h10, h11, h12⟩ := ok
  exact ⟨h1, h2, h3, h4, h5, h6, by omega, fun j hj => by omega, h, h10, h11, h12⟩
theorem OK_s {T I0 I1 : TT} {A : List TT} {rz rl : TT} {it : Nat → Nat → Int32} {tn : Nat} {tp : TT} {ft fs cn : Nat} {ct : TT} (ok : OKV (T, I0, I1, A, rz, rl, it, tn, tp, ft, fs, cn, ct)) {U : TT} (h : WF U) : OKV (U, I0, I1, [], rz, rl, it, 0, tp, ft, fs, cn, ct) := by
  obtain ⟨h1, h2, h3, h4, h5, h6, h7, h8, h9, h10, h11, h12⟩ := ok
  exact ⟨h, h2, h3, by simp, fun j hj => absurd hj (by simp), h6, by omega, fun j hj => by omega, h9, h10, h11, h12⟩
theorem b_trial : BO mX6_trial mX7_trial [] := by
  rintro ⟨T, I0, I1, A, rz, rl, it, tn, tp, ft, fs, cn, ct⟩ ok
  have w : WF T := ok.1
  have htn : tn ≤ 120 := ok.2.2.2.2.2.2.1
  have ht : ∀ j, j < tn → tp j < 256 := ok.2.2.2.2.2.2.2.1
  -- what the class does
  have hX : ∀ (σ : Sg) (d : Nat), XR σ (T, I0, I1, A, rz, rl, it, tn, tp, ft, fs, cn, ct) → ∃ σ', ((∃ f pl, cal (d + 30) mX6_trial [.ref 0] σ = some (some (.int (-1000100 - nI pl)), σ') ∧ prl tn tp = .inl (f, pl) ∧ (1 ≤ f ∧ f ≤ 3) ∧ XR σ' (T, I0, I1, A, rz, rl, it, 0, tp, f, fs, cn, ct)) ∨ (∃ U, cal (d + 30) mX6_trial [.ref 0] σ = some (some (.int (nI (U 7))), σ') ∧ prl tn tp = .inr U ∧ WF (s6 U 1) ∧ XR σ' (s6 U 1, I0, I1, [], rz, rl, it, 0, tp, ft, fs, cn, ct))) ∧ ∀ a, 50 ≤ a → σ' a = σ a := by
    intro σ d h
    obtain ⟨g1, g2, g3, g4, g5, g6, g7, g8, g9⟩ := h
    obtain ⟨σ1, f1, f2⟩ := x_rd g6 (d + 22) htn ht
    rcases f2 with ⟨f, pl, c1, c2, c3, c4, c5, c6⟩ | ⟨U, c1, c2, c3, c4, c5⟩
    · have c1 : cal (d + 29) mX4_readInto [.ref 6, .ref 35] σ = _ := c1
      refine ⟨up (up σ1 6 1 (nI 0)) 0 9 (nI f), Or.inl ⟨f, pl, ?_, c2, c5, ?_⟩, fun a ha => by rw [up_of (by omega), up_of (by omega), f1 a (by omega) (by omega)]⟩
      · rw [aX6_trial_0]
        simp (disch := omega) only [kX6_trial, eq_self, Nat.reduceEqDiff, Nat.one_ne_zero, Nat.zero_ne_one, z_0, z_lt, z_le, z_eq, z_add, z_mul, z_inb, z_cl, z_b0, z_b1, z_b01, z_b010, z_b011, kb_v, kb_n, List.cons_append, List.nil_append, if_true, if_false, ↓reduceIte, Bool.false_eq_true, Bool.true_eq_false, decide_eq_true_eq, decide_eq_false_iff_not, not_false_eq_true, up_s, up_k, up_j, c1, c3, c4]
      · have hs : ∀ a, a ≠ 0 → a ≠ 6 → a < 35 ∨ 43 < a → (up (up σ1 6 1 (nI 0)) 0 9 (nI f)) a = σ a := fun a q1 q2 q3 => by rw [up_of q1, up_of q2, f1 a q2 q3]
        refine ⟨XT_cg g1 (fun a _ _ => hs a (by omega) (by omega) (by omega)), XT_cg g2 (fun a _ _ => hs a (by omega) (by omega) (by omega)), XT_cg g3 (fun a _ _ => hs a (by omega) (by omega) (by omega)), ?_, ?_, ⟨?_, fun j hj => by omega⟩, up_s, ?_, ?_⟩
        · unfold XA; rw [hs 44 (by omega) (by omega) (by omega), hs 45 (by omega) (by omega) (by omega)]; exact g4
        · unfold XW; rw [hs 2 (by omega) (by omega) (by omega), hs 3 (by omega) (by omega) (by omega), hs 4 (by omega) (by omega) (by omega), hs 5 (by omega) (by omega) (by omega)]; exact g5
        · rw [up_k (by omega), up_s]
        · rw [up_j (by omega), up_k (by omega), f1 0 (by omega) (by omega)]; exact g8
        · unfold XC; rw [hs 48 (by omega) (by omega) (by omega), hs 49 (by omega) (by omega) (by omega)]; exact g9
    · have c1 : cal (d + 29) mX4_readInto [.ref 6, .ref 35] σ = _ := c1
      have hW := WF_WP c4 c5
      have hT1 : XT (up σ1 6 1 (nI 0)) 35 (s6 U 1) := XT_cg c3 (fun a _ _ => up_of (by omega))
      obtain ⟨σ2, e1, e2, e3⟩ := x_cf_8_35 hT1 hW (d + 28)
      have e1 : cal (d + 29) mX5_copyFrom [.ref 8, .ref 35] _ = _ := e1
      have h84 : σ2 8 4 = nI (U 7) := by rw [(XT8 e2).2.2.2.2.1, s6_n (by omega)]
      refine ⟨up σ2 44 1 (nI 0), Or.inr ⟨U, ?_, c2, hW, ?_⟩, fun a ha => by rw [up_of (by omega), e3 a (by omega), up_of (by omega), f1 a (by omega) (by omega)]⟩
      · rw [aX6_trial_0]
        simp (disch := omega) only [kX6_trial, kX0_forget, aX0_forget_44, eq_self, Nat.reduceEqDiff, Nat.one_ne_zero, Nat.zero_ne_one, z_0, z_lt, z_le, z_eq, z_add, z_mul, z_inb, z_cl, z_b0, z_b1, z_b01, z_b010, z_b011, kb_v, kb_n, List.cons_append, List.nil_append, if_true, if_false, ↓reduceIte, Bool.false_eq_true, Bool.true_eq_false, decide_eq_true_eq, decide_eq_false_iff_not, not_false_eq_true, up_s, up_k, up_j, c1, e1, h84]
      · have hs : ∀ a, a ≠ 6 → a ≠ 44 → a < 8 ∨ (16 < a ∧ a < 35) ∨ 43 < a → (up σ2 44 1 (nI 0)) a = σ a := fun a q1 q2 q3 => by rw [up_of q2, e3 a (by omega), up_of q1, f1 a q1 (by omega)]
        have h44 : ∀ j, j ≠ 1 → (up σ2 44 1 (nI 0)) 44 j = σ 44 j := fun j hj => by rw [up_j hj, e3 44 (by omega), up_k (by omega), f1 44 (by omega) (by omega)]
        obtain ⟨_, nx, n1, n2, _⟩ := g4
        refine ⟨XT_cg e2 (fun a _ _ => up_of (by omega)), XT_cg g2 (fun a _ _ => hs a (by omega) (by omega) (by omega)), XT_cg g3 (fun a _ _ => hs a (by omega) (by omega) (by omega)), ⟨up_s, nx, n1, by rw [h44 2 (by omega)]; exact n2, fun j hj => absurd hj (by simp)⟩, ?_, ⟨?_, fun j hj => by omega⟩, ?_, ?_, ?_⟩
        · unfold XW; rw [hs 2 (by omega) (by omega) (by omega), hs 3 (by omega) (by omega) (by omega), hs 4 (by omega) (by omega) (by omega), hs 5 (by omega) (by omega) (by omega)]; exact g5
        · rw [up_k (by omega), e3 6 (by omega), up_s]
        · rw [hs 0 (by omega) (by omega) (by omega)]; exact g7
        · rw [hs 0 (by omega) (by omega) (by omega)]; exact g8
        · unfold XC; rw [hs 48 (by omega) (by omega) (by omega), hs 49 (by omega) (by omega) (by omega)]; exact g9
  -- what the reference does
  have hM : ∀ (σ : Sg) (d : Nat), MR σ (T, I0, I1, A, rz, rl, it, tn, tp, ft, fs, cn, ct) → ∃ σ', ((∃ f pl, cal (d + 30) mX7_trial [.ref 50] σ = some (some (.int (-1000100 - nI pl)), σ') ∧ prl tn tp = .inl (f, pl) ∧ (1 ≤ f ∧ f ≤ 3) ∧ MR σ' (T, I0, I1, A, rz, rl, it, 0, tp, f, fs, cn, ct)) ∨ (∃ U, cal (d + 30) mX7_trial [.ref 50] σ = some (some (.int (nI (U 7))), σ') ∧ prl tn tp = .inr U ∧ WF (s6 U 1) ∧ MR σ' (s6 U 1, I0, I1, [], rz, rl, it, 0, tp, ft, fs, cn, ct))) ∧ ∀ a, a < 50 ∨ 66 ≤ a → σ' a = σ a := by
    intro σ d h
    obtain ⟨g1, g2, g3, g4, g5, g6, g7, g8, g9, g10⟩ := h
    have a1 := w.1
    have a2 := ok.2.1.1
    have a3 := ok.2.2.1.1
    have hx0 : MP (up σ 50 14 (nI 0)) tn tp := MP_50 g7 (by omega) _
    obtain ⟨τ, p1, p2, p3, p4⟩ := m_law hx0 (d + 24) htn ht up_s
    -- the loop's end, be it at once or later
    have hend : ∃ σ1, MRd (up σ 50 14 (nI 0)) σ1 (exec (d + 29) mX7_trial 10 [.ref 50, .int (nI (match lw tn tp with | .inl _ => 0 | .inr _ => 1))] [] τ) (d + 29) (prl tn tp) ∧ cal (d + 29) mX7_takesLaw [.ref 50] (up σ 50 14 (nI 0)) = some (some (.int (nI (match lw tn tp with | .inl _ => 0 | .inr _ => 1))), τ) := by
      unfold prl
      rcases p4 with ⟨f, pl, c1, c2, c3⟩ | ⟨U', a', c1, c2, c3, c4, c5, c6, c7, c8⟩
      · rw [c2]
        exact ⟨τ, ⟨p1, p2, p3, Or.inl ⟨f, pl, m_end (d + 29), rfl, c3⟩⟩, c1⟩
      · rw [c2]
        have hx' : MP τ tn tp := ⟨by rw [p3 9 (by omega) (by omega) (by omega) (by omega)]; exact hx0.1, fun i hi => by rw [p1 57 (by omega) (by omega)]; exact hx0.2 i hi⟩
        obtain ⟨σ2, k1, k2, k3, k4⟩ := m_ri_loop (d + 23) htn ht (tn + 1) U' a' τ (by omega) c8 c3 c4 hx' c5
        refine ⟨σ2, ⟨fun c h1 h3 => by rw [k1 c h1 h3, p1 c h1 h3], fun j hj => by rw [k2 j hj, p2 j hj], fun j q1 q2 q3 q4 => by rw [k3 j q1 q2 q3 q4, p3 j q1 q2 q3 q4], ?_⟩, c1⟩
        rcases k4 with k4 | ⟨U2, b1, b2, b3, b4, b5, b6⟩
        · exact Or.inl k4
        · exact Or.inr ⟨U2, b1, b2, b3, b4, b5, by rw [b6, c6]⟩
    obtain ⟨σ1, ⟨f1, f2, f3, f4⟩, hlw⟩ := hend
    have hO : ∀ c, c ≠ 50 → c ≠ 51 → σ1 c = σ c := fun c h1 h3 => by rw [f1 c h1 h3, up_of h1]
    have h51 : ∀ j, j < 156 → σ1 51 j = σ 51 j := fun j hj => by rw [f2 j hj, up_k (by omega)]
    have h50 : ∀ j, j ≠ 10 → j ≠ 14 → j ≠ 15 → j ≠ 16 → σ1 50 j = σ 50 j := fun j q1 q2 q3 q4 => by rw [f3 j q1 q2 q3 q4, up_j q2]
    have pre : cal (d + 30) mX7_trial [.ref 50] σ = exec (d + 29) mX7_trial 10 [.ref 50, .int (nI (match lw tn tp with | .inl _ => 0 | .inr _ => 1))] [] τ := by
      rw [aX7_trial_50]
      simp (disch := omega) only [kX7_trial_0, kX7_trial_1, eq_self, Nat.reduceEqDiff, Nat.one_ne_zero, Nat.zero_ne_one, z_0, z_lt, z_le, z_eq, z_add, z_mul, z_inb, z_cl, z_b0, z_b1, z_b01, z_b010, z_b011, kb_v, kb_n, List.cons_append, List.nil_append, if_true, if_false, ↓reduceIte, Bool.false_eq_true, Bool.true_eq_false, decide_eq_true_eq, decide_eq_false_iff_not, not_false_eq_true, hlw]
    rcases f4 with ⟨f, pl, c1, c2, c3, c4, c5, c6⟩ | ⟨U, c1, c2, c3, c4, c5, c6⟩
    · refine ⟨up σ1 50 9 (nI 0), Or.inl ⟨f, pl, ?_, c2, c5, ?_⟩, fun a ha => by rw [up_of (by omega), hO a (by omega) (by omega)]⟩
      · rw [pre, c1]
        simp (disch := omega) only [kX7_trial_0, kX7_trial_1, eq_self, Nat.reduceEqDiff, Nat.one_ne_zero, Nat.zero_ne_one, z_0, z_lt, z_le, z_eq, z_add, z_mul, z_inb, z_cl, z_b0, z_b1, z_b01, z_b010, z_b011, kb_v, kb_n, List.cons_append, List.nil_append, if_true, if_false, ↓reduceIte, Bool.false_eq_true, Bool.true_eq_false, decide_eq_true_eq, decide_eq_false_iff_not, not_false_eq_true, up_s, up_k, up_j, c4]
      · have hj : ∀ j, j < 156 → (up σ1 50 9 (nI 0)) 51 j = σ 51 j := fun j hj => by rw [up_k (by omega), h51 j hj]
        have hs : ∀ a, 52 ≤ a → (up σ1 50 9 (nI 0)) a = σ a := fun a ha => by rw [up_of (by omega), hO a (by omega) (by omega)]
        refine ⟨MT_cg (by omega) (by omega) g1 (fun j _ _ => hj j (by omega)), MT_cg (by omega) (by omega) g2 (fun j _ _ => hj j (by omega)), MT_cg (by omega) (by omega) g3 (fun j _ _ => hj j (by omega)), ?_, ?_, ?_, ⟨up_s, fun j hj => by omega⟩, ?_, ?_, ?_⟩
        · rw [hs 52 (by omega)]; exact g4
        · unfold MA; rw [up_j (by omega), h50 3 (by omega) (by omega) (by omega) (by omega), hs 53 (by omega)]; exact g5
        · unfold MW; rw [hs 54 (by omega), hs 55 (by omega), hs 56 (by omega)]; exact g6
        · rw [up_j (by omega)]; exact c3
        · rw [up_j (by omega), h50 7 (by omega) (by omega) (by omega) (by omega)]; exact g9
        · unfold MC; rw [up_j (by omega), h50 12 (by omega) (by omega) (by omega) (by omega), hs 58 (by omega)]; exact g10
    · have hW := WF_WP c4 c5
      have b7 := hW.1
      obtain ⟨σ2, e1, e2, e3, e4⟩ := m_ca (d + 28) (f := 156) (t := 0) (by omega) (by omega) (by omega) (up σ1 50 9 (nI 0))
      have e1 : cal (d + 29) mX7_copyAll [.ref 50, .int (nI 156), .int (nI 0)] _ = _ := e1
      have hT2 : MT σ2 0 (s6 U 1) := MT_mv (f := 156) (by omega) (by omega) (MT_same c3 (up_of (by omega))) e2
      have h7 : σ2 51 7 = nI (U 7) := by rw [(MT0 hT2).2.2.2.2.2.2.2.1, s6_n (by omega)]
      have hs : ∀ a, 52 ≤ a → (up σ2 50 3 (nI 0)) a = σ a := fun a ha => by rw [up_of (by omega), e4 a (by omega), up_of (by omega), hO a (by omega) (by omega)]
      have hj : ∀ j, 52 ≤ j → j < 156 → (up σ2 50 3 (nI 0)) 51 j = σ 51 j := fun j q1 q2 => by rw [up_k (by omega), e3 j (by omega), up_k (by omega), h51 j q2]
      have hf : ∀ j, j ≠ 3 → j ≠ 9 → j ≠ 10 → j ≠ 14 → j ≠ 15 → j ≠ 16 → (up σ2 50 3 (nI 0)) 50 j = σ 50 j := fun j q1 q2 q3 q4 q5 q6 => by rw [up_j q1, e4 50 (by omega), up_j q2, h50 j q3 q4 q5 q6]
      refine ⟨up σ2 50 3 (nI 0), Or.inr ⟨U, ?_, c2, hW, ?_⟩, fun a ha => by rw [up_of (by omega), e4 a (by omega), up_of (by omega), hO a (by omega) (by omega)]⟩
      · rw [pre, c1]
        simp (disch := omega) only [kX7_trial_0, kX7_trial_1, eq_self, Nat.reduceEqDiff, Nat.one_ne_zero, Nat.zero_ne_one, z_0, z_lt, z_le, z_eq, z_add, z_mul, z_inb, z_cl, z_b0, z_b1, z_b01, z_b010, z_b011, kb_v, kb_n, List.cons_append, List.nil_append, if_true, if_false, ↓reduceIte, Bool.false_eq_true, Bool.true_eq_false, decide_eq_true_eq, decide_eq_false_iff_not, not_false_eq_true, up_s, up_k, up_j, e1, h7]
      · refine ⟨MT_same hT2 (up_of (by omega)), MT_cg (by omega) (by omega) g2 (fun j _ _ => hj j (by omega) (by omega)), MT_cg (by omega) (by omega) g3 (fun j _ _ => hj j (by omega) (by omega)), ?_, ⟨up_s, fun j hj => absurd hj (by simp)⟩, ?_, ⟨?_, fun j hj => by omega⟩, ?_, ?_, ?_⟩
        · rw [hs 52 (by omega)]; exact g4
        · unfold MW; rw [hs 54 (by omega), hs 55 (by omega), hs 56 (by omega)]; exact g6
        · rw [up_j (by omega), e4 50 (by omega), up_s]
        · rw [up_j (by omega), e4 50 (by omega), up_j (by omega), c6, up_j (by omega)]; exact g8
        · rw [hf 7 (by omega) (by omega) (by omega) (by omega) (by omega) (by omega)]; exact g9
        · unfold MC; rw [hf 12 (by omega) (by omega) (by omega) (by omega) (by omega) (by omega), hs 58 (by omega)]; exact g10
  cases hp : prl tn tp with
  | inl e =>
    obtain ⟨f, pl⟩ := e
    by_cases hf : f < 10
    · refine ⟨.int (-1000100 - nI pl), (T, I0, I1, A, rz, rl, it, 0, tp, f, fs, cn, ct), fun σ d h => ?_, fun σ d h => ?_, OK_f ok hf⟩
      · obtain ⟨σ', hc, hfr⟩ := hX σ d h
        rcases hc with ⟨f', pl', c1, c2, _, c3⟩ | ⟨U, _, c2, _⟩
        · rw [hp] at c2; cases c2; exact ⟨σ', c1, c3, hfr⟩
        · rw [hp] at c2; cases c2
      · obtain ⟨σ', hc, hfr⟩ := hM σ d h
        rcases hc with ⟨f', pl', c1, c2, _, c3⟩ | ⟨U, _, c2, _⟩
        · rw [hp] at c2; cases c2; exact ⟨σ', c1, c3, hfr⟩
        · rw [hp] at c2; cases c2
    · refine ⟨.int 0, (T, I0, I1, A, rz, rl, it, tn, tp, ft, fs, cn, ct), fun σ d h => ?_, fun σ d h => ?_, ok⟩
      · obtain ⟨σ', hc, hfr⟩ := hX σ d h
        rcases hc with ⟨f', pl', c1, c2, c3, _⟩ | ⟨U, _, c2, _⟩
        · rw [hp] at c2; cases c2; exact absurd (show f < 10 by omega) hf
        · rw [hp] at c2; cases c2
      · obtain ⟨σ', hc, hfr⟩ := hM σ d h
        rcases hc with ⟨f', pl', c1, c2, c3, _⟩ | ⟨U, _, c2, _⟩
        · rw [hp] at c2; cases c2; exact absurd (show f < 10 by omega) hf
        · rw [hp] at c2; cases c2
  | inr U =>
    by_cases hW : WF (s6 U 1)
    · refine ⟨.int (nI (U 7)), (s6 U 1, I0, I1, [], rz, rl, it, 0, tp, ft, fs, cn, ct), fun σ d h => ?_, fun σ d h => ?_, OK_s ok hW⟩
      · obtain ⟨σ', hc, hfr⟩ := hX σ d h
        rcases hc with ⟨f', pl', _, c2, _⟩ | ⟨U', c1, c2, _, c3⟩
        · rw [hp] at c2; cases c2
        · rw [hp] at c2; cases c2; exact ⟨σ', c1, c3, hfr⟩
      · obtain ⟨σ', hc, hfr⟩ := hM σ d h
        rcases hc with ⟨f', pl', _, c2, _⟩ | ⟨U', c1, c2, _, c3⟩
        · rw [hp] at c2; cases c2
        · rw [hp] at c2; cases c2; exact ⟨σ', c1, c3, hfr⟩
    · refine ⟨.int 0, (T, I0, I1, A, rz, rl, it, tn, tp, ft, fs, cn, ct), fun σ d h => ?_, fun σ d h => ?_, ok⟩
      · obtain ⟨σ', hc, hfr⟩ := hX σ d h
        rcases hc with ⟨f', pl', _, c2, _⟩ | ⟨U', c1, c2, c3, _⟩
        · rw [hp] at c2; cases c2
        · rw [hp] at c2; cases c2; exact absurd c3 hW
      · obtain ⟨σ', hc, hfr⟩ := hM σ d h
        rcases hc with ⟨f', pl', _, c2, _⟩ | ⟨U', c1, c2, c3, _⟩
        · rw [hp] at c2; cases c2
        · rw [hp] at c2; cases c2; exact absurd c3 hW
