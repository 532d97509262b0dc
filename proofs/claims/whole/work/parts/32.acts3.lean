/-- an act: the state ahead of it is kept, then the trial changes -/
theorem XR_act {σ σ' : Sg} {T I0 I1 U : TT} {A A' : List TT} {rz rl : TT} {it : Nat → Nat → Int32} {tn : Nat} {tp : TT} {ft fs cn : Nat} {ct : TT} (h : XR σ (T, I0, I1, A, rz, rl, it, tn, tp, ft, fs, cn, ct)) (hT : XT σ' 8 U) (hA : XA σ' A') (hs : ∀ a, a ≠ 8 → a ≠ 44 → a ≠ 45 → σ' a = σ a) : XR σ' (U, I0, I1, A', rz, rl, it, tn, tp, ft, fs, cn, ct) := by
  obtain ⟨g1, g2, g3, g4, g5, g6, g7, g8, g9⟩ := h
  refine ⟨hT, XT_cg g2 (fun a _ _ => hs a (by omega) (by omega) (by omega)), XT_cg g3 (fun a _ _ => hs a (by omega) (by omega) (by omega)), hA, ?_, ?_, ?_, ?_, ?_⟩
  · unfold XW; rw [hs 2 (by omega) (by omega) (by omega), hs 3 (by omega) (by omega) (by omega), hs 4 (by omega) (by omega) (by omega), hs 5 (by omega) (by omega) (by omega)]; exact g5
  · unfold XP; rw [hs 6 (by omega) (by omega) (by omega), hs 7 (by omega) (by omega) (by omega)]; exact g6
  · rw [hs 0 (by omega) (by omega) (by omega)]; exact g7
  · rw [hs 0 (by omega) (by omega) (by omega)]; exact g8
  · unfold XC; rw [hs 48 (by omega) (by omega) (by omega), hs 49 (by omega) (by omega) (by omega)]; exact g9
theorem MR_act {σ σ' : Sg} {T I0 I1 U : TT} {A A' : List TT} {rz rl : TT} {it : Nat → Nat → Int32} {tn : Nat} {tp : TT} {ft fs cn : Nat} {ct : TT} (ok : OKV (T, I0, I1, A, rz, rl, it, tn, tp, ft, fs, cn, ct)) (h : MR σ (T, I0, I1, A, rz, rl, it, tn, tp, ft, fs, cn, ct)) (hT : MT σ' 0 U) (hA : MA σ' A') (hw : ∀ j, 52 ≤ j → σ' 51 j = σ 51 j) (h50 : ∀ q, q ≠ 3 → σ' 50 q = σ 50 q) (hs : ∀ a, a ≠ 50 → a ≠ 51 → a ≠ 53 → σ' a = σ a) : MR σ' (U, I0, I1, A', rz, rl, it, tn, tp, ft, fs, cn, ct) := by
  obtain ⟨g1, g2, g3, g4, g5, g6, g7, g8, g9, g10⟩ := h
  have w2 := ok.2.1.1
  have w3 := ok.2.2.1.1
  refine ⟨hT, MT_cg (by omega) (by omega) g2 (fun j _ _ => hw j (by omega)), MT_cg (by omega) (by omega) g3 (fun j _ _ => hw j (by omega)), ?_, hA, ?_, ?_, ?_, ?_, ?_⟩
  · rw [hs 52 (by omega) (by omega) (by omega)]; exact g4
  · unfold MW; rw [hs 54 (by omega) (by omega) (by omega), hs 55 (by omega) (by omega) (by omega), hs 56 (by omega) (by omega) (by omega)]; exact g6
  · unfold MP; rw [h50 9 (by omega), hs 57 (by omega) (by omega) (by omega)]; exact g7
  · rw [h50 10 (by omega)]; exact g8
  · rw [h50 7 (by omega)]; exact g9
  · unfold MC; rw [h50 12 (by omega), hs 58 (by omega) (by omega) (by omega)]; exact g10
theorem rst_self (T : TT) : rst T T = T := by
  funext k
  unfold rst
  split <;> rfl
theorem rst_hi {T U a : TT} (hU : ∀ k, 6 ≤ k → U k = T k) : rst U a = rst T a := by
  funext k
  unfold rst
  by_cases h : k < 6
  · simp [h]
  · simp [h, hU k (by omega)]
theorem OK_act {T I0 I1 U : TT} {A : List TT} {rz rl : TT} {it : Nat → Nat → Int32} {tn : Nat} {tp : TT} {ft fs cn : Nat} {ct : TT} (ok : OKV (T, I0, I1, A, rz, rl, it, tn, tp, ft, fs, cn, ct)) (hU : ∀ k, 6 ≤ k → U k = T k) (wU : WF U) : OKV (U, I0, I1, psh A T, rz, rl, it, tn, tp, ft, fs, cn, ct) := by
  obtain ⟨h1, h2, h3, h4, h5, h6, h7, h8, h9, h10, h11, h12⟩ := ok
  refine ⟨wU, h2, h3, by rw [psh_len]; omega, fun j hj => ?_, h6, h7, h8, h9, h10, h11, h12⟩
  rw [psh_len] at hj
  rw [rst_hi hU]
  cases j with
  | zero => rw [psh_0, rst_self]; exact h1
  | succ j => rw [psh_s (by omega)]; exact h5 j (by omega)
/-- a trial stays one when its changing numbers stay in bounds -/
theorem WF_mk {T U : TT} (w : WF T) (hU : ∀ k, 6 ≤ k → U k = T k) (h6 : T 6 = 1) (h0 : U 0 ≤ 20) (h1 : U 1 ≤ 60) (h2 : U 2 ≤ 99) (h3 : U 3 < 2 ^ (T 7)) (h5 : U 5 < 2 ^ (T 8)) (h4 : ∀ i, (U 4).testBit i = true → (U 3).testBit i = true) : WF U := by
  obtain ⟨a1, a2, a3, a4, a5, a6, a7⟩ := w
  have p7 : 2 ^ (T 7) ≤ 2 ^ 7 := Nat.pow_le_pow_right (by omega) (by omega)
  have p8 : 2 ^ (T 8) ≤ 2 ^ 5 := Nat.pow_le_pow_right (by omega) (by omega)
  have h43 : U 4 ≤ U 3 := Nat.le_of_testBit h4
  unfold WF
  rw [hU 6 (by omega), hU 7 (by omega), hU 8 (by omega)]
  refine ⟨⟨h0, h1, h2, by omega, by omega, by omega, by omega, by omega, by omega⟩, ⟨h3, h5⟩, h4, fun p hp => ?_, fun e he => ?_, fun q => absurd q (by omega), fun _ => a7 h6⟩
  · rw [hU _ (by omega), hU _ (by omega), hU _ (by omega), hU _ (by omega)]; exact a4 p hp
  · rw [hU _ (by omega), hU _ (by omega), hU _ (by omega)]; exact a5 e he
theorem T6_of {T : TT} (w : WF T) {p : Nat} (hp : p < T 7) : T 6 = 1 := by
  have := w.1
  have := w.2.2.2.2.2.1
  omega
theorem T6_el {T : TT} (w : WF T) {e : Nat} (hp : e < T 8) : T 6 = 1 := by
  have := w.1
  have := w.2.2.2.2.2.1
  omega
theorem or_pw {a n p : Nat} (h : a < 2 ^ n) (hp : p < n) : a ||| 2 ^ p < 2 ^ n := Nat.or_lt_two_pow h (Nat.pow_lt_pow_right (by omega) hp)
theorem WF_mkT {T : TT} (w : WF T) {p : Nat} (hp : p < T 7) : WF (mkT T p) := by
  have w1 := w.1
  refine WF_mk w (fun k hk => mkT_hi (by omega)) (T6_of w hp) ?_ ?_ ?_ ?_ ?_ ?_
  · simp only [mkT, if_true]
    unfold skb
    split <;> omega
  · simp only [mkT, if_true, Nat.one_ne_zero, if_false]
    split <;> omega
  · simp only [mkT, Nat.reduceEqDiff, if_false, if_true]
    split <;> omega
  · simp only [mkT, Nat.reduceEqDiff, if_false, if_true]
    exact or_pw w.2.1.1 hp
  · rw [mkT_hi (by omega)]; exact w.2.1.2
  · intro i hi
    simp only [mkT, Nat.reduceEqDiff, if_false, if_true] at hi ⊢
    rw [Nat.testBit_or]
    split at hi
    · rw [Nat.testBit_or, Bool.or_eq_true] at hi
      rcases hi with q | q
      · rw [w.2.2.1 i q]; rfl
      · rw [q]; simp
    · rw [w.2.2.1 i hi]; rfl
theorem b_make (a : Int32) : BO mX6_make mX7_make [.int a] := by
  rintro ⟨T, I0, I1, A, rz, rl, it, tn, tp, ft, fs, cn, ct⟩ ok
  have w : WF T := ok.1
  have w1 := w.1
  have hl : A.length ≤ 24 := ok.2.2.2.1
  by_cases ha : isin a (T 7) = true
  · obtain ⟨p, hp, rfl⟩ := (isin_t (by omega)).mp ha
    by_cases hm : may T p (T 3) (T 0) (T 1) (T 2) = true
    · refine ⟨.int (nI (flt T p (T 0)).toNat), (mkT T p, I0, I1, psh A T, rz, rl, it, tn, tp, ft, fs, cn, ct), fun σ d h => ?_, fun σ d h => ?_, OK_act ok (fun k hk => mkT_hi (by omega)) (WF_mkT w hp)⟩
      · have hT := h.1
        obtain ⟨σ1, e1, e2, e3⟩ := x_keep hT h.2.2.2.1 hl (d + 28)
        have hT1 : XT σ1 8 T := XT_cg hT (fun q _ _ => e3 q (by omega) (by omega))
        obtain ⟨σ2, f1, f2, f3⟩ := x_build_8 hT1 w (d + 27) hp hm
        refine ⟨σ2, ?_, XR_act h f2 ?_ (fun q q1 q2 q3 => by rw [f3 q q1, e3 q q2 q3]), fun q hq => by rw [f3 q (by omega), e3 q (by omega) (by omega)]⟩
        · rw [aX6_make_0]
          simp (disch := omega) only [kX6_make, eq_self, Nat.reduceEqDiff, Nat.one_ne_zero, Nat.zero_ne_one, z_0, z_lt, z_le, z_eq, z_add, z_mul, z_inb, z_cl, z_b0, z_b1, z_b01, z_b010, z_b011, kb_v, kb_n, List.cons_append, List.nil_append, if_true, if_false, ↓reduceIte, Bool.false_eq_true, Bool.true_eq_false, decide_eq_true_eq, decide_eq_false_iff_not, not_false_eq_true, x_isPart hT w, ha, x_mayBuild_8 hT w, hm, e1, f1]
        · unfold XA; rw [f3 44 (by omega), f3 45 (by omega)]; exact e2
      · have hT := h.1
        obtain ⟨σ1, e1, e2, e3, e4⟩ := m_minds (T := T) (fun k hk => by have := hT.1 k (by omega); rwa [Nat.zero_add] at this) h.2.2.2.2.1 hl (d + 28)
        have hT1 : MT σ1 0 T := MT_same hT (e4 51 (by omega) (by omega))
        obtain ⟨σ2, f1, f2, f3, f4⟩ := m_makes hT1 w (d + 26) hp hm
        refine ⟨σ2, ?_, MR_act ok h f2 ?_ (fun j hj => by rw [f4 j (by omega), e4 51 (by omega) (by omega)]) (fun q hq => by rw [f3 50 (by omega), e3 q hq]) (fun q q1 q2 q3 => by rw [f3 q q2, e4 q q1 q3]), fun q hq => by rw [f3 q (by omega), e4 q (by omega) (by omega)]⟩
        · rw [aX7_make_50]
          simp (disch := omega) only [kX7_make, eq_self, Nat.reduceEqDiff, Nat.one_ne_zero, Nat.zero_ne_one, z_0, z_lt, z_le, z_eq, z_add, z_mul, z_inb, z_cl, z_b0, z_b1, z_b01, z_b010, z_b011, kb_v, kb_n, List.cons_append, List.nil_append, if_true, if_false, ↓reduceIte, Bool.false_eq_true, Bool.true_eq_false, decide_eq_true_eq, decide_eq_false_iff_not, not_false_eq_true, m_isPart hT w, ha, m_mayNow hT w, hm, e1, f1]
          have hq4 : σ2 51 4 = nI (mkT T p 4) := (MT0 f2).2.2.2.2.1
          have hlt := (WF_mkT w hp).1
          simp (disch := omega) only [hq4, z_bit]
          have hm0 : (T 3).testBit p = false := by
            unfold may at hm
            simp only [Bool.and_eq_true, Bool.not_eq_true'] at hm
            exact hm.1
          have h40 : (T 4).testBit p = false := by
            cases q : (T 4).testBit p
            · rfl
            · rw [w.2.2.1 p q] at hm0; cases hm0
          refine rB ?_
          simp only [mkT, Nat.reduceEqDiff, if_false, if_true]
          cases hf : flt T p (T 0)
          · simp [h40]
          · simp [Nat.testBit_or, Nat.testBit_two_pow_self]
        · unfold MA; rw [f3 50 (by omega), f3 53 (by omega)]; exact e2
    · have hm : may T p (T 3) (T 0) (T 1) (T 2) = false := by simpa using hm
      refine ⟨.int (-1000002), _, XO_id fun σ d h => ?_, MO_id fun σ d h => ?_, ok⟩
      · have hT := h.1
        rw [aX6_make_0]
        simp (disch := omega) only [kX6_make, eq_self, Nat.reduceEqDiff, Nat.one_ne_zero, Nat.zero_ne_one, z_0, z_lt, z_le, z_eq, z_add, z_mul, z_inb, z_cl, z_b0, z_b1, z_b01, z_b010, z_b011, kb_v, kb_n, List.cons_append, List.nil_append, if_true, if_false, ↓reduceIte, Bool.false_eq_true, Bool.true_eq_false, decide_eq_true_eq, decide_eq_false_iff_not, not_false_eq_true, x_isPart hT w, ha, x_mayBuild_8 hT w, hm]
      · have hT := h.1
        rw [aX7_make_50]
        simp (disch := omega) only [kX7_make, eq_self, Nat.reduceEqDiff, Nat.one_ne_zero, Nat.zero_ne_one, z_0, z_lt, z_le, z_eq, z_add, z_mul, z_inb, z_cl, z_b0, z_b1, z_b01, z_b010, z_b011, kb_v, kb_n, List.cons_append, List.nil_append, if_true, if_false, ↓reduceIte, Bool.false_eq_true, Bool.true_eq_false, decide_eq_true_eq, decide_eq_false_iff_not, not_false_eq_true, m_isPart hT w, ha, m_mayNow hT w, hm]
  · have ha : isin a (T 7) = false := by simpa using ha
    refine ⟨.int (-1000001), _, XO_id fun σ d h => ?_, MO_id fun σ d h => ?_, ok⟩
    · have hT := h.1
      rw [aX6_make_0]
      simp (disch := omega) only [kX6_make, eq_self, Nat.reduceEqDiff, Nat.one_ne_zero, Nat.zero_ne_one, z_0, z_lt, z_le, z_eq, z_add, z_mul, z_inb, z_cl, z_b0, z_b1, z_b01, z_b010, z_b011, kb_v, kb_n, List.cons_append, List.nil_append, if_true, if_false, ↓reduceIte, Bool.false_eq_true, Bool.true_eq_false, decide_eq_true_eq, decide_eq_false_iff_not, not_false_eq_true, x_isPart hT w, ha]
    · have hT := h.1
      rw [aX7_make_50]
      simp (disch := omega) only [kX7_make, eq_self, Nat.reduceEqDiff, Nat.one_ne_zero, Nat.zero_ne_one, z_0, z_lt, z_le, z_eq, z_add, z_mul, z_inb, z_cl, z_b0, z_b1, z_b01, z_b010, z_b011, kb_v, kb_n, List.cons_append, List.nil_append, if_true, if_false, ↓reduceIte, Bool.false_eq_true, Bool.true_eq_false, decide_eq_true_eq, decide_eq_false_iff_not, not_false_eq_true, m_isPart hT w, ha]
