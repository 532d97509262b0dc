/-! the reference's way through all rows -/
theorem m_ret {σ : Sg} (d : Nat) (mo : Int32) {e S pp : Nat} (x : Value) (he : e < 8) (hS : S < 128) (hpp : e ≠ 0 → pp < 7 ∧ σ 60 (e - 1) = nI pp) : exec d mX7_findFewest 282 [.ref 50, .int mo, .int (nI e), .int (nI S), x] [] σ = exec d mX7_findFewest 86 [.ref 50, .int mo, .int (dl e), .int (nI (if e = 0 then S else ndn S (2 ^ pp))), x] [] σ := by
  by_cases q : e = 0
  · subst q
    simp (disch := omega) only [kX7_findFewest_0, kX7_findFewest_1, kX7_findFewest_2, kX7_findFewest_3, kX7_findFewest_4, eq_self, Nat.reduceEqDiff, Nat.one_ne_zero, Nat.zero_ne_one, z_0, z_lt, z_le, z_eq, z_add, z_mul, z_inb, z_cl, z_b0, z_b1, z_b01, z_b010, z_b011, kb_v, kb_n, List.cons_append, List.nil_append, if_true, if_false, ↓reduceIte, Bool.false_eq_true, Bool.true_eq_false, decide_eq_true_eq, decide_eq_false_iff_not, not_false_eq_true, dl_e, dl_0, z_and, Nat.and_self]
  · obtain ⟨h1, h2⟩ := hpp q
    have hdl : dl e = nI (e - 1) := by unfold dl; rw [if_neg q]
    rw [if_neg q, hdl]
    simp (disch := omega) only [kX7_findFewest_0, kX7_findFewest_1, kX7_findFewest_2, kX7_findFewest_3, kX7_findFewest_4, eq_self, Nat.reduceEqDiff, Nat.one_ne_zero, Nat.zero_ne_one, z_0, z_lt, z_le, z_eq, z_add, z_mul, z_inb, z_cl, z_b0, z_b1, z_b01, z_b010, z_b011, kb_v, kb_n, List.cons_append, List.nil_append, if_true, if_false, ↓reduceIte, Bool.false_eq_true, Bool.true_eq_false, decide_eq_true_eq, decide_eq_false_iff_not, not_false_eq_true, z_dec q, h2, z_one, z_nd, Nat.zero_le]
theorem ND_cg {σ σ' : Sg} {T : TT} {e S k v : Nat} (h : ND σ T e S k v) (hs : ∀ a, 61 ≤ a → a ≤ 64 → σ' a e = σ a e) : ND σ' T e S k v := by
  obtain ⟨h1, h2, h3, h4⟩ := h
  exact ⟨by rw [hs 61 (by omega) (by omega)]; exact h1, by rw [hs 62 (by omega) (by omega)]; exact h2, by rw [hs 63 (by omega) (by omega)]; exact h3, by rw [hs 64 (by omega) (by omega)]; exact h4⟩
theorem full_st {T : TT} {v p : Nat} (hp : p < T 7) : stb T (2 ^ (T 7) - 1) v p = false := by
  cases q : stb T (2 ^ (T 7) - 1) v p
  · rfl
  · have := (stb_t q).1
    rw [Nat.testBit_two_pow_sub_one, decide_eq_true hp] at this
    exact absurd this (by simp)
theorem m_leaf {σ : Sg} {T : TT} (h : MT σ 0 T) (w : WF T) (d : Nat) (mo : Int32) {D k v e pp : Nat} (hD : D ≤ 80) (x : Value) {o : Option (Nat × Nat)} (he : e < 8) (hI : NI T D (2 ^ (T 7) - 1) k v) (hN : ND σ T e (2 ^ (T 7) - 1) k v) (h60 : σ 60 e = lq 0) (hpp : e ≠ 0 → pp < 7 ∧ σ 60 (e - 1) = nI pp ∧ σ 60 0 = nI (7 - v % 8)) (he0 : e = 0 ↔ 2 ^ (T 7) - 1 = T 3) (hB : BS σ o) : ∃ σ' x', exec (d + 4) mX7_findFewest 86 [.ref 50, .int mo, .int (nI e), .int (nI (2 ^ (T 7) - 1)), x] [] σ = exec (d + 4) mX7_findFewest 86 [.ref 50, .int mo, .int (dl e), .int (nI (if e = 0 then 2 ^ (T 7) - 1 else ndn (2 ^ (T 7) - 1) (2 ^ pp))), x'] [] σ' ∧ BS σ' (if bet o k v = true then some (k, v) else o) ∧ (∀ a, a ≠ 50 → σ' a = σ a) ∧ ∀ j, j < 22 ∨ 24 < j → σ' 50 j = σ 50 j := by
  have w1 := w.1
  have hp7 := p7_le (n := T 7) (by omega)
  have hp0 : 1 ≤ 2 ^ (T 7) := Nat.one_le_two_pow
  have hk := pop_le (2 ^ (T 7) - 1)
  have hI' := hI
  obtain ⟨i1, i2, i3, i4, i5, i6, i7⟩ := hI
  have hnx : ∀ a b c, cal (d + 4) mX7_nextPart [.ref 50, .int (nI e), .int (lq 0), .int (nI (2 ^ (T 7) - 1))] (up (up (up σ 50 24 a) 50 23 b) 50 22 c) = some (some (.int (nI 7)), up (up (up σ 50 24 a) 50 23 b) 50 22 c) := fun a b c => by
    have := m_next (σ := up (up (up σ 50 24 a) 50 23 b) 50 22 c) (MT_same h (by simp (disch := omega) only [up_of])) w d (q := 0) he (by omega) (show v < 1000 by omega) (ND_cg hN (fun a h1 h2 => by simp (disch := omega) only [up_k])) (by omega)
    rw [this]
    rcases fnx_c (stb T (2 ^ (T 7) - 1) v) (T 7 - 0) 0 (by omega) with q | q
    · rw [q.1]
    · have := full_st (T := T) (v := v) (p := fnx (stb T (2 ^ (T 7) - 1) v) 0 (T 7 - 0)) (by omega)
      rw [q.2.2.1] at this
      exact absurd this (by simp)
  have hfr : e = 0 → frs v = -1000000 := fun q => by
    have := (i6 (he0.mp q)).2
    unfold frs
    rw [if_pos (by omega)]
  have hfr2 : e ≠ 0 → frs v = nI (7 - v % 8) := fun q => by
    have := i7 (fun c => q (he0.mpr c))
    unfold frs
    rw [if_neg (by omega)]
  obtain ⟨n1, n2, n3, n4⟩ := hN
  have hbig : (k < 1000000) = True := eq_true (by omega)
  have hret : ∀ σ' : Sg, (∀ a, a ≠ 50 → σ' a = σ a) → ∀ x, exec (d + 4) mX7_findFewest 282 [.ref 50, .int mo, .int (nI e), .int (nI (2 ^ (T 7) - 1)), x] [] σ' = _ := fun σ' hs x => m_ret (σ := σ') (d + 4) mo (pp := pp) x he (by omega) (fun q => ⟨(hpp q).1, by rw [hs 60 (by omega)]; exact (hpp q).2.1⟩)
  have fram : ∀ a b c, (∀ q, q ≠ 50 → up (up (up σ 50 24 a) 50 23 b) 50 22 c q = σ q) ∧ ∀ j, j < 22 ∨ 24 < j → up (up (up σ 50 24 a) 50 23 b) 50 22 c 50 j = σ 50 j := fun a b c => ⟨fun q hq => by simp only [up_of hq], fun j hj => by simp (disch := omega) only [up_j]⟩
  have good : exec (d + 4) mX7_findFewest 144 [.ref 50, .int mo, .int (nI e), .int (nI (2 ^ (T 7) - 1)), x] [] σ = exec (d + 4) mX7_findFewest 282 [.ref 50, .int mo, .int (nI e), .int (nI (2 ^ (T 7) - 1)), .int (nI 7)] [] (up (up (up σ 50 24 (frs v)) 50 23 (nI (v / 8))) 50 22 (nI k)) := by
    by_cases q : e = 0
    · subst q
      rw [hfr rfl]
      simp (disch := omega) only [kX7_findFewest_0, kX7_findFewest_1, kX7_findFewest_2, kX7_findFewest_3, kX7_findFewest_4, eq_self, Nat.reduceEqDiff, Nat.one_ne_zero, Nat.zero_ne_one, z_0, z_lt, z_le, z_eq, z_add, z_mul, z_inb, z_cl, z_b0, z_b1, z_b01, z_b010, z_b011, kb_v, kb_n, List.cons_append, List.nil_append, if_true, if_false, ↓reduceIte, Bool.false_eq_true, Bool.true_eq_false, decide_eq_true_eq, decide_eq_false_iff_not, not_false_eq_true, up_s, up_k, up_j, n1, n4, h60, hnx, Nat.le_refl, Nat.reduceLeDiff]
    · have h0 := (hpp q).2.2
      rw [hfr2 q]
      simp (disch := omega) only [kX7_findFewest_0, kX7_findFewest_1, kX7_findFewest_2, kX7_findFewest_3, kX7_findFewest_4, eq_self, Nat.reduceEqDiff, Nat.one_ne_zero, Nat.zero_ne_one, z_0, z_lt, z_le, z_eq, z_add, z_mul, z_inb, z_cl, z_b0, z_b1, z_b01, z_b010, z_b011, kb_v, kb_n, List.cons_append, List.nil_append, if_true, if_false, ↓reduceIte, Bool.false_eq_true, Bool.true_eq_false, decide_eq_true_eq, decide_eq_false_iff_not, not_false_eq_true, up_s, up_k, up_j, n1, n4, h0, q, h60, hnx, Nat.le_refl, Nat.reduceLeDiff]
  have poor : exec (d + 4) mX7_findFewest 148 [.ref 50, .int mo, .int (nI e), .int (nI (2 ^ (T 7) - 1)), x] [] σ = exec (d + 4) mX7_findFewest 282 [.ref 50, .int mo, .int (nI e), .int (nI (2 ^ (T 7) - 1)), .int (nI 7)] [] (up (up (up σ 50 24 (σ 50 24)) 50 23 (σ 50 23)) 50 22 (σ 50 22)) := by
    simp (disch := omega) only [kX7_findFewest_0, kX7_findFewest_1, kX7_findFewest_2, kX7_findFewest_3, kX7_findFewest_4, eq_self, Nat.reduceEqDiff, Nat.one_ne_zero, Nat.zero_ne_one, z_0, z_lt, z_le, z_eq, z_add, z_mul, z_inb, z_cl, z_b0, z_b1, z_b01, z_b010, z_b011, kb_v, kb_n, List.cons_append, List.nil_append, if_true, if_false, ↓reduceIte, Bool.false_eq_true, Bool.true_eq_false, decide_eq_true_eq, decide_eq_false_iff_not, not_false_eq_true, up_s, up_k, up_j, h60, hnx, Nat.le_refl, Nat.reduceLeDiff]
  match o, hB with
  | none, hB =>
    obtain ⟨b1, b2, b3⟩ := hB
    refine ⟨_, _, Eq.trans (Eq.trans ?_ good) (hret _ (fram _ _ _).1 _), ⟨⟨by omega, by omega⟩, ?_, ?_, ?_⟩, (fram _ _ _).1, (fram _ _ _).2⟩
    · rw [hX7_findFewest_86]
      simp (disch := omega) only [kX7_findFewest_0, kX7_findFewest_1, kX7_findFewest_2, kX7_findFewest_3, kX7_findFewest_4, MT0 h, eq_self, Nat.reduceEqDiff, Nat.one_ne_zero, Nat.zero_ne_one, z_0, z_lt, z_le, z_eq, z_add, z_mul, z_inb, z_cl, z_b0, z_b1, z_b01, z_b010, z_b011, kb_v, kb_n, List.cons_append, List.nil_append, if_true, if_false, ↓reduceIte, Bool.false_eq_true, Bool.true_eq_false, decide_eq_true_eq, decide_eq_false_iff_not, not_false_eq_true, z_one, z_sub, n4, b1, hbig, Nat.not_lt_zero]
    · simp (disch := omega) only [up_s, up_k, up_j]
    · simp (disch := omega) only [up_s, up_k, up_j]
    · simp (disch := omega) only [up_s, up_k, up_j]
  | some (f, u), hB =>
    obtain ⟨⟨c1, c2⟩, b1, b2, b3⟩ := hB
    by_cases q : k < f ∨ k = f ∧ u / 8 < v / 8
    · have hb : bet (some (f, u)) k v = true := by
        unfold bet
        simp only [Bool.or_eq_true, Bool.and_eq_true, decide_eq_true_eq]
        exact q
      rw [hb, if_pos rfl]
      refine ⟨_, _, Eq.trans (Eq.trans ?_ good) (hret _ (fram _ _ _).1 _), ⟨⟨by omega, by omega⟩, ?_, ?_, ?_⟩, (fram _ _ _).1, (fram _ _ _).2⟩
      · rw [hX7_findFewest_86]
        simp (disch := omega) only [kX7_findFewest_0, kX7_findFewest_1, kX7_findFewest_2, kX7_findFewest_3, kX7_findFewest_4, MT0 h, eq_self, Nat.reduceEqDiff, Nat.one_ne_zero, Nat.zero_ne_one, z_0, z_lt, z_le, z_eq, z_add, z_mul, z_inb, z_cl, z_b0, z_b1, z_b01, z_b010, z_b011, kb_v, kb_n, List.cons_append, List.nil_append, if_true, if_false, ↓reduceIte, Bool.false_eq_true, Bool.true_eq_false, decide_eq_true_eq, decide_eq_false_iff_not, not_false_eq_true, z_one, z_sub, n1, n4, b1, b2, Nat.not_lt_zero]
        split
        · rfl
        · rw [if_pos (by omega), if_neg (by omega)]
      · simp (disch := omega) only [up_s, up_k, up_j]
      · simp (disch := omega) only [up_s, up_k, up_j]
      · simp (disch := omega) only [up_s, up_k, up_j]
    · have hb : bet (some (f, u)) k v = false := by
        unfold bet
        simp only [Bool.or_eq_false_iff, Bool.and_eq_false_iff, decide_eq_false_iff_not]
        omega
      rw [hb, if_neg (show ¬ (false = true) by simp)]
      refine ⟨_, _, Eq.trans (Eq.trans ?_ poor) (hret _ (fram _ _ _).1 _), ⟨⟨by omega, by omega⟩, ?_, ?_, ?_⟩, (fram _ _ _).1, (fram _ _ _).2⟩
      · rw [hX7_findFewest_86]
        simp (disch := omega) only [kX7_findFewest_0, kX7_findFewest_1, kX7_findFewest_2, kX7_findFewest_3, kX7_findFewest_4, MT0 h, eq_self, Nat.reduceEqDiff, Nat.one_ne_zero, Nat.zero_ne_one, z_0, z_lt, z_le, z_eq, z_add, z_mul, z_inb, z_cl, z_b0, z_b1, z_b01, z_b010, z_b011, kb_v, kb_n, List.cons_append, List.nil_append, if_true, if_false, ↓reduceIte, Bool.false_eq_true, Bool.true_eq_false, decide_eq_true_eq, decide_eq_false_iff_not, not_false_eq_true, z_one, z_sub, n1, n4, b1, b2, Nat.not_lt_zero]
        rw [if_neg (by omega)]
        split
        · rw [if_pos (by omega)]
        · rfl
      · simp (disch := omega) only [up_s, up_k, up_j]; exact b1
      · simp (disch := omega) only [up_s, up_k, up_j]; exact b2
      · simp (disch := omega) only [up_s, up_k, up_j]; exact b3
def PS (T : TT) (S k v q k' u : Nat) : Prop := (q = 0 ∧ S = 2 ^ (T 7) - 1 ∧ k' = k ∧ u = v) ∨ ∃ p, q ≤ p ∧ p < T 7 ∧ stb T S v p = true ∧ Dsc T (S ||| 2 ^ p) (nk T S k p) (nv T S v p) (2 ^ (T 7) - 1) k' u
def Cn (T : TT) (S v q : Nat) (V : Nat → Nat → Prop) : Prop := if S = T 3 then ∀ f u, V f u → 8 ≤ u % 8 + q else ∀ f u, V f u → v % 8 ≤ u % 8
theorem PS_0 {T : TT} {S k v k' u : Nat} : PS T S k v 0 k' u ↔ Dsc T S k v (2 ^ (T 7) - 1) k' u := by
  rw [Dsc_i]
  unfold PS
  constructor
  · rintro (⟨_, h1, h2, h3⟩ | ⟨p, _, h⟩)
    · exact Or.inl ⟨h1.symm, h2, h3⟩
    · exact Or.inr ⟨p, h⟩
  · rintro (⟨h1, h2, h3⟩ | ⟨p, h⟩)
    · exact Or.inl ⟨rfl, h1.symm, h2, h3⟩
    · exact Or.inr ⟨p, by omega, h⟩
/-- below the start, all have one first part -/
theorem Dn_tg {T : TT} : ∀ n S k v S' k' v', sub3 T S → S ≠ T 3 → Dn T n S k v S' k' v' → v' % 8 = v % 8
  | 0, S, k, v, S', k', v', _, _, h => by rw [h.2.2]
  | n + 1, S, k, v, S', k', v', hS, h3, h => by
    obtain ⟨p, h1, h2, h⟩ := h
    have hg := or_gt (stb_t h2).1
    have hl : T 3 ≤ S := Nat.le_of_testBit hS
    have := Dn_tg n _ _ _ S' k' v' (sub3_or hS) (by omega) h
    rw [this]
    unfold nv
    rw [if_neg h3]
    omega
def DFS (T : TT) (D d : Nat) (mo : Int32) (m : Nat) : Prop := ∀ r q S k v e pp (σ : Sg) (V : Nat → Nat → Prop) (o : Option (Nat × Nat)) (x : Value), q + r = T 7 → 2 ^ (T 7) ≤ S + m + 1 → (S = 2 ^ (T 7) - 1 → q = 0) → NI T D S k v → e ≤ pop S → (e = 0 ↔ S = T 3) → MT σ 0 T → ND σ T e S k v → σ 60 e = lq q → (e ≠ 0 → pp < 7 ∧ σ 60 (e - 1) = nI pp ∧ σ 60 0 = nI (7 - v % 8)) → BS σ o → isOp V o → Cn T S v q V →
  ∃ σ' o' x', exec (d + 4) mX7_findFewest 86 [.ref 50, .int mo, .int (nI e), .int (nI S), x] [] σ = exec (d + 4) mX7_findFewest 86 [.ref 50, .int mo, .int (dl e), .int (nI (if e = 0 then S else ndn S (2 ^ pp))), x'] [] σ' ∧ BS σ' o' ∧ isOp (fun k' u => V k' u ∨ PS T S k v q k' u) o' ∧ (∀ a j, 60 ≤ a → a ≤ 64 → j < e → σ' a j = σ a j) ∧ (∀ a, 61 ≤ a → a ≤ 64 → σ' a e = σ a e) ∧ (∀ a, a ≠ 50 → a < 60 ∨ 64 < a → σ' a = σ a) ∧ ∀ j, j < 22 ∨ 24 < j → σ' 50 j = σ 50 j
theorem ndn_or1 {S p : Nat} (h : S.testBit p = false) : ndn (S ||| 2 ^ p) (2 ^ p) = S := by
  apply Nat.eq_of_testBit_eq
  intro i
  rw [ndn_bit, or_bit, Nat.testBit_two_pow]
  by_cases q : p = i
  · subst q; rw [h]; simp
  · simp [q]
theorem dfs_leaf {T : TT} (w : WF T) {D d : Nat} (hD : D ≤ 80) {mo : Int32} {k v e pp : Nat} {σ : Sg} {V : Nat → Nat → Prop} {o : Option (Nat × Nat)} (x : Value) (hI : NI T D (2 ^ (T 7) - 1) k v) (he : e ≤ pop (2 ^ (T 7) - 1)) (he0 : e = 0 ↔ 2 ^ (T 7) - 1 = T 3) (h : MT σ 0 T) (hN : ND σ T e (2 ^ (T 7) - 1) k v) (h60 : σ 60 e = lq 0) (hpp : e ≠ 0 → pp < 7 ∧ σ 60 (e - 1) = nI pp ∧ σ 60 0 = nI (7 - v % 8)) (hB : BS σ o) (ho : isOp V o) (hC : Cn T (2 ^ (T 7) - 1) v 0 V) : ∃ σ' o' x', exec (d + 4) mX7_findFewest 86 [.ref 50, .int mo, .int (nI e), .int (nI (2 ^ (T 7) - 1)), x] [] σ = exec (d + 4) mX7_findFewest 86 [.ref 50, .int mo, .int (dl e), .int (nI (if e = 0 then (2 ^ (T 7) - 1) else ndn (2 ^ (T 7) - 1) (2 ^ pp))), x'] [] σ' ∧ BS σ' o' ∧ isOp (fun k' u => V k' u ∨ PS T (2 ^ (T 7) - 1) k v 0 k' u) o' ∧ (∀ a j, 60 ≤ a → a ≤ 64 → j < e → σ' a j = σ a j) ∧ (∀ a, 61 ≤ a → a ≤ 64 → σ' a e = σ a e) ∧ (∀ a, a ≠ 50 → a < 60 ∨ 64 < a → σ' a = σ a) ∧ ∀ j, j < 22 ∨ 24 < j → σ' 50 j = σ 50 j := by
  have := pop_le (2 ^ (T 7) - 1)
  obtain ⟨σ', x', e1, e2, e3, e4⟩ := m_leaf h w d mo hD x (by omega) hI hN h60 hpp he0 hB
  refine ⟨σ', _, x', e1, e2, ?_, fun a j h1 h2 _ => by rw [e3 a (by omega)], fun a h1 h2 => by rw [e3 a (by omega)], fun a h1 _ => e3 a h1, e4⟩
  refine isOp_cg (bet_op ho (fun f u hf => ?_)) (fun k' u => or_congr_right ⟨fun q => Or.inl ⟨rfl, rfl, q.1, q.2⟩, fun q => ?_⟩)
  · unfold Cn at hC
    by_cases c : 2 ^ (T 7) - 1 = T 3
    · rw [if_pos c] at hC
      have := hC f u hf
      omega
    · rw [if_neg c] at hC
      exact hC f u hf
  · rcases q with ⟨_, _, h1, h2⟩ | ⟨p, _, h1, h2, _⟩
    · exact ⟨h1, h2⟩
    · rw [full_st h1] at h2
      exact absurd h2 (by simp)
theorem dfs_all {T : TT} (w : WF T) {D d : Nat} (hD : D ≤ 80) {mo : Int32} : ∀ m, DFS T D d mo m := by
  have w1 := w.1
  have hp7 := p7_le (n := T 7) (by omega)
  have hp0 : 1 ≤ 2 ^ (T 7) := Nat.one_le_two_pow
  intro m
  induction m with
  | zero =>
    intro r q S k v e pp σ V o x hr hm hq hI he he0 h hN h60 hpp hB ho hC
    have hSF : S = 2 ^ (T 7) - 1 := by have := hI.2.1; omega
    subst hSF
    obtain rfl : q = 0 := hq rfl
    exact dfs_leaf w hD x hI he he0 h hN h60 hpp hB ho hC
  | succ m ihm =>
    intro r
    induction r using Nat.strongRecOn with
    | _ r ihr =>
      intro q S k v e pp σ V o x hr hm hq hI he he0 h hN h60 hpp hB ho hC
      by_cases hSF : S = 2 ^ (T 7) - 1
      · subst hSF
        obtain rfl : q = 0 := hq rfl
        exact dfs_leaf w hD x hI he he0 h hN h60 hpp hB ho hC
      have hI' := hI
      obtain ⟨i1, i2, i3, i4, i5, i6, i7⟩ := hI'
      have hpS := pop_le S
      have hnx := m_next h w d (q := q) (show e < 8 by omega) (show S < 128 by omega) (show v < 1000 by omega) hN (by omega)
      have hSFp : (S = 2 ^ (T 7) - 1) = False := eq_false hSF
      rcases fnx_c (stb T S v) (T 7 - q) q (by omega) with ⟨c1, c2⟩ | ⟨c1, c2, c3, c4⟩
      · rw [c1] at hnx
        refine ⟨σ, o, .int (nI 7), ?_, hB, ?_, fun _ _ _ _ _ => rfl, fun _ _ _ => rfl, fun _ _ _ => rfl, fun _ _ => rfl⟩
        · rw [← m_ret (σ := σ) (d + 4) mo (.int (nI 7)) (show e < 8 by omega) (show S < 128 by omega) (fun z => ⟨(hpp z).1, (hpp z).2.1⟩)]
          rw [hX7_findFewest_86]
          simp (disch := omega) only [kX7_findFewest_0, kX7_findFewest_1, kX7_findFewest_2, kX7_findFewest_3, kX7_findFewest_4, MT0 h, eq_self, Nat.reduceEqDiff, Nat.one_ne_zero, Nat.zero_ne_one, z_0, z_lt, z_le, z_eq, z_add, z_mul, z_inb, z_cl, z_b0, z_b1, z_b01, z_b010, z_b011, kb_v, kb_n, List.cons_append, List.nil_append, if_true, if_false, ↓reduceIte, Bool.false_eq_true, Bool.true_eq_false, decide_eq_true_eq, decide_eq_false_iff_not, not_false_eq_true, z_one, z_sub, h60, hnx, hSFp, Nat.not_lt_zero, Nat.le_refl]
        · refine isOp_cg ho (fun k' u => ⟨fun z => Or.inl z, fun z => z.elim id (fun z => ?_)⟩)
          rcases z with ⟨_, z, _⟩ | ⟨p, z1, z2, z3, _⟩
          · exact absurd z hSF
          · rw [c2 p z1 (by omega)] at z3
            exact absurd z3 (by simp)
      · generalize hpe : fnx (stb T S v) q (T 7 - q) = p at hnx c1 c2 c3 c4
        have hp : p < T 7 := by omega
        obtain ⟨s1, s2, s3⟩ := stb_t c3
        have hpo := pop_or s1 (by omega)
        have hpo7 := pop_le (S ||| 2 ^ p)
        have hgt := or_gt s1
        have hpw := pw_le (p := p) (by omega)
        obtain ⟨σ1, g1, g2, g3, g4⟩ := m_deep h w d hD (show e < 7 by omega) hN hI hp c3
        have hCI := NI_st w hI hp c3
        have hle3 : T 3 ≤ S := Nat.le_of_testBit i1
        have hol : S ||| 2 ^ p < 128 := by have := hCI.2.1; omega
        have hs0 : (S ||| 2 ^ p) ≠ T 3 := by omega
        have htag : nv T S v p % 8 = if S = T 3 then 7 - p else v % 8 := by unfold nv; split <;> omega
        have hl2 : MT (up (up σ1 60 e (nI p)) 60 (e + 1) (-1)) 0 T := MT_same h (by rw [up_of (by omega), up_of (by omega)]; exact g3 51 (by omega))
        obtain ⟨σ2, o2, x2, f1, f2, f3, f4, f5, f6, f7⟩ := ihm (T 7) 0 (S ||| 2 ^ p) (nk T S k p) (nv T S v p) (e + 1) p (up (up σ1 60 e (nI p)) 60 (e + 1) (-1)) V o (.int (nI p)) (by omega) (by omega) (fun _ => rfl) hCI (by omega) ⟨fun z => by omega, fun z => absurd z hs0⟩ hl2 (ND_cg g2 (fun a h1 h2 => by rw [up_k (by omega), up_k (by omega)])) (by rw [up_s]; rfl) (fun _ => ⟨by omega, by rw [up_j (by omega)]; exact up_s, by
          rw [htag, up_j (by omega)]
          by_cases z : e = 0
          · subst z
            rw [up_s, if_pos (he0.mp rfl)]
            congr 1; omega
          · rw [up_j (by omega), g3 60 (by omega), if_neg (fun y => z (he0.mpr y))]
            exact (hpp z).2.2⟩) (by
          match o, hB with
          | none, hB =>
            obtain ⟨b1, b2, b3⟩ := hB
            refine ⟨?_, ?_, ?_⟩
            · rw [up_k (by omega), up_k (by omega), g3 50 (by omega)]; exact b1
            · rw [up_k (by omega), up_k (by omega), g3 50 (by omega)]; exact b2
            · rw [up_k (by omega), up_k (by omega), g3 50 (by omega)]; exact b3
          | some (f, u), hB =>
            obtain ⟨b0, b1, b2, b3⟩ := hB
            refine ⟨b0, ?_, ?_, ?_⟩
            · rw [up_k (by omega), up_k (by omega), g3 50 (by omega)]; exact b1
            · rw [up_k (by omega), up_k (by omega), g3 50 (by omega)]; exact b2
            · rw [up_k (by omega), up_k (by omega), g3 50 (by omega)]; exact b3) ho (by
          unfold Cn at hC ⊢
          rw [if_neg hs0, htag]
          by_cases z : S = T 3
          · rw [if_pos z] at hC ⊢
            intro f u hf
            have := hC f u hf
            omega
          · rw [if_neg z] at hC ⊢
            exact hC)
        have fr60 : ∀ a j, 60 ≤ a → a ≤ 64 → j < e → σ2 a j = σ a j := fun a j h1 h2 h3 => by
          rw [f4 a j h1 h2 (by omega), up_j (by omega), up_j (by omega), g4 a j (by omega)]
        have fr6e : ∀ a, 61 ≤ a → a ≤ 64 → σ2 a e = σ a e := fun a h1 h2 => by
          rw [f4 a e (by omega) h2 (by omega), up_k (by omega), up_k (by omega), g4 a e (by omega)]
        have frO : ∀ a, a ≠ 50 → a < 60 ∨ 64 < a → σ2 a = σ a := fun a h1 h2 => by
          rw [f6 a h1 h2, up_of (by omega), up_of (by omega), g3 a (by omega)]
        have fr50 : ∀ j, j < 22 ∨ 24 < j → σ2 50 j = σ 50 j := fun j h1 => by
          rw [f7 j h1, up_k (by omega), up_k (by omega), g3 50 (by omega)]
        have hret : dl (e + 1) = nI e := rfl
        obtain ⟨σ3, o3, x3, t1, t2, t3, t4, t5, t6, t7⟩ := ihr (T 7 - (p + 1)) (by omega) (p + 1) S k v e pp σ2 (fun k' u => V k' u ∨ PS T (S ||| 2 ^ p) (nk T S k p) (nv T S v p) 0 k' u) o2 x2 (by omega) (by omega) (fun z => absurd z hSF) hI he he0 (MT_same h (frO 51 (by omega) (by omega))) (ND_cg hN fr6e) (by rw [f4 60 e (by omega) (by omega) (by omega), up_j (by omega), up_s]; rfl) (fun z => ⟨(hpp z).1, by rw [fr60 60 _ (by omega) (by omega) (by omega)]; exact (hpp z).2.1, by rw [fr60 60 _ (by omega) (by omega) (by omega)]; exact (hpp z).2.2⟩) f2 f3 (by
          unfold Cn at hC ⊢
          have hd : ∀ f u, PS T (S ||| 2 ^ p) (nk T S k p) (nv T S v p) 0 f u → u % 8 = nv T S v p % 8 := fun f u z => by
            obtain ⟨n, z⟩ := PS_0.mp z
            exact Dn_tg n _ _ _ _ f u hCI.1 hs0 z
          by_cases z : S = T 3
          · rw [if_pos z] at hC htag ⊢
            rintro f u (y | y)
            · have := hC f u y; omega
            · have := hd f u y; omega
          · rw [if_neg z] at hC htag ⊢
            rintro f u (y | y)
            · exact hC f u y
            · have := hd f u y; omega)
        refine ⟨σ3, o3, x3, Eq.trans (Eq.trans ?_ f1) (Eq.trans ?_ t1), t2, ?_, fun a j h1 h2 h3 => by rw [t4 a j h1 h2 h3, fr60 a j h1 h2 h3], fun a h1 h2 => by rw [t5 a h1 h2, fr6e a h1 h2], fun a h1 h2 => by rw [t6 a h1 h2, frO a h1 h2], fun j h1 => by rw [t7 j h1, fr50 j h1]⟩
        · have hp7' : (7 ≤ p) = False := eq_false (by omega)
          rw [hX7_findFewest_86]
          simp (disch := omega) only [kX7_findFewest_0, kX7_findFewest_1, kX7_findFewest_2, kX7_findFewest_3, kX7_findFewest_4, MT0 h, eq_self, Nat.reduceEqDiff, Nat.one_ne_zero, Nat.zero_ne_one, z_0, z_lt, z_le, z_eq, z_add, z_mul, z_inb, z_cl, z_b0, z_b1, z_b01, z_b010, z_b011, kb_v, kb_n, List.cons_append, List.nil_append, if_true, if_false, ↓reduceIte, Bool.false_eq_true, Bool.true_eq_false, decide_eq_true_eq, decide_eq_false_iff_not, not_false_eq_true, z_one, z_sub, z_or, h60, hnx, hSFp, Nat.not_lt_zero, hp7', g1]
        · rw [hret, if_neg (by omega), ndn_or1 s1]
        · refine isOp_cg t3 (fun k' u => ⟨fun z => ?_, fun z => ?_⟩)
          · rcases z with (z | z) | z
            · exact Or.inl z
            · exact Or.inr (Or.inr ⟨p, c1, hp, c3, PS_0.mp z⟩)
            · rcases z with ⟨z, _⟩ | ⟨p', z1, z2⟩
              · omega
              · exact Or.inr (Or.inr ⟨p', by omega, z2⟩)
          · rcases z with z | z
            · exact Or.inl (Or.inl z)
            · rcases z with ⟨_, z, _⟩ | ⟨p', z1, z2, z3, z4⟩
              · exact absurd z hSF
              · by_cases y : p' = p
                · subst y; exact Or.inl (Or.inr (PS_0.mpr z4))
                · refine Or.inr (Or.inr ⟨p', ?_, z2, z3, z4⟩)
                  by_cases y2 : p' < p
                  · rw [c4 p' z1 y2] at z3
                    exact absurd z3 (by simp)
                  · omega
