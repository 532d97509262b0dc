/-! the reference's way through all rows: one step -/
def Dn (T : TT) : Nat → Nat → Nat → Nat → Nat → Nat → Nat → Prop
  | 0 => fun S k v S' k' v' => S' = S ∧ k' = k ∧ v' = v
  | n + 1 => fun S k v S' k' v' => ∃ p, p < T 7 ∧ stb T S v p = true ∧ Dn T n (S ||| 2 ^ p) (nk T S k p) (nv T S v p) S' k' v'
def Dsc (T : TT) (S k v S' k' v' : Nat) : Prop := ∃ n, Dn T n S k v S' k' v'
theorem Dn_tl {T : TT} : ∀ n S k v S' k' v' p, Dn T n S k v S' k' v' → p < T 7 → stb T S' v' p = true → Dn T (n + 1) S k v (S' ||| 2 ^ p) (nk T S' k' p) (nv T S' v' p)
  | 0, S, k, v, S', k', v', p, h, hp, hs => by
    obtain ⟨rfl, rfl, rfl⟩ := h
    exact ⟨p, hp, hs, rfl, rfl, rfl⟩
  | n + 1, S, k, v, S', k', v', p, h, hp, hs => by
    obtain ⟨p1, h1, h2, h3⟩ := h
    exact ⟨p1, h1, h2, Dn_tl n _ _ _ S' k' v' p h3 hp hs⟩
theorem Rn_Dn {T : TT} {D : Nat} : ∀ n S k v, Rn T D n S k v → Dn T n (T 3) (pop (T 4)) (8 * D) S k v
  | 0, S, k, v, h => h
  | n + 1, S, k, v, h => by
    obtain ⟨S1, k1, v1, p, h1, hp, hs, rfl, rfl, rfl⟩ := h
    exact Dn_tl n _ _ _ _ _ _ p (Rn_Dn n S1 k1 v1 h1) hp hs
theorem Dn_R {T : TT} {D : Nat} : ∀ n S k v S' k' v', Rch T D S k v → Dn T n S k v S' k' v' → Rch T D S' k' v'
  | 0, S, k, v, S', k', v', hr, h => by obtain ⟨rfl, rfl, rfl⟩ := h; exact hr
  | n + 1, S, k, v, S', k', v', hr, h => by
    obtain ⟨p, h1, h2, h3⟩ := h
    exact Dn_R n _ _ _ S' k' v' (Rch_st hr h1 h2) h3
theorem Dsc_R {T : TT} {D S k v : Nat} : Dsc T (T 3) (pop (T 4)) (8 * D) S k v ↔ Rch T D S k v :=
  ⟨fun ⟨n, h⟩ => Dn_R n _ _ _ S k v (Rch_bs T D) h, fun ⟨n, h⟩ => ⟨n, Rn_Dn n S k v h⟩⟩
theorem Dsc_i {T : TT} {S k v S' k' v' : Nat} : Dsc T S k v S' k' v' ↔ (S' = S ∧ k' = k ∧ v' = v) ∨ ∃ p, p < T 7 ∧ stb T S v p = true ∧ Dsc T (S ||| 2 ^ p) (nk T S k p) (nv T S v p) S' k' v' := by
  constructor
  · rintro ⟨n, h⟩
    cases n with
    | zero => exact Or.inl h
    | succ n =>
      obtain ⟨p, h1, h2, h3⟩ := h
      exact Or.inr ⟨p, h1, h2, n, h3⟩
  · rintro (h | ⟨p, h1, h2, n, h3⟩)
    · exact ⟨0, h⟩
    · exact ⟨n + 1, p, h1, h2, h3⟩
theorem Dn_ge {T : TT} : ∀ n S k v S' k' v', Dn T n S k v S' k' v' → S ≤ S'
  | 0, S, k, v, S', k', v', h => by rw [h.1]; exact Nat.le_refl _
  | n + 1, S, k, v, S', k', v', h => by
    obtain ⟨p, _, h2, h3⟩ := h
    have := Dn_ge n _ _ _ S' k' v' h3
    have := or_gt (stb_t h2).1
    omega
/-- the first of them, or 7 -/
def fnx (P : Nat → Bool) : Nat → Nat → Nat
  | _, 0 => 7
  | q, m + 1 => if P q = true then q else fnx P (q + 1) m
theorem fnx_c (P : Nat → Bool) : ∀ m q, q + m ≤ 7 → (fnx P q m = 7 ∧ ∀ j, q ≤ j → j < q + m → P j = false) ∨ (q ≤ fnx P q m ∧ fnx P q m < q + m ∧ P (fnx P q m) = true ∧ ∀ j, q ≤ j → j < fnx P q m → P j = false)
  | 0, q, h => Or.inl ⟨rfl, fun j h1 h2 => by omega⟩
  | m + 1, q, h => by
    unfold fnx
    cases hp : P q
    · rw [if_neg (by simp)]
      rcases fnx_c P m (q + 1) (by omega) with ⟨h1, h2⟩ | ⟨h1, h2, h3, h4⟩
      · refine Or.inl ⟨h1, fun j g1 g2 => ?_⟩
        by_cases e : j = q
        · rw [e]; exact hp
        · exact h2 j (by omega) (by omega)
      · refine Or.inr ⟨by omega, by omega, h3, fun j g1 g2 => ?_⟩
        by_cases e : j = q
        · rw [e]; exact hp
        · exact h4 j (by omega) g2
    · rw [if_pos rfl]
      exact Or.inr ⟨by omega, by omega, hp, fun j g1 g2 => by omega⟩
def ND (σ : Sg) (T : TT) (e S k v : Nat) : Prop := σ 61 e = nI (v / 8) ∧ σ 62 e = nI (mon T S) ∧ σ 63 e = nI (skl T S) ∧ σ 64 e = nI k
theorem m_nx_loop {σ : Sg} {T : TT} (h : MT σ 0 T) (w : WF T) (d : Nat) {e S k v : Nat} (he : e < 8) (hS : S < 128) (hv : v < 1000) (hN : ND σ T e S k v) (l : Int32) : ∀ m q, q + m = T 7 → exec (d + 3) mX7_nextPart 5 [.ref 50, .int (nI e), .int l, .int (nI S), .int (nI q)] [] σ = some (some (.int (nI (fnx (stb T S v) q m))), σ)
  | 0, q, hq => by
    have w1 := w.1
    obtain rfl : q = T 7 := by omega
    rw [hX7_nextPart_5]
    simp (disch := omega) only [kX7_nextPart, MT0 h, eq_self, Nat.reduceEqDiff, Nat.one_ne_zero, Nat.zero_ne_one, z_0, z_lt, z_le, z_eq, z_add, z_mul, z_inb, z_cl, z_b0, z_b1, z_b01, z_b010, z_b011, kb_v, kb_n, List.cons_append, List.nil_append, if_true, if_false, ↓reduceIte, Bool.false_eq_true, Bool.true_eq_false, decide_eq_true_eq, decide_eq_false_iff_not, not_false_eq_true, Nat.le_refl]
    rfl
  | m + 1, q, hq => by
    have w1 := w.1
    have hmo : mon T S ≤ 99 := by unfold mon; omega
    have hsk := skl_le T S
    obtain ⟨n1, n2, n3, n4⟩ := hN
    have ih := m_nx_loop h w d he hS hv ⟨n1, n2, n3, n4⟩ l m (q + 1) (by omega)
    rw [hX7_nextPart_5, fnx]
    have hst : may T q S (skl T S) (v / 8) (mon T S) = stb T S v q := rfl
    simp (disch := omega) only [kX7_nextPart, MT0 h, eq_self, Nat.reduceEqDiff, Nat.one_ne_zero, Nat.zero_ne_one, z_0, z_lt, z_le, z_eq, z_add, z_mul, z_inb, z_cl, z_b0, z_b1, z_b01, z_b010, z_b011, kb_v, kb_n, List.cons_append, List.nil_append, if_true, if_false, ↓reduceIte, Bool.false_eq_true, Bool.true_eq_false, decide_eq_true_eq, decide_eq_false_iff_not, not_false_eq_true, n1, n2, n3, m_mayBe h w, hst]
    rw [if_neg (by omega)]
    cases hp : stb T S v q
    · simp only [if_true, Bool.false_eq_true, if_false]
      exact ih
    · simp only [if_true, Bool.true_eq_false, if_false, show ¬ (T 7 ≤ q) by omega]
def lq (q : Nat) : Int32 := if q = 0 then -1 else nI (q - 1)
theorem lq_s (p : Nat) : lq (p + 1) = nI p := rfl
theorem lq_1 (q : Nat) : lq q + nI 1 = nI q := by
  unfold lq
  split
  · rename_i h; subst h; decide
  · rw [z_add]; congr 1; omega
theorem m_next {σ : Sg} {T : TT} (h : MT σ 0 T) (w : WF T) (d : Nat) {e S k v q : Nat} (he : e < 8) (hS : S < 128) (hv : v < 1000) (hN : ND σ T e S k v) (hq : q ≤ T 7) : cal (d + 4) mX7_nextPart [.ref 50, .int (nI e), .int (lq q), .int (nI S)] σ = some (some (.int (nI (fnx (stb T S v) q (T 7 - q)))), σ) := by
  rw [aX7_nextPart_50]
  simp (disch := omega) only [kX7_nextPart, lq_1]
  exact m_nx_loop h w d he hS hv hN (lq q) (T 7 - q) q (by omega)
theorem m_deep {σ : Sg} {T : TT} (h : MT σ 0 T) (w : WF T) (d : Nat) {D e S k v p : Nat} (hD : D ≤ 80) (he : e < 7) (hN : ND σ T e S k v) (hI : NI T D S k v) (hp : p < T 7) (hs : stb T S v p = true) : ∃ σ', cal (d + 4) mX7_goesDeeper [.ref 50, .int (nI e), .int (nI p)] σ = some (none, σ') ∧ ND σ' T (e + 1) (S ||| 2 ^ p) (nk T S k p) (nv T S v p) ∧ (∀ a, a < 61 ∨ 64 < a → σ' a = σ a) ∧ ∀ a j, j ≠ e + 1 → σ' a j = σ a j := by
  have w1 := w.1
  have wp := w.2.2.2.1 p hp
  obtain ⟨n1, n2, n3, n4⟩ := hN
  obtain ⟨i1, i2, i3, i4, i5, i6, i7⟩ := hI
  obtain ⟨s1, s2, s3⟩ := stb_t hs
  have hsk := skl_le T S
  have hmo : mon T S ≤ 99 := by unfold mon; omega
  have hcs := cst_le w (p := p) (sk := skl T S) (by omega)
  have hk := pop_le S
  have e7 := pop_or s1 (by omega)
  have hsko := skl_or i1 hp s1
  have hspo := spn_or i1 hp s1
  have hnv : nv T S v p / 8 = v / 8 - dco T S p := by unfold nv; split <;> omega
  refine ⟨up (up (up (up σ 61 (e + 1) (nI (v / 8 - dco T S p))) 62 (e + 1) (nI (mon T (S ||| 2 ^ p)))) 63 (e + 1) (nI (skl T (S ||| 2 ^ p)))) 64 (e + 1) (nI (nk T S k p)), ?_, ⟨?_, ?_, ?_, ?_⟩, fun a ha => ?_, fun a j hj => ?_⟩
  · have hfn : ∀ x y z, cal (d + 3) mX7_isFaultyNow [.ref 50, .int (nI p), .int (nI (skl T S))] (up (up (up σ 61 (e + 1) x) 62 (e + 1) y) 63 (e + 1) z) = some (some (.int (nI (flt T p (skl T S)).toNat)), up (up (up σ 61 (e + 1) x) 62 (e + 1) y) 63 (e + 1) z) := fun x y z => m_isFaultyNow (MT_same h (by simp (disch := omega) only [up_of])) w (d + 1) hp hsk
    rw [aX7_goesDeeper_50]
    by_cases q5 : T (9 + p) = 5
    · have hd0 : dco T S p = 0 := by unfold dco; rw [if_pos q5]
      have hct : cst T p (skl T S) = T (23 + p) := by unfold cst tak; rw [q5]; rfl
      have hm2 : mon T (S ||| 2 ^ p) = mon T S - T (23 + p) := by unfold mon; rw [hspo, if_pos q5]; omega
      rw [if_pos q5, hct] at s3
      have hsk2 : skl T (S ||| 2 ^ p) = skl T S := by rw [hsko]; unfold skb; rw [if_pos q5]
      rw [hd0, hm2, hsk2]
      unfold nk
      cases hf : flt T p (skl T S)
      all_goals rw [hf] at hfn
      all_goals simp (disch := omega) only [kX7_goesDeeper_0, kX7_goesDeeper_1, kX7_goesDeeper_2, MT0 h, eq_self, Nat.reduceEqDiff, Nat.one_ne_zero, Nat.zero_ne_one, z_0, z_lt, z_le, z_eq, z_add, z_mul, z_inb, z_cl, z_b0, z_b1, z_b01, z_b010, z_b011, kb_v, kb_n, List.cons_append, List.nil_append, if_true, if_false, ↓reduceIte, Bool.false_eq_true, Bool.true_eq_false, decide_eq_true_eq, decide_eq_false_iff_not, not_false_eq_true, up_s, up_k, up_j, q5, n1, n2, n3, n4, m_takesNow h w, hct, m_more, z_sub, Nat.sub_zero, hfn]
      all_goals rfl
    · have hd0 : dco T S p = cst T p (skl T S) := by unfold dco; rw [if_neg q5]
      have hm2 : mon T (S ||| 2 ^ p) = mon T S := by unfold mon; rw [hspo, if_neg q5]; omega
      rw [if_neg q5] at s3
      have hsk2 : skl T (S ||| 2 ^ p) = min 20 (skl T S + 1) := by rw [hsko]; unfold skb; rw [if_neg q5]
      rw [hd0, hm2, hsk2]
      unfold nk
      cases hf : flt T p (skl T S)
      all_goals rw [hf] at hfn
      all_goals simp (disch := omega) only [kX7_goesDeeper_0, kX7_goesDeeper_1, kX7_goesDeeper_2, MT0 h, eq_self, Nat.reduceEqDiff, Nat.one_ne_zero, Nat.zero_ne_one, z_0, z_lt, z_le, z_eq, z_add, z_mul, z_inb, z_cl, z_b0, z_b1, z_b01, z_b010, z_b011, kb_v, kb_n, List.cons_append, List.nil_append, if_true, if_false, ↓reduceIte, Bool.false_eq_true, Bool.true_eq_false, decide_eq_true_eq, decide_eq_false_iff_not, not_false_eq_true, up_s, up_k, up_j, q5, n1, n2, n3, n4, m_takesNow h w, m_more, z_sub, Nat.sub_zero, hfn]
      all_goals rfl
  · simp (disch := omega) only [up_s, up_k, up_j, hnv]
  · simp (disch := omega) only [up_s, up_k, up_j]
  · simp (disch := omega) only [up_s, up_k, up_j]
  · simp (disch := omega) only [up_s, up_k, up_j]
  · simp (disch := omega) only [up_of]
  · simp (disch := omega) only [up_j]
def frs (u : Nat) : Int32 := if u % 8 = 0 then -1000000 else nI (7 - u % 8)
def BS (σ : Sg) (o : Option (Nat × Nat)) : Prop := match o with
  | none => σ 50 22 = nI 1000000 ∧ σ 50 23 = -1 ∧ σ 50 24 = -1000000
  | some (f, u) => (f ≤ 7 ∧ u < 1000) ∧ σ 50 22 = nI f ∧ σ 50 23 = nI (u / 8) ∧ σ 50 24 = frs u
def bet (o : Option (Nat × Nat)) (k v : Nat) : Bool := match o with
  | none => true
  | some (f, u) => decide (k < f) || (decide (k = f) && decide (u / 8 < v / 8))
theorem bet_op {V : Nat → Nat → Prop} {o : Option (Nat × Nat)} {k v : Nat} (ho : isOp V o) (hc : ∀ f u, V f u → v % 8 ≤ u % 8) : isOp (fun k' u => V k' u ∨ (k' = k ∧ u = v)) (if bet o k v = true then some (k, v) else o) := by
  match o, ho with
  | none, ho => exact ⟨Or.inr ⟨rfl, rfl⟩, fun j u h => h.elim (fun q => absurd q (ho j u)) (fun q => Or.inr ⟨q.1.symm, by omega⟩)⟩
  | some (f, u), ho =>
    have hf := hc f u ho.1
    unfold bet
    simp only [Bool.or_eq_true, Bool.and_eq_true, decide_eq_true_eq]
    by_cases q : k < f ∨ k = f ∧ u / 8 < v / 8
    · rw [if_pos q]
      refine ⟨Or.inr ⟨rfl, rfl⟩, fun j x h => ?_⟩
      rcases h with h | h
      · have := ho.2 j x h; omega
      · omega
    · rw [if_neg q]
      refine ⟨Or.inl ho.1, fun j x h => ?_⟩
      rcases h with h | h
      · exact ho.2 j x h
      · omega
theorem z_dec {e : Nat} (h : e ≠ 0) : nI e + (-1) = nI (e - 1) := by
  rw [show (-1 : Int32) = -(nI 1) by decide, ← Int32.sub_eq_add_neg, z_sub (by omega)]
def dl (e : Nat) : Int32 := if e = 0 then -1 else nI (e - 1)
theorem dl_e (e : Nat) : nI e + (-1) = dl e := by
  unfold dl
  split
  · rename_i h; subst h; rfl
  · rename_i h; exact z_dec h
theorem dl_0 : (nI 0 ≤ dl 0) ↔ False := by decide
