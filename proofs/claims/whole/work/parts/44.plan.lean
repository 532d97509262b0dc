/-! the rows of parts that may be made one behind another -/
theorem sup_nx : ∀ (n S M S' : Nat), S ≤ n → M ||| S = S → M ||| S' = S' → S < S' → (S + 1) ||| M ≤ S'
  | n, S, M, S', hn, h1, h2, h3 => by
    have a1 : M / 2 ||| S / 2 = S / 2 := by rw [← Nat.or_div_two, h1]
    have a2 : M / 2 ||| S' / 2 = S' / 2 := by rw [← Nat.or_div_two, h2]
    have b1 : M % 2 = 1 → S % 2 = 1 := fun q => by rw [← h1]; exact Nat.or_mod_two_eq_one.mpr (Or.inl q)
    have b2 : M % 2 = 1 → S' % 2 = 1 := fun q => by rw [← h2]; exact Nat.or_mod_two_eq_one.mpr (Or.inl q)
    have z1 : ((S + 1) ||| M) / 2 = (S + 1) / 2 ||| M / 2 := Nat.or_div_two
    have z2 : ((S + 1) ||| M) % 2 = 1 ↔ (S + 1) % 2 = 1 ∨ M % 2 = 1 := Nat.or_mod_two_eq_one
    by_cases q : S % 2 = 0
    · rw [show (S + 1) / 2 = S / 2 by omega, Nat.or_comm (S / 2) (M / 2), a1] at z1
      omega
    · rw [show (S + 1) / 2 = S / 2 + 1 by omega] at z1
      match n, hn with
      | 0, hn => omega
      | n + 1, hn =>
        have ih := sup_nx n (S / 2) (M / 2) (S' / 2) (by omega) a1 a2 (by omega)
        rw [← z1] at ih
        by_cases q2 : M % 2 = 1
        · have := b2 q2
          omega
        · have : ¬ (((S + 1) ||| M) % 2 = 1) := fun h => by
            rcases z2.mp h with h | h
            · omega
            · exact q2 h
          omega
theorem cnt_ad {P Q : Nat → Bool} {p : Nat} {b : Bool} (hP : P p = false) (hQ : Q p = b) (h : ∀ i, i ≠ p → Q i = P i) : ∀ n, cnt Q n = cnt P n + (if p < n then b.toNat else 0)
  | 0 => by simp [cnt]
  | n + 1 => by
    rw [cnt, cnt, cnt_ad hP hQ h n]
    by_cases q : n = p
    · subst q
      rw [if_neg (by omega), if_pos (by omega), hP, hQ]
      simp
    · rw [h n q]
      by_cases q2 : p < n
      · rw [if_pos q2, if_pos (by omega)]; omega
      · rw [if_neg q2, if_neg (by omega)]; omega
theorem smn_ad {f g : Nat → Nat} {p x : Nat} (hP : f p = 0) (hQ : g p = x) (h : ∀ i, i ≠ p → g i = f i) : ∀ n, smn g n = smn f n + (if p < n then x else 0)
  | 0 => by simp [smn]
  | n + 1 => by
    rw [smn, smn, smn_ad hP hQ h n]
    by_cases q : n = p
    · subst q
      rw [if_neg (by omega), if_pos (by omega), hP, hQ]
    · rw [h n q]
      by_cases q2 : p < n
      · rw [if_pos q2, if_pos (by omega)]; omega
      · rw [if_neg q2, if_neg (by omega)]; omega
theorem smn_mo (f : Nat → Nat) : ∀ n k, k ≤ n → smn f k ≤ smn f n
  | 0, k, h => by rw [show k = 0 by omega]; exact Nat.le_refl _
  | n + 1, k, h => by
    by_cases q : k = n + 1
    · rw [q]; exact Nat.le_refl _
    · have := smn_mo f n k (by omega)
      rw [smn]; omega
theorem cnt_mo {P Q : Nat → Bool} (h : ∀ i, P i = true → Q i = true) : ∀ n, cnt P n ≤ cnt Q n
  | 0 => Nat.le_refl _
  | n + 1 => by
    have := cnt_mo h n
    rw [cnt, cnt]
    have h2 := h n
    cases q : P n
    · simp; omega
    · rw [h2 q]; omega
theorem or_bit (s p i : Nat) : (s ||| 2 ^ p).testBit i = (s.testBit i || decide (p = i)) := by rw [Nat.testBit_or, Nat.testBit_two_pow]
theorem or_gt {s p : Nat} (h : s.testBit p = false) : s < s ||| 2 ^ p := by
  have h1 : s ≤ s ||| 2 ^ p := Nat.left_le_or
  rcases Nat.lt_or_eq_of_le h1 with q | q
  · exact q
  · exfalso
    have := or_bit s p p
    rw [← q, h] at this
    simp at this
theorem pop_or {s p : Nat} (h : s.testBit p = false) (hp : p < 7) : pop (s ||| 2 ^ p) = pop s + 1 := by
  unfold pop
  rw [cnt_ad (P := s.testBit) (p := p) (b := true) h (by rw [or_bit]; simp) (fun i hi => by rw [or_bit, decide_eq_false (fun q => hi q.symm), Bool.or_false]) 7, if_pos hp]
  rfl
def nbt (T : TT) (S : Nat) : Nat → Bool := fun p => (ndn S (T 3)).testBit p && decide (T (9 + p) ≠ 5)
def skl (T : TT) (S : Nat) : Nat := min 20 (T 0 + cnt (nbt T S) (T 7))
def bgt (T : TT) (S : Nat) : Nat → Nat := fun p => if (ndn S (T 3)).testBit p = true then (if T (9 + p) = 5 then T (23 + p) else 0) else 0
def spn (T : TT) (S : Nat) : Nat := smn (bgt T S) (T 7)
def mon (T : TT) (S : Nat) : Nat := T 2 - spn T S
def dco (T : TT) (S p : Nat) : Nat := if T (9 + p) = 5 then 0 else cst T p (skl T S)
def stb (T : TT) (S v p : Nat) : Bool := may T p S (skl T S) (v / 8) (mon T S)
def nk (T : TT) (S k p : Nat) : Nat := k + (flt T p (skl T S)).toNat
def nv (T : TT) (S v p : Nat) : Nat := 8 * (v / 8 - dco T S p) + (if S = T 3 then 7 - p else v % 8)
def sub3 (T : TT) (S : Nat) : Prop := ∀ i, (T 3).testBit i = true → S.testBit i = true
/-- what can come, by how many parts -/
def Rn (T : TT) (D : Nat) : Nat → Nat → Nat → Nat → Prop
  | 0 => fun S k v => S = T 3 ∧ k = pop (T 4) ∧ v = 8 * D
  | n + 1 => fun S k v => ∃ S1 k1 v1 p, Rn T D n S1 k1 v1 ∧ p < T 7 ∧ stb T S1 v1 p = true ∧ S = S1 ||| 2 ^ p ∧ k = nk T S1 k1 p ∧ v = nv T S1 v1 p
def Rch (T : TT) (D S k v : Nat) : Prop := ∃ n, Rn T D n S k v
theorem Rch_bs (T : TT) (D : Nat) : Rch T D (T 3) (pop (T 4)) (8 * D) := ⟨0, rfl, rfl, rfl⟩
theorem Rch_st {T : TT} {D S k v p : Nat} (h : Rch T D S k v) (hp : p < T 7) (hs : stb T S v p = true) : Rch T D (S ||| 2 ^ p) (nk T S k p) (nv T S v p) := by
  obtain ⟨n, h⟩ := h
  exact ⟨n + 1, S, k, v, p, h, hp, hs, rfl, rfl, rfl⟩
theorem Rch_cs {T : TT} {D S k v : Nat} (h : Rch T D S k v) : (S = T 3 ∧ k = pop (T 4) ∧ v = 8 * D) ∨ ∃ S1 k1 v1 p, Rch T D S1 k1 v1 ∧ p < T 7 ∧ stb T S1 v1 p = true ∧ S = S1 ||| 2 ^ p ∧ k = nk T S1 k1 p ∧ v = nv T S1 v1 p := by
  obtain ⟨n, h⟩ := h
  cases n with
  | zero => exact Or.inl h
  | succ n =>
    obtain ⟨S1, k1, v1, p, h1, h2⟩ := h
    exact Or.inr ⟨S1, k1, v1, p, ⟨n, h1⟩, h2⟩
theorem skl_0 {T : TT} (w : WF T) : skl T (T 3) = T 0 := by
  have w1 := w.1
  unfold skl
  have : cnt (nbt T (T 3)) (T 7) = 0 := by
    have : ∀ n, cnt (nbt T (T 3)) n = 0 := fun n => by
      induction n with
      | zero => rfl
      | succ n ih => rw [cnt, ih]; unfold nbt; rw [ndn_bit]; simp
    exact this _
  omega
theorem spn_0 (T : TT) : spn T (T 3) = 0 := by
  unfold spn
  have : ∀ n, smn (bgt T (T 3)) n = 0 := fun n => by
    induction n with
    | zero => rfl
    | succ n ih => rw [smn, ih]; unfold bgt; rw [ndn_bit]; simp
  exact this _
theorem ndn_or {S M p i : Nat} (hM : M.testBit p = false) : (ndn (S ||| 2 ^ p) M).testBit i = ((ndn S M).testBit i || decide (p = i)) := by
  rw [ndn_bit, ndn_bit, or_bit]
  by_cases q : p = i
  · subst q; rw [hM]; simp
  · simp [q]
theorem skl_or {T : TT} {S p : Nat} (hs : sub3 T S) (hp : p < T 7) (h : S.testBit p = false) : skl T (S ||| 2 ^ p) = skb (T (9 + p)) (skl T S) := by
  have hM : (T 3).testBit p = false := by
    cases q : (T 3).testBit p
    · rfl
    · exact absurd (hs p q) (by simp [h])
  unfold skl
  rw [cnt_ad (P := nbt T S) (p := p) (b := decide (T (9 + p) ≠ 5)) (by unfold nbt; rw [ndn_bit, h]; rfl) (by unfold nbt; rw [ndn_or hM]; simp) (fun i hi => by unfold nbt; rw [ndn_or hM, decide_eq_false (fun q => hi q.symm), Bool.or_false]) (T 7), if_pos hp]
  unfold skb
  by_cases q : T (9 + p) = 5
  · simp [q]
  · rw [if_neg q, decide_eq_true q]
    simp only [Bool.toNat_true]
    omega
theorem spn_or {T : TT} {S p : Nat} (hs : sub3 T S) (hp : p < T 7) (h : S.testBit p = false) : spn T (S ||| 2 ^ p) = spn T S + (if T (9 + p) = 5 then T (23 + p) else 0) := by
  have hM : (T 3).testBit p = false := by
    cases q : (T 3).testBit p
    · rfl
    · exact absurd (hs p q) (by simp [h])
  unfold spn
  rw [smn_ad (f := bgt T S) (p := p) (x := if T (9 + p) = 5 then T (23 + p) else 0) (by unfold bgt; rw [ndn_bit, h]; rfl) (by unfold bgt; rw [ndn_or hM]; simp) (fun i hi => by unfold bgt; rw [ndn_or hM, decide_eq_false (fun q => hi q.symm), Bool.or_false]) (T 7), if_pos hp]
def NI (T : TT) (D S k v : Nat) : Prop := sub3 T S ∧ S < 2 ^ (T 7) ∧ k ≤ pop S ∧ v ≤ 8 * D + 7 ∧ spn T S ≤ T 2 ∧ (S = T 3 → k = pop (T 4) ∧ v = 8 * D) ∧ (S ≠ T 3 → 1 ≤ v % 8)
theorem stb_t {T : TT} {S v p : Nat} (h : stb T S v p = true) : S.testBit p = false ∧ rdy T p S = true ∧ cst T p (skl T S) ≤ (if T (9 + p) = 5 then mon T S else v / 8) := by
  unfold stb may at h
  simp only [Bool.and_eq_true, Bool.not_eq_true', decide_eq_true_eq] at h
  exact h
theorem dco_le {T : TT} {S v p : Nat} (h : stb T S v p = true) : dco T S p ≤ v / 8 := by
  have := (stb_t h).2.2
  unfold dco
  split
  · omega
  · rename_i q; rw [if_neg q] at this; exact this
theorem NI_bs {T : TT} (w : WF T) (D : Nat) : NI T D (T 3) (pop (T 4)) (8 * D) :=
  ⟨fun _ h => h, w.2.1.1, cnt_mo w.2.2.1 7, by omega, by rw [spn_0]; omega, fun _ => ⟨rfl, rfl⟩, fun h => absurd rfl h⟩
theorem pw_lt {p n : Nat} (h : p < n) : 2 ^ p < 2 ^ n := Nat.pow_lt_pow_right (by omega) h
theorem NI_st {T : TT} (w : WF T) {D S k v p : Nat} (h : NI T D S k v) (hp : p < T 7) (hs : stb T S v p = true) : NI T D (S ||| 2 ^ p) (nk T S k p) (nv T S v p) := by
  have w1 := w.1
  obtain ⟨h1, h2, h3⟩ := stb_t hs
  have hg := or_gt h1
  have hpo := pop_or h1 (by omega)
  have hdc := dco_le hs
  have hle : T 3 ≤ S := Nat.le_of_testBit h.1
  have hvd := h.2.2.2.1
  have hsp := h.2.2.2.2.1
  refine ⟨fun i hi => ?_, Nat.or_lt_two_pow h.2.1 (pw_lt hp), ?_, ?_, ?_, fun q => ?_, fun _ => ?_⟩
  · rw [or_bit, h.1 i hi, Bool.true_or]
  · have := h.2.2.1
    have := Bool.toNat_le (flt T p (skl T S))
    unfold nk; omega
  · unfold nv
    split <;> omega
  · rw [spn_or h.1 hp h1]
    by_cases q : T (9 + p) = 5
    · rw [if_pos q] at h3 ⊢
      unfold cst tak mon at h3
      rw [q] at h3
      simp at h3
      omega
    · rw [if_neg q]; omega
  · exfalso; omega
  · unfold nv
    split
    · omega
    · rename_i q; have := h.2.2.2.2.2.2 q; omega
theorem Rn_NI {T : TT} (w : WF T) {D : Nat} : ∀ n S k v, Rn T D n S k v → NI T D S k v
  | 0, S, k, v, h => by obtain ⟨rfl, rfl, rfl⟩ := h; exact NI_bs w D
  | n + 1, S, k, v, h => by
    obtain ⟨S1, k1, v1, p, h1, hp, hs, rfl, rfl, rfl⟩ := h
    exact NI_st w (Rn_NI w n S1 k1 v1 h1) hp hs
theorem Rch_NI {T : TT} (w : WF T) {D S k v : Nat} (h : Rch T D S k v) : NI T D S k v := by
  obtain ⟨n, h⟩ := h
  exact Rn_NI w n S k v h
theorem skl_le (T : TT) (S : Nat) : skl T S ≤ 20 := Nat.min_le_left _ _
/-- the best of those that end: fewest faults, then most -/
def isOp (V : Nat → Nat → Prop) (o : Option (Nat × Nat)) : Prop := match o with
  | none => ∀ k v, ¬ V k v
  | some (f, u) => V f u ∧ ∀ k v, V k v → f < k ∨ (f = k ∧ v ≤ u)
theorem isOp_u {V : Nat → Nat → Prop} {a b : Option (Nat × Nat)} (ha : isOp V a) (hb : isOp V b) : a = b := by
  match a, b, ha, hb with
  | none, none, _, _ => rfl
  | none, some (f, u), ha, hb => exact absurd hb.1 (ha f u)
  | some (f, u), none, ha, hb => exact absurd ha.1 (hb f u)
  | some (f, u), some (g, v), ha, hb =>
    have h1 := ha.2 g v hb.1
    have h2 := hb.2 f u ha.1
    have : f = g := by omega
    have : u = v := by omega
    simp [*]
theorem isOp_cg {V W : Nat → Nat → Prop} {a : Option (Nat × Nat)} (ha : isOp V a) (h : ∀ k v, V k v ↔ W k v) : isOp W a := by
  have : V = W := by funext k v; exact propext (h k v)
  rwa [← this]
