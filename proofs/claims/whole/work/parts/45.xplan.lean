/-! the class's plan: the table of the best -/
def enc (o : Option Nat) : Int32 := match o with
  | none => -1
  | some v => nI v
abbrev BT : Type := Nat → Nat → Option Nat
def okB (B : BT) : Prop := ∀ S k v, B S k = some v → v < 1000
def PT (σ : Sg) (T : TT) (B : BT) : Prop := ∀ S, S < 2 ^ (T 7) → ∀ k, k < 8 → σ 47 (S * 8 + k) = enc (B S k)
theorem enc_n {v : Nat} (h : v < 1000) : (nI v = (-1 : Int32)) ↔ False := by
  rw [eq_I, z_tI (by omega), show (-1 : Int32).toInt = -1 by decide]
  constructor
  · intro q; omega
  · intro q; exact q.elim
theorem enc_l {v : Nat} (h : v < 1000) : ((-1 : Int32) < nI v) ↔ True := by
  rw [lt_I, z_tI (by omega), show (-1 : Int32).toInt = -1 by decide]
  constructor
  · intro _; trivial
  · intro _; omega
theorem m1_m1 : ((-1 : Int32) = -1) ↔ True := by decide
theorem a7 (v : Nat) : v &&& 7 = v % 8 := Nat.and_two_pow_sub_one_eq_mod v 3
theorem v3 (v : Nat) : v / 2 ^ 3 = v / 8 := rfl
def adv (o : Option Nat) (c tg : Nat) (fi : Bool) : Option Nat := match o with
  | none => none
  | some v => if c ≤ v / 8 then some (8 * (v / 8 - c) + (if fi = true then tg else v % 8)) else none
def mxO (a b : Option Nat) : Option Nat := match a, b with
  | x, none => x
  | none, some v => some v
  | some u, some v => if u < v then some v else some u
def adB (B : BT) (S p c f : Nat) (fi : Bool) (k : Nat) : BT := fun S' k' => if S' = S ||| 2 ^ p ∧ f ≤ k' ∧ k' < k + f then mxO (B S' k') (adv (B S (k' - f)) c (7 - p) fi) else B S' k'
theorem adB_0 (B : BT) (S p c f : Nat) (fi : Bool) : adB B S p c f fi 0 = B := by
  funext S' k'
  unfold adB
  rw [if_neg (by omega)]
theorem adB_s (B : BT) {S p : Nat} (h : S.testBit p = false) (c f : Nat) (fi : Bool) (k : Nat) : adB B S p c f fi (k + 1) = fun S' k' => if S' = S ||| 2 ^ p ∧ k' = k + f then mxO (adB B S p c f fi k S' k') (adv (adB B S p c f fi k S k) c (7 - p) fi) else adB B S p c f fi k S' k' := by
  have hg := or_gt h
  funext S' k'
  unfold adB
  by_cases q : S' = S ||| 2 ^ p ∧ k' = k + f
  · rw [if_pos (by omega), if_pos q, if_neg (by omega), if_neg (by omega), show k' - f = k by omega]
  · rw [if_neg q]
    by_cases q2 : S' = S ||| 2 ^ p ∧ f ≤ k' ∧ k' < k + f
    · rw [if_pos (by omega), if_pos q2]
    · rw [if_neg (by omega), if_neg q2]
theorem sub3_or {T : TT} {S p : Nat} (h : sub3 T S) : sub3 T (S ||| 2 ^ p) := fun i hi => by rw [or_bit, h i hi, Bool.true_or]
theorem PT_up {σ : Sg} {T : TT} {B : BT} (h : PT σ T B) {S k : Nat} (hS : S < 128) (hk : k < 8) (o : Option Nat) : PT (up σ 47 (S * 8 + k) (enc o)) T (fun S' k' => if S' = S ∧ k' = k then o else B S' k') := by
  intro S' h2 k' h3
  by_cases q : S' = S ∧ k' = k
  · obtain ⟨rfl, rfl⟩ := q
    rw [up_s]; simp
  · rw [up_j (by omega), h S' h2 k' h3]
    simp [q]
theorem adv_lt {o : Option Nat} {c tg : Nat} {fi : Bool} (ho : ∀ v, o = some v → v < 1000) (ht : tg < 8) : ∀ v, adv o c tg fi = some v → v < 1000 := by
  intro v h
  match o, ho, h with
  | none, _, h => simp [adv] at h
  | some u, ho, h =>
    have := ho u rfl
    unfold adv at h
    simp only at h
    split at h
    · cases h; split <;> omega
    · cases h
theorem mxO_lt {a b : Option Nat} (ha : ∀ v, a = some v → v < 1000) (hb : ∀ v, b = some v → v < 1000) : ∀ v, mxO a b = some v → v < 1000 := by
  intro v h
  match a, b, ha, hb, h with
  | none, none, _, _, h => simp [mxO] at h
  | some u, none, ha, _, h => exact ha v h
  | none, some u, _, hb, h => exact hb v h
  | some u, some x, ha, hb, h =>
    unfold mxO at h
    simp only at h
    split at h
    · exact hb v h
    · exact ha v h
theorem ok_adB {B : BT} (h : okB B) {S p c f : Nat} {fi : Bool} (k : Nat) (hp : p < 7) : okB (adB B S p c f fi k) := by
  intro S' k' v
  unfold adB
  split
  · exact mxO_lt (fun v => h S' k' v) (adv_lt (fun v => h _ _ v) (by omega)) v
  · exact h S' k' v
theorem x_ap_loop {T : TT} (h7 : T 7 ≤ 7) (d : Nat) {S p c f : Nat} (fi : Bool) {B : BT} (hB : okB B) (hS : sub3 T S) (hSl : S < 2 ^ (T 7)) (hp : p < T 7) (hb : S.testBit p = false) (hc : c ≤ 40) (hf : f ≤ 1) : ∀ m k (σ : Sg), k + f + m = 8 → PT σ T (adB B S p c f fi k) → ∀ x y z : Value, ∃ σ', exec (d + 1) mX2_addPart 19 [.ref 46, .int (nI S), .int (nI p), .int (nI c), .int (nI f), .int (nI fi.toNat), .int (nI (S * 8)), .int (nI ((S ||| 2 ^ p) * 8)), .int (nI k), x, y, z] [] σ = some (none, σ') ∧ PT σ' T (adB B S p c f fi (k + m)) ∧ ∀ a, a ≠ 47 → σ' a = σ a
  | 0, k, σ, hk, hP => by
    intro x y z
    refine ⟨σ, ?_, hP, fun _ _ => rfl⟩
    rw [hX2_addPart_19]
    simp (disch := omega) only [kX2_addPart_0, kX2_addPart_1, eq_self, Nat.reduceEqDiff, Nat.one_ne_zero, Nat.zero_ne_one, z_0, z_lt, z_le, z_eq, z_add, z_mul, z_inb, z_cl, z_b0, z_b1, z_b01, z_b010, z_b011, kb_v, kb_n, List.cons_append, List.nil_append, if_true, if_false, ↓reduceIte, Bool.false_eq_true, Bool.true_eq_false, decide_eq_true_eq, decide_eq_false_iff_not, not_false_eq_true]
    rw [if_pos (by omega)]
  | m + 1, k, σ, hk, hP => by
    intro x y z
    have hpw := p7_le h7
    have hol : S ||| 2 ^ p < 2 ^ (T 7) := Nat.or_lt_two_pow hSl (pw_lt hp)
    have e1 := hP S hSl k (by omega)
    have e2 := hP (S ||| 2 ^ p) hol (k + f) (by omega)
    have hok := ok_adB (S := S) (p := p) (c := c) (f := f) (fi := fi) hB k (by omega)
    have es := adB_s B hb c f fi k
    have key : ∀ o, o = mxO (adB B S p c f fi k (S ||| 2 ^ p) (k + f)) (adv (adB B S p c f fi k S k) c (7 - p) fi) → PT (up σ 47 ((S ||| 2 ^ p) * 8 + (k + f)) (enc o)) T (adB B S p c f fi (k + 1)) := by
      intro o ho
      have := PT_up hP (S := S ||| 2 ^ p) (k := k + f) (by omega) (by omega) o
      rw [es]
      have e : (fun S' k' => if S' = S ||| 2 ^ p ∧ k' = k + f then mxO (adB B S p c f fi k S' k') (adv (adB B S p c f fi k S k) c (7 - p) fi) else adB B S p c f fi k S' k') = (fun S' k' => if S' = S ||| 2 ^ p ∧ k' = k + f then o else adB B S p c f fi k S' k') := by
        funext S' k'
        by_cases q : S' = S ||| 2 ^ p ∧ k' = k + f
        · rw [if_pos q, if_pos q, ho, q.1, q.2]
        · rw [if_neg q, if_neg q]
      rw [e]
      exact this
    have key0 : mxO (adB B S p c f fi k (S ||| 2 ^ p) (k + f)) (adv (adB B S p c f fi k S k) c (7 - p) fi) = adB B S p c f fi k (S ||| 2 ^ p) (k + f) → PT σ T (adB B S p c f fi (k + 1)) := by
      intro q S' g2 k' g3
      rw [es]
      by_cases q2 : S' = S ||| 2 ^ p ∧ k' = k + f
      · simp only [q2, and_self, if_true]
        rw [q]; exact e2
      · simp only [q2, if_false]
        exact hP S' g2 k' g3
    have fin : ∀ σ1 : Sg, PT σ1 T (adB B S p c f fi (k + 1)) → (∀ a, a ≠ 47 → σ1 a = σ a) → ∀ x y z : Value, ∃ σ', exec (d + 1) mX2_addPart 19 [.ref 46, .int (nI S), .int (nI p), .int (nI c), .int (nI f), .int (nI fi.toNat), .int (nI (S * 8)), .int (nI ((S ||| 2 ^ p) * 8)), .int (nI (k + 1)), x, y, z] [] σ1 = some (none, σ') ∧ PT σ' T (adB B S p c f fi (k + (m + 1))) ∧ ∀ a, a ≠ 47 → σ' a = σ a := by
      intro σ1 h1 h2 x y z
      obtain ⟨σ', g1, g2, g3⟩ := x_ap_loop h7 d fi hB hS hSl hp hb hc hf m (k + 1) σ1 (by omega) h1 x y z
      exact ⟨σ', g1, by rw [show k + (m + 1) = k + 1 + m by omega]; exact g2, fun a ha => by rw [g3 a ha, h2 a ha]⟩
    rw [hX2_addPart_19]
    cases ho : adB B S p c f fi k S k with
    | none =>
      rw [ho] at e1 key0
      simp (disch := omega) only [kX2_addPart_0, kX2_addPart_1, eq_self, Nat.reduceEqDiff, Nat.one_ne_zero, Nat.zero_ne_one, z_0, z_lt, z_le, z_eq, z_add, z_mul, z_inb, z_cl, z_b0, z_b1, z_b01, z_b010, z_b011, kb_v, kb_n, List.cons_append, List.nil_append, if_true, if_false, ↓reduceIte, Bool.false_eq_true, Bool.true_eq_false, decide_eq_true_eq, decide_eq_false_iff_not, not_false_eq_true, e1, enc, m1_m1]
      rw [if_neg (by omega)]
      exact fin σ (key0 rfl) (fun _ _ => rfl) _ _ _
    | some v =>
      have hv := hok S k v ho
      rw [ho] at e1 key0 key
      by_cases hcv : c ≤ v / 8
      · simp only [adv, hcv, if_true] at key key0
        cases ho2 : adB B S p c f fi k (S ||| 2 ^ p) (k + f) with
        | none =>
          rw [ho2] at e2 key
          have kk := key (some _) rfl
          simp (disch := omega) only [kX2_addPart_0, kX2_addPart_1, eq_self, Nat.reduceEqDiff, Nat.one_ne_zero, Nat.zero_ne_one, z_0, z_lt, z_le, z_eq, z_add, z_mul, z_inb, z_cl, z_b0, z_b1, z_b01, z_b010, z_b011, kb_v, kb_n, List.cons_append, List.nil_append, if_true, if_false, ↓reduceIte, Bool.false_eq_true, Bool.true_eq_false, decide_eq_true_eq, decide_eq_false_iff_not, not_false_eq_true, e1, e2, enc, enc_n, z_shr, v3, z_and, a7, z_sub, Nat.add_assoc, enc_l]
          rw [if_neg (by omega), if_neg (by omega)]
          cases fi
          · simp only [if_true, Bool.false_eq_true, if_false, enc] at kk ⊢
            exact fin _ kk (fun a ha => up_of ha) _ _ _
          · simp only [if_true, Bool.true_eq_false, if_false, enc] at kk ⊢
            exact fin _ kk (fun a ha => up_of ha) _ _ _
        | some u =>
          have hu := hok _ _ u ho2
          rw [ho2] at e2 key
          have kk := key _ rfl
          simp (disch := omega) only [kX2_addPart_0, kX2_addPart_1, eq_self, Nat.reduceEqDiff, Nat.one_ne_zero, Nat.zero_ne_one, z_0, z_lt, z_le, z_eq, z_add, z_mul, z_inb, z_cl, z_b0, z_b1, z_b01, z_b010, z_b011, kb_v, kb_n, List.cons_append, List.nil_append, if_true, if_false, ↓reduceIte, Bool.false_eq_true, Bool.true_eq_false, decide_eq_true_eq, decide_eq_false_iff_not, not_false_eq_true, e1, e2, enc, enc_n, z_shr, v3, z_and, a7, z_sub, Nat.add_assoc]
          rw [if_neg (by omega), if_neg (by omega)]
          cases fi
          · simp only [if_true, Bool.false_eq_true, if_false, mxO] at kk ⊢
            by_cases q : u < 8 * (v / 8 - c) + v % 8
            · simp only [q, if_true, enc] at kk ⊢
              exact fin _ kk (fun a ha => up_of ha) _ _ _
            · simp only [q, if_false, enc] at kk ⊢
              exact fin _ kk (fun a ha => up_of ha) _ _ _
          · simp only [if_true, Bool.true_eq_false, if_false, mxO] at kk ⊢
            by_cases q : u < 8 * (v / 8 - c) + (7 - p)
            · simp only [q, if_true, enc] at kk ⊢
              exact fin _ kk (fun a ha => up_of ha) _ _ _
            · simp only [q, if_false, enc] at kk ⊢
              exact fin _ kk (fun a ha => up_of ha) _ _ _
      · simp only [adv, hcv, if_false] at key0
        simp (disch := omega) only [kX2_addPart_0, kX2_addPart_1, eq_self, Nat.reduceEqDiff, Nat.one_ne_zero, Nat.zero_ne_one, z_0, z_lt, z_le, z_eq, z_add, z_mul, z_inb, z_cl, z_b0, z_b1, z_b01, z_b010, z_b011, kb_v, kb_n, List.cons_append, List.nil_append, if_true, if_false, ↓reduceIte, Bool.false_eq_true, Bool.true_eq_false, decide_eq_true_eq, decide_eq_false_iff_not, not_false_eq_true, e1, enc, enc_n, z_shr, v3]
        rw [if_neg (by omega), if_pos (by omega)]
        exact fin σ (key0 (by cases adB B S p c f fi k (S ||| 2 ^ p) (k + f) <;> rfl)) (fun _ _ => rfl) _ _ _
