/-! the class's plan: on from a set, and to the end -/
theorem x_addPart {σ : Sg} {T : TT} (h7 : T 7 ≤ 7) (d : Nat) {S p c f : Nat} (fi : Bool) {B : BT} (hB : okB B) (hP : PT σ T B) (hS : sub3 T S) (hSl : S < 2 ^ (T 7)) (hp : p < T 7) (hb : S.testBit p = false) (hc : c ≤ 40) (hf : f ≤ 1) : ∃ σ', cal (d + 2) mX2_addPart [.ref 46, .int (nI S), .int (nI p), .int (nI c), .int (nI f), .int (nI fi.toNat)] σ = some (none, σ') ∧ PT σ' T (adB B S p c f fi (8 - f)) ∧ ∀ a, a ≠ 47 → σ' a = σ a := by
  have hpw := p7_le h7
  have hpp := pw_le (p := p) (by omega)
  obtain ⟨σ', e1, e2, e3⟩ := x_ap_loop h7 d fi hB hS hSl hp hb hc hf (8 - f) 0 σ (by omega) (by rw [adB_0]; exact hP) uu uu uu
  refine ⟨σ', ?_, by rwa [Nat.zero_add] at e2, e3⟩
  rw [aX2_addPart_46]
  simp (disch := omega) only [kX2_addPart_0, kX2_addPart_1, eq_self, Nat.reduceEqDiff, Nat.one_ne_zero, Nat.zero_ne_one, z_0, z_lt, z_le, z_eq, z_add, z_mul, z_inb, z_cl, z_b0, z_b1, z_b01, z_b010, z_b011, kb_v, kb_n, List.cons_append, List.nil_append, if_true, if_false, ↓reduceIte, Bool.false_eq_true, Bool.true_eq_false, decide_eq_true_eq, decide_eq_false_iff_not, not_false_eq_true, z_one, z_or]
  exact e1
def anF (P : Nat → Bool) : Nat → Nat → Bool
  | _, 0 => false
  | k, m + 1 => P k || anF P (k + 1) m
theorem anF_f {P : Nat → Bool} : ∀ m k, anF P k m = false → ∀ j, k ≤ j → j < k + m → P j = false
  | 0, k, _, j, h1, h2 => by omega
  | m + 1, k, h, j, h1, h2 => by
    rw [anF, Bool.or_eq_false_iff] at h
    by_cases q : j = k
    · rw [q]; exact h.1
    · exact anF_f m (k + 1) h.2 j (by omega) (by omega)
theorem anF_t {P : Nat → Bool} : ∀ m k, anF P k m = true → ∃ j, k ≤ j ∧ j < k + m ∧ P j = true
  | 0, k, h => by simp [anF] at h
  | m + 1, k, h => by
    rw [anF, Bool.or_eq_true] at h
    rcases h with h | h
    · exact ⟨k, by omega, by omega, h⟩
    · obtain ⟨j, h1, h2, h3⟩ := anF_t m (k + 1) h
      exact ⟨j, by omega, by omega, h3⟩
abbrev rcd (B : BT) (S : Nat) : Bool := anF (fun k => (B S k).isSome) 0 8
theorem x_ir_loop {σ : Sg} {T : TT} (h7 : T 7 ≤ 7) (d : Nat) {S : Nat} {B : BT} (hB : okB B) (hP : PT σ T B) (hSl : S < 2 ^ (T 7)) : ∀ m k, k + m = 8 → exec d mX2_isReached 2 [.ref 46, .int (nI S), .int (nI k)] [] σ = some (some (.int (nI (anF (fun k => (B S k).isSome) k m).toNat)), σ)
  | 0, k, hk => by
    obtain rfl : k = 8 := by omega
    rw [hX2_isReached_2]
    simp (disch := omega) only [kX2_isReached, eq_self, Nat.reduceEqDiff, Nat.one_ne_zero, Nat.zero_ne_one, z_0, z_lt, z_le, z_eq, z_add, z_mul, z_inb, z_cl, z_b0, z_b1, z_b01, z_b010, z_b011, kb_v, kb_n, List.cons_append, List.nil_append, if_true, if_false, ↓reduceIte, Bool.false_eq_true, Bool.true_eq_false, decide_eq_true_eq, decide_eq_false_iff_not, not_false_eq_true, Nat.le_refl]
    rfl
  | m + 1, k, hk => by
    have hpw := p7_le h7
    have e1 := hP S hSl k (by omega)
    have ih := x_ir_loop h7 d hB hP hSl m (k + 1) (by omega)
    rw [hX2_isReached_2, anF]
    cases ho : B S k with
    | none =>
      rw [ho] at e1
      simp (disch := omega) only [kX2_isReached, eq_self, Nat.reduceEqDiff, Nat.one_ne_zero, Nat.zero_ne_one, z_0, z_lt, z_le, z_eq, z_add, z_mul, z_inb, z_cl, z_b0, z_b1, z_b01, z_b010, z_b011, kb_v, kb_n, List.cons_append, List.nil_append, if_true, if_false, ↓reduceIte, Bool.false_eq_true, Bool.true_eq_false, decide_eq_true_eq, decide_eq_false_iff_not, not_false_eq_true, e1, enc, m1_m1]
      rw [if_neg (by omega), ih]
      rfl
    | some v =>
      have hv := hB S k v ho
      rw [ho] at e1
      simp (disch := omega) only [kX2_isReached, eq_self, Nat.reduceEqDiff, Nat.one_ne_zero, Nat.zero_ne_one, z_0, z_lt, z_le, z_eq, z_add, z_mul, z_inb, z_cl, z_b0, z_b1, z_b01, z_b010, z_b011, kb_v, kb_n, List.cons_append, List.nil_append, if_true, if_false, ↓reduceIte, Bool.false_eq_true, Bool.true_eq_false, decide_eq_true_eq, decide_eq_false_iff_not, not_false_eq_true, e1, enc, enc_n]
      rw [if_neg (by omega)]
      rfl
theorem x_ir {σ : Sg} {T : TT} (h7 : T 7 ≤ 7) (d : Nat) {S : Nat} {B : BT} (hB : okB B) (hP : PT σ T B) (hSl : S < 2 ^ (T 7)) : cal (d + 1) mX2_isReached [.ref 46, .int (nI S)] σ = some (some (.int (nI (rcd B S).toNat)), σ) := by
  rw [aX2_isReached_46]
  simp (disch := omega) only [kX2_isReached, eq_self, Nat.reduceEqDiff, Nat.one_ne_zero, Nat.zero_ne_one, z_0, z_lt, z_le, z_eq, z_add, z_mul, z_inb, z_cl, z_b0, z_b1, z_b01, z_b010, z_b011, kb_v, kb_n, List.cons_append, List.nil_append, if_true, if_false, ↓reduceIte, Bool.false_eq_true, Bool.true_eq_false, decide_eq_true_eq, decide_eq_false_iff_not, not_false_eq_true]
  exact x_ir_loop h7 d hB hP hSl 8 0 (by omega)
theorem x_g1_loop {σ : Sg} {T : TT} (h : XT σ 8 T) (w : WF T) (d : Nat) {S : Nat} (hS : S < 128) (hsp : spn T S ≤ T 2) : ∀ m k, k + m = T 7 → ∀ x y z : Value, exec (d + 1) mX2_goOnFrom 14 [.ref 46, .ref 8, .int (nI S), .int (nI (min 20 (T 0 + cnt (nbt T S) k))), .int (nI (T 2 - smn (bgt T S) k)), .int (nI k), x, y, z] [] σ = exec (d + 1) mX2_goOnFrom 88 [.ref 46, .ref 8, .int (nI S), .int (nI (skl T S)), .int (nI (mon T S)), .int (nI 0), x, y, z] [] σ
  | 0, k, hk => by
    intro x y z
    have w1 := w.1
    obtain rfl : k = T 7 := by omega
    rw [hX2_goOnFrom_14]
    simp (disch := omega) only [kX2_goOnFrom_0, kX2_goOnFrom_1, kX2_goOnFrom_2, kX2_goOnFrom_3, XT8 h, eq_self, Nat.reduceEqDiff, Nat.one_ne_zero, Nat.zero_ne_one, z_0, z_lt, z_le, z_eq, z_add, z_mul, z_inb, z_cl, z_b0, z_b1, z_b01, z_b010, z_b011, kb_v, kb_n, List.cons_append, List.nil_append, if_true, if_false, ↓reduceIte, Bool.false_eq_true, Bool.true_eq_false, decide_eq_true_eq, decide_eq_false_iff_not, not_false_eq_true, Nat.le_refl]
    rfl
  | m + 1, k, hk => by
    intro x y z
    have w1 := w.1
    have wp := w.2.2.2.1 k (by omega)
    have hn1 := ndn_le S (T 3)
    have hm1 : smn (bgt T S) (k + 1) ≤ spn T S := smn_mo _ _ _ (by omega)
    rw [smn] at hm1
    refine Eq.trans ?_ (x_g1_loop h w d hS hsp m (k + 1) (by omega) x y z)
    rw [hX2_goOnFrom_14, cnt, smn]
    cases q : (ndn S (T 3)).testBit k
    · rw [show nbt T S k = false by unfold nbt; rw [q]; rfl, show bgt T S k = 0 by unfold bgt; rw [q]; rfl]
      simp (disch := omega) only [kX2_goOnFrom_0, kX2_goOnFrom_1, kX2_goOnFrom_2, kX2_goOnFrom_3, XT8 h, eq_self, Nat.reduceEqDiff, Nat.one_ne_zero, Nat.zero_ne_one, z_0, z_lt, z_le, z_eq, z_add, z_mul, z_inb, z_cl, z_b0, z_b1, z_b01, z_b010, z_b011, kb_v, kb_n, List.cons_append, List.nil_append, if_true, if_false, ↓reduceIte, Bool.false_eq_true, Bool.true_eq_false, decide_eq_true_eq, decide_eq_false_iff_not, not_false_eq_true, z_nd, e_bit, q]
      rw [if_neg (by omega)]
      rfl
    · by_cases q5 : T (9 + k) = 5
      · have hb : bgt T S k = T (23 + k) := by unfold bgt; rw [q, q5]; rfl
        rw [hb] at hm1
        rw [show nbt T S k = false by unfold nbt; rw [q, q5]; rfl, hb]
        simp (disch := omega) only [kX2_goOnFrom_0, kX2_goOnFrom_1, kX2_goOnFrom_2, kX2_goOnFrom_3, XT8 h, eq_self, Nat.reduceEqDiff, Nat.one_ne_zero, Nat.zero_ne_one, z_0, z_lt, z_le, z_eq, z_add, z_mul, z_inb, z_cl, z_b0, z_b1, z_b01, z_b010, z_b011, kb_v, kb_n, List.cons_append, List.nil_append, if_true, if_false, ↓reduceIte, Bool.false_eq_true, Bool.true_eq_false, decide_eq_true_eq, decide_eq_false_iff_not, not_false_eq_true, z_nd, e_bit, q, q5, e_skb, z_sub, Nat.sub_sub, Bool.toNat_false, Nat.add_zero]
        rw [if_neg (by omega)]
        unfold skb
        rfl
      · rw [show nbt T S k = true by unfold nbt; rw [q, decide_eq_true q5]; rfl, show bgt T S k = 0 by unfold bgt; rw [q, if_pos rfl, if_neg q5]]
        simp (disch := omega) only [kX2_goOnFrom_0, kX2_goOnFrom_1, kX2_goOnFrom_2, kX2_goOnFrom_3, XT8 h, eq_self, Nat.reduceEqDiff, Nat.one_ne_zero, Nat.zero_ne_one, z_0, z_lt, z_le, z_eq, z_add, z_mul, z_inb, z_cl, z_b0, z_b1, z_b01, z_b010, z_b011, kb_v, kb_n, List.cons_append, List.nil_append, if_true, if_false, ↓reduceIte, Bool.false_eq_true, Bool.true_eq_false, decide_eq_true_eq, decide_eq_false_iff_not, not_false_eq_true, z_nd, e_bit, q, q5, e_skb, z_sub, Nat.sub_zero, Bool.toNat_true, Nat.add_zero]
        rw [if_neg (by omega)]
        unfold skb
        rw [if_neg q5, show min 20 (min 20 (T 0 + cnt (nbt T S) k) + 1) = min 20 (T 0 + (cnt (nbt T S) k + 1)) by omega]
def gcn (T : TT) (S p : Nat) : Bool := !S.testBit p && (rdy T p S && (decide (T (9 + p) ≠ 5) || decide (cst T p (skl T S) ≤ mon T S)))
def gB (T : TT) (S : Nat) (B : BT) : Nat → BT
  | 0 => B
  | p + 1 => if gcn T S p = true then adB (gB T S B p) S p (dco T S p) (flt T p (skl T S)).toNat (decide (S = T 3)) (8 - (flt T p (skl T S)).toNat) else gB T S B p
theorem ok_gB {B : BT} (h : okB B) (T : TT) (S : Nat) : ∀ k, k ≤ 7 → okB (gB T S B k)
  | 0, _ => h
  | k + 1, hk => by
    unfold gB
    split
    · exact ok_adB (ok_gB h T S k (by omega)) _ (by omega)
    · exact ok_gB h T S k (by omega)
theorem x_g2_loop {T : TT} (w : WF T) (d : Nat) {S : Nat} {B : BT} (hB : okB B) (hS : sub3 T S) (hSl : S < 2 ^ (T 7)) : ∀ m k (σ : Sg), k + m = T 7 → XT σ 8 T → PT σ T (gB T S B k) → ∀ x y z : Value, ∃ σ', exec (d + 3) mX2_goOnFrom 88 [.ref 46, .ref 8, .int (nI S), .int (nI (skl T S)), .int (nI (mon T S)), .int (nI k), x, y, z] [] σ = some (none, σ') ∧ PT σ' T (gB T S B (T 7)) ∧ ∀ a, a ≠ 47 → σ' a = σ a
  | 0, k, σ, hk, h, hP => by
    intro x y z
    have w1 := w.1
    obtain rfl : k = T 7 := by omega
    refine ⟨σ, ?_, hP, fun _ _ => rfl⟩
    rw [hX2_goOnFrom_88]
    simp (disch := omega) only [kX2_goOnFrom_0, kX2_goOnFrom_1, kX2_goOnFrom_2, kX2_goOnFrom_3, XT8 h, eq_self, Nat.reduceEqDiff, Nat.one_ne_zero, Nat.zero_ne_one, z_0, z_lt, z_le, z_eq, z_add, z_mul, z_inb, z_cl, z_b0, z_b1, z_b01, z_b010, z_b011, kb_v, kb_n, List.cons_append, List.nil_append, if_true, if_false, ↓reduceIte, Bool.false_eq_true, Bool.true_eq_false, decide_eq_true_eq, decide_eq_false_iff_not, not_false_eq_true, Nat.le_refl]
  | m + 1, k, σ, hk, h, hP => by
    intro x y z
    have w1 := w.1
    have hp7 := p7_le (n := T 7) (by omega)
    have wp := w.2.2.2.1 k (by omega)
    have hsk := skl_le T S
    have hcs := cst_le w (p := k) (sk := skl T S) (by omega)
    have hcs' : tak (T (9 + k)) (T (16 + k)) (T (23 + k)) (skl T S) ≤ 40 := hcs
    have hmo : mon T S ≤ 99 := by unfold mon; omega
    have hok := ok_gB hB T S k (by omega)
    have fin : ∀ σ1 : Sg, PT σ1 T (gB T S B (k + 1)) → (∀ a, a ≠ 47 → σ1 a = σ a) → ∀ x y z : Value, ∃ σ', exec (d + 3) mX2_goOnFrom 88 [.ref 46, .ref 8, .int (nI S), .int (nI (skl T S)), .int (nI (mon T S)), .int (nI (k + 1)), x, y, z] [] σ1 = some (none, σ') ∧ PT σ' T (gB T S B (T 7)) ∧ ∀ a, a ≠ 47 → σ' a = σ a := by
      intro σ1 h1 h2 x y z
      obtain ⟨σ', g1, g2, g3⟩ := x_g2_loop w d hB hS hSl m (k + 1) σ1 (by omega) (XT_cg h (fun a _ _ => h2 a (by omega))) h1 x y z
      exact ⟨σ', g1, g2, fun a ha => by rw [g3 a ha, h2 a ha]⟩
    have eg : gB T S B (k + 1) = if gcn T S k = true then adB (gB T S B k) S k (dco T S k) (flt T k (skl T S)).toNat (decide (S = T 3)) (8 - (flt T k (skl T S)).toNat) else gB T S B k := rfl
    cases hg : gcn T S k
    · rw [hg, if_neg (by simp)] at eg
      have fin0 := fin σ (by rw [eg]; exact hP) (fun _ _ => rfl)
      rw [hX2_goOnFrom_88]
      simp (disch := omega) only [kX2_goOnFrom_0, kX2_goOnFrom_1, kX2_goOnFrom_2, kX2_goOnFrom_3, XT8 h, eq_self, Nat.reduceEqDiff, Nat.one_ne_zero, Nat.zero_ne_one, z_0, z_lt, z_le, z_eq, z_add, z_mul, z_inb, z_cl, z_b0, z_b1, z_b01, z_b010, z_b011, kb_v, kb_n, List.cons_append, List.nil_append, if_true, if_false, ↓reduceIte, Bool.false_eq_true, Bool.true_eq_false, decide_eq_true_eq, decide_eq_false_iff_not, not_false_eq_true, e_taken, e_bit, x_isReady_8 h w]
      rw [if_neg (by omega)]
      unfold gcn at hg
      cases q1 : S.testBit k
      · cases q2 : rdy T k S
        · by_cases q5 : T (9 + k) = 5
          · simp only [q5, if_true]; exact fin0 _ _ _
          · simp only [q5, if_false, if_true]; exact fin0 _ _ _
        · rw [q1, q2] at hg
          simp only [Bool.not_false, Bool.true_and, Bool.or_eq_false_iff, decide_eq_false_iff_not] at hg
          have q5 : T (9 + k) = 5 := by omega
          have q6 : mon T S < tak 5 (T (16 + k)) (T (23 + k)) (skl T S) := by
            have := hg.2
            unfold cst at this
            rw [q5] at this
            omega
          simp only [q5, q6, if_true, Bool.true_eq_false, if_false]
          exact fin0 _ _ _
      · by_cases q5 : T (9 + k) = 5
        · simp only [q5, if_true, Bool.true_eq_false, if_false]; exact fin0 _ _ _
        · simp only [q5, if_false, Bool.true_eq_false]; exact fin0 _ _ _
    · rw [hg, if_pos rfl] at eg
      have hg' := hg
      unfold gcn at hg'
      simp only [Bool.and_eq_true, Bool.not_eq_true', Bool.or_eq_true, decide_eq_true_eq] at hg'
      obtain ⟨q1, q2, q3⟩ := hg'
      have hdc : dco T S k ≤ 40 := by unfold dco; split <;> omega
      obtain ⟨σ1, e1, e2, e3⟩ := x_addPart (σ := σ) (T := T) (by omega) (d + 1) (S := S) (p := k) (c := dco T S k) (f := (flt T k (skl T S)).toNat) (decide (S = T 3)) hok hP hS hSl (by omega) q1 hdc (Bool.toNat_le _)
      have fin0 := fin σ1 (by rw [eg]; exact e2) e3
      unfold dco cst at e1
      have q6 : T (9 + k) = 5 → (mon T S < tak (T (9 + k)) (T (16 + k)) (T (23 + k)) (skl T S)) = False := fun q => eq_false (by
        have q7 : cst T k (skl T S) ≤ mon T S := by omega
        unfold cst at q7
        omega)
      rw [hX2_goOnFrom_88]
      by_cases q5 : T (9 + k) = 5
      · have q6' := q6 q5
        rw [if_pos q5] at e1
        have q5p := eq_true q5
        cases qf : flt T k (skl T S)
        all_goals have qf' : fla (T (9 + k)) (T (16 + k)) (skl T S) = _ := qf
        all_goals rw [qf] at e1
        all_goals by_cases qs : S = T 3
        all_goals first | rw [decide_eq_true qs] at e1 | rw [decide_eq_false qs] at e1
        all_goals first | replace qs := eq_false qs | replace qs := eq_true qs
        all_goals simp only [Bool.toNat_true, Bool.toNat_false] at e1
        all_goals simp (disch := omega) only [kX2_goOnFrom_0, kX2_goOnFrom_1, kX2_goOnFrom_2, kX2_goOnFrom_3, XT8 h, eq_self, Nat.reduceEqDiff, Nat.one_ne_zero, Nat.zero_ne_one, z_0, z_lt, z_le, z_eq, z_add, z_mul, z_inb, z_cl, z_b0, z_b1, z_b01, z_b010, z_b011, kb_v, kb_n, List.cons_append, List.nil_append, if_true, if_false, ↓reduceIte, Bool.false_eq_true, Bool.true_eq_false, decide_eq_true_eq, decide_eq_false_iff_not, not_false_eq_true, e_taken, e_bit, x_isReady_8 h w, q1, q2, q5p, q6', e_flawed, qf', qs, e1]
        all_goals rw [if_neg (by omega)]
        all_goals exact fin0 _ _ _
      · rw [if_neg q5] at e1
        have q5p := eq_false q5
        cases qf : flt T k (skl T S)
        all_goals have qf' : fla (T (9 + k)) (T (16 + k)) (skl T S) = _ := qf
        all_goals rw [qf] at e1
        all_goals by_cases qs : S = T 3
        all_goals first | rw [decide_eq_true qs] at e1 | rw [decide_eq_false qs] at e1
        all_goals first | replace qs := eq_false qs | replace qs := eq_true qs
        all_goals simp only [Bool.toNat_true, Bool.toNat_false] at e1
        all_goals simp (disch := omega) only [kX2_goOnFrom_0, kX2_goOnFrom_1, kX2_goOnFrom_2, kX2_goOnFrom_3, XT8 h, eq_self, Nat.reduceEqDiff, Nat.one_ne_zero, Nat.zero_ne_one, z_0, z_lt, z_le, z_eq, z_add, z_mul, z_inb, z_cl, z_b0, z_b1, z_b01, z_b010, z_b011, kb_v, kb_n, List.cons_append, List.nil_append, if_true, if_false, ↓reduceIte, Bool.false_eq_true, Bool.true_eq_false, decide_eq_true_eq, decide_eq_false_iff_not, not_false_eq_true, e_taken, e_bit, x_isReady_8 h w, q1, q2, q5p, e_flawed, qf', qs, e1]
        all_goals rw [if_neg (by omega)]
        all_goals exact fin0 _ _ _
theorem x_go {σ : Sg} {T : TT} (h : XT σ 8 T) (w : WF T) (d : Nat) {S : Nat} {B : BT} (hB : okB B) (hP : PT σ T B) (hS : sub3 T S) (hSl : S < 2 ^ (T 7)) (hsp : spn T S ≤ T 2) : ∃ σ', cal (d + 4) mX2_goOnFrom [.ref 46, .ref 8, .int (nI S)] σ = some (none, σ') ∧ PT σ' T (gB T S B (T 7)) ∧ ∀ a, a ≠ 47 → σ' a = σ a := by
  have w1 := w.1
  have hp7 := p7_le (n := T 7) (by omega)
  obtain ⟨σ', e1, e2, e3⟩ := x_g2_loop w d hB hS hSl (T 7) 0 σ (by omega) h hP uu uu uu
  refine ⟨σ', ?_, e2, e3⟩
  have e0 := x_g1_loop h w (d + 2) (S := S) (by omega) hsp (T 7) 0 (by omega) uu uu uu
  rw [show min 20 (T 0 + cnt (nbt T S) 0) = T 0 by simp only [cnt]; omega, show T 2 - smn (bgt T S) 0 = T 2 by simp [smn]] at e0
  rw [aX2_goOnFrom_46_8]
  simp (disch := omega) only [kX2_goOnFrom_0, kX2_goOnFrom_1, kX2_goOnFrom_2, kX2_goOnFrom_3, XT8 h, eq_self, Nat.reduceEqDiff, Nat.one_ne_zero, Nat.zero_ne_one, z_0, z_lt, z_le, z_eq, z_add, z_mul, z_inb, z_cl, z_b0, z_b1, z_b01, z_b010, z_b011, kb_v, kb_n, List.cons_append, List.nil_append, if_true, if_false, ↓reduceIte, Bool.false_eq_true, Bool.true_eq_false, decide_eq_true_eq, decide_eq_false_iff_not, not_false_eq_true]
  exact e0.trans e1
/-- the first that is there -/
def fsO (B : BT) (F : Nat) : Nat → Nat → Option (Nat × Nat)
  | _, 0 => none
  | k, m + 1 => match B F k with
    | some v => some (k, v)
    | none => fsO B F (k + 1) m
def CN (σ : Sg) (o : Option (Nat × Nat)) : Prop := match o with
  | none => σ 46 2 = nI 0
  | some (f, v) => σ 46 2 = nI 1 ∧ σ 46 3 = nI f ∧ σ 46 4 = nI (v / 8) ∧ σ 46 5 = nI (7 - v % 8)
theorem x_cn_loop {T : TT} (h7 : T 7 ≤ 7) (d : Nat) {F : Nat} {B : BT} (hB : okB B) (hS : sub3 T F) (hSl : F < 2 ^ (T 7)) : ∀ m k (σ : Sg), k + m = 8 → PT σ T B → σ 46 2 = nI 0 → ∀ x : Value, ∃ σ', exec d mX2_conclude 7 [.ref 46, .int (nI F), .int (nI k), x] [] σ = some (none, σ') ∧ CN σ' (fsO B F k m) ∧ σ' 46 1 = σ 46 1 ∧ ∀ a, a ≠ 46 → σ' a = σ a
  | 0, k, σ, hk, hP, h0 => by
    intro x
    obtain rfl : k = 8 := by omega
    refine ⟨σ, ?_, h0, rfl, fun _ _ => rfl⟩
    rw [hX2_conclude_7]
    simp (disch := omega) only [kX2_conclude_0, kX2_conclude_1, eq_self, Nat.reduceEqDiff, Nat.one_ne_zero, Nat.zero_ne_one, z_0, z_lt, z_le, z_eq, z_add, z_mul, z_inb, z_cl, z_b0, z_b1, z_b01, z_b010, z_b011, kb_v, kb_n, List.cons_append, List.nil_append, if_true, if_false, ↓reduceIte, Bool.false_eq_true, Bool.true_eq_false, decide_eq_true_eq, decide_eq_false_iff_not, not_false_eq_true, Nat.le_refl]
  | m + 1, k, σ, hk, hP, h0 => by
    intro x
    have hpw := p7_le h7
    have e1 := hP F hSl k (by omega)
    rw [hX2_conclude_7, fsO]
    cases ho : B F k with
    | none =>
      rw [ho] at e1
      obtain ⟨σ', g1, g2, g3, g4⟩ := x_cn_loop h7 d hB hS hSl m (k + 1) σ (by omega) hP h0 (.int (-1))
      refine ⟨σ', ?_, g2, g3, g4⟩
      simp (disch := omega) only [kX2_conclude_0, kX2_conclude_1, eq_self, Nat.reduceEqDiff, Nat.one_ne_zero, Nat.zero_ne_one, z_0, z_lt, z_le, z_eq, z_add, z_mul, z_inb, z_cl, z_b0, z_b1, z_b01, z_b010, z_b011, kb_v, kb_n, List.cons_append, List.nil_append, if_true, if_false, ↓reduceIte, Bool.false_eq_true, Bool.true_eq_false, decide_eq_true_eq, decide_eq_false_iff_not, not_false_eq_true, e1, enc, m1_m1, h0]
      rw [if_neg (by omega)]
      exact g1
    | some v =>
      have hv := hB F k v ho
      rw [ho] at e1
      refine ⟨up (up (up (up σ 46 2 (nI 1)) 46 3 (nI k)) 46 4 (nI (v / 8))) 46 5 (nI (7 - v % 8)), ?_, ⟨?_, ?_, ?_, ?_⟩, ?_, fun a ha => ?_⟩
      · simp (disch := omega) only [kX2_conclude_0, kX2_conclude_1, eq_self, Nat.reduceEqDiff, Nat.one_ne_zero, Nat.zero_ne_one, z_0, z_lt, z_le, z_eq, z_add, z_mul, z_inb, z_cl, z_b0, z_b1, z_b01, z_b010, z_b011, kb_v, kb_n, List.cons_append, List.nil_append, if_true, if_false, ↓reduceIte, Bool.false_eq_true, Bool.true_eq_false, decide_eq_true_eq, decide_eq_false_iff_not, not_false_eq_true, e1, enc, enc_n, h0, z_shr, v3, z_and, a7, z_sub]
        rw [if_neg (by omega), hX2_conclude_7]
        simp (disch := omega) only [kX2_conclude_0, kX2_conclude_1, eq_self, Nat.reduceEqDiff, Nat.one_ne_zero, Nat.zero_ne_one, z_0, z_lt, z_le, z_eq, z_add, z_mul, z_inb, z_cl, z_b0, z_b1, z_b01, z_b010, z_b011, kb_v, kb_n, List.cons_append, List.nil_append, if_true, if_false, ↓reduceIte, Bool.false_eq_true, Bool.true_eq_false, decide_eq_true_eq, decide_eq_false_iff_not, not_false_eq_true, up_s, up_k, up_j]
        split <;> rfl
      · simp (disch := omega) only [up_s, up_k, up_j]
      · simp (disch := omega) only [up_s, up_k, up_j]
      · simp (disch := omega) only [up_s, up_k, up_j]
      · simp (disch := omega) only [up_s, up_k, up_j]
      · simp (disch := omega) only [up_s, up_k, up_j]
      · simp only [up_of ha]
theorem PT_cg {σ σ' : Sg} {T : TT} {B : BT} (h : PT σ T B) (hs : σ' 47 = σ 47) : PT σ' T B := by unfold PT; rw [hs]; exact h
theorem x_cn {σ : Sg} {T : TT} (h7 : T 7 ≤ 7) (d : Nat) {F : Nat} {B : BT} (hB : okB B) (hP : PT σ T B) (hS : sub3 T F) (hSl : F < 2 ^ (T 7)) : ∃ σ', cal (d + 1) mX2_conclude [.ref 46, .int (nI F)] σ = some (none, σ') ∧ CN σ' (fsO B F 0 8) ∧ σ' 46 1 = σ 46 1 ∧ ∀ a, a ≠ 46 → σ' a = σ a := by
  obtain ⟨σ', g1, g2, g3, g4⟩ := x_cn_loop h7 d hB hS hSl 8 0 (up σ 46 2 (nI 0)) (by omega) (PT_cg hP (up_of (by omega))) up_s uu
  refine ⟨σ', ?_, g2, by rw [g3, up_j (by omega)], fun a ha => by rw [g4 a ha, up_of ha]⟩
  rw [aX2_conclude_46]
  simp (disch := omega) only [kX2_conclude_0, kX2_conclude_1, eq_self, Nat.reduceEqDiff, Nat.one_ne_zero, Nat.zero_ne_one, z_0, z_lt, z_le, z_eq, z_add, z_mul, z_inb, z_cl, z_b0, z_b1, z_b01, z_b010, z_b011, kb_v, kb_n, List.cons_append, List.nil_append, if_true, if_false, ↓reduceIte, Bool.false_eq_true, Bool.true_eq_false, decide_eq_true_eq, decide_eq_false_iff_not, not_false_eq_true]
  exact g1
theorem x_r1_loop {T : TT} (h7 : T 7 ≤ 7) (d : Nat) (mo : Int32) : ∀ m k (σ : Sg), k + m = 2 ^ (T 7) * 8 → ∃ σ', exec (d + 5) mX2_reckon 12 [.ref 46, .ref 8, .int mo, .int (nI (2 ^ (T 7) - 1)), .int (nI k)] [] σ = exec (d + 5) mX2_reckon 37 [.ref 46, .ref 8, .int mo, .int (nI (2 ^ (T 7) - 1)), .int (nI (2 ^ (T 7) * 8))] [] σ' ∧ (∀ j, k ≤ j → j < 2 ^ (T 7) * 8 → σ' 47 j = -1) ∧ (∀ j, j < k → σ' 47 j = σ 47 j) ∧ ∀ a, a ≠ 47 → σ' a = σ a
  | 0, k, σ, hk => by
    have hp7 := p7_le h7
    have hp0 : 1 ≤ 2 ^ (T 7) := Nat.one_le_two_pow
    obtain rfl : k = 2 ^ (T 7) * 8 := by omega
    refine ⟨σ, ?_, fun j h1 h2 => by omega, fun _ _ => rfl, fun _ _ => rfl⟩
    rw [hX2_reckon_12]
    simp (disch := omega) only [kX2_reckon_0, kX2_reckon_1, eq_self, Nat.reduceEqDiff, Nat.one_ne_zero, Nat.zero_ne_one, z_0, z_lt, z_le, z_eq, z_add, z_mul, z_inb, z_cl, z_b0, z_b1, z_b01, z_b010, z_b011, kb_v, kb_n, List.cons_append, List.nil_append, if_true, if_false, ↓reduceIte, Bool.false_eq_true, Bool.true_eq_false, decide_eq_true_eq, decide_eq_false_iff_not, not_false_eq_true]
    rw [if_pos (by omega)]
  | m + 1, k, σ, hk => by
    have hp7 := p7_le h7
    have hp0 : 1 ≤ 2 ^ (T 7) := Nat.one_le_two_pow
    obtain ⟨σ', e, h1, h2, h3⟩ := x_r1_loop h7 d mo m (k + 1) (up σ 47 k (-1)) (by omega)
    refine ⟨σ', Eq.trans ?_ e, fun j g1 g2 => ?_, fun j g => ?_, fun a ha => ?_⟩
    · rw [hX2_reckon_12]
      simp (disch := omega) only [kX2_reckon_0, kX2_reckon_1, eq_self, Nat.reduceEqDiff, Nat.one_ne_zero, Nat.zero_ne_one, z_0, z_lt, z_le, z_eq, z_add, z_mul, z_inb, z_cl, z_b0, z_b1, z_b01, z_b010, z_b011, kb_v, kb_n, List.cons_append, List.nil_append, if_true, if_false, ↓reduceIte, Bool.false_eq_true, Bool.true_eq_false, decide_eq_true_eq, decide_eq_false_iff_not, not_false_eq_true]
      rw [if_neg (by omega)]
    · by_cases q : j = k
      · subst q; rw [h2 _ (by omega), up_s]
      · exact h1 j (by omega) g2
    · rw [h2 j (by omega), up_j (by omega)]
    · rw [h3 a ha, up_of ha]
