/-! what the table holds -/
def mxs (P : Nat → Prop) (o : Option Nat) : Prop := match o with
  | none => ∀ v, ¬ P v
  | some v => P v ∧ ∀ v', P v' → v' ≤ v
theorem mxs_cg {P Q : Nat → Prop} {o : Option Nat} (h : mxs P o) (hq : ∀ v, P v ↔ Q v) : mxs Q o := by
  have : P = Q := by funext v; exact propext (hq v)
  rwa [← this]
theorem mxs_or {P Q : Nat → Prop} {a b : Option Nat} (ha : mxs P a) (hb : mxs Q b) : mxs (fun v => P v ∨ Q v) (mxO a b) := by
  match a, b, ha, hb with
  | none, none, ha, hb => exact fun v h => h.elim (ha v) (hb v)
  | some u, none, ha, hb => exact ⟨Or.inl ha.1, fun v h => h.elim (ha.2 v) (fun q => absurd q (hb v))⟩
  | none, some u, ha, hb => exact ⟨Or.inr hb.1, fun v h => h.elim (fun q => absurd q (ha v)) (hb.2 v)⟩
  | some u, some x, ha, hb =>
    unfold mxO
    simp only
    split
    · rename_i q
      exact ⟨Or.inr hb.1, fun v h => h.elim (fun g => by have := ha.2 v g; omega) (hb.2 v)⟩
    · rename_i q
      exact ⟨Or.inl ha.1, fun v h => h.elim (ha.2 v) (fun g => by have := hb.2 v g; omega)⟩
theorem gcn_st {T : TT} {S p v : Nat} (h : gcn T S p = true) : stb T S v p = true ↔ dco T S p ≤ v / 8 := by
  unfold gcn at h
  simp only [Bool.and_eq_true, Bool.not_eq_true', Bool.or_eq_true, decide_eq_true_eq] at h
  obtain ⟨h1, h2, h3⟩ := h
  unfold stb may dco
  rw [h1, h2]
  simp only [Bool.not_false, Bool.true_and, decide_eq_true_eq]
  by_cases q : T (9 + p) = 5
  · rw [if_pos q, if_pos q]
    constructor
    · intro _; omega
    · intro _; omega
  · rw [if_neg q, if_neg q]
theorem st_gcn {T : TT} {S p v : Nat} (h : stb T S v p = true) : gcn T S p = true := by
  obtain ⟨h1, h2, h3⟩ := stb_t h
  unfold gcn
  rw [h1, h2]
  simp only [Bool.not_false, Bool.true_and, Bool.or_eq_true, decide_eq_true_eq]
  by_cases q : T (9 + p) = 5
  · rw [if_pos q] at h3; exact Or.inr h3
  · exact Or.inl q
theorem nv_mo {T : TT} {S p u v : Nat} (h : u ≤ v) (hu : dco T S p ≤ u / 8) : nv T S u p ≤ nv T S v p := by
  unfold nv
  split <;> omega
theorem adv_mx {T : TT} {S q : Nat} (hg : gcn T S q = true) {P : Nat → Prop} {o : Option Nat} (h : mxs P o) : mxs (fun v => ∃ v1, P v1 ∧ stb T S v1 q = true ∧ v = nv T S v1 q) (adv o (dco T S q) (7 - q) (decide (S = T 3))) := by
  match o, h with
  | none, h =>
    rintro v ⟨v1, h1, _⟩
    exact h v1 h1
  | some u, h =>
    unfold adv
    simp only
    by_cases c : dco T S q ≤ u / 8
    · rw [if_pos c]
      have e : (8 * (u / 8 - dco T S q) + if decide (S = T 3) = true then 7 - q else u % 8) = nv T S u q := by
        unfold nv
        simp only [decide_eq_true_eq]
      rw [e]
      refine ⟨⟨u, h.1, (gcn_st hg).mpr c, rfl⟩, ?_⟩
      rintro v ⟨v1, h1, h2, rfl⟩
      exact nv_mo (h.2 v1 h1) ((gcn_st hg).mp h2)
    · rw [if_neg c]
      rintro v ⟨v1, h1, h2, rfl⟩
      have := (gcn_st hg).mp h2
      have := h.2 v1 h1
      omega
def Arr (T : TT) (D S0 S k v : Nat) : Prop := (S = T 3 ∧ k = pop (T 4) ∧ v = 8 * D) ∨ ∃ S1 k1 v1 p, S1 < S0 ∧ Rch T D S1 k1 v1 ∧ p < T 7 ∧ stb T S1 v1 p = true ∧ S = S1 ||| 2 ^ p ∧ k = nk T S1 k1 p ∧ v = nv T S1 v1 p
theorem Arr_R {T : TT} {D S0 S k v : Nat} (h : S ≤ S0) : Arr T D S0 S k v ↔ Rch T D S k v := by
  constructor
  · rintro (⟨rfl, rfl, rfl⟩ | ⟨S1, k1, v1, p, _, h1, h2, h3, rfl, rfl, rfl⟩)
    · exact Rch_bs T D
    · exact Rch_st h1 h2 h3
  · intro q
    rcases Rch_cs q with q | ⟨S1, k1, v1, p, h1, h2, h3, e1, e2, e3⟩
    · exact Or.inl q
    · refine Or.inr ⟨S1, k1, v1, p, ?_, h1, h2, h3, e1, e2, e3⟩
      have := or_gt (stb_t h3).1
      omega
def ArP (T : TT) (D S0 q S k v : Nat) : Prop := Arr T D S0 S k v ∨ ∃ k1 v1 p, p < q ∧ Rch T D S0 k1 v1 ∧ p < T 7 ∧ stb T S0 v1 p = true ∧ S = S0 ||| 2 ^ p ∧ k = nk T S0 k1 p ∧ v = nv T S0 v1 p
theorem or_inj {S p q : Nat} (hp : S.testBit p = false) (h : S ||| 2 ^ p = S ||| 2 ^ q) : p = q := by
  have := or_bit S q p
  rw [← h, or_bit, hp] at this
  simp at this
  exact this.symm
theorem gB_mx {T : TT} (w : WF T) {D S0 : Nat} {B : BT} (h0 : S0 < 2 ^ (T 7)) (hB : ∀ S, S < 2 ^ (T 7) → ∀ k, k < 8 → mxs (Arr T D S0 S k) (B S k)) : ∀ q, q ≤ T 7 → ∀ S, S < 2 ^ (T 7) → ∀ k, k < 8 → mxs (ArP T D S0 q S k) (gB T S0 B q S k)
  | 0, _, S, h2, k, hk => mxs_cg (hB S h2 k hk) (fun v => ⟨fun h => Or.inl h, fun h => h.elim id (fun ⟨_, _, _, h, _⟩ => absurd h (by omega))⟩)
  | q + 1, hq, S, h2, k, hk => by
    have ih := gB_mx w h0 hB q (by omega)
    unfold gB
    cases hg : gcn T S0 q
    · rw [if_neg (by simp)]
      refine mxs_cg (ih S h2 k hk) (fun v => ⟨fun h => ?_, fun h => ?_⟩)
      · exact h.imp id (fun ⟨k1, v1, p, a, b⟩ => ⟨k1, v1, p, by omega, b⟩)
      · rcases h with h | ⟨k1, v1, p, a, b, c, e, f⟩
        · exact Or.inl h
        · refine Or.inr ⟨k1, v1, p, ?_, b, c, e, f⟩
          by_cases r : p = q
          · subst r; rw [st_gcn e] at hg; exact absurd hg (by simp)
          · omega
    · rw [if_pos rfl]
      have hb : S0.testBit q = false := by
        unfold gcn at hg
        simp only [Bool.and_eq_true, Bool.not_eq_true'] at hg
        exact hg.1
      unfold adB
      have hf := Bool.toNat_le (flt T q (skl T S0))
      by_cases c : S = S0 ||| 2 ^ q ∧ (flt T q (skl T S0)).toNat ≤ k
      · rw [if_pos (by omega)]
        have row : mxs (fun v => Rch T D S0 (k - (flt T q (skl T S0)).toNat) v) (gB T S0 B q S0 (k - (flt T q (skl T S0)).toNat)) := by
          refine mxs_cg (ih S0 h0 _ (by omega)) (fun v => ⟨fun h => ?_, fun h => Or.inl ((Arr_R (Nat.le_refl _)).mpr h)⟩)
          rcases h with h | ⟨k1, v1, p, a, b, c, e, f, _⟩
          · exact (Arr_R (Nat.le_refl _)).mp h
          · exfalso
            have := or_gt (stb_t e).1
            omega
        refine mxs_cg (mxs_or (ih S h2 k hk) (adv_mx hg row)) (fun v => ⟨fun h => ?_, fun h => ?_⟩)
        · rcases h with h | ⟨v1, a, b, e⟩
          · exact h.imp id (fun ⟨k1, v1, p, a, b⟩ => ⟨k1, v1, p, by omega, b⟩)
          · exact Or.inr ⟨_, v1, q, by omega, a, by omega, b, c.1, by unfold nk; omega, e⟩
        · rcases h with h | ⟨k1, v1, p, a, b, cc, e, f, g, i⟩
          · exact Or.inl (Or.inl h)
          · by_cases r : p = q
            · subst r
              refine Or.inr ⟨v1, ?_, e, i⟩
              rw [show k - (flt T p (skl T S0)).toNat = k1 by unfold nk at g; omega]
              exact b
            · exact Or.inl (Or.inr ⟨k1, v1, p, by omega, b, cc, e, f, g, i⟩)
      · rw [if_neg (by omega)]
        refine mxs_cg (ih S h2 k hk) (fun v => ⟨fun h => ?_, fun h => ?_⟩)
        · exact h.imp id (fun ⟨k1, v1, p, a, b⟩ => ⟨k1, v1, p, by omega, b⟩)
        · rcases h with h | ⟨k1, v1, p, a, b, cc, e, f, g, i⟩
          · exact Or.inl h
          · refine Or.inr ⟨k1, v1, p, ?_, b, cc, e, f, g, i⟩
            by_cases r : p = q
            · subst r
              exfalso
              apply c
              refine ⟨f, ?_⟩
              unfold nk at g
              omega
            · omega
def DI (T : TT) (D S0 : Nat) (B : BT) (R : Nat) : Prop := (∀ S, S < 2 ^ (T 7) → ∀ k, k < 8 → mxs (Arr T D S0 S k) (B S k)) ∧ ∀ i, R.testBit i = true ↔ ∃ S k v, S < S0 ∧ Rch T D S k v ∧ S.testBit i = true
theorem Rch_ge {T : TT} (w : WF T) {D S k v : Nat} (h : Rch T D S k v) : T 3 ≤ S := Nat.le_of_testBit (Rch_NI w h).1
theorem DI_0 {T : TT} (w : WF T) (D : Nat) : DI T D (T 3) (B0 T D) 0 := by
  refine ⟨fun S h2 k hk => ?_, fun i => ⟨fun h => absurd h (by simp), fun ⟨S, k, v, h1, h2, _⟩ => absurd (Rch_ge w h2) (by omega)⟩⟩
  unfold B0
  by_cases q : S = T 3 ∧ k = pop (T 4)
  · rw [if_pos q]
    refine ⟨Or.inl ⟨q.1, q.2, rfl⟩, fun v h => ?_⟩
    rcases h with h | ⟨S1, k1, v1, p, h1, h2, _⟩
    · rw [h.2.2]; exact Nat.le_refl _
    · exact absurd (Rch_ge w h2) (by omega)
  · rw [if_neg q]
    rintro v (h | ⟨S1, k1, v1, p, h1, h2, _⟩)
    · exact q ⟨h.1, h.2.1⟩
    · exact absurd (Rch_ge w h2) (by omega)
theorem rcd_R {T : TT} (w : WF T) {D S : Nat} {B : BT} {R : Nat} (h : DI T D S B R) (hl : S < 2 ^ (T 7)) : rcd B S = true ↔ ∃ k v, Rch T D S k v := by
  constructor
  · intro q
    obtain ⟨j, _, hj, q⟩ := anF_t 8 0 q
    have hm := h.1 S hl j (by omega)
    cases ho : B S j with
    | none => rw [ho] at q; simp at q
    | some v =>
      rw [ho] at hm
      exact ⟨j, v, (Arr_R (Nat.le_refl _)).mp hm.1⟩
  · rintro ⟨k, v, q⟩
    have hk : k < 8 := by
      have := (Rch_NI w q).2.2.1
      have := pop_le S
      omega
    have hm := h.1 S hl k hk
    cases qq : rcd B S
    · have := anF_f 8 0 qq k (by omega) (by omega)
      cases ho : B S k with
      | none => rw [ho] at hm; exact absurd ((Arr_R (Nat.le_refl _)).mpr q) (hm v)
      | some u => rw [ho] at this; simp at this
    · rfl
theorem DI_1 {T : TT} (w : WF T) {D : Nat} (S : Nat) (B : BT) (R : Nat) (hl : S < 2 ^ (T 7)) (h : DI T D S B R) (hr : rcd B S = true) : sub3 T S ∧ spn T S ≤ T 2 ∧ DI T D (S + 1) (gB T S B (T 7)) (R ||| S) := by
  obtain ⟨k0, v0, hR⟩ := (rcd_R w h hl).mp hr
  refine ⟨(Rch_NI w hR).1, (Rch_NI w hR).2.2.2.2.1, fun S' h2 k hk => ?_, fun i => ?_⟩
  · refine mxs_cg (gB_mx w hl h.1 (T 7) (Nat.le_refl _) S' h2 k hk) (fun v => ⟨fun q => ?_, fun q => ?_⟩)
    · rcases q with (q | ⟨S1, k1, v1, p, a, b, c⟩) | ⟨k1, v1, p, a, b, c⟩
      · exact Or.inl q
      · exact Or.inr ⟨S1, k1, v1, p, by omega, b, c⟩
      · exact Or.inr ⟨S, k1, v1, p, by omega, b, c⟩
    · rcases q with q | ⟨S1, k1, v1, p, a, b, c⟩
      · exact Or.inl (Or.inl q)
      · by_cases e : S1 = S
        · subst e; exact Or.inr ⟨k1, v1, p, c.1, b, c⟩
        · exact Or.inl (Or.inr ⟨S1, k1, v1, p, by omega, b, c⟩)
  · rw [Nat.testBit_or, Bool.or_eq_true, h.2 i]
    constructor
    · rintro (⟨S1, k1, v1, a, b, c⟩ | q)
      · exact ⟨S1, k1, v1, by omega, b, c⟩
      · exact ⟨S, k0, v0, by omega, hR, q⟩
    · rintro ⟨S1, k1, v1, a, b, c⟩
      by_cases e : S1 = S
      · subst e; exact Or.inr c
      · exact Or.inl ⟨S1, k1, v1, by omega, b, c⟩
theorem DI_2 {T : TT} (w : WF T) {D : Nat} (S : Nat) (B : BT) (R : Nat) (hl : S < 2 ^ (T 7)) (h : DI T D S B R) (hr : rcd B S = false) : DI T D (S + 1) B R := by
  have hno : ∀ k v, ¬ Rch T D S k v := fun k v q => by
    have := (rcd_R w h hl).mpr ⟨k, v, q⟩
    rw [hr] at this
    exact absurd this (by simp)
  have hlt : ∀ S1 k v, Rch T D S1 k v → (S1 < S + 1 ↔ S1 < S) := fun S1 k v q => by
    constructor
    · intro r
      by_cases e : S1 = S
      · subst e; exact absurd q (hno k v)
      · omega
    · intro r; omega
  refine ⟨fun S' h2 k hk => ?_, fun i => ?_⟩
  · refine mxs_cg (h.1 S' h2 k hk) (fun v => ⟨fun q => ?_, fun q => ?_⟩)
    · exact q.imp id (fun ⟨S1, k1, v1, p, a, b, c⟩ => ⟨S1, k1, v1, p, (hlt _ _ _ b).mpr a, b, c⟩)
    · exact q.imp id (fun ⟨S1, k1, v1, p, a, b, c⟩ => ⟨S1, k1, v1, p, (hlt _ _ _ b).mp a, b, c⟩)
  · rw [h.2 i]
    constructor
    · rintro ⟨S1, k1, v1, a, b, c⟩
      exact ⟨S1, k1, v1, (hlt _ _ _ b).mpr a, b, c⟩
    · rintro ⟨S1, k1, v1, a, b, c⟩
      exact ⟨S1, k1, v1, (hlt _ _ _ b).mp a, b, c⟩
theorem fsO_op {V : Nat → Nat → Prop} {B : BT} {F : Nat} : ∀ m k, (∀ j, k ≤ j → j < k + m → mxs (V j) (B F j)) → isOp (fun j v => k ≤ j ∧ j < k + m ∧ V j v) (fsO B F k m)
  | 0, k, _ => fun j v h => by omega
  | m + 1, k, h => by
    have h0 := h k (by omega) (by omega)
    have ih := fsO_op m (k + 1) (fun j h1 h2 => h j (by omega) (by omega))
    unfold fsO
    cases ho : B F k with
    | some v =>
      rw [ho] at h0
      refine ⟨⟨by omega, by omega, h0.1⟩, fun j u hj => ?_⟩
      by_cases e : j = k
      · subst e; exact Or.inr ⟨rfl, h0.2 u hj.2.2⟩
      · exact Or.inl (by omega)
    | none =>
      rw [ho] at h0
      refine isOp_cg ih (fun j v => ⟨fun q => ⟨by omega, by omega, q.2.2⟩, fun q => ⟨?_, by omega, q.2.2⟩⟩)
      by_cases e : j = k
      · subst e; exact absurd q.2.2 (h0 v)
      · omega
/-- the whole of the plan -/
theorem x_plan {σ : Sg} {T : TT} (h : XT σ 8 T) (w : WF T) (d : Nat) {mo : Nat} (hmo : mo ≤ 20) : ∃ σ' o R, cal (d + 6) mX2_reckon [.ref 46, .ref 8, .int (nI mo)] σ = some (none, σ') ∧ isOp (Rch T (T 1 + mo) (2 ^ (T 7) - 1)) o ∧ CN σ' o ∧ σ' 46 1 = nI R ∧ R < 128 ∧ (∀ i, R.testBit i = true ↔ ∃ S k v, Rch T (T 1 + mo) S k v ∧ S.testBit i = true) ∧ ∀ a, a ≠ 46 → a ≠ 47 → σ' a = σ a := by
  have w1 := w.1
  have hp0 : 1 ≤ 2 ^ (T 7) := Nat.one_le_two_pow
  obtain ⟨σ', B, R, e1, e3, e4, e5, e6, e7⟩ := x_rk h w d hmo (DI T (T 1 + mo)) (DI_0 w _) (fun S B R a b c => DI_1 w S B R a b c) (fun S B R a b c => DI_2 w S B R a b c)
  refine ⟨σ', _, R, e1, ?_, e4, e5, e6, fun i => ?_, e7⟩
  · refine isOp_cg (fsO_op (V := Rch T (T 1 + mo) (2 ^ (T 7) - 1)) 8 0 (fun j _ hj => mxs_cg (e3.1 _ (by omega) j (by omega)) (fun v => Arr_R (by omega)))) (fun k v => ⟨fun q => q.2.2, fun q => ⟨by omega, ?_, q⟩⟩)
    have := (Rch_NI w q).2.2.1
    have := pop_le (2 ^ (T 7) - 1)
    omega
  · rw [e3.2 i]
    constructor
    · rintro ⟨S, k, v, _, b, c⟩; exact ⟨S, k, v, b, c⟩
    · rintro ⟨S, k, v, b, c⟩
      have := (Rch_NI w b).2.1
      exact ⟨S, k, v, by omega, b, c⟩
