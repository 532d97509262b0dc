/-! drawn -/
def nx (x : Nat) : Nat := x * 16807 % 2147483647
theorem nx_lt (x : Nat) : nx x < 2147483647 := Nat.mod_lt _ (by omega)
def s4 (U : TT) (v : Nat) : TT := fun k => if k = 4 then v else U k
theorem s4_hi {U : TT} {v k : Nat} (h : k ≠ 4) : s4 U v k = U k := by unfold s4; rw [if_neg h]
theorem s4_4 {U : TT} {v : Nat} : s4 U v 4 = v := by unfold s4; rw [if_pos rfl]
def drw (T : TT) (x : Nat) : TT := if may T (x % T 7) (T 3) (T 0) (T 1) (T 2) = true then (if x % 5 = 0 then s4 (mkT T (x % T 7)) (mkT T (x % T 7) 4 ||| 2 ^ (x % T 7)) else mkT T (x % T 7)) else T
def drn : Nat → TT → Nat → TT
  | 0, T, _ => T
  | n + 1, T, x => drn n (drw T (nx x)) (nx x)
theorem mkT_3 {T : TT} {p : Nat} : mkT T p 3 = T 3 ||| 2 ^ p := by simp [mkT]
theorem WF_s4 {T : TT} (w : WF T) (h6 : T 6 = 1) {p : Nat} (hp : (T 3).testBit p = true) : WF (s4 T (T 4 ||| 2 ^ p)) := by
  have w1 := w.1
  refine WF_mk w (fun k hk => s4_hi (by omega)) h6 ?_ ?_ ?_ ?_ ?_ ?_
  · rw [s4_hi (by omega)]; omega
  · rw [s4_hi (by omega)]; omega
  · rw [s4_hi (by omega)]; omega
  · rw [s4_hi (by omega)]; exact w.2.1.1
  · rw [s4_hi (by omega)]; exact w.2.1.2
  · rw [s4_4, s4_hi (by omega)]
    intro i hi
    rw [Nat.testBit_or, Bool.or_eq_true] at hi
    rcases hi with hi | hi
    · exact w.2.2.1 i hi
    · rw [Nat.testBit_two_pow, decide_eq_true_eq] at hi
      rw [← hi]; exact hp
theorem drw_ok {T : TT} (w : WF T) (h7 : 1 ≤ T 7) (x : Nat) : WF (drw T x) ∧ ∀ k, 5 ≤ k → drw T x k = T k := by
  have hp : x % T 7 < T 7 := Nat.mod_lt _ (by omega)
  unfold drw
  split
  · split
    · refine ⟨WF_s4 (WF_mkT w hp) (by rw [mkT_hi (by omega)]; exact T6_of w hp) ?_, fun k hk => ?_⟩
      · rw [mkT_3]; simp [Nat.testBit_or, Nat.testBit_two_pow_self]
      · rw [s4_hi (by omega), mkT_hi (by omega)]
    · exact ⟨WF_mkT w hp, fun k hk => mkT_hi (by omega)⟩
  · exact ⟨w, fun k hk => rfl⟩
theorem x_bd {σ : Sg} {T : TT} (h : XT σ 35 T) (w : WF T) (h7 : 1 ≤ T 7) (d : Nat) {x : Nat} (hx : x < 2147483648) : ∃ σ', cal (d + 4) mX5_buildDrawn [.ref 35, .long (lN x)] σ = some (none, σ') ∧ XT σ' 35 (drw T x) ∧ ∀ a, a ≠ 35 → σ' a = σ a := by
  have w1 := w.1
  have hp : x % T 7 < T 7 := Nat.mod_lt _ (by omega)
  have hpw := pw_le (p := x % T 7) (by omega)
  rw [aX5_buildDrawn_35]
  by_cases hm : may T (x % T 7) (T 3) (T 0) (T 1) (T 2) = true
  · obtain ⟨σ1, e1, hx1, hs1⟩ := x_build_35 h w (d + 1) hp hm
    have e1 : cal (d + 3) mX5_build [.ref 35, .int (nI (x % T 7))] σ = _ := e1
    have h7' := (XT35 hx1).2.2.2.2.2.2.2.1
    unfold drw
    by_cases q : x % 5 = 0
    · refine ⟨up σ1 35 7 (nI (mkT T (x % T 7) 4 ||| 2 ^ (x % T 7))), ?_, ?_, fun a ha => ?_⟩
      · simp (disch := omega) only [kX5_buildDrawn, XT35 h, eq_self, Nat.reduceEqDiff, Nat.one_ne_zero, Nat.zero_ne_one, z_0, z_lt, z_le, z_eq, z_add, z_mul, z_inb, z_cl, z_b0, z_b1, z_b01, z_b010, z_b011, kb_v, kb_n, List.cons_append, List.nil_append, if_true, if_false, ↓reduceIte, Bool.false_eq_true, Bool.true_eq_false, decide_eq_true_eq, decide_eq_false_iff_not, not_false_eq_true, l_i2l, l_0, l_eq, l_rem, lN_i, x_mayBuild_35 h w, hm, e1, cmp_eq0, h7', z_one, z_or]
        rw [if_pos (by omega), if_neg (by omega), if_pos q]
      · rw [if_pos hm, if_pos q]
        refine XT_mk hx1 (fun k hk => s4_hi (by omega)) (fun a ha => up_of ha) (up_j (by omega)) (up_j (by omega)) (up_j (by omega)) ?_ ?_ ?_ ?_ ?_ ?_
        · rw [up_j (by omega), s4_hi (by omega)]; exact hx1.2.1
        · rw [up_j (by omega), s4_hi (by omega)]; exact hx1.2.2.1
        · rw [up_j (by omega), s4_hi (by omega)]; exact hx1.2.2.2.1
        · rw [up_j (by omega), s4_hi (by omega)]; exact hx1.2.2.2.2.2.2.1
        · rw [up_s, s4_4]
        · rw [up_j (by omega), s4_hi (by omega)]; exact hx1.2.2.2.2.2.2.2.2.1
      · rw [up_of ha]; exact hs1 a ha
    · refine ⟨σ1, ?_, ?_, hs1⟩
      · simp (disch := omega) only [kX5_buildDrawn, XT35 h, eq_self, Nat.reduceEqDiff, Nat.one_ne_zero, Nat.zero_ne_one, z_0, z_lt, z_le, z_eq, z_add, z_mul, z_inb, z_cl, z_b0, z_b1, z_b01, z_b010, z_b011, kb_v, kb_n, List.cons_append, List.nil_append, if_true, if_false, ↓reduceIte, Bool.false_eq_true, Bool.true_eq_false, decide_eq_true_eq, decide_eq_false_iff_not, not_false_eq_true, l_i2l, l_0, l_eq, l_rem, lN_i, x_mayBuild_35 h w, hm, e1, cmp_eq0, h7', z_one, z_or]
        rw [if_pos (by omega), if_neg (by omega), if_neg q]
      · rw [if_pos hm, if_neg q]; exact hx1
  · have hm' : may T (x % T 7) (T 3) (T 0) (T 1) (T 2) = false := by simpa using hm
    refine ⟨σ, ?_, ?_, fun _ _ => rfl⟩
    · simp (disch := omega) only [kX5_buildDrawn, XT35 h, eq_self, Nat.reduceEqDiff, Nat.one_ne_zero, Nat.zero_ne_one, z_0, z_lt, z_le, z_eq, z_add, z_mul, z_inb, z_cl, z_b0, z_b1, z_b01, z_b010, z_b011, kb_v, kb_n, List.cons_append, List.nil_append, if_true, if_false, ↓reduceIte, Bool.false_eq_true, Bool.true_eq_false, decide_eq_true_eq, decide_eq_false_iff_not, not_false_eq_true, l_i2l, l_0, l_eq, l_rem, lN_i, x_mayBuild_35 h w, hm']
      rw [if_pos (by omega), if_neg (by omega)]
    · unfold drw; rw [if_neg hm]; exact h
def dan (U : TT) (c : Int32) : Int32 := if c = nI 0 then nI (U 3) else nI (pop (U 4))
theorem x_dr_loop (d : Nat) {n : Nat} (hn : n ≤ 30) (s c : Int32) : ∀ m k (σ : Sg) (U : TT) (x : Nat), k + m = n → XT σ 35 U → WF U → 1 ≤ U 7 → x < 2147483648 → ∃ σ', exec (d + 4) mX6_drawn 63 [.ref 0, .int (nI n), .int s, .int c, .long (lN x), uu, .int (nI k)] [] σ = some (some (.int (dan (drn m U x) c)), σ') ∧ ∀ a, a < 35 ∨ 43 < a → σ' a = σ a
  | 0, k, σ, U, x, hk, h, w, h7, hx => by
    have w1 := w.1
    obtain rfl : k = n := by omega
    refine ⟨σ, ?_, fun _ _ => rfl⟩
    rw [hX6_drawn_63]
    simp (disch := omega) only [kX6_drawn_0, kX6_drawn_1, XT35 h, eq_self, Nat.reduceEqDiff, Nat.one_ne_zero, Nat.zero_ne_one, z_0, z_lt, z_le, z_eq, z_add, z_mul, z_inb, z_cl, z_b0, z_b1, z_b01, z_b010, z_b011, kb_v, kb_n, List.cons_append, List.nil_append, if_true, if_false, ↓reduceIte, Bool.false_eq_true, Bool.true_eq_false, decide_eq_true_eq, decide_eq_false_iff_not, not_false_eq_true, Nat.le_refl, e_bitCount]
    unfold dan drn
    split <;> rfl
  | m + 1, k, σ, U, x, hk, h, w, h7, hx => by
    have hnx := nx_lt x
    obtain ⟨σ1, e1, hx1, hs1⟩ := x_bd h w h7 d (x := nx x) (by omega)
    obtain ⟨w2, hi2⟩ := drw_ok w h7 (nx x)
    obtain ⟨σ2, e2, hs2⟩ := x_dr_loop d hn s c m (k + 1) σ1 _ (nx x) (by omega) hx1 w2 (by rw [hi2 7 (by omega)]; exact h7) (by omega)
    refine ⟨σ2, ?_, fun a ha => by rw [hs2 a ha, hs1 a (by omega)]⟩
    unfold nx at e1
    rw [hX6_drawn_63, drn]
    simp (disch := omega) only [kX6_drawn_0, kX6_drawn_1, eq_self, Nat.reduceEqDiff, Nat.one_ne_zero, Nat.zero_ne_one, z_0, z_lt, z_le, z_eq, z_add, z_mul, z_inb, z_cl, z_b0, z_b1, z_b01, z_b010, z_b011, kb_v, kb_n, List.cons_append, List.nil_append, if_true, if_false, ↓reduceIte, Bool.false_eq_true, Bool.true_eq_false, decide_eq_true_eq, decide_eq_false_iff_not, not_false_eq_true, lN_mul, l_0, l_eq, l_rem, e1, Nat.reduceEqDiff]
    rw [if_neg (by omega)]
    exact e2
theorem m_d1_loop (d : Nat) {n : Nat} (s : Nat) (hs : s < 2147483648) (c : Int32) : ∀ m k (σ : Sg), k + m = 6 → ∀ x y z : Value, ∃ σ', exec d mX7_drawn 50 [.ref 50, .int (nI n), .int (nI s), .int c, .int (nI k), x, y, z] [] σ = exec d mX7_drawn 84 [.ref 50, .int (nI n), .int (nI s), .int c, .long (lN s), uu, .int (nI 0), z] [] σ' ∧ (∀ j, k ≤ j → j < 6 → σ' 59 j = σ 51 j) ∧ (∀ j, j < k → σ' 59 j = σ 59 j) ∧ ∀ a, a ≠ 59 → σ' a = σ a
  | 0, k, σ, hk => by
    intro x y z
    obtain rfl : k = 6 := by omega
    refine ⟨σ, ?_, fun j h1 h2 => by omega, fun _ _ => rfl, fun _ _ => rfl⟩
    rw [hX7_drawn_50]
    simp (disch := omega) only [kX7_drawn_0, kX7_drawn_1, kX7_drawn_2, eq_self, Nat.reduceEqDiff, Nat.one_ne_zero, Nat.zero_ne_one, z_0, z_lt, z_le, z_eq, z_add, z_mul, z_inb, z_cl, z_b0, z_b1, z_b01, z_b010, z_b011, kb_v, kb_n, List.cons_append, List.nil_append, if_true, if_false, ↓reduceIte, Bool.false_eq_true, Bool.true_eq_false, decide_eq_true_eq, decide_eq_false_iff_not, not_false_eq_true, Nat.le_refl, l_i2l]
  | m + 1, k, σ, hk => by
    intro x y z
    obtain ⟨σ', e, h1, h2, h3⟩ := m_d1_loop d (n := n) s hs c m (k + 1) (up σ 59 k (σ 51 k)) (by omega) x y z
    refine ⟨σ', ?_, fun j g1 g2 => ?_, fun j g => ?_, fun a ha => ?_⟩
    · rw [← e, hX7_drawn_50]
      simp (disch := omega) only [kX7_drawn_0, kX7_drawn_1, kX7_drawn_2, eq_self, Nat.reduceEqDiff, Nat.one_ne_zero, Nat.zero_ne_one, z_0, z_lt, z_le, z_eq, z_add, z_mul, z_inb, z_cl, z_b0, z_b1, z_b01, z_b010, z_b011, kb_v, kb_n, List.cons_append, List.nil_append, if_true, if_false, ↓reduceIte, Bool.false_eq_true, Bool.true_eq_false, decide_eq_true_eq, decide_eq_false_iff_not, not_false_eq_true]
      rw [if_neg (by omega)]
    · by_cases q : j = k
      · subst q; rw [h2 j (by omega), up_s]
      · rw [h1 j (by omega) g2, up_k (by omega)]
    · rw [h2 j (by omega), up_j (by omega)]
    · rw [h3 a ha, up_of ha]
theorem m_d3_loop (d : Nat) (n s c : Value) (l : Int64) (an : Int32) : ∀ m k (σ : Sg), k + m = 6 → ∃ σ', exec d mX7_drawn 192 [.ref 50, n, s, c, .long l, uu, .int an, .int (nI k)] [] σ = some (some (.int an), σ') ∧ (∀ j, k ≤ j → j < 6 → σ' 51 j = σ 59 j) ∧ (∀ j, j < k ∨ 6 ≤ j → σ' 51 j = σ 51 j) ∧ ∀ a, a ≠ 51 → σ' a = σ a
  | 0, k, σ, hk => by
    obtain rfl : k = 6 := by omega
    refine ⟨σ, ?_, fun j h1 h2 => by omega, fun _ _ => rfl, fun _ _ => rfl⟩
    rw [hX7_drawn_192]
    simp (disch := omega) only [kX7_drawn_0, kX7_drawn_1, kX7_drawn_2, eq_self, Nat.reduceEqDiff, Nat.one_ne_zero, Nat.zero_ne_one, z_0, z_lt, z_le, z_eq, z_add, z_mul, z_inb, z_cl, z_b0, z_b1, z_b01, z_b010, z_b011, kb_v, kb_n, List.cons_append, List.nil_append, if_true, if_false, ↓reduceIte, Bool.false_eq_true, Bool.true_eq_false, decide_eq_true_eq, decide_eq_false_iff_not, not_false_eq_true, Nat.le_refl]
  | m + 1, k, σ, hk => by
    obtain ⟨σ', e, h1, h2, h3⟩ := m_d3_loop d n s c l an m (k + 1) (up σ 51 k (σ 59 k)) (by omega)
    refine ⟨σ', ?_, fun j g1 g2 => ?_, fun j g => ?_, fun a ha => ?_⟩
    · rw [← e, hX7_drawn_192]
      simp (disch := omega) only [kX7_drawn_0, kX7_drawn_1, kX7_drawn_2, eq_self, Nat.reduceEqDiff, Nat.one_ne_zero, Nat.zero_ne_one, z_0, z_lt, z_le, z_eq, z_add, z_mul, z_inb, z_cl, z_b0, z_b1, z_b01, z_b010, z_b011, kb_v, kb_n, List.cons_append, List.nil_append, if_true, if_false, ↓reduceIte, Bool.false_eq_true, Bool.true_eq_false, decide_eq_true_eq, decide_eq_false_iff_not, not_false_eq_true]
      rw [if_neg (by omega)]
    · by_cases q : j = k
      · subst q; rw [h2 j (by omega), up_s]
      · rw [h1 j (by omega) g2, up_k (by omega)]
    · rw [h2 j (by omega), up_j (by omega)]
    · rw [h3 a ha, up_of ha]
theorem m_dstep {σ : Sg} {T : TT} (h : MT σ 0 T) (w : WF T) (h7 : 1 ≤ T 7) (d : Nat) {n k x : Nat} (s c : Int32) (hx : nx x < 2147483648) (hk : k < n) (hn : n ≤ 30) (z : Value) (hxx : x < 2147483648) : ∃ σ' z', exec (d + 4) mX7_drawn 84 [.ref 50, .int (nI n), .int s, .int c, .long (lN x), uu, .int (nI k), z] [] σ = exec (d + 4) mX7_drawn 84 [.ref 50, .int (nI n), .int s, .int c, .long (lN (nx x)), uu, .int (nI (k + 1)), z'] [] σ' ∧ MT σ' 0 (drw T (nx x)) ∧ (∀ j, 5 ≤ j → σ' 51 j = σ 51 j) ∧ ∀ a, a ≠ 51 → σ' a = σ a := by
  have w1 := w.1
  have hp : nx x % T 7 < T 7 := Nat.mod_lt _ (by omega)
  have hpw := pw_le (p := nx x % T 7) (by omega)
  have hnx : x * 16807 % 2147483647 = nx x := rfl
  rw [hX7_drawn_84]
  by_cases hm : may T (nx x % T 7) (T 3) (T 0) (T 1) (T 2) = true
  · obtain ⟨σ1, e1, hx1, hs1, hj1⟩ := m_makes h w (d + 1) hp hm
    have e1 : cal (d + 4) mX7_makes [.ref 50, .int (nI (nx x % T 7))] σ = _ := e1
    have h4' := (MT0 hx1).2.2.2.2.1
    have h8 := w.1
    unfold drw
    by_cases q : nx x % 5 = 0
    · refine ⟨up σ1 51 4 (nI (mkT T (nx x % T 7) 4 ||| 2 ^ (nx x % T 7))), .int (nI (nx x % T 7)), ?_, ?_, fun j hj => ?_, fun a ha => ?_⟩
      · simp (disch := omega) only [kX7_drawn_0, kX7_drawn_1, kX7_drawn_2, MT0 h, eq_self, Nat.reduceEqDiff, Nat.one_ne_zero, Nat.zero_ne_one, z_0, z_lt, z_le, z_eq, z_add, z_mul, z_inb, z_cl, z_b0, z_b1, z_b01, z_b010, z_b011, kb_v, kb_n, List.cons_append, List.nil_append, if_true, if_false, ↓reduceIte, Bool.false_eq_true, Bool.true_eq_false, decide_eq_true_eq, decide_eq_false_iff_not, not_false_eq_true, lN_mul, l_i2l, l_0, l_eq, l_rem, hnx, lN_i, m_mayNow h w, hm, e1, cmp_eq0, h4', z_one, z_or, Nat.reduceEqDiff]
        rw [if_neg (by omega), if_neg (by omega), if_pos q]
      · rw [if_pos hm, if_pos q]
        refine MT_mk (by rw [mkT_hi (by omega)]; omega) (by rw [mkT_hi (by omega)]; omega) hx1 (fun k hk => s4_hi (by omega)) (fun j h1 h2 => up_j (by omega)) (fun k hk => ?_)
        by_cases qk : k = 4
        · subst qk; rw [up_s, s4_4]
        · rw [up_j qk, s4_hi qk]
          have := hx1.1 k (by omega)
          rwa [Nat.zero_add] at this
      · rw [up_j (by omega)]; exact hj1 j hj
      · rw [up_of ha]; exact hs1 a ha
    · refine ⟨up σ1 51 4 (nI (mkT T (nx x % T 7) 4)), .int (nI (nx x % T 7)), ?_, ?_, fun j hj => ?_, fun a ha => ?_⟩
      · simp (disch := omega) only [kX7_drawn_0, kX7_drawn_1, kX7_drawn_2, MT0 h, eq_self, Nat.reduceEqDiff, Nat.one_ne_zero, Nat.zero_ne_one, z_0, z_lt, z_le, z_eq, z_add, z_mul, z_inb, z_cl, z_b0, z_b1, z_b01, z_b010, z_b011, kb_v, kb_n, List.cons_append, List.nil_append, if_true, if_false, ↓reduceIte, Bool.false_eq_true, Bool.true_eq_false, decide_eq_true_eq, decide_eq_false_iff_not, not_false_eq_true, lN_mul, l_i2l, l_0, l_eq, l_rem, hnx, lN_i, m_mayNow h w, hm, e1, cmp_eq0, h4', z_one, z_or, Nat.reduceEqDiff, Nat.or_zero]
        rw [if_neg (by omega), if_neg (by omega), if_neg q]
      · rw [if_pos hm, if_neg q]
        refine MT_mk (by rw [mkT_hi (by omega)]; omega) (by rw [mkT_hi (by omega)]; omega) hx1 (fun k hk => rfl) (fun j h1 h2 => up_j (by omega)) (fun k hk => ?_)
        by_cases qk : k = 4
        · subst qk; rw [up_s]
        · rw [up_j qk]
          have := hx1.1 k (by omega)
          rwa [Nat.zero_add] at this
      · rw [up_j (by omega)]; exact hj1 j hj
      · rw [up_of ha]; exact hs1 a ha
  · have hm' : may T (nx x % T 7) (T 3) (T 0) (T 1) (T 2) = false := by simpa using hm
    refine ⟨σ, .int (nI (nx x % T 7)), ?_, ?_, fun _ _ => rfl, fun _ _ => rfl⟩
    · simp (disch := omega) only [kX7_drawn_0, kX7_drawn_1, kX7_drawn_2, MT0 h, eq_self, Nat.reduceEqDiff, Nat.one_ne_zero, Nat.zero_ne_one, z_0, z_lt, z_le, z_eq, z_add, z_mul, z_inb, z_cl, z_b0, z_b1, z_b01, z_b010, z_b011, kb_v, kb_n, List.cons_append, List.nil_append, if_true, if_false, ↓reduceIte, Bool.false_eq_true, Bool.true_eq_false, decide_eq_true_eq, decide_eq_false_iff_not, not_false_eq_true, lN_mul, l_i2l, l_0, l_eq, l_rem, hnx, lN_i, m_mayNow h w, hm', Nat.reduceEqDiff]
      rw [if_neg (by omega), if_neg (by omega)]
    · unfold drw; rw [if_neg hm]; exact h
theorem m_d2_loop (d : Nat) {n : Nat} (hn : n ≤ 30) (s c : Int32) : ∀ m k (σ : Sg) (U : TT) (x : Nat) (z : Value), k + m = n → MT σ 0 U → WF U → 1 ≤ U 7 → x < 2147483648 → ∃ σ' l, exec (d + 4) mX7_drawn 84 [.ref 50, .int (nI n), .int s, .int c, .long (lN x), uu, .int (nI k), z] [] σ = exec (d + 4) mX7_drawn 192 [.ref 50, .int (nI n), .int s, .int c, .long l, uu, .int (dan (drn m U x) c), .int (nI 0)] [] σ' ∧ (∀ j, 5 ≤ j → σ' 51 j = σ 51 j) ∧ ∀ a, a ≠ 51 → σ' a = σ a
  | 0, k, σ, U, x, z, hk, h, w, h7, hx => by
    have w1 := w.1
    obtain rfl : k = n := by omega
    refine ⟨σ, lN x, ?_, fun _ _ => rfl, fun _ _ => rfl⟩
    rw [hX7_drawn_84]
    simp (disch := omega) only [kX7_drawn_0, kX7_drawn_1, kX7_drawn_2, MT0 h, eq_self, Nat.reduceEqDiff, Nat.one_ne_zero, Nat.zero_ne_one, z_0, z_lt, z_le, z_eq, z_add, z_mul, z_inb, z_cl, z_b0, z_b1, z_b01, z_b010, z_b011, kb_v, kb_n, List.cons_append, List.nil_append, if_true, if_false, ↓reduceIte, Bool.false_eq_true, Bool.true_eq_false, decide_eq_true_eq, decide_eq_false_iff_not, not_false_eq_true, Nat.le_refl, m_ones]
    unfold dan drn
    split <;> rfl
  | m + 1, k, σ, U, x, z, hk, h, w, h7, hx => by
    have hnx := nx_lt x
    obtain ⟨σ1, z', e1, hx1, hj1, hs1⟩ := m_dstep h w h7 d s c (x := x) (by omega) (show k < n by omega) hn z (by omega)
    obtain ⟨w2, hi2⟩ := drw_ok w h7 (nx x)
    obtain ⟨σ2, l, e2, hj2, hs2⟩ := m_d2_loop d hn s c m (k + 1) σ1 _ (nx x) z' (by omega) hx1 w2 (by rw [hi2 7 (by omega)]; exact h7) (by omega)
    exact ⟨σ2, l, by rw [drn, ← e2]; exact e1, fun j hj => by rw [hj2 j hj, hj1 j hj], fun a ha => by rw [hs2 a ha, hs1 a ha]⟩
theorem b_drawn (a b c : Int32) : BO mX6_drawn mX7_drawn [.int a, .int b, .int c] := by
  rintro ⟨T, I0, I1, A, rz, rl, it, tn, tp, ft, fs, cn, ct⟩ ok
  have w : WF T := ok.1
  have w1 := w.1
  rcases (show T 6 = 0 ∨ T 6 = 1 by omega) with h6 | h6
  · refine ⟨.int (-1000002), _, XO_id fun σ d h => ?_, MO_id fun σ d h => ?_, ok⟩
    · have hT := h.1
      rw [aX6_drawn_0]
      simp (disch := omega) only [kX6_drawn_0, kX6_drawn_1, eq_self, Nat.reduceEqDiff, Nat.one_ne_zero, Nat.zero_ne_one, z_0, z_lt, z_le, z_eq, z_add, z_mul, z_inb, z_cl, z_b0, z_b1, z_b01, z_b010, z_b011, kb_v, kb_n, List.cons_append, List.nil_append, if_true, if_false, ↓reduceIte, Bool.false_eq_true, Bool.true_eq_false, decide_eq_true_eq, decide_eq_false_iff_not, not_false_eq_true, XT8 hT, h6]
    · have hT := h.1
      rw [aX7_drawn_50]
      simp (disch := omega) only [kX7_drawn_0, kX7_drawn_1, kX7_drawn_2, eq_self, Nat.reduceEqDiff, Nat.one_ne_zero, Nat.zero_ne_one, z_0, z_lt, z_le, z_eq, z_add, z_mul, z_inb, z_cl, z_b0, z_b1, z_b01, z_b010, z_b011, kb_v, kb_n, List.cons_append, List.nil_append, if_true, if_false, ↓reduceIte, Bool.false_eq_true, Bool.true_eq_false, decide_eq_true_eq, decide_eq_false_iff_not, not_false_eq_true, m_isTrial hT w, h6]
  by_cases hb : isin a 31 = true ∧ inr b 1 999999 = true ∧ isin c 2 = true
  · obtain ⟨hb1, hb2, hb3⟩ := hb
    obtain ⟨n, hn, rfl⟩ := (isin_t (by omega)).mp hb1
    obtain ⟨s, hs1, hs2, rfl⟩ := (inr_t (by omega)).mp hb2
    have h7 : 1 ≤ T 7 := w.2.2.2.2.2.2 h6
    refine ⟨.int (dan (drn n T s) c), _, fun σ d h => ?_, fun σ d h => ?_, ok⟩
    · have hT := h.1
      obtain ⟨σ1, e1, hx1, hs1⟩ := x_cf_35_8 hT w (d + 28)
      have e1 : cal (d + 29) mX5_copyFrom [.ref 35, .ref 8] σ = _ := e1
      obtain ⟨σ2, e2, hs2⟩ := x_dr_loop (d + 25) (n := n) (by omega) (nI s) c n 0 σ1 T s (by omega) hx1 w h7 (by omega)
      have hsm : ∀ a, a < 35 ∨ 43 < a → σ2 a = σ a := fun a ha => by rw [hs2 a ha, hs1 a ha]
      refine ⟨σ2, ?_, XR_st fs h (fun a ha => hsm a (by omega)) (by rw [hsm 0 (by omega)]) (by rw [hsm 0 (by omega)]; exact h.2.2.2.2.2.2.2.1), fun a ha => hsm a (by omega)⟩
      rw [aX6_drawn_0]
      simp (disch := omega) only [kX6_drawn_0, kX6_drawn_1, eq_self, Nat.reduceEqDiff, Nat.one_ne_zero, Nat.zero_ne_one, z_0, z_lt, z_le, z_eq, z_add, z_mul, z_inb, z_cl, z_b0, z_b1, z_b01, z_b010, z_b011, kb_v, kb_n, List.cons_append, List.nil_append, if_true, if_false, ↓reduceIte, Bool.false_eq_true, Bool.true_eq_false, decide_eq_true_eq, decide_eq_false_iff_not, not_false_eq_true, XT8 hT, h6, e1, e_isOne, hb3, Nat.not_lt_zero, l_i2l]
      rw [if_neg (by omega), if_neg (by omega), if_neg (by omega)]
      exact e2
    · have hT := h.1
      obtain ⟨σ1, e1, h1a, _, h1s⟩ := m_d1_loop (d + 29) (n := n) s (by omega) c 6 0 σ (by omega) uu uu uu
      obtain ⟨σ2, l, e2, h2j, h2s⟩ := m_d2_loop (d + 25) (n := n) (by omega) (nI s) c n 0 σ1 T s uu (by omega) (MT_same hT (h1s 51 (by omega))) w h7 (by omega)
      obtain ⟨σ3, e3, h3a, h3b, h3s⟩ := m_d3_loop (d + 29) (.int (nI n)) (.int (nI s)) (.int c) l (dan (drn n T s) c) 6 0 σ2 (by omega)
      have hall : ∀ a, a ≠ 51 → a ≠ 59 → σ3 a = σ a := fun a q1 q2 => by rw [h3s a q1, h2s a q1, h1s a q2]
      refine ⟨σ3, ?_, MR_st w ok.2.1 ok.2.2.1 fs h (fun j hj => ?_) (fun a ha => hall a (by omega) (by omega)) (by rw [hall 50 (by omega) (by omega)]) (by rw [hall 50 (by omega) (by omega)]) (by rw [hall 50 (by omega) (by omega)]) (by rw [hall 50 (by omega) (by omega)]) (by rw [hall 50 (by omega) (by omega)]; exact h.2.2.2.2.2.2.2.2.1), fun a ha => hall a (by omega) (by omega)⟩
      · rw [aX7_drawn_50]
        simp (disch := omega) only [kX7_drawn_0, kX7_drawn_1, kX7_drawn_2, eq_self, Nat.reduceEqDiff, Nat.one_ne_zero, Nat.zero_ne_one, z_0, z_lt, z_le, z_eq, z_add, z_mul, z_inb, z_cl, z_b0, z_b1, z_b01, z_b010, z_b011, kb_v, kb_n, List.cons_append, List.nil_append, if_true, if_false, ↓reduceIte, Bool.false_eq_true, Bool.true_eq_false, decide_eq_true_eq, decide_eq_false_iff_not, not_false_eq_true, m_isTrial hT w, h6, m_inN, inr_0, hb1, hb2, hb3]
        exact e1.trans (e2.trans e3)
      · by_cases q : j < 6
        · rw [h3a j (by omega) q, h2s 59 (by omega), h1a j (by omega) q]
        · rw [h3b j (by omega), h2j j (by omega), h1s 51 (by omega)]
  · refine ⟨.int (-1000001), _, XO_id fun σ d h => ?_, MO_id fun σ d h => ?_, ok⟩
    · have hT := h.1
      rw [aX6_drawn_0]
      simp (disch := omega) only [kX6_drawn_0, kX6_drawn_1, eq_self, Nat.reduceEqDiff, Nat.one_ne_zero, Nat.zero_ne_one, z_0, z_lt, z_le, z_eq, z_add, z_mul, z_inb, z_cl, z_b0, z_b1, z_b01, z_b010, z_b011, kb_v, kb_n, List.cons_append, List.nil_append, if_true, if_false, ↓reduceIte, Bool.false_eq_true, Bool.true_eq_false, decide_eq_true_eq, decide_eq_false_iff_not, not_false_eq_true, XT8 hT, h6, e_isOne, lt_I, le_I, z_tI]
      by_cases q1 : isin a 31 = true
      · by_cases q2 : inr b 1 999999 = true
        · have q3 : isin c 2 = false := by
            cases q : isin c 2
            · rfl
            · exact absurd ⟨q1, q2, q⟩ hb
          unfold isin at q1
          unfold inr at q2
          rw [decide_eq_true_iff] at q1 q2
          rw [if_neg (by omega), if_neg (by omega), if_neg (by omega), if_neg (by omega), q3, if_pos rfl]
        · unfold isin at q1
          unfold inr at q2
          rw [decide_eq_true_iff] at q1 q2
          rw [if_neg (by omega), if_neg (by omega)]
          split
          · rfl
          · rw [if_pos (by omega)]
      · unfold isin at q1
        rw [decide_eq_true_iff] at q1
        split
        · rfl
        · rw [if_pos (by omega)]
    · have hT := h.1
      rw [aX7_drawn_50]
      simp (disch := omega) only [kX7_drawn_0, kX7_drawn_1, kX7_drawn_2, eq_self, Nat.reduceEqDiff, Nat.one_ne_zero, Nat.zero_ne_one, z_0, z_lt, z_le, z_eq, z_add, z_mul, z_inb, z_cl, z_b0, z_b1, z_b01, z_b010, z_b011, kb_v, kb_n, List.cons_append, List.nil_append, if_true, if_false, ↓reduceIte, Bool.false_eq_true, Bool.true_eq_false, decide_eq_true_eq, decide_eq_false_iff_not, not_false_eq_true, m_isTrial hT w, h6, m_inN, inr_0]
      cases q1 : isin a 31 <;> cases q2 : inr b 1 999999 <;> cases q3 : isin c 2 <;> simp_all
