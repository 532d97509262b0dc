/-! skills -/
def mdk (T pk : TT) : Nat → Nat
  | 0 => T 3
  | k + 1 => mdk T pk k ||| 2 ^ (pk k)
def skk (T pk : TT) (b : Nat) : Nat → Nat
  | 0 => b
  | k + 1 => skb (T (9 + pk k)) (skk T pk b k)
theorem skb_le {k s : Nat} (h : s ≤ 20) : skb k s ≤ 20 := by unfold skb; split <;> omega
theorem skk_le (T pk : TT) {b : Nat} (h : b ≤ 20) : ∀ k, skk T pk b k ≤ 20
  | 0 => h
  | k + 1 => skb_le (skk_le T pk h k)
theorem mdk_lt {T pk : TT} (h3 : T 3 < 128) {n : Nat} (h : ∀ k, k < n → pk k < 7) : ∀ k, k ≤ n → mdk T pk k < 128
  | 0, _ => h3
  | k + 1, hk => or_128 (mdk_lt h3 h k (by omega)) (by have := pw_le (h k (by omega)); omega)
def maB (T pk : TT) : Nat → Bool := fun k => !(mdk T pk k).testBit (pk k) && rdy T (pk k) (mdk T pk k)
def faB (T pk : TT) (g : Nat → Int32) (b : Nat) : Nat → Bool := fun k => decide (nI (flt T (pk k) (skk T pk b k)).toNat = g k)
theorem alB_and (P Q : Nat → Bool) : ∀ n, alB (fun k => P k && Q k) n = (alB P n && alB Q n)
  | 0 => rfl
  | n + 1 => by
    rw [alB, alB, alB, alB_and P Q n]
    cases alB P n <;> cases alB Q n <;> cases P n <;> cases Q n <;> rfl
theorem x_mt_loop {σ : Sg} {T rz rl : TT} {it : Nat → Nat → Int32} (h : XT σ 8 T) (w : WF T) (hw : XW σ rz rl it) (d : Nat) {r i n b : Nat} {pk : TT} {g : Nat → Int32} (hb : b ≤ 20) (hr : r < 8) (h1 : rz r ≤ 41) (hi : i + 2 * n < rz r) (hg : ∀ k, k < n → it r (i + 2 * k) = nI (pk k) ∧ pk k < T 7 ∧ it r (i + 2 * k + 1) = g k) (c : Int32) : ∀ m k, k + m = n → alB (fun k => maB T pk k && faB T pk g b k) k = true → ∀ x y z : Value, exec (d + 3) mX6_isMadeAsTold 16 [.ref 0, .int (nI r), .int (nI i), .int (nI n), .int c, .int (nI (skk T pk b k)), .int (nI (mdk T pk k)), .int (nI k), x, y, z] [] σ = some (some (.int (nI (alB (fun k => maB T pk k && faB T pk g b k) n).toNat)), σ)
  | 0, k, hk, ha => by
    intro x y z
    obtain rfl : k = n := by omega
    rw [hX6_isMadeAsTold_16]
    simp (disch := omega) only [kX6_isMadeAsTold_0, kX6_isMadeAsTold_1, kX6_isMadeAsTold_2, eq_self, Nat.reduceEqDiff, Nat.one_ne_zero, Nat.zero_ne_one, z_0, z_lt, z_le, z_eq, z_add, z_mul, z_inb, z_cl, z_b0, z_b1, z_b01, z_b010, z_b011, kb_v, kb_n, List.cons_append, List.nil_append, if_true, if_false, ↓reduceIte, Bool.false_eq_true, Bool.true_eq_false, decide_eq_true_eq, decide_eq_false_iff_not, not_false_eq_true, Nat.le_refl]
    rw [ha]
    rfl
  | m + 1, k, hk, ha => by
    intro x y z
    have w1 := w.1
    obtain ⟨e0, e3, e1⟩ := hg k (by omega)
    have wp := w.2.2.2.1 _ e3
    have hpw := pw_le (p := pk k) (by omega)
    have hsk := skk_le T pk hb k
    have hmd := mdk_lt (T := T) (pk := pk) (n := n) (by omega) (fun j hj => by have := (hg j hj).2.1; omega) k (by omega)
    have hip : isin (nI (pk k)) (T 7) = true := by rw [isin_n (by omega)]; exact decide_eq_true e3
    have ih := x_mt_loop h w hw d hb hr h1 hi hg c m (k + 1) (by omega)
    rw [alB, ha, Bool.true_and, skk, mdk] at ih
    have hfn : (maB T pk k && faB T pk g b k) = false → alB (fun k => maB T pk k && faB T pk g b k) n = false := fun q => alB_f (P := fun k => maB T pk k && faB T pk g b k) q _ (by omega)
    rw [hX6_isMadeAsTold_16]
    simp (disch := omega) only [kX6_isMadeAsTold_0, kX6_isMadeAsTold_1, kX6_isMadeAsTold_2, XT8 h, eq_self, Nat.reduceEqDiff, Nat.one_ne_zero, Nat.zero_ne_one, z_0, z_lt, z_le, z_eq, z_add, z_mul, z_inb, z_cl, z_b0, z_b1, z_b01, z_b010, z_b011, kb_v, kb_n, List.cons_append, List.nil_append, if_true, if_false, ↓reduceIte, Bool.false_eq_true, Bool.true_eq_false, decide_eq_true_eq, decide_eq_false_iff_not, not_false_eq_true, x_item hw, e0, e1, e_flawed, e_bit, x_isPart h w, hip, x_isReady_8 h w, e_skb, z_one, z_or]
    rw [if_neg (by omega)]
    unfold maB faB flt at *
    cases q1 : (mdk T pk k).testBit (pk k)
    · cases q2 : rdy T (pk k) (mdk T pk k)
      · rw [hfn (by simp [q1, q2])]
        simp
      · cases q3 : fla (T (9 + pk k)) (T (16 + pk k)) (skk T pk b k)
        · by_cases q4 : nI 0 = g k
          · simp only [q1, q2, q3, q4, Bool.not_false, Bool.true_and, Bool.toNat_false, decide_true, Bool.false_eq_true, if_false, if_true, Bool.true_eq_false] at ih ⊢
            exact ih trivial _ _ _
          · rw [hfn (by simp [q1, q2, q3, q4])]
            simp [q4]
        · by_cases q4 : nI 1 = g k
          · simp only [q1, q2, q3, q4, Bool.not_false, Bool.true_and, Bool.toNat_true, decide_true, Bool.false_eq_true, if_false, if_true, Bool.true_eq_false] at ih ⊢
            exact ih trivial _ _ _
          · rw [hfn (by simp [q1, q2, q3, q4])]
            simp [q4]
    · rw [hfn (by simp [q1])]
      simp
theorem x_mt {σ : Sg} {T rz rl : TT} {it : Nat → Nat → Int32} (h : XT σ 8 T) (w : WF T) (hw : XW σ rz rl it) (d : Nat) {r i n b : Nat} {pk : TT} {g : Nat → Int32} (hb : b ≤ 20) (hr : r < 8) (h1 : rz r ≤ 41) (hi : i + 2 * n < rz r) (hg : ∀ k, k < n → it r (i + 2 * k) = nI (pk k) ∧ pk k < T 7 ∧ it r (i + 2 * k + 1) = g k) : cal (d + 4) mX6_isMadeAsTold [.ref 0, .int (nI r), .int (nI i), .int (nI n), .int (nI b)] σ = some (some (.int (nI (alB (fun k => maB T pk k && faB T pk g b k) n).toNat)), σ) := by
  rw [aX6_isMadeAsTold_0]
  simp (disch := omega) only [kX6_isMadeAsTold_0, kX6_isMadeAsTold_1, kX6_isMadeAsTold_2, eq_self, Nat.reduceEqDiff, Nat.one_ne_zero, Nat.zero_ne_one, z_0, z_lt, z_le, z_eq, z_add, z_mul, z_inb, z_cl, z_b0, z_b1, z_b01, z_b010, z_b011, kb_v, kb_n, List.cons_append, List.nil_append, if_true, if_false, ↓reduceIte, Bool.false_eq_true, Bool.true_eq_false, decide_eq_true_eq, decide_eq_false_iff_not, not_false_eq_true, XT8 h]
  exact x_mt_loop h w hw d hb hr h1 hi hg (nI b) n 0 (by omega) rfl _ _ _
abbrev isp (T : TT) (g : Nat → Int32) : Nat → Bool := fun k => isin (g k) (T 7)
theorem x_sc_loop {σ : Sg} {T rz rl : TT} {it : Nat → Nat → Int32} (h : XT σ 8 T) (w : WF T) (hw : XW σ rz rl it) (d : Nat) {r i n : Nat} (hr : r < 8) (h1 : rz r ≤ 41) (hi : i + 2 * n < rz r) : ∀ m k, k + m = n → ∀ x : Value, exec (d + 3) mX6_skills 76 [.ref 0, .int (nI r), .int (nI i), .int (nI n), .int (nI k), x] [] σ = if alF (isp T fun k => it r (i + 2 * k)) k m = true then exec (d + 3) mX6_skills 118 [.ref 0, .int (nI r), .int (nI i), .int (nI n), .int (nI 0), .int (nI 0)] [] σ else some (some (.int (-1000001)), σ)
  | 0, k, hk => by
    intro x
    obtain rfl : k = n := by omega
    rw [hX6_skills_76]
    simp (disch := omega) only [kX6_skills_0, kX6_skills_1, kX6_skills_2, eq_self, Nat.reduceEqDiff, Nat.one_ne_zero, Nat.zero_ne_one, z_0, z_lt, z_le, z_eq, z_add, z_mul, z_inb, z_cl, z_b0, z_b1, z_b01, z_b010, z_b011, kb_v, kb_n, List.cons_append, List.nil_append, if_true, if_false, ↓reduceIte, Bool.false_eq_true, Bool.true_eq_false, decide_eq_true_eq, decide_eq_false_iff_not, not_false_eq_true, Nat.le_refl, alF]
  | m + 1, k, hk => by
    intro x
    have ih := x_sc_loop h w hw d hr h1 hi m (k + 1) (by omega)
    rw [hX6_skills_76]
    simp (disch := omega) only [kX6_skills_0, kX6_skills_1, kX6_skills_2, eq_self, Nat.reduceEqDiff, Nat.one_ne_zero, Nat.zero_ne_one, z_0, z_lt, z_le, z_eq, z_add, z_mul, z_inb, z_cl, z_b0, z_b1, z_b01, z_b010, z_b011, kb_v, kb_n, List.cons_append, List.nil_append, if_true, if_false, ↓reduceIte, Bool.false_eq_true, Bool.true_eq_false, decide_eq_true_eq, decide_eq_false_iff_not, not_false_eq_true, x_item hw, x_isPart h w]
    rw [if_neg (by omega), alF]
    cases q : isin (it r (i + 2 * k)) (T 7)
    · simp only [isp, q, Bool.false_and, Bool.false_eq_true, if_false, if_true]
    · simp only [isp, q, Bool.true_and, Bool.true_eq_false, if_false]
      exact ih _
abbrev skq (T pk : TT) (g : Nat → Int32) (n : Nat) : Nat → Bool := fun b => alB (fun k => maB T pk k && faB T pk g b k) n
theorem p21_le {k : Nat} (h : k < 21) : 2 ^ k ≤ 1048576 := by
  have : 2 ^ k ≤ 2 ^ 20 := Nat.pow_le_pow_right (by omega) (by omega)
  omega
theorem x_so_loop {σ : Sg} {T rz rl : TT} {it : Nat → Nat → Int32} (h : XT σ 8 T) (w : WF T) (hw : XW σ rz rl it) (d : Nat) {r i n : Nat} {pk : TT} {g : Nat → Int32} (hr : r < 8) (h1 : rz r ≤ 41) (hi : i + 2 * n < rz r) (hg : ∀ k, k < n → it r (i + 2 * k) = nI (pk k) ∧ pk k < T 7 ∧ it r (i + 2 * k + 1) = g k) : ∀ m k, k + m = 21 → exec (d + 4) mX6_skills 118 [.ref 0, .int (nI r), .int (nI i), .int (nI n), .int (nI (bse (skq T pk g n) k)), .int (nI k)] [] σ = some (some (.int (nI (bse (skq T pk g n) 21))), up σ 0 10 (nI 0))
  | 0, k, hk => by
    obtain rfl : k = 21 := by omega
    rw [hX6_skills_118]
    simp (disch := omega) only [kX6_skills_0, kX6_skills_1, kX6_skills_2, eq_self, Nat.reduceEqDiff, Nat.one_ne_zero, Nat.zero_ne_one, z_0, z_lt, z_le, z_eq, z_add, z_mul, z_inb, z_cl, z_b0, z_b1, z_b01, z_b010, z_b011, kb_v, kb_n, List.cons_append, List.nil_append, if_true, if_false, ↓reduceIte, Bool.false_eq_true, Bool.true_eq_false, decide_eq_true_eq, decide_eq_false_iff_not, not_false_eq_true, x_clean, Nat.reduceLT]
  | m + 1, k, hk => by
    have hpw := p21_le (k := k) (by omega)
    have ih := x_so_loop h w hw d hr h1 hi hg m (k + 1) (by omega)
    rw [show bse (skq T pk g n) (k + 1) = bse (skq T pk g n) k ||| (if skq T pk g n k = true then 2 ^ k else 0) from rfl] at ih
    rw [hX6_skills_118]
    simp (disch := first | omega | assumption) only [kX6_skills_0, kX6_skills_1, kX6_skills_2, eq_self, Nat.reduceEqDiff, Nat.one_ne_zero, Nat.zero_ne_one, z_0, z_lt, z_le, z_eq, z_add, z_mul, z_inb, z_cl, z_b0, z_b1, z_b01, z_b010, z_b011, kb_v, kb_n, List.cons_append, List.nil_append, if_true, if_false, ↓reduceIte, Bool.false_eq_true, Bool.true_eq_false, decide_eq_true_eq, decide_eq_false_iff_not, not_false_eq_true, x_mt h w hw d (g := g) (pk := pk), z_one, z_or]
    rw [if_neg (by omega)]
    cases q : alB (fun j => maB T pk j && faB T pk g k j) n
    · simp only [skq, q, if_true, Bool.false_eq_true, if_false, Nat.or_zero] at ih ⊢
      exact ih
    · simp only [skq, q, if_true, Bool.true_eq_false, if_false] at ih ⊢
      exact ih
theorem m_sb_loop {σ : Sg} {T : TT} (h : MT σ 0 T) (w : WF T) {g : Nat → Int32} (d : Nat) {r i n : Nat} (b : Int32) (hr : r < 8) (hi : i + 2 * n < 41) (hg : ∀ k, k < n → σ 54 (40 * r + i + 2 * k) = g k) : ∀ m k, k + m = n → alF (isp T g) k m = false → ∀ md, md < 128 → ∀ (my : Bool) (x y z u v : Value), exec (d + 3) mX7_skills 65 [.ref 50, .int (nI r), .int (nI i), .int (nI n), .int b, .int (nI md), .int (nI my.toNat), .int (nI k), x, y, z, u, v] [] σ = some (some (.int (-1000001)), σ)
  | 0, k, hk, ha => by simp [alF] at ha
  | m + 1, k, hk, ha => by
    intro md hmd my x y z u v
    have w1 := w.1
    have hgk := hg k (by omega)
    have ih := m_sb_loop h w d b hr hi hg m (k + 1) (by omega)
    rw [alF] at ha
    rw [hX7_skills_65]
    cases q : isin (g k) (T 7)
    · simp (disch := omega) only [kX7_skills_0, kX7_skills_1, kX7_skills_2, kX7_skills_3, kX7_skills_4, eq_self, Nat.reduceEqDiff, Nat.one_ne_zero, Nat.zero_ne_one, z_0, z_lt, z_le, z_eq, z_add, z_mul, z_inb, z_cl, z_b0, z_b1, z_b01, z_b010, z_b011, kb_v, kb_n, List.cons_append, List.nil_append, if_true, if_false, ↓reduceIte, Bool.false_eq_true, Bool.true_eq_false, decide_eq_true_eq, decide_eq_false_iff_not, not_false_eq_true, hgk, m_isPart h w, q]
      rw [if_neg (by omega)]
    · simp only [isp, q, Bool.true_and] at ha
      obtain ⟨p, hp, e⟩ := (isin_t (by omega)).mp q
      have wp := w.2.2.2.1 _ hp
      have hpw := pw_le (p := p) (by omega)
      have ho := or_128 (a := md) (b := 2 ^ p) (by omega) (by omega)
      rw [e] at q hgk
      simp (disch := omega) only [kX7_skills_0, kX7_skills_1, kX7_skills_2, kX7_skills_3, kX7_skills_4, eq_self, Nat.reduceEqDiff, Nat.one_ne_zero, Nat.zero_ne_one, z_0, z_lt, z_le, z_eq, z_add, z_mul, z_inb, z_cl, z_b0, z_b1, z_b01, z_b010, z_b011, kb_v, kb_n, List.cons_append, List.nil_append, if_true, if_false, ↓reduceIte, Bool.false_eq_true, Bool.true_eq_false, decide_eq_true_eq, decide_eq_false_iff_not, not_false_eq_true, hgk, m_isPart h w, q, m_has, m_isAheadMade h w, z_one, z_or]
      rw [if_neg (by omega)]
      cases my
      · simp only [if_true]
        exact ih ha _ ho false _ _ _ _ _
      · simp only [Bool.true_eq_false, if_false]
        cases md.testBit p
        · simp only [if_true]
          cases rdy T p md
          · simp only [if_true]
            exact ih ha _ ho false _ _ _ _ _
          · simp only [Bool.true_eq_false, if_false]
            exact ih ha _ ho true _ _ _ _ _
        · simp only [Bool.true_eq_false, if_false]
          exact ih ha _ ho false _ _ _ _ _
theorem m_sc_loop {σ : Sg} {T : TT} (h : MT σ 0 T) (w : WF T) (d : Nat) {r i n : Nat} {pk : TT} (b : Int32) (hr : r < 8) (hi : i + 2 * n < 41) (hg : ∀ k, k < n → σ 54 (40 * r + i + 2 * k) = nI (pk k) ∧ pk k < T 7) : ∀ m k, k + m = n → ∀ (x y z u v : Value), exec (d + 3) mX7_skills 65 [.ref 50, .int (nI r), .int (nI i), .int (nI n), .int b, .int (nI (mdk T pk k)), .int (nI (alB (maB T pk) k).toNat), .int (nI k), x, y, z, u, v] [] σ = exec (d + 3) mX7_skills 155 [.ref 50, .int (nI r), .int (nI i), .int (nI n), .int b, .int (nI (mdk T pk n)), .int (nI (alB (maB T pk) n).toNat), .int (nI 0), .int (nI 0), y, z, u, v] [] σ
  | 0, k, hk => by
    intro x y z u v
    obtain rfl : k = n := by omega
    rw [hX7_skills_65]
    simp (disch := omega) only [kX7_skills_0, kX7_skills_1, kX7_skills_2, kX7_skills_3, kX7_skills_4, eq_self, Nat.reduceEqDiff, Nat.one_ne_zero, Nat.zero_ne_one, z_0, z_lt, z_le, z_eq, z_add, z_mul, z_inb, z_cl, z_b0, z_b1, z_b01, z_b010, z_b011, kb_v, kb_n, List.cons_append, List.nil_append, if_true, if_false, ↓reduceIte, Bool.false_eq_true, Bool.true_eq_false, decide_eq_true_eq, decide_eq_false_iff_not, not_false_eq_true, Nat.le_refl]
  | m + 1, k, hk => by
    intro x y z u v
    have w1 := w.1
    obtain ⟨e0, e3⟩ := hg k (by omega)
    have wp := w.2.2.2.1 _ e3
    have hpw := pw_le (p := pk k) (by omega)
    have hmd := mdk_lt (T := T) (pk := pk) (n := n) (by omega) (fun j hj => by have := (hg j hj).2; omega) k (by omega)
    have hip : isin (nI (pk k)) (T 7) = true := by rw [isin_n (by omega)]; exact decide_eq_true e3
    have ih := m_sc_loop h w d b hr hi hg m (k + 1) (by omega) (.int (nI (pk k))) y z u v
    refine Eq.trans ?_ ih
    rw [hX7_skills_65, mdk, alB]
    simp (disch := omega) only [kX7_skills_0, kX7_skills_1, kX7_skills_2, kX7_skills_3, kX7_skills_4, eq_self, Nat.reduceEqDiff, Nat.one_ne_zero, Nat.zero_ne_one, z_0, z_lt, z_le, z_eq, z_add, z_mul, z_inb, z_cl, z_b0, z_b1, z_b01, z_b010, z_b011, kb_v, kb_n, List.cons_append, List.nil_append, if_true, if_false, ↓reduceIte, Bool.false_eq_true, Bool.true_eq_false, decide_eq_true_eq, decide_eq_false_iff_not, not_false_eq_true, e0, m_isPart h w, hip, m_has, m_isAheadMade h w, z_one, z_or]
    rw [if_neg (by omega)]
    unfold maB
    cases alB (fun k => !(mdk T pk k).testBit (pk k) && rdy T (pk k) (mdk T pk k)) k
    · simp only [if_true, Bool.false_and, Bool.toNat_false]
    · simp only [Bool.true_eq_false, if_false, Bool.true_and]
      cases (mdk T pk k).testBit (pk k)
      · cases rdy T (pk k) (mdk T pk k)
        · simp
        · simp
      · simp
theorem m_sj_loop {σ : Sg} {T : TT} (h : MT σ 0 T) (w : WF T) (d : Nat) {r i n bg : Nat} {pk : TT} {g : Nat → Int32} (b md : Int32) (my : Bool) (st : Int32) (hb : bg ≤ 20) (hr : r < 8) (hi : i + 2 * n < 41) (hg : ∀ k, k < n → σ 54 (40 * r + i + 2 * k) = nI (pk k) ∧ pk k < T 7 ∧ σ 54 (40 * r + i + 2 * k + 1) = g k) : ∀ m k, k + m = n → ∀ x : Value, ∃ x' : Value, exec (d + 3) mX7_skills 173 [.ref 50, .int (nI r), .int (nI i), .int (nI n), .int b, .int md, .int (nI my.toNat), .int st, .int (nI bg), .int (nI (skk T pk bg k)), .int (nI (my && alB (faB T pk g bg) k).toNat), .int (nI k), x] [] σ = exec (d + 3) mX7_skills 278 [.ref 50, .int (nI r), .int (nI i), .int (nI n), .int b, .int md, .int (nI my.toNat), .int st, .int (nI bg), .int (nI (skk T pk bg n)), .int (nI (my && alB (faB T pk g bg) n).toNat), .int (nI n), x'] [] σ
  | 0, k, hk => by
    intro x
    obtain rfl : k = n := by omega
    refine ⟨x, ?_⟩
    rw [hX7_skills_173]
    simp (disch := omega) only [kX7_skills_0, kX7_skills_1, kX7_skills_2, kX7_skills_3, kX7_skills_4, eq_self, Nat.reduceEqDiff, Nat.one_ne_zero, Nat.zero_ne_one, z_0, z_lt, z_le, z_eq, z_add, z_mul, z_inb, z_cl, z_b0, z_b1, z_b01, z_b010, z_b011, kb_v, kb_n, List.cons_append, List.nil_append, if_true, if_false, ↓reduceIte, Bool.false_eq_true, Bool.true_eq_false, decide_eq_true_eq, decide_eq_false_iff_not, not_false_eq_true, Nat.le_refl]
  | m + 1, k, hk => by
    intro x
    have w1 := w.1
    obtain ⟨e0, e3, e1⟩ := hg k (by omega)
    have wp := w.2.2.2.1 _ e3
    have hsk := skk_le T pk hb k
    obtain ⟨x', ih⟩ := m_sj_loop h w d b md my st hb hr hi hg m (k + 1) (by omega) (.int (nI (pk k)))
    refine ⟨x', Eq.trans ?_ ih⟩
    rw [hX7_skills_173, skk, alB, ← Bool.and_assoc]
    simp (disch := omega) only [kX7_skills_0, kX7_skills_1, kX7_skills_2, kX7_skills_3, kX7_skills_4, MT0 h, eq_self, Nat.reduceEqDiff, Nat.one_ne_zero, Nat.zero_ne_one, z_0, z_lt, z_le, z_eq, z_add, z_mul, z_inb, z_cl, z_b0, z_b1, z_b01, z_b010, z_b011, kb_v, kb_n, List.cons_append, List.nil_append, if_true, if_false, ↓reduceIte, Bool.false_eq_true, Bool.true_eq_false, decide_eq_true_eq, decide_eq_false_iff_not, not_false_eq_true, e0, e1, m_isFaultyNow h w, m_more]
    rw [if_neg (by omega)]
    unfold skb
    by_cases q5 : T (9 + pk k) = 5
    all_goals cases q0 : my && alB (faB T pk g bg) k
    all_goals first | replace q5 := eq_false q5 | replace q5 := eq_true q5
    all_goals cases q2 : flt T (pk k) (skk T pk bg k)
    all_goals simp only [faB, q2, q5, Bool.toNat_false, Bool.toNat_true, if_true, if_false, Bool.false_and, Bool.true_and, Bool.true_eq_false, Bool.false_eq_true]
    all_goals split <;> simp_all
theorem m_so_loop {σ : Sg} {T : TT} (h : MT σ 0 T) (w : WF T) (d : Nat) {r i n : Nat} {pk : TT} {g : Nat → Int32} (b md : Int32) (hr : r < 8) (hi : i + 2 * n < 41) (hg : ∀ k, k < n → σ 54 (40 * r + i + 2 * k) = nI (pk k) ∧ pk k < T 7 ∧ σ 54 (40 * r + i + 2 * k + 1) = g k) : ∀ m k, k + m = 21 → ∀ x y z u : Value, exec (d + 3) mX7_skills 155 [.ref 50, .int (nI r), .int (nI i), .int (nI n), .int b, .int md, .int (nI (alB (maB T pk) n).toNat), .int (nI (bse (skq T pk g n) k)), .int (nI k), x, y, z, u] [] σ = some (some (.int (nI (bse (skq T pk g n) 21))), up σ 50 7 (nI 0))
  | 0, k, hk => by
    intro x y z u
    obtain rfl : k = 21 := by omega
    rw [hX7_skills_155]
    simp (disch := omega) only [kX7_skills_0, kX7_skills_1, kX7_skills_2, kX7_skills_3, kX7_skills_4, eq_self, Nat.reduceEqDiff, Nat.one_ne_zero, Nat.zero_ne_one, z_0, z_lt, z_le, z_eq, z_add, z_mul, z_inb, z_cl, z_b0, z_b1, z_b01, z_b010, z_b011, kb_v, kb_n, List.cons_append, List.nil_append, if_true, if_false, ↓reduceIte, Bool.false_eq_true, Bool.true_eq_false, decide_eq_true_eq, decide_eq_false_iff_not, not_false_eq_true, m_good, Nat.reduceLT]
  | m + 1, k, hk => by
    intro x y z u
    have hpw := p21_le (k := k) (by omega)
    have ih := m_so_loop h w d b md hr hi hg m (k + 1) (by omega)
    rw [show bse (skq T pk g n) (k + 1) = bse (skq T pk g n) k ||| (if skq T pk g n k = true then 2 ^ k else 0) from rfl] at ih
    rw [hX7_skills_155]
    simp (disch := omega) only [kX7_skills_0, kX7_skills_1, kX7_skills_2, kX7_skills_3, kX7_skills_4, eq_self, Nat.reduceEqDiff, Nat.one_ne_zero, Nat.zero_ne_one, z_0, z_lt, z_le, z_eq, z_add, z_mul, z_inb, z_cl, z_b0, z_b1, z_b01, z_b010, z_b011, kb_v, kb_n, List.cons_append, List.nil_append, if_true, if_false, ↓reduceIte, Bool.false_eq_true, Bool.true_eq_false, decide_eq_true_eq, decide_eq_false_iff_not, not_false_eq_true]
    rw [if_neg (by omega)]
    obtain ⟨x', e⟩ := m_sj_loop h w d b md (alB (maB T pk) n) (nI (bse (skq T pk g n) k)) (bg := k) (by omega) hr hi hg n 0 (by omega) u
    rw [show (alB (maB T pk) n && alB (faB T pk g k) 0) = alB (maB T pk) n by simp [alB], ← alB_and] at e
    refine Eq.trans e ?_
    simp (disch := omega) only [kX7_skills_0, kX7_skills_1, kX7_skills_2, kX7_skills_3, kX7_skills_4, eq_self, Nat.reduceEqDiff, Nat.one_ne_zero, Nat.zero_ne_one, z_0, z_lt, z_le, z_eq, z_add, z_mul, z_inb, z_cl, z_b0, z_b1, z_b01, z_b010, z_b011, kb_v, kb_n, List.cons_append, List.nil_append, if_true, if_false, ↓reduceIte, Bool.false_eq_true, Bool.true_eq_false, decide_eq_true_eq, decide_eq_false_iff_not, not_false_eq_true, z_one, z_or]
    cases q : alB (fun j => maB T pk j && faB T pk g k j) n
    · simp only [skq, q, if_true, Bool.false_eq_true, if_false, Nat.or_zero] at ih ⊢
      exact ih _ _ _ _
    · simp only [skq, q, if_true, Bool.true_eq_false, if_false] at ih ⊢
      exact ih _ _ _ _
theorem b_skills (a b c : Int32) : BO mX6_skills mX7_skills [.int a, .int b, .int c] := by
  rintro ⟨T, I0, I1, A, rz, rl, it, tn, tp, ft, fs, cn, ct⟩ ok
  have w : WF T := ok.1
  have w1 := w.1
  rcases (show T 6 = 0 ∨ T 6 = 1 by omega) with h6 | h6
  · refine ⟨.int (-1000002), _, XO_id fun σ d h => ?_, MO_id fun σ d h => ?_, ok⟩
    · have hT := h.1
      rw [aX6_skills_0]
      simp (disch := omega) only [kX6_skills_0, kX6_skills_1, kX6_skills_2, eq_self, Nat.reduceEqDiff, Nat.one_ne_zero, Nat.zero_ne_one, z_0, z_lt, z_le, z_eq, z_add, z_mul, z_inb, z_cl, z_b0, z_b1, z_b01, z_b010, z_b011, kb_v, kb_n, List.cons_append, List.nil_append, if_true, if_false, ↓reduceIte, Bool.false_eq_true, Bool.true_eq_false, decide_eq_true_eq, decide_eq_false_iff_not, not_false_eq_true, XT8 hT, h6]
    · have hT := h.1
      rw [aX7_skills_50]
      simp (disch := omega) only [kX7_skills_0, kX7_skills_1, kX7_skills_2, kX7_skills_3, kX7_skills_4, eq_self, Nat.reduceEqDiff, Nat.one_ne_zero, Nat.zero_ne_one, z_0, z_lt, z_le, z_eq, z_add, z_mul, z_inb, z_cl, z_b0, z_b1, z_b01, z_b010, z_b011, kb_v, kb_n, List.cons_append, List.nil_append, if_true, if_false, ↓reduceIte, Bool.false_eq_true, Bool.true_eq_false, decide_eq_true_eq, decide_eq_false_iff_not, not_false_eq_true, m_isTrial hT w, h6]
  by_cases hb : isin a 8 = true ∧ inr c 1 6 = true
  · obtain ⟨hb1, hb2⟩ := hb
    obtain ⟨r, hr, rfl⟩ := (isin_t (by omega)).mp hb1
    obtain ⟨n, hn1, hn2, rfl⟩ := (inr_t (by omega)).mp hb2
    have hz := (ok.2.2.2.2.2.1 r hr).1
    by_cases h0 : rz r = 0
    · refine ⟨.int (-1000010 - nI 1), _, XO_st 1 fun σ d h => ?_, MO_st ok 1 fun σ d h => ?_, OK_st ok (by omega)⟩
      · have hT := h.1
        have hW := h.2.2.2.2.1
        have ht := hW.1 r hr
        rw [if_pos h0] at ht
        rw [aX6_skills_0]
        simp (disch := omega) only [kX6_skills_0, kX6_skills_1, kX6_skills_2, eq_self, Nat.reduceEqDiff, Nat.one_ne_zero, Nat.zero_ne_one, z_0, z_lt, z_le, z_eq, z_add, z_mul, z_inb, z_cl, z_b0, z_b1, z_b01, z_b010, z_b011, kb_v, kb_n, List.cons_append, List.nil_append, if_true, if_false, ↓reduceIte, Bool.false_eq_true, Bool.true_eq_false, decide_eq_true_eq, decide_eq_false_iff_not, not_false_eq_true, XT8 hT, h6, e_isRow, hb1, ht, x_finding]
        rw [if_neg (by omega), if_pos (by omega)]
      · have hT := h.1
        have hW := h.2.2.2.2.2.1
        rw [aX7_skills_50]
        simp (disch := omega) only [kX7_skills_0, kX7_skills_1, kX7_skills_2, kX7_skills_3, kX7_skills_4, eq_self, Nat.reduceEqDiff, Nat.one_ne_zero, Nat.zero_ne_one, z_0, z_lt, z_le, z_eq, z_add, z_mul, z_inb, z_cl, z_b0, z_b1, z_b01, z_b010, z_b011, kb_v, kb_n, List.cons_append, List.nil_append, if_true, if_false, ↓reduceIte, Bool.false_eq_true, Bool.true_eq_false, decide_eq_true_eq, decide_eq_false_iff_not, not_false_eq_true, m_isTrial hT w, h6, m_isRow, m_inN, hb1, hb2, MT0 hT, m_against0 hW, neg1]
    cases hh : hld (rz r - 1) b (nI (2 * n))
    · refine ⟨.int (-1000010 - nI 2), _, XO_st 2 fun σ d h => ?_, MO_st ok 2 fun σ d h => ?_, OK_st ok (by omega)⟩
      · have hT := h.1
        have hW := h.2.2.2.2.1
        have ht := hW.1 r hr
        rw [if_neg h0] at ht
        rw [aX6_skills_0]
        simp (disch := omega) only [kX6_skills_0, kX6_skills_1, kX6_skills_2, eq_self, Nat.reduceEqDiff, Nat.one_ne_zero, Nat.zero_ne_one, z_0, z_lt, z_le, z_eq, z_add, z_mul, z_inb, z_cl, z_b0, z_b1, z_b01, z_b010, z_b011, kb_v, kb_n, List.cons_append, List.nil_append, if_true, if_false, ↓reduceIte, Bool.false_eq_true, Bool.true_eq_false, decide_eq_true_eq, decide_eq_false_iff_not, not_false_eq_true, XT8 hT, h6, e_isRow, hb1, ht, x_finding, x_holds hW, hh]
        rw [if_neg (by omega), if_pos (by omega)]
      · have hT := h.1
        have hW := h.2.2.2.2.2.1
        rw [aX7_skills_50]
        simp (disch := first | omega | assumption) only [kX7_skills_0, kX7_skills_1, kX7_skills_2, kX7_skills_3, kX7_skills_4, eq_self, Nat.reduceEqDiff, Nat.one_ne_zero, Nat.zero_ne_one, z_0, z_lt, z_le, z_eq, z_add, z_mul, z_inb, z_cl, z_b0, z_b1, z_b01, z_b010, z_b011, kb_v, kb_n, List.cons_append, List.nil_append, if_true, if_false, ↓reduceIte, Bool.false_eq_true, Bool.true_eq_false, decide_eq_true_eq, decide_eq_false_iff_not, not_false_eq_true, m_isTrial hT w, h6, m_isRow, m_inN, hb1, hb2, MT0 hT, m_against1 hW, neg2]
    · obtain ⟨i, hi, rfl⟩ := hld_t (by omega) (by omega) hh
      cases hal : alF (isp T fun k => it r (i + 2 * k)) 0 n
      · refine ⟨.int (-1000001), _, XO_id fun σ d h => ?_, MO_id fun σ d h => ?_, ok⟩
        · have hT := h.1
          have hW := h.2.2.2.2.1
          have ht := hW.1 r hr
          rw [if_neg h0] at ht
          rw [aX6_skills_0]
          simp (disch := omega) only [kX6_skills_0, kX6_skills_1, kX6_skills_2, eq_self, Nat.reduceEqDiff, Nat.one_ne_zero, Nat.zero_ne_one, z_0, z_lt, z_le, z_eq, z_add, z_mul, z_inb, z_cl, z_b0, z_b1, z_b01, z_b010, z_b011, kb_v, kb_n, List.cons_append, List.nil_append, if_true, if_false, ↓reduceIte, Bool.false_eq_true, Bool.true_eq_false, decide_eq_true_eq, decide_eq_false_iff_not, not_false_eq_true, XT8 hT, h6, e_isRow, hb1, ht, x_finding, x_holds hW, hh]
          rw [if_neg (by omega), if_pos (by omega), x_sc_loop hT w hW (d + 26) hr hz (by omega) n 0 (by omega), hal, if_neg (by simp)]
        · have hT := h.1
          have hW := h.2.2.2.2.2.1
          rw [aX7_skills_50]
          simp (disch := first | omega | assumption) only [kX7_skills_0, kX7_skills_1, kX7_skills_2, kX7_skills_3, kX7_skills_4, eq_self, Nat.reduceEqDiff, Nat.one_ne_zero, Nat.zero_ne_one, z_0, z_lt, z_le, z_eq, z_add, z_mul, z_inb, z_cl, z_b0, z_b1, z_b01, z_b010, z_b011, kb_v, kb_n, List.cons_append, List.nil_append, if_true, if_false, ↓reduceIte, Bool.false_eq_true, Bool.true_eq_false, decide_eq_true_eq, decide_eq_false_iff_not, not_false_eq_true, m_isTrial hT w, h6, m_isRow, m_inN, hb1, hb2, MT0 hT, m_against2 hW, Nat.le_refl]
          exact m_sb_loop hT w (g := fun k => it r (i + 2 * k)) (d + 26) _ hr (by omega) (fun k hk => (by rw [Nat.add_assoc]; exact hW.2.2 r hr (i + 2 * k) (by omega))) n 0 (by omega) hal (T 3) (by omega) true _ _ _ _ _
      · have hsk : ∀ k, k < n → it r (i + 2 * k) = nI ((it r (i + 2 * k)).toNatClampNeg) ∧ (it r (i + 2 * k)).toNatClampNeg < T 7 := fun k hk => by
          obtain ⟨j, hj, e⟩ := (isin_t (by omega)).mp (alF_t n 0 hal k (by omega) (by omega))
          replace e : it r (i + 2 * k) = nI j := e
          rw [e, z_cl (by omega)]
          exact ⟨rfl, by omega⟩
        refine ⟨.int (nI (bse (skq T (fun k => (it r (i + 2 * k)).toNatClampNeg) (fun k => it r (i + 2 * k + 1)) n) 21)), _, XO_st 0 fun σ d h => ?_, MO_st ok 0 fun σ d h => ?_, OK_st ok (by omega)⟩
        · have hT := h.1
          have hW := h.2.2.2.2.1
          have ht := hW.1 r hr
          rw [if_neg h0] at ht
          rw [aX6_skills_0]
          simp (disch := omega) only [kX6_skills_0, kX6_skills_1, kX6_skills_2, eq_self, Nat.reduceEqDiff, Nat.one_ne_zero, Nat.zero_ne_one, z_0, z_lt, z_le, z_eq, z_add, z_mul, z_inb, z_cl, z_b0, z_b1, z_b01, z_b010, z_b011, kb_v, kb_n, List.cons_append, List.nil_append, if_true, if_false, ↓reduceIte, Bool.false_eq_true, Bool.true_eq_false, decide_eq_true_eq, decide_eq_false_iff_not, not_false_eq_true, XT8 hT, h6, e_isRow, hb1, ht, x_finding, x_holds hW, hh]
          rw [if_neg (by omega), if_pos (by omega), x_sc_loop hT w hW (d + 26) hr hz (by omega) n 0 (by omega), hal, if_pos rfl]
          exact x_so_loop hT w hW (d + 25) hr hz (by omega) (fun k hk => ⟨(hsk k hk).1, (hsk k hk).2, rfl⟩) 21 0 (by omega)
        · have hT := h.1
          have hW := h.2.2.2.2.2.1
          have hg0 : ∀ k, k < n → σ 54 (40 * r + i + 2 * k) = nI ((it r (i + 2 * k)).toNatClampNeg) ∧ (it r (i + 2 * k)).toNatClampNeg < T 7 := fun k hk => ⟨by rw [Nat.add_assoc, hW.2.2 r hr (i + 2 * k) (by omega)]; exact (hsk k hk).1, (hsk k hk).2⟩
          rw [aX7_skills_50]
          simp (disch := first | omega | assumption) only [kX7_skills_0, kX7_skills_1, kX7_skills_2, kX7_skills_3, kX7_skills_4, eq_self, Nat.reduceEqDiff, Nat.one_ne_zero, Nat.zero_ne_one, z_0, z_lt, z_le, z_eq, z_add, z_mul, z_inb, z_cl, z_b0, z_b1, z_b01, z_b010, z_b011, kb_v, kb_n, List.cons_append, List.nil_append, if_true, if_false, ↓reduceIte, Bool.false_eq_true, Bool.true_eq_false, decide_eq_true_eq, decide_eq_false_iff_not, not_false_eq_true, m_isTrial hT w, h6, m_isRow, m_inN, hb1, hb2, MT0 hT, m_against2 hW, Nat.le_refl]
          refine (m_sc_loop hT w (d + 26) _ hr (by omega) hg0 n 0 (by omega) _ _ _ _ _).trans ?_
          exact m_so_loop hT w (d + 26) _ _ hr (by omega) (fun k hk => ⟨(hg0 k hk).1, (hg0 k hk).2, by rw [Nat.add_assoc (40 * r), Nat.add_assoc (40 * r)]; exact hW.2.2 r hr (i + 2 * k + 1) (by omega)⟩) 21 0 (by omega) _ _ _ _
  · refine ⟨.int (-1000001), _, XO_id fun σ d h => ?_, MO_id fun σ d h => ?_, ok⟩
    · have hT := h.1
      rw [aX6_skills_0]
      simp (disch := omega) only [kX6_skills_0, kX6_skills_1, kX6_skills_2, eq_self, Nat.reduceEqDiff, Nat.one_ne_zero, Nat.zero_ne_one, z_0, z_lt, z_le, z_eq, z_add, z_mul, z_inb, z_cl, z_b0, z_b1, z_b01, z_b010, z_b011, kb_v, kb_n, List.cons_append, List.nil_append, if_true, if_false, ↓reduceIte, Bool.false_eq_true, Bool.true_eq_false, decide_eq_true_eq, decide_eq_false_iff_not, not_false_eq_true, XT8 hT, h6, e_isRow, lt_I, le_I, z_tI]
      cases q1 : isin a 8
      · simp
      have q2 : ¬ (inr c 1 6 = true) := fun q => hb ⟨q1, q⟩
      unfold inr at q2
      rw [decide_eq_true_iff] at q2
      simp only [Bool.true_eq_false, if_false]
      split
      · rfl
      · rw [if_neg (by omega)]
    · have hT := h.1
      rw [aX7_skills_50]
      simp (disch := omega) only [kX7_skills_0, kX7_skills_1, kX7_skills_2, kX7_skills_3, kX7_skills_4, eq_self, Nat.reduceEqDiff, Nat.one_ne_zero, Nat.zero_ne_one, z_0, z_lt, z_le, z_eq, z_add, z_mul, z_inb, z_cl, z_b0, z_b1, z_b01, z_b010, z_b011, kb_v, kb_n, List.cons_append, List.nil_append, if_true, if_false, ↓reduceIte, Bool.false_eq_true, Bool.true_eq_false, decide_eq_true_eq, decide_eq_false_iff_not, not_false_eq_true, m_isTrial hT w, h6, m_isRow, m_inN]
      cases q1 : isin a 8 <;> cases q2 : inr c 1 6 <;> simp_all
