/-! numbers: ints that are small numbers, bits, sums -/
theorem z_inb {j n : Nat} (h : j < n) (hn : n < 2147483648) : inb (nI j) n = true := inb_vp.mpr (vp_in_nI h (by omega))
theorem z_cl {j : Nat} (h : j < 2147483648) : (nI j).toNatClampNeg = j := nI_clamp (by omega)
theorem z_lt {a b : Nat} (ha : a < 2147483648) (hb : b < 2147483648) : (nI a < nI b) ↔ a < b := nI_ltI (by omega) (by omega)
theorem z_le {a b : Nat} (ha : a < 2147483648) (hb : b < 2147483648) : (nI a ≤ nI b) ↔ a ≤ b := nI_leI (by omega) (by omega)
theorem z_eq {a b : Nat} (ha : a < 2147483648) (hb : b < 2147483648) : (nI a = nI b) ↔ a = b := nI_eq (by omega) (by omega)
theorem z_add (a b : Nat) : nI a + nI b = nI (a + b) := nI_add a b
theorem z_sub {a b : Nat} (h : b ≤ a) : nI a - nI b = nI (a - b) := pk_sub h
theorem z_mul (a b : Nat) : nI a * nI b = nI (a * b) := pk_mul a b
theorem z_div {a d : Nat} (ha : a < 2147483648) (h0 : 0 < d) (hd : d < 2147483648) : nI a / nI d = nI (a / d) := pk_div (by omega) h0 (by omega)
theorem z_and (a b : Nat) : nI a &&& nI b = nI (a &&& b) := by
  apply Int32.toBitVec_inj.1
  show BitVec.ofNat 32 a &&& BitVec.ofNat 32 b = BitVec.ofNat 32 (a &&& b)
  apply BitVec.eq_of_getLsbD_eq
  intro i hi
  simp [hi]
theorem z_or (a b : Nat) : nI a ||| nI b = nI (a ||| b) := by
  apply Int32.toBitVec_inj.1
  show BitVec.ofNat 32 a ||| BitVec.ofNat 32 b = BitVec.ofNat 32 (a ||| b)
  apply BitVec.eq_of_getLsbD_eq
  intro i hi
  simp [hi]
theorem z_xor (a b : Nat) : nI a ^^^ nI b = nI (a ^^^ b) := by
  apply Int32.toBitVec_inj.1
  show BitVec.ofNat 32 a ^^^ BitVec.ofNat 32 b = BitVec.ofNat 32 (a ^^^ b)
  apply BitVec.eq_of_getLsbD_eq
  intro i hi
  simp [hi]
/-- what is in a and not in b -/
def ndn (a b : Nat) : Nat := a ^^^ (a &&& b)
theorem ndn_bit (a b i : Nat) : (ndn a b).testBit i = (a.testBit i && !b.testBit i) := by
  unfold ndn
  rw [Nat.testBit_xor, Nat.testBit_and]
  cases a.testBit i <;> cases b.testBit i <;> rfl
theorem ndn_le (a b : Nat) : ndn a b ≤ a := by
  apply Nat.le_of_testBit
  intro i h
  rw [ndn_bit] at h
  simp at h
  exact h.1
theorem m1_bit : ∀ i, i < 32 → (-1 : Int32).toBitVec.getLsbD i = true := by decide +kernel
theorem z_nd (a b : Nat) : nI a &&& (nI b ^^^ (-1)) = nI (ndn a b) := by
  apply Int32.toBitVec_inj.1
  show BitVec.ofNat 32 a &&& (BitVec.ofNat 32 b ^^^ (-1 : Int32).toBitVec) = BitVec.ofNat 32 (ndn a b)
  apply BitVec.eq_of_getLsbD_eq
  intro i hi
  rw [BitVec.getLsbD_and, BitVec.getLsbD_xor, m1_bit i hi, BitVec.getLsbD_ofNat, BitVec.getLsbD_ofNat, BitVec.getLsbD_ofNat, ndn_bit]
  simp only [hi, decide_true, Bool.true_and, Bool.xor_true]
theorem s_l31 : ∀ n, n < 32 → ((nI n &&& 31).toBitVec.smod 32).toNat = n := by decide +kernel
theorem z_shl {a k : Nat} (hk : k < 32) (h : a * 2 ^ k < 4294967296) : nI a <<< (nI k &&& 31) = nI (a * 2 ^ k) := pk_shlN _ k (s_l31 k hk) (by omega)
theorem z_one {k : Nat} (hk : k < 31) : nI 1 <<< (nI k &&& 31) = nI (2 ^ k) := by
  have : 2 ^ k < 2 ^ 31 := Nat.pow_lt_pow_right (by omega) hk
  rw [z_shl (by omega) (by omega), Nat.one_mul]
theorem z_shr {a k : Nat} (hk : k < 32) (h : a < 2147483648) : nI a >>> (nI k &&& 31) = nI (a / 2 ^ k) := pk_shrN (by omega) _ k (s_l31 k hk)
theorem z_bit {a k : Nat} (hk : k < 32) (h : a < 2147483648) : nI a >>> (nI k &&& 31) &&& nI 1 = nI (a.testBit k).toNat := by
  rw [z_shr hk h, z_and, Nat.and_one_is_mod, Nat.toNat_testBit]
theorem z_b0 (b : Bool) : (nI b.toNat = nI 0) ↔ b = false := by cases b <;> decide
theorem z_b1 (b : Bool) : (nI b.toNat = nI 1) ↔ b = true := by cases b <;> decide
theorem z_b01 (b : Bool) : b01 (nI b.toNat) = true := by cases b <;> decide
theorem z_b010 : b01 (nI 0) = true := by decide
theorem z_b011 : b01 (nI 1) = true := by decide
theorem up_ap {σ : Sg} {k j a b : Nat} {v : Int32} : up σ k j v a b = if a = k ∧ b = j then v else σ a b := rfl
/-- any int that isn't one of n small numbers -/
def out (a : Int32) (n : Nat) : Prop := ∀ j, j < n → a ≠ nI j
theorem in_out (a : Int32) (n : Nat) : (∃ j, j < n ∧ a = nI j) ∨ out a n := by
  by_cases h : ∃ j, j < n ∧ a = nI j
  · exact Or.inl h
  · exact Or.inr fun j hj q => h ⟨j, hj, q⟩
theorem out_lt {a : Int32} {n : Nat} (hn : n < 2147483648) : out a n ↔ (a < nI 0 ∨ nI n ≤ a) := by
  constructor
  · intro h
    rcases pk_ix a (n := n) (by omega) with q | q | ⟨j, hj, q⟩
    · exact Or.inl q
    · exact Or.inr q
    · exact absurd q (h j hj)
  · rintro (h | h) j hj rfl
    · exact absurd ((z_lt (by omega) (by omega)).mp h) (by omega)
    · exact absurd ((z_le (by omega) (by omega)).mp h) (by omega)
/-- how many of the first n -/
def cnt (P : Nat → Bool) : Nat → Nat
  | 0 => 0
  | n + 1 => cnt P n + (P n).toNat
/-- those of the first n, as bits -/
def bse (P : Nat → Bool) : Nat → Nat
  | 0 => 0
  | n + 1 => bse P n ||| (if P n = true then 2 ^ n else 0)
def smn (f : Nat → Nat) : Nat → Nat
  | 0 => 0
  | n + 1 => smn f n + f n
theorem cnt_le (P : Nat → Bool) : ∀ n, cnt P n ≤ n
  | 0 => Nat.le_refl _
  | n + 1 => by have := cnt_le P n; have := Bool.toNat_le (P n); unfold cnt; omega
theorem bse_bit (P : Nat → Bool) : ∀ n i, (bse P n).testBit i = (decide (i < n) && P i)
  | 0, i => by simp [bse]
  | n + 1, i => by
    rw [bse, Nat.testBit_or, bse_bit P n i]
    by_cases h : i = n
    · subst h
      cases hp : P i <;> simp
    · by_cases hp : P n = true
      · simp only [hp, if_true]
        rw [Nat.testBit_two_pow]
        have : decide (n = i) = false := decide_eq_false (fun q => h q.symm)
        rw [this, Bool.or_false]
        congr 1
        apply decide_eq_decide.mpr
        omega
      · simp only [hp, if_false, Bool.false_eq_true]
        rw [Nat.zero_testBit, Bool.or_false]
        congr 1
        apply decide_eq_decide.mpr
        omega
theorem bse_lt (P : Nat → Bool) (n : Nat) : bse P n < 2 ^ n := by
  apply Nat.lt_pow_two_of_testBit
  intro i hi
  rw [bse_bit, decide_eq_false (by omega)]
  rfl
theorem cnt_cg {P Q : Nat → Bool} : ∀ n, (∀ i, i < n → P i = Q i) → cnt P n = cnt Q n
  | 0, _ => rfl
  | n + 1, h => by rw [cnt, cnt, cnt_cg n (fun i hi => h i (by omega)), h n (by omega)]
theorem bse_cg {P Q : Nat → Bool} : ∀ n, (∀ i, i < n → P i = Q i) → bse P n = bse Q n
  | 0, _ => rfl
  | n + 1, h => by rw [bse, bse, bse_cg n (fun i hi => h i (by omega)), h n (by omega)]
theorem smn_cg {P Q : Nat → Nat} : ∀ n, (∀ i, i < n → P i = Q i) → smn P n = smn Q n
  | 0, _ => rfl
  | n + 1, h => by rw [smn, smn, smn_cg n (fun i hi => h i (by omega)), h n (by omega)]
theorem cnt_big {P : Nat → Bool} {n : Nat} : ∀ k, (∀ i, n ≤ i → P i = false) → cnt P (n + k) = cnt P n
  | 0, _ => rfl
  | k + 1, h => by rw [← Nat.add_assoc, cnt, cnt_big k h, h (n + k) (by omega)]; rfl
theorem smn_le {f : Nat → Nat} {b : Nat} : ∀ n, (∀ i, i < n → f i ≤ b) → smn f n ≤ n * b
  | 0, _ => by simp [smn]
  | n + 1, h => by
    have h1 := smn_le n (fun i hi => h i (by omega))
    have h2 := h n (by omega)
    rw [smn, Nat.add_mul]
    omega
/-- how many bits of a set of seven -/
def pop (x : Nat) : Nat := cnt x.testBit 7
theorem pop_le (x : Nat) : pop x ≤ 7 := cnt_le _ _
theorem lt_pw {x n i : Nat} (h : x < 2 ^ n) (hi : n ≤ i) : x.testBit i = false := Nat.testBit_lt_two_pow (Nat.lt_of_lt_of_le h (Nat.pow_le_pow_right (by omega) hi))
theorem pop_bse {P : Nat → Bool} {f n : Nat} (hn : n ≤ 7) : pop (f &&& bse P n) = cnt (fun p => f.testBit p && P p) n := by
  unfold pop
  have h : cnt (f &&& bse P n).testBit (n + (7 - n)) = cnt (f &&& bse P n).testBit n := cnt_big _ (fun i hi => by rw [Nat.testBit_and, bse_bit, decide_eq_false (by omega)]; simp)
  rw [show n + (7 - n) = 7 by omega] at h
  rw [h]
  exact cnt_cg n (fun i hi => by rw [Nat.testBit_and, bse_bit, decide_eq_true hi]; simp)
theorem z_0 : (0 : Int32) = nI 0 := rfl
theorem z_tI {n : Nat} (h : n < 2147483648) : (nI n).toInt = (n : Int) := nI_toInt (by omega)
theorem z_bd (a : Int32) : -2147483648 ≤ a.toInt ∧ a.toInt < 2147483648 := ⟨by have := Int32.le_toInt a; omega, by have := Int32.toInt_lt a; omega⟩
/-- is it one of the first n -/
def isin (a : Int32) (n : Nat) : Bool := decide (0 ≤ a.toInt ∧ a.toInt < (n : Int))
theorem isin_t {a : Int32} {n : Nat} (hn : n < 2147483648) : isin a n = true ↔ ∃ j, j < n ∧ a = nI j := by
  unfold isin
  rw [decide_eq_true_iff]
  constructor
  · rintro ⟨h1, h2⟩
    refine ⟨a.toInt.toNat, by omega, ?_⟩
    apply Int32.toInt_inj.mp
    rw [z_tI (by omega)]
    omega
  · rintro ⟨j, hj, rfl⟩
    rw [z_tI (by omega)]
    omega
theorem isin_n {j n : Nat} (hj : j < 2147483648) : isin (nI j) n = decide (j < n) := by
  unfold isin
  rw [z_tI hj]
  apply decide_eq_decide.mpr
  omega
def inr (a : Int32) (lo hi : Nat) : Bool := decide ((lo : Int) ≤ a.toInt ∧ a.toInt ≤ (hi : Int))
theorem inr_n {j lo hi : Nat} (hj : j < 2147483648) : inr (nI j) lo hi = decide (lo ≤ j ∧ j ≤ hi) := by
  unfold inr
  rw [z_tI hj]
  apply decide_eq_decide.mpr
  omega
theorem inr_t {a : Int32} {lo hi : Nat} (hn : hi < 2147483648) : inr a lo hi = true ↔ ∃ j, lo ≤ j ∧ j ≤ hi ∧ a = nI j := by
  unfold inr
  rw [decide_eq_true_iff]
  constructor
  · rintro ⟨h1, h2⟩
    refine ⟨a.toInt.toNat, by omega, by omega, ?_⟩
    apply Int32.toInt_inj.mp
    rw [z_tI (by omega)]
    omega
  · rintro ⟨j, h1, h2, rfl⟩
    rw [z_tI (by omega)]
    omega
theorem lt_I (a b : Int32) : (a < b) ↔ a.toInt < b.toInt := Int32.lt_iff_toInt_lt
theorem le_I (a b : Int32) : (a ≤ b) ↔ a.toInt ≤ b.toInt := Int32.le_iff_toInt_le
theorem eq_I (a b : Int32) : (a = b) ↔ a.toInt = b.toInt := Int32.toInt_inj.symm
theorem lt_J (a b : Int64) : (a < b) ↔ a.toInt < b.toInt := Int64.lt_iff_toInt_lt
theorem le_J (a b : Int64) : (a ≤ b) ↔ a.toInt ≤ b.toInt := Int64.le_iff_toInt_le
theorem lN_tI {n : Nat} (h : n < 2147483648) : (lN n).toInt = (n : Int) := lN_toInt (by omega)
theorem cmp_lt0 (u v : Int64) : (lg_cmp u v < nI 0) ↔ u < v := by
  unfold lg_cmp
  split
  · rename_i h
    exact ⟨fun q => absurd q (by decide), fun q => by rw [gt_iff_lt, lt_J] at h; rw [lt_J] at q; omega⟩
  · split
    · rename_i h1 h2
      subst h2
      exact ⟨fun q => absurd q (by decide), fun q => by rw [lt_J] at q; omega⟩
    · rename_i h1 h2
      refine ⟨fun _ => ?_, fun _ => by decide⟩
      rw [gt_iff_lt, lt_J] at h1
      rw [lt_J]
      have : u.toInt ≠ v.toInt := fun q => h2 (Int64.toInt_inj.mp q)
      omega
theorem cmp_gt0 (u v : Int64) : (nI 0 < lg_cmp u v) ↔ v < u := by
  unfold lg_cmp
  split
  · rename_i h
    exact ⟨fun _ => h, fun _ => by decide⟩
  · rename_i h
    split
    · exact ⟨fun q => absurd q (by decide), fun q => absurd q h⟩
    · exact ⟨fun q => absurd q (by decide), fun q => absurd q h⟩
theorem cmp_eq0 (u v : Int64) : (lg_cmp u v = nI 0) ↔ u = v := by
  unfold lg_cmp
  split
  · rename_i h
    refine ⟨fun q => absurd q (by decide), fun q => ?_⟩
    subst q
    rw [gt_iff_lt, lt_J] at h
    omega
  · split
    · rename_i h
      exact ⟨fun _ => h, fun _ => rfl⟩
    · rename_i h
      exact ⟨fun q => absurd q (by decide), fun q => absurd q h⟩
theorem rI {a b : Nat} {σ : Sg} (h : a = b) : (some (some (Value.int (nI a)), σ) : Oc) = some (some (.int (nI b)), σ) := by rw [h]
theorem rB {a b : Bool} {σ : Sg} (h : a = b) : (some (some (Value.int (nI a.toNat)), σ) : Oc) = some (some (.int (nI b.toNat)), σ) := by rw [h]
theorem rV {a b : Int32} {σ : Sg} (h : a = b) : (some (some (Value.int a), σ) : Oc) = some (some (.int b), σ) := by rw [h]
theorem up_s {σ : Sg} {k j : Nat} {v : Int32} : up σ k j v k j = v := by simp [up]
theorem up_k {σ : Sg} {k j a b : Nat} {v : Int32} (h : a ≠ k) : up σ k j v a b = σ a b := by simp [up, h]
theorem up_j {σ : Sg} {k j a b : Nat} {v : Int32} (h : b ≠ j) : up σ k j v a b = σ a b := by simp [up, h]
