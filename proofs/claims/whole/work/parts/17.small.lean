/-! the small functions of the class -/
def bcE (x : Int32) : Int32 :=
  let x := x - ((x.toUInt32 >>> ((nI 1).toUInt32 &&& Int32.toUInt32 31)).toInt32 &&& nI 1431655765)
  let x := (x &&& nI 858993459) + ((x.toUInt32 >>> ((nI 2).toUInt32 &&& Int32.toUInt32 31)).toInt32 &&& nI 858993459)
  let x := (x + (x.toUInt32 >>> ((nI 4).toUInt32 &&& Int32.toUInt32 31)).toInt32) &&& nI 252645135
  let x := x + (x.toUInt32 >>> ((nI 8).toUInt32 &&& Int32.toUInt32 31)).toInt32
  let x := x + (x.toUInt32 >>> ((nI 16).toUInt32 &&& Int32.toUInt32 31)).toInt32
  x &&& nI 63
theorem bcE_pop : ∀ x : Fin 128, bcE (nI x.val) = nI (pop x.val) := by decide +kernel
theorem e_bitCount (d : Nat) (σ : Sg) {x : Nat} (h : x < 128) : cal (d + 1) mJ6_bitCount_0f7a4 [.int (nI x)] σ = some (some (.int (nI (pop x))), σ) := by
  rw [aJ6_bitCount_0f7a4]
  simp only [kJ6_bitCount_0f7a4_0, kJ6_bitCount_0f7a4_1]
  rw [← bcE_pop ⟨x, h⟩]
  rfl
theorem e_bit (d : Nat) (σ : Sg) {s k : Nat} (hs : s < 2147483648) (hk : k < 32) : cal (d + 1) mX6_bit [.int (nI s), .int (nI k)] σ = some (some (.int (nI (s.testBit k).toNat)), σ) := by
  rw [aX6_bit]
  simp only [kX6_bit, z_bit hk hs]
def tak (k n t s : Nat) : Nat := if k = 2 ∧ s < n then 2 * t else if k = 4 then t / 2 + 1 else t
theorem e_taken (d : Nat) (σ : Sg) {k n t s : Nat} (hk : k < 10) (hn : n < 100) (ht : t < 100) (hs : s < 100) : cal (d + 1) mX6_taken [.int (nI k), .int (nI n), .int (nI t), .int (nI s)] σ = some (some (.int (nI (tak k n t s))), σ) := by
  rw [aX6_taken]
  simp (disch := omega) only [kX6_taken, eq_self, Nat.reduceEqDiff, Nat.one_ne_zero, Nat.zero_ne_one, z_0, z_lt, z_le, z_eq, z_add, z_mul, z_inb, z_cl, z_b0, z_b1, z_b01, z_b010, z_b011, kb_v, kb_n, List.cons_append, List.nil_append, if_true, if_false, ↓reduceIte, Bool.false_eq_true, Bool.true_eq_false, decide_eq_true_eq, decide_eq_false_iff_not, not_false_eq_true, z_div]
  unfold tak
  (repeat' split) <;> first | rfl | (exfalso; omega) | (rw [decide_eq_true (by omega)]; rfl) | (rw [decide_eq_false (by omega)]; rfl) | (simp_all; done) | (exfalso; simp_all; omega)
def fla (k n s : Nat) : Bool := if k = 2 then decide (s + 5 < n) else if k = 4 then true else if k = 5 then decide (10 < n) else decide (s < n)
theorem e_flawed (d : Nat) (σ : Sg) {k n s : Nat} (hk : k < 10) (hn : n < 100) (hs : s < 100) : cal (d + 1) mX6_flawed [.int (nI k), .int (nI n), .int (nI s)] σ = some (some (.int (nI (fla k n s).toNat)), σ) := by
  rw [aX6_flawed]
  simp (disch := omega) only [kX6_flawed, eq_self, Nat.reduceEqDiff, Nat.one_ne_zero, Nat.zero_ne_one, z_0, z_lt, z_le, z_eq, z_add, z_mul, z_inb, z_cl, z_b0, z_b1, z_b01, z_b010, z_b011, kb_v, kb_n, List.cons_append, List.nil_append, if_true, if_false, ↓reduceIte, Bool.false_eq_true, Bool.true_eq_false, decide_eq_true_eq, decide_eq_false_iff_not, not_false_eq_true]
  unfold fla
  (repeat' split) <;> first | rfl | (exfalso; omega) | (rw [decide_eq_true (by omega)]; rfl) | (rw [decide_eq_false (by omega)]; rfl) | (simp_all; done) | (exfalso; simp_all; omega)
def see (k n e : Nat) : Bool := if k = 3 then decide (n ≤ e) else if k = 4 then decide (10 < e) else if k = 5 then decide (15 < e) else true
theorem e_seen (d : Nat) (σ : Sg) {k n e : Nat} (hk : k < 10) (hn : n < 100) (he : e < 100) : cal (d + 1) mX6_seen [.int (nI k), .int (nI n), .int (nI e)] σ = some (some (.int (nI (see k n e).toNat)), σ) := by
  rw [aX6_seen]
  simp (disch := omega) only [kX6_seen, eq_self, Nat.reduceEqDiff, Nat.one_ne_zero, Nat.zero_ne_one, z_0, z_lt, z_le, z_eq, z_add, z_mul, z_inb, z_cl, z_b0, z_b1, z_b01, z_b010, z_b011, kb_v, kb_n, List.cons_append, List.nil_append, if_true, if_false, ↓reduceIte, Bool.false_eq_true, Bool.true_eq_false, decide_eq_true_eq, decide_eq_false_iff_not, not_false_eq_true]
  unfold see
  (repeat' split) <;> first | rfl | (exfalso; omega) | (rw [decide_eq_true (by omega)]; rfl) | (rw [decide_eq_false (by omega)]; rfl) | (simp_all; done) | (exfalso; simp_all; omega)
def skb (k s : Nat) : Nat := if k = 5 then s else min 20 (s + 1)
theorem e_skb (d : Nat) (σ : Sg) {k s : Nat} (hk : k < 10) (hs : s < 100) : cal (d + 1) mX6_skillBehind [.int (nI k), .int (nI s)] σ = some (some (.int (nI (skb k s))), σ) := by
  rw [aX6_skillBehind]
  simp (disch := omega) only [kX6_skillBehind, eq_self, Nat.reduceEqDiff, Nat.one_ne_zero, Nat.zero_ne_one, z_0, z_lt, z_le, z_eq, z_add, z_mul, z_inb, z_cl, z_b0, z_b1, z_b01, z_b010, z_b011, kb_v, kb_n, List.cons_append, List.nil_append, if_true, if_false, ↓reduceIte, Bool.false_eq_true, Bool.true_eq_false, decide_eq_true_eq, decide_eq_false_iff_not, not_false_eq_true]
  unfold skb
  (repeat' split) <;> first | rfl | (exfalso; omega) | exact rI (by omega)
def kta (k : Nat) : Nat := if k = 1 then 3 else if k = 2 then 7 else if k = 3 then 11 else if k = 4 then 17 else if k = 5 then 49 else 1
theorem e_kta (d : Nat) (σ : Sg) {k : Nat} (hk : k < 10) : cal (d + 1) mX6_kindsThatAre [.int (nI k)] σ = some (some (.int (nI (kta k))), σ) := by
  rw [aX6_kindsThatAre]
  simp (disch := omega) only [kX6_kindsThatAre, eq_self, Nat.reduceEqDiff, Nat.one_ne_zero, Nat.zero_ne_one, z_0, z_lt, z_le, z_eq, z_add, z_mul, z_inb, z_cl, z_b0, z_b1, z_b01, z_b010, z_b011, kb_v, kb_n, List.cons_append, List.nil_append, if_true, if_false, ↓reduceIte, Bool.false_eq_true, Bool.true_eq_false, decide_eq_true_eq, decide_eq_false_iff_not, not_false_eq_true, z_or]
  unfold kta
  (repeat' split) <;> first | rfl | (exfalso; omega) | (rw [decide_eq_true (by omega)]; rfl) | (rw [decide_eq_false (by omega)]; rfl) | (simp_all; done) | (exfalso; simp_all; omega)
theorem e_isRow (d : Nat) (σ : Sg) (a : Int32) : cal (d + 1) mX6_isRow [.int a] σ = some (some (.int (nI (isin a 8).toNat)), σ) := by
  rw [aX6_isRow]
  simp (disch := omega) only [kX6_isRow, eq_self, Nat.reduceEqDiff, Nat.one_ne_zero, Nat.zero_ne_one, z_0, z_lt, z_le, z_eq, z_add, z_mul, z_inb, z_cl, z_b0, z_b1, z_b01, z_b010, z_b011, kb_v, kb_n, List.cons_append, List.nil_append, if_true, if_false, ↓reduceIte, Bool.false_eq_true, Bool.true_eq_false, decide_eq_true_eq, decide_eq_false_iff_not, not_false_eq_true, lt_I, le_I, z_tI]
  unfold isin
  (repeat' split) <;> first | rfl | (exfalso; omega) | (rw [decide_eq_true (by omega)]; rfl) | (rw [decide_eq_false (by omega)]; rfl) | (simp_all; done) | (exfalso; simp_all; omega)
theorem e_isOne (d : Nat) (σ : Sg) (a : Int32) : cal (d + 1) mX6_isOneOfTwo [.int a] σ = some (some (.int (nI (isin a 2).toNat)), σ) := by
  rw [aX6_isOneOfTwo]
  simp (disch := omega) only [kX6_isOneOfTwo, eq_self, Nat.reduceEqDiff, Nat.one_ne_zero, Nat.zero_ne_one, z_0, z_lt, z_le, z_eq, z_add, z_mul, z_inb, z_cl, z_b0, z_b1, z_b01, z_b010, z_b011, kb_v, kb_n, List.cons_append, List.nil_append, if_true, if_false, ↓reduceIte, Bool.false_eq_true, Bool.true_eq_false, decide_eq_true_eq, decide_eq_false_iff_not, not_false_eq_true, eq_I, z_tI]
  unfold isin
  (repeat' split) <;> first | rfl | (exfalso; omega) | (rw [decide_eq_true (by omega)]; rfl) | (rw [decide_eq_false (by omega)]; rfl) | (simp_all; done) | (exfalso; simp_all; omega)
/-! the same of the reference -/
theorem m_in (d : Nat) (σ : Sg) (u v w : Int64) : cal (d + 1) mX7_in [.long u, .long v, .long w] σ = some (some (.int (nI (decide (v.toInt ≤ u.toInt ∧ u.toInt ≤ w.toInt)).toNat)), σ) := by
  rw [aX7_in]
  simp (disch := omega) only [kX7_in, eq_self, Nat.reduceEqDiff, Nat.one_ne_zero, Nat.zero_ne_one, z_0, z_lt, z_le, z_eq, z_add, z_mul, z_inb, z_cl, z_b0, z_b1, z_b01, z_b010, z_b011, kb_v, kb_n, List.cons_append, List.nil_append, if_true, if_false, ↓reduceIte, Bool.false_eq_true, Bool.true_eq_false, decide_eq_true_eq, decide_eq_false_iff_not, not_false_eq_true, cmp_lt0, cmp_gt0, lt_J]
  (repeat' split) <;> first | rfl | (exfalso; omega) | (rw [decide_eq_true (by omega)]; rfl) | (rw [decide_eq_false (by omega)]; rfl) | (simp_all; done) | (exfalso; simp_all; omega)
theorem m_has (d : Nat) (σ : Sg) {s k : Nat} (hs : s < 2147483648) (hk : k < 32) : cal (d + 1) mX7_has [.int (nI s), .int (nI k)] σ = some (some (.int (nI (s.testBit k).toNat)), σ) := by
  rw [aX7_has]
  simp (disch := omega) only [kX7_has, z_bit, eq_self, Nat.reduceEqDiff, Nat.one_ne_zero, Nat.zero_ne_one, z_0, z_lt, z_le, z_eq, z_add, z_mul, z_inb, z_cl, z_b0, z_b1, z_b01, z_b010, z_b011, kb_v, kb_n, List.cons_append, List.nil_append, if_true, if_false, ↓reduceIte, Bool.false_eq_true, Bool.true_eq_false, decide_eq_true_eq, decide_eq_false_iff_not, not_false_eq_true]
  cases s.testBit k <;> rfl
theorem m_takesOf (d : Nat) (σ : Sg) {k n t s : Nat} (hk : k < 10) (hn : n < 100) (ht : t < 100) (hs : s < 100) : cal (d + 1) mX7_takesOf [.int (nI k), .int (nI n), .int (nI t), .int (nI s)] σ = some (some (.int (nI (tak k n t s))), σ) := by
  rw [aX7_takesOf]
  simp (disch := omega) only [kX7_takesOf, eq_self, Nat.reduceEqDiff, Nat.one_ne_zero, Nat.zero_ne_one, z_0, z_lt, z_le, z_eq, z_add, z_mul, z_inb, z_cl, z_b0, z_b1, z_b01, z_b010, z_b011, kb_v, kb_n, List.cons_append, List.nil_append, if_true, if_false, ↓reduceIte, Bool.false_eq_true, Bool.true_eq_false, decide_eq_true_eq, decide_eq_false_iff_not, not_false_eq_true, z_div]
  unfold tak
  (repeat' split) <;> first | rfl | (exfalso; omega) | (rw [decide_eq_true (by omega)]; rfl) | (rw [decide_eq_false (by omega)]; rfl) | (simp_all; done) | (exfalso; simp_all; omega)
theorem m_isFaulty (d : Nat) (σ : Sg) {k n s : Nat} (hk : k < 10) (hn : n < 100) (hs : s < 100) : cal (d + 1) mX7_isFaulty [.int (nI k), .int (nI n), .int (nI s)] σ = some (some (.int (nI (fla k n s).toNat)), σ) := by
  rw [aX7_isFaulty]
  simp (disch := omega) only [kX7_isFaulty, eq_self, Nat.reduceEqDiff, Nat.one_ne_zero, Nat.zero_ne_one, z_0, z_lt, z_le, z_eq, z_add, z_mul, z_inb, z_cl, z_b0, z_b1, z_b01, z_b010, z_b011, kb_v, kb_n, List.cons_append, List.nil_append, if_true, if_false, ↓reduceIte, Bool.false_eq_true, Bool.true_eq_false, decide_eq_true_eq, decide_eq_false_iff_not, not_false_eq_true]
  unfold fla
  (repeat' split) <;> first | rfl | (exfalso; omega) | (rw [decide_eq_true (by omega)]; rfl) | (rw [decide_eq_false (by omega)]; rfl) | (simp_all; done) | (exfalso; simp_all; omega)
theorem m_more (d : Nat) (σ : Sg) {s : Nat} (hs : s < 100) : cal (d + 1) mX7_more [.int (nI s)] σ = some (some (.int (nI (min 20 (s + 1)))), σ) := by
  rw [aX7_more]
  simp (disch := omega) only [kX7_more, eq_self, Nat.reduceEqDiff, Nat.one_ne_zero, Nat.zero_ne_one, z_0, z_lt, z_le, z_eq, z_add, z_mul, z_inb, z_cl, z_b0, z_b1, z_b01, z_b010, z_b011, kb_v, kb_n, List.cons_append, List.nil_append, if_true, if_false, ↓reduceIte, Bool.false_eq_true, Bool.true_eq_false, decide_eq_true_eq, decide_eq_false_iff_not, not_false_eq_true]
  (repeat' split) <;> first | rfl | (exfalso; omega) | exact rI (by omega)
theorem m_isRow (d : Nat) (σ : Sg) (a : Int32) : cal (d + 2) mX7_isRow [.int a] σ = some (some (.int (nI (isin a 8).toNat)), σ) := by
  rw [aX7_isRow]
  simp (disch := omega) only [kX7_isRow, eq_self, Nat.reduceEqDiff, Nat.one_ne_zero, Nat.zero_ne_one, z_0, z_lt, z_le, z_eq, z_add, z_mul, z_inb, z_cl, z_b0, z_b1, z_b01, z_b010, z_b011, kb_v, kb_n, List.cons_append, List.nil_append, if_true, if_false, ↓reduceIte, Bool.false_eq_true, Bool.true_eq_false, decide_eq_true_eq, decide_eq_false_iff_not, not_false_eq_true, m_in, lN_tI, Int32.toInt_toInt64]
  unfold isin
  exact rB (decide_eq_decide.mpr (by omega))
theorem m_kindOf (d : Nat) (σ : Sg) (a : Int32) : cal (d + 1) mX7_kindOf [.int a] σ = some (some (.int (if a = nI 106 then nI 1 else if a = nI 99 then nI 2 else if a = nI 104 then nI 3 else if a = nI 119 then nI 4 else if a = nI 98 then nI 5 else nI 0)), σ) := by
  rw [aX7_kindOf]
  simp (disch := omega) only [kX7_kindOf, eq_self, Nat.reduceEqDiff, Nat.one_ne_zero, Nat.zero_ne_one, z_0, z_lt, z_le, z_eq, z_add, z_mul, z_inb, z_cl, z_b0, z_b1, z_b01, z_b010, z_b011, kb_v, kb_n, List.cons_append, List.nil_append, if_true, if_false, ↓reduceIte, Bool.false_eq_true, Bool.true_eq_false, decide_eq_true_eq, decide_eq_false_iff_not, not_false_eq_true]
  (repeat' split) <;> first | rfl | (exfalso; omega) | (rw [decide_eq_true (by omega)]; rfl) | (rw [decide_eq_false (by omega)]; rfl) | (simp_all; done) | (exfalso; simp_all; omega)
theorem e_kindOf (d : Nat) (σ : Sg) (a : Int32) : cal (d + 1) mX4_kindOf [.int a] σ = some (some (.int (if a = nI 106 then nI 1 else if a = nI 99 then nI 2 else if a = nI 104 then nI 3 else if a = nI 119 then nI 4 else if a = nI 98 then nI 5 else nI 0)), σ) := by
  rw [aX4_kindOf]
  simp (disch := omega) only [kX4_kindOf, eq_self, Nat.reduceEqDiff, Nat.one_ne_zero, Nat.zero_ne_one, z_0, z_lt, z_le, z_eq, z_add, z_mul, z_inb, z_cl, z_b0, z_b1, z_b01, z_b010, z_b011, kb_v, kb_n, List.cons_append, List.nil_append, if_true, if_false, ↓reduceIte, Bool.false_eq_true, Bool.true_eq_false, decide_eq_true_eq, decide_eq_false_iff_not, not_false_eq_true, eq_I, z_tI]
  (repeat' split) <;> first | rfl | (exfalso; omega) | (rw [decide_eq_true (by omega)]; rfl) | (rw [decide_eq_false (by omega)]; rfl) | (simp_all; done) | (exfalso; simp_all; omega)
theorem m_ones_loop (d : Nat) (σ : Sg) {s : Nat} (hs : s < 128) : ∀ n k, k + n = 7 → exec d mX7_ones 4 [.int (nI s), .int (nI (cnt s.testBit k)), .int (nI k)] [] σ = some (some (.int (nI (pop s))), σ)
  | 0, k, h => by
    rw [hX7_ones_4]
    simp (disch := omega) only [kX7_ones, eq_self, Nat.reduceEqDiff, Nat.one_ne_zero, Nat.zero_ne_one, z_0, z_lt, z_le, z_eq, z_add, z_mul, z_inb, z_cl, z_b0, z_b1, z_b01, z_b010, z_b011, kb_v, kb_n, List.cons_append, List.nil_append, if_true, if_false, ↓reduceIte, Bool.false_eq_true, Bool.true_eq_false, decide_eq_true_eq, decide_eq_false_iff_not, not_false_eq_true]
    rw [if_pos (by omega)]
    rw [show k = 7 by omega]
    rfl
  | n + 1, k, h => by
    have hc := cnt_le s.testBit k
    rw [hX7_ones_4]
    simp (disch := omega) only [kX7_ones, eq_self, Nat.reduceEqDiff, Nat.one_ne_zero, Nat.zero_ne_one, z_0, z_lt, z_le, z_eq, z_add, z_mul, z_inb, z_cl, z_b0, z_b1, z_b01, z_b010, z_b011, kb_v, kb_n, List.cons_append, List.nil_append, if_true, if_false, ↓reduceIte, Bool.false_eq_true, Bool.true_eq_false, decide_eq_true_eq, decide_eq_false_iff_not, not_false_eq_true, z_bit]
    rw [if_neg (by omega)]
    exact m_ones_loop d σ hs n (k + 1) (by omega)
theorem m_ones (d : Nat) (σ : Sg) {s : Nat} (hs : s < 128) : cal (d + 1) mX7_ones [.int (nI s)] σ = some (some (.int (nI (pop s))), σ) := by
  rw [aX7_ones]
  simp (disch := omega) only [kX7_ones, eq_self, Nat.reduceEqDiff, Nat.one_ne_zero, Nat.zero_ne_one, z_0, z_lt, z_le, z_eq, z_add, z_mul, z_inb, z_cl, z_b0, z_b1, z_b01, z_b010, z_b011, kb_v, kb_n, List.cons_append, List.nil_append, if_true, if_false, ↓reduceIte, Bool.false_eq_true, Bool.true_eq_false, decide_eq_true_eq, decide_eq_false_iff_not, not_false_eq_true]
  exact m_ones_loop d σ hs 7 0 rfl
