/-! generated: the instructions of java/lang/Integer -/
theorem kJ6_bitCount_0f7a4_0 : (∀ (d : Nat) (σ : Sg) (S : List Value) (x : Int32), exec d mJ6_bitCount_0f7a4 0 [.int x] S σ = exec d mJ6_bitCount_0f7a4 1 [.int x] (.int x :: S) σ) ∧
  (∀ (d : Nat) (σ : Sg) (S : List Value) (x : Int32), exec d mJ6_bitCount_0f7a4 1 [.int x] S σ = exec d mJ6_bitCount_0f7a4 2 [.int x] (.int x :: S) σ) ∧
  (∀ (d : Nat) (σ : Sg) (S : List Value) (l0 : Value), exec d mJ6_bitCount_0f7a4 2 [l0] S σ = exec d mJ6_bitCount_0f7a4 3 [l0] (.int (nI 1) :: S) σ) ∧
  (∀ (d : Nat) (σ : Sg) (S : List Value) (l0 : Value) (x y : Int32), exec d mJ6_bitCount_0f7a4 3 [l0] (.int y :: .int x :: S) σ = exec d mJ6_bitCount_0f7a4 4 [l0] (.int ((x.toUInt32 >>> (y.toUInt32 &&& Int32.toUInt32 31)).toInt32) :: S) σ) ∧
  (∀ (d : Nat) (σ : Sg) (S : List Value) (l0 : Value), exec d mJ6_bitCount_0f7a4 4 [l0] S σ = exec d mJ6_bitCount_0f7a4 7 [l0] (.int (nI 1431655765) :: S) σ) ∧
  (∀ (d : Nat) (σ : Sg) (S : List Value) (l0 : Value) (x y : Int32), exec d mJ6_bitCount_0f7a4 7 [l0] (.int y :: .int x :: S) σ = exec d mJ6_bitCount_0f7a4 8 [l0] (.int (x &&& y) :: S) σ) ∧
  (∀ (d : Nat) (σ : Sg) (S : List Value) (l0 : Value) (x y : Int32), exec d mJ6_bitCount_0f7a4 8 [l0] (.int y :: .int x :: S) σ = exec d mJ6_bitCount_0f7a4 9 [l0] (.int (x - y) :: S) σ) ∧
  (∀ (d : Nat) (σ : Sg) (S : List Value) (l0 : Value) (x : Int32), exec d mJ6_bitCount_0f7a4 9 [l0] (.int x :: S) σ = exec d mJ6_bitCount_0f7a4 10 [.int x] S σ) ∧
  (∀ (d : Nat) (σ : Sg) (S : List Value) (x : Int32), exec d mJ6_bitCount_0f7a4 10 [.int x] S σ = exec d mJ6_bitCount_0f7a4 11 [.int x] (.int x :: S) σ) ∧
  (∀ (d : Nat) (σ : Sg) (S : List Value) (l0 : Value), exec d mJ6_bitCount_0f7a4 11 [l0] S σ = exec d mJ6_bitCount_0f7a4 14 [l0] (.int (nI 858993459) :: S) σ) ∧
  (∀ (d : Nat) (σ : Sg) (S : List Value) (l0 : Value) (x y : Int32), exec d mJ6_bitCount_0f7a4 14 [l0] (.int y :: .int x :: S) σ = exec d mJ6_bitCount_0f7a4 15 [l0] (.int (x &&& y) :: S) σ) ∧
  (∀ (d : Nat) (σ : Sg) (S : List Value) (x : Int32), exec d mJ6_bitCount_0f7a4 15 [.int x] S σ = exec d mJ6_bitCount_0f7a4 16 [.int x] (.int x :: S) σ) ∧
  (∀ (d : Nat) (σ : Sg) (S : List Value) (l0 : Value), exec d mJ6_bitCount_0f7a4 16 [l0] S σ = exec d mJ6_bitCount_0f7a4 17 [l0] (.int (nI 2) :: S) σ) ∧
  (∀ (d : Nat) (σ : Sg) (S : List Value) (l0 : Value) (x y : Int32), exec d mJ6_bitCount_0f7a4 17 [l0] (.int y :: .int x :: S) σ = exec d mJ6_bitCount_0f7a4 18 [l0] (.int ((x.toUInt32 >>> (y.toUInt32 &&& Int32.toUInt32 31)).toInt32) :: S) σ) ∧
  (∀ (d : Nat) (σ : Sg) (S : List Value) (l0 : Value), exec d mJ6_bitCount_0f7a4 18 [l0] S σ = exec d mJ6_bitCount_0f7a4 21 [l0] (.int (nI 858993459) :: S) σ) ∧
  (∀ (d : Nat) (σ : Sg) (S : List Value) (l0 : Value) (x y : Int32), exec d mJ6_bitCount_0f7a4 21 [l0] (.int y :: .int x :: S) σ = exec d mJ6_bitCount_0f7a4 22 [l0] (.int (x &&& y) :: S) σ) ∧
  (∀ (d : Nat) (σ : Sg) (S : List Value) (l0 : Value) (x y : Int32), exec d mJ6_bitCount_0f7a4 22 [l0] (.int y :: .int x :: S) σ = exec d mJ6_bitCount_0f7a4 23 [l0] (.int (x + y) :: S) σ) ∧
  (∀ (d : Nat) (σ : Sg) (S : List Value) (l0 : Value) (x : Int32), exec d mJ6_bitCount_0f7a4 23 [l0] (.int x :: S) σ = exec d mJ6_bitCount_0f7a4 24 [.int x] S σ) ∧
  (∀ (d : Nat) (σ : Sg) (S : List Value) (x : Int32), exec d mJ6_bitCount_0f7a4 24 [.int x] S σ = exec d mJ6_bitCount_0f7a4 25 [.int x] (.int x :: S) σ) ∧
  (∀ (d : Nat) (σ : Sg) (S : List Value) (x : Int32), exec d mJ6_bitCount_0f7a4 25 [.int x] S σ = exec d mJ6_bitCount_0f7a4 26 [.int x] (.int x :: S) σ) ∧
  (∀ (d : Nat) (σ : Sg) (S : List Value) (l0 : Value), exec d mJ6_bitCount_0f7a4 26 [l0] S σ = exec d mJ6_bitCount_0f7a4 27 [l0] (.int (nI 4) :: S) σ) ∧
  (∀ (d : Nat) (σ : Sg) (S : List Value) (l0 : Value) (x y : Int32), exec d mJ6_bitCount_0f7a4 27 [l0] (.int y :: .int x :: S) σ = exec d mJ6_bitCount_0f7a4 28 [l0] (.int ((x.toUInt32 >>> (y.toUInt32 &&& Int32.toUInt32 31)).toInt32) :: S) σ) ∧
  (∀ (d : Nat) (σ : Sg) (S : List Value) (l0 : Value) (x y : Int32), exec d mJ6_bitCount_0f7a4 28 [l0] (.int y :: .int x :: S) σ = exec d mJ6_bitCount_0f7a4 29 [l0] (.int (x + y) :: S) σ) ∧
  (∀ (d : Nat) (σ : Sg) (S : List Value) (l0 : Value), exec d mJ6_bitCount_0f7a4 29 [l0] S σ = exec d mJ6_bitCount_0f7a4 32 [l0] (.int (nI 252645135) :: S) σ) ∧
  (∀ (d : Nat) (σ : Sg) (S : List Value) (l0 : Value) (x y : Int32), exec d mJ6_bitCount_0f7a4 32 [l0] (.int y :: .int x :: S) σ = exec d mJ6_bitCount_0f7a4 33 [l0] (.int (x &&& y) :: S) σ) ∧
  (∀ (d : Nat) (σ : Sg) (S : List Value) (l0 : Value) (x : Int32), exec d mJ6_bitCount_0f7a4 33 [l0] (.int x :: S) σ = exec d mJ6_bitCount_0f7a4 34 [.int x] S σ) ∧
  (∀ (d : Nat) (σ : Sg) (S : List Value) (x : Int32), exec d mJ6_bitCount_0f7a4 34 [.int x] S σ = exec d mJ6_bitCount_0f7a4 35 [.int x] (.int x :: S) σ) ∧
  (∀ (d : Nat) (σ : Sg) (S : List Value) (x : Int32), exec d mJ6_bitCount_0f7a4 35 [.int x] S σ = exec d mJ6_bitCount_0f7a4 36 [.int x] (.int x :: S) σ) ∧
  (∀ (d : Nat) (σ : Sg) (S : List Value) (l0 : Value), exec d mJ6_bitCount_0f7a4 36 [l0] S σ = exec d mJ6_bitCount_0f7a4 38 [l0] (.int (nI 8) :: S) σ) ∧
  (∀ (d : Nat) (σ : Sg) (S : List Value) (l0 : Value) (x y : Int32), exec d mJ6_bitCount_0f7a4 38 [l0] (.int y :: .int x :: S) σ = exec d mJ6_bitCount_0f7a4 39 [l0] (.int ((x.toUInt32 >>> (y.toUInt32 &&& Int32.toUInt32 31)).toInt32) :: S) σ) ∧
  (∀ (d : Nat) (σ : Sg) (S : List Value) (l0 : Value) (x y : Int32), exec d mJ6_bitCount_0f7a4 39 [l0] (.int y :: .int x :: S) σ = exec d mJ6_bitCount_0f7a4 40 [l0] (.int (x + y) :: S) σ) ∧
  (∀ (d : Nat) (σ : Sg) (S : List Value) (l0 : Value) (x : Int32), exec d mJ6_bitCount_0f7a4 40 [l0] (.int x :: S) σ = exec d mJ6_bitCount_0f7a4 41 [.int x] S σ) ∧
  (∀ (d : Nat) (σ : Sg) (S : List Value) (x : Int32), exec d mJ6_bitCount_0f7a4 41 [.int x] S σ = exec d mJ6_bitCount_0f7a4 42 [.int x] (.int x :: S) σ) ∧
  (∀ (d : Nat) (σ : Sg) (S : List Value) (x : Int32), exec d mJ6_bitCount_0f7a4 42 [.int x] S σ = exec d mJ6_bitCount_0f7a4 43 [.int x] (.int x :: S) σ) ∧
  (∀ (d : Nat) (σ : Sg) (S : List Value) (l0 : Value), exec d mJ6_bitCount_0f7a4 43 [l0] S σ = exec d mJ6_bitCount_0f7a4 45 [l0] (.int (nI 16) :: S) σ) ∧
  (∀ (d : Nat) (σ : Sg) (S : List Value) (l0 : Value) (x y : Int32), exec d mJ6_bitCount_0f7a4 45 [l0] (.int y :: .int x :: S) σ = exec d mJ6_bitCount_0f7a4 46 [l0] (.int ((x.toUInt32 >>> (y.toUInt32 &&& Int32.toUInt32 31)).toInt32) :: S) σ) ∧
  (∀ (d : Nat) (σ : Sg) (S : List Value) (l0 : Value) (x y : Int32), exec d mJ6_bitCount_0f7a4 46 [l0] (.int y :: .int x :: S) σ = exec d mJ6_bitCount_0f7a4 47 [l0] (.int (x + y) :: S) σ) ∧
  (∀ (d : Nat) (σ : Sg) (S : List Value) (l0 : Value) (x : Int32), exec d mJ6_bitCount_0f7a4 47 [l0] (.int x :: S) σ = exec d mJ6_bitCount_0f7a4 48 [.int x] S σ) ∧
  (∀ (d : Nat) (σ : Sg) (S : List Value) (x : Int32), exec d mJ6_bitCount_0f7a4 48 [.int x] S σ = exec d mJ6_bitCount_0f7a4 49 [.int x] (.int x :: S) σ) ∧
  (∀ (d : Nat) (σ : Sg) (S : List Value) (l0 : Value), exec d mJ6_bitCount_0f7a4 49 [l0] S σ = exec d mJ6_bitCount_0f7a4 51 [l0] (.int (nI 63) :: S) σ) :=
  ⟨fun d σ S x => ex_iload_n (show decode mJ6_bitCount_0f7a4.2.1 0 = .ok (.iload_n 0, 1) by decide +kernel) rfl,
  fun d σ S x => ex_iload_n (show decode mJ6_bitCount_0f7a4.2.1 1 = .ok (.iload_n 0, 1) by decide +kernel) rfl,
  fun d σ S l0 => ex_iconst (show decode mJ6_bitCount_0f7a4.2.1 2 = .ok (.iconst 1, 1) by decide +kernel) (by decide +kernel),
  fun d σ S l0 x y => ex_iushr (show decode mJ6_bitCount_0f7a4.2.1 3 = .ok (.iushr, 1) by decide +kernel),
  fun d σ S l0 => ex_ldcw (hh := 607) (show decode mJ6_bitCount_0f7a4.2.1 4 = .ok (.ldc_w 265, 3) by decide +kernel) (by decide +kernel),
  fun d σ S l0 x y => ex_iand (show decode mJ6_bitCount_0f7a4.2.1 7 = .ok (.iand, 1) by decide +kernel),
  fun d σ S l0 x y => ex_isub (show decode mJ6_bitCount_0f7a4.2.1 8 = .ok (.isub, 1) by decide +kernel),
  fun d σ S l0 x => ex_istore_n (show decode mJ6_bitCount_0f7a4.2.1 9 = .ok (.istore_n 0, 1) by decide +kernel) (Nat.le_of_ble_eq_true rfl) rfl,
  fun d σ S x => ex_iload_n (show decode mJ6_bitCount_0f7a4.2.1 10 = .ok (.iload_n 0, 1) by decide +kernel) rfl,
  fun d σ S l0 => ex_ldcw (hh := 608) (show decode mJ6_bitCount_0f7a4.2.1 11 = .ok (.ldc_w 266, 3) by decide +kernel) (by decide +kernel),
  fun d σ S l0 x y => ex_iand (show decode mJ6_bitCount_0f7a4.2.1 14 = .ok (.iand, 1) by decide +kernel),
  fun d σ S x => ex_iload_n (show decode mJ6_bitCount_0f7a4.2.1 15 = .ok (.iload_n 0, 1) by decide +kernel) rfl,
  fun d σ S l0 => ex_iconst (show decode mJ6_bitCount_0f7a4.2.1 16 = .ok (.iconst 2, 1) by decide +kernel) (by decide +kernel),
  fun d σ S l0 x y => ex_iushr (show decode mJ6_bitCount_0f7a4.2.1 17 = .ok (.iushr, 1) by decide +kernel),
  fun d σ S l0 => ex_ldcw (hh := 608) (show decode mJ6_bitCount_0f7a4.2.1 18 = .ok (.ldc_w 266, 3) by decide +kernel) (by decide +kernel),
  fun d σ S l0 x y => ex_iand (show decode mJ6_bitCount_0f7a4.2.1 21 = .ok (.iand, 1) by decide +kernel),
  fun d σ S l0 x y => ex_iadd (show decode mJ6_bitCount_0f7a4.2.1 22 = .ok (.iadd, 1) by decide +kernel),
  fun d σ S l0 x => ex_istore_n (show decode mJ6_bitCount_0f7a4.2.1 23 = .ok (.istore_n 0, 1) by decide +kernel) (Nat.le_of_ble_eq_true rfl) rfl,
  fun d σ S x => ex_iload_n (show decode mJ6_bitCount_0f7a4.2.1 24 = .ok (.iload_n 0, 1) by decide +kernel) rfl,
  fun d σ S x => ex_iload_n (show decode mJ6_bitCount_0f7a4.2.1 25 = .ok (.iload_n 0, 1) by decide +kernel) rfl,
  fun d σ S l0 => ex_iconst (show decode mJ6_bitCount_0f7a4.2.1 26 = .ok (.iconst 4, 1) by decide +kernel) (by decide +kernel),
  fun d σ S l0 x y => ex_iushr (show decode mJ6_bitCount_0f7a4.2.1 27 = .ok (.iushr, 1) by decide +kernel),
  fun d σ S l0 x y => ex_iadd (show decode mJ6_bitCount_0f7a4.2.1 28 = .ok (.iadd, 1) by decide +kernel),
  fun d σ S l0 => ex_ldcw (hh := 609) (show decode mJ6_bitCount_0f7a4.2.1 29 = .ok (.ldc_w 267, 3) by decide +kernel) (by decide +kernel),
  fun d σ S l0 x y => ex_iand (show decode mJ6_bitCount_0f7a4.2.1 32 = .ok (.iand, 1) by decide +kernel),
  fun d σ S l0 x => ex_istore_n (show decode mJ6_bitCount_0f7a4.2.1 33 = .ok (.istore_n 0, 1) by decide +kernel) (Nat.le_of_ble_eq_true rfl) rfl,
  fun d σ S x => ex_iload_n (show decode mJ6_bitCount_0f7a4.2.1 34 = .ok (.iload_n 0, 1) by decide +kernel) rfl,
  fun d σ S x => ex_iload_n (show decode mJ6_bitCount_0f7a4.2.1 35 = .ok (.iload_n 0, 1) by decide +kernel) rfl,
  fun d σ S l0 => ex_bipush (show decode mJ6_bitCount_0f7a4.2.1 36 = .ok (.bipush 8, 2) by decide +kernel) (by decide +kernel),
  fun d σ S l0 x y => ex_iushr (show decode mJ6_bitCount_0f7a4.2.1 38 = .ok (.iushr, 1) by decide +kernel),
  fun d σ S l0 x y => ex_iadd (show decode mJ6_bitCount_0f7a4.2.1 39 = .ok (.iadd, 1) by decide +kernel),
  fun d σ S l0 x => ex_istore_n (show decode mJ6_bitCount_0f7a4.2.1 40 = .ok (.istore_n 0, 1) by decide +kernel) (Nat.le_of_ble_eq_true rfl) rfl,
  fun d σ S x => ex_iload_n (show decode mJ6_bitCount_0f7a4.2.1 41 = .ok (.iload_n 0, 1) by decide +kernel) rfl,
  fun d σ S x => ex_iload_n (show decode mJ6_bitCount_0f7a4.2.1 42 = .ok (.iload_n 0, 1) by decide +kernel) rfl,
  fun d σ S l0 => ex_bipush (show decode mJ6_bitCount_0f7a4.2.1 43 = .ok (.bipush 16, 2) by decide +kernel) (by decide +kernel),
  fun d σ S l0 x y => ex_iushr (show decode mJ6_bitCount_0f7a4.2.1 45 = .ok (.iushr, 1) by decide +kernel),
  fun d σ S l0 x y => ex_iadd (show decode mJ6_bitCount_0f7a4.2.1 46 = .ok (.iadd, 1) by decide +kernel),
  fun d σ S l0 x => ex_istore_n (show decode mJ6_bitCount_0f7a4.2.1 47 = .ok (.istore_n 0, 1) by decide +kernel) (Nat.le_of_ble_eq_true rfl) rfl,
  fun d σ S x => ex_iload_n (show decode mJ6_bitCount_0f7a4.2.1 48 = .ok (.iload_n 0, 1) by decide +kernel) rfl,
  fun d σ S l0 => ex_bipush (show decode mJ6_bitCount_0f7a4.2.1 49 = .ok (.bipush 63, 2) by decide +kernel) (by decide +kernel)⟩
theorem kJ6_bitCount_0f7a4_1 : (∀ (d : Nat) (σ : Sg) (S : List Value) (l0 : Value) (x y : Int32), exec d mJ6_bitCount_0f7a4 51 [l0] (.int y :: .int x :: S) σ = exec d mJ6_bitCount_0f7a4 52 [l0] (.int (x &&& y) :: S) σ) ∧
  (∀ (d : Nat) (σ : Sg) (l0 : Value) (x : Int32), exec d mJ6_bitCount_0f7a4 52 [l0] [.int x] σ = some (some (.int x), σ)) :=
  ⟨fun d σ S l0 x y => ex_iand (show decode mJ6_bitCount_0f7a4.2.1 51 = .ok (.iand, 1) by decide +kernel),
  fun d σ l0 x => ex_iret (show decode mJ6_bitCount_0f7a4.2.1 52 = .ok (.ireturn, 1) by decide +kernel) rfl⟩
theorem aJ6_bitCount_0f7a4 : ∀ (d : Nat) (a0 : Int32) (σ : Sg), cal (d + 1) mJ6_bitCount_0f7a4 [.int a0] σ = exec d mJ6_bitCount_0f7a4 0 [.int a0] [] σ := fun _ _ _ => rfl
