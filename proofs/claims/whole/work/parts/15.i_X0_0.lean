/-! generated: the instructions of GuildPiece$Acts -/
theorem kX0_forget : (∀ (d : Nat) (σ : Sg) (S : List Value) (k : Nat), exec d mX0_forget 0 [.ref k] S σ = exec d mX0_forget 1 [.ref k] (.ref k :: S) σ) ∧
  (∀ (d : Nat) (σ : Sg) (S : List Value) (l0 : Value), exec d mX0_forget 1 [l0] S σ = exec d mX0_forget 2 [l0] (.int (nI 0) :: S) σ) ∧
  (∀ (d : Nat) (σ : Sg) (S : List Value) (l0 : Value) (x : Int32), exec d mX0_forget 2 [l0] (.int x :: .ref 44 :: S) σ = exec d mX0_forget 5 [l0] S (up σ 44 1 x)) ∧
  (∀ (d : Nat) (σ : Sg) (l0 : Value), exec d mX0_forget 5 [l0] [] σ = some (none, σ)) :=
  ⟨fun d σ S k => ex_aload_n (show decode mX0_forget.2.1 0 = .ok (.aload_n 0, 1) by decide +kernel) rfl,
  fun d σ S l0 => ex_iconst (show decode mX0_forget.2.1 1 = .ok (.iconst 0, 1) by decide +kernel) (by decide +kernel),
  fun d σ S l0 x => ex_put (idx := 13) (ci := 0) (ff := 1) (n := 3) (hh := 279) (by decide +kernel),
  fun d σ l0 => ex_vret (show decode mX0_forget.2.1 5 = .ok (.return_, 1) by decide +kernel) rfl⟩
theorem aX0_forget_44 : ∀ (d : Nat)  (σ : Sg), cal (d + 1) mX0_forget [.ref 44] σ = exec d mX0_forget 0 [.ref 44] [] σ := fun _ _ => rfl
theorem kX0_keep_0 : (∀ (d : Nat) (σ : Sg) (S : List Value) (l1 l2 : Value) (k : Nat), exec d mX0_keep 0 [.ref k, l1, l2] S σ = exec d mX0_keep 1 [.ref k, l1, l2] (.ref k :: S) σ) ∧
  (∀ (d : Nat) (σ : Sg) (S : List Value) (l0 l1 l2 : Value), exec d mX0_keep 1 [l0, l1, l2] (.ref 44 :: S) σ = exec d mX0_keep 4 [l0, l1, l2] (.int (σ 44 2) :: S) σ) ∧
  (∀ (d : Nat) (σ : Sg) (S : List Value) (l0 l1 l2 : Value), exec d mX0_keep 4 [l0, l1, l2] S σ = exec d mX0_keep 6 [l0, l1, l2] (.int (nI 6) :: S) σ) ∧
  (∀ (d : Nat) (σ : Sg) (S : List Value) (l0 l1 l2 : Value) (x y : Int32), exec d mX0_keep 6 [l0, l1, l2] (.int y :: .int x :: S) σ = exec d mX0_keep 7 [l0, l1, l2] (.int (x * y) :: S) σ) ∧
  (∀ (d : Nat) (σ : Sg) (S : List Value) (l0 l2 : Value) (k : Nat) (x : Int32), exec d mX0_keep 7 [l0, .ref k, l2] (.int x :: S) σ = exec d mX0_keep 8 [l0, .ref k, .int x] S σ) ∧
  (∀ (d : Nat) (σ : Sg) (S : List Value) (l1 l2 : Value) (k : Nat), exec d mX0_keep 8 [.ref k, l1, l2] S σ = exec d mX0_keep 9 [.ref k, l1, l2] (.ref k :: S) σ) ∧
  (∀ (d : Nat) (σ : Sg) (S : List Value) (l0 l1 l2 : Value), exec d mX0_keep 9 [l0, l1, l2] (.ref 44 :: S) σ = exec d mX0_keep 12 [l0, l1, l2] (.ref 45 :: S) σ) ∧
  (∀ (d : Nat) (σ : Sg) (S : List Value) (l0 l1 : Value) (x : Int32), exec d mX0_keep 12 [l0, l1, .int x] S σ = exec d mX0_keep 13 [l0, l1, .int x] (.int x :: S) σ) ∧
  (∀ (d : Nat) (σ : Sg) (S : List Value) (l0 l2 : Value) (k : Nat), exec d mX0_keep 13 [l0, .ref k, l2] S σ = exec d mX0_keep 14 [l0, .ref k, l2] (.ref k :: S) σ) ∧
  (∀ (d : Nat) (σ : Sg) (S : List Value) (l0 l1 l2 : Value), exec d mX0_keep 14 [l0, l1, l2] (.ref 8 :: S) σ = exec d mX0_keep 17 [l0, l1, l2] (.int (σ 8 1) :: S) σ) ∧
  (∀ (d : Nat) (σ : Sg) (S : List Value) (l0 l1 l2 : Value) (x y : Int32), exec d mX0_keep 17 [l0, l1, l2] (.int y :: .int x :: .ref 45 :: S) σ = if inb x 144 = true then exec d mX0_keep 18 [l0, l1, l2] S (up σ 45 x.toNatClampNeg y) else none) ∧
  (∀ (d : Nat) (σ : Sg) (S : List Value) (l1 l2 : Value) (k : Nat), exec d mX0_keep 18 [.ref k, l1, l2] S σ = exec d mX0_keep 19 [.ref k, l1, l2] (.ref k :: S) σ) ∧
  (∀ (d : Nat) (σ : Sg) (S : List Value) (l0 l1 l2 : Value), exec d mX0_keep 19 [l0, l1, l2] (.ref 44 :: S) σ = exec d mX0_keep 22 [l0, l1, l2] (.ref 45 :: S) σ) ∧
  (∀ (d : Nat) (σ : Sg) (S : List Value) (l0 l1 : Value) (x : Int32), exec d mX0_keep 22 [l0, l1, .int x] S σ = exec d mX0_keep 23 [l0, l1, .int x] (.int x :: S) σ) ∧
  (∀ (d : Nat) (σ : Sg) (S : List Value) (l0 l1 l2 : Value), exec d mX0_keep 23 [l0, l1, l2] S σ = exec d mX0_keep 24 [l0, l1, l2] (.int (nI 1) :: S) σ) ∧
  (∀ (d : Nat) (σ : Sg) (S : List Value) (l0 l1 l2 : Value) (x y : Int32), exec d mX0_keep 24 [l0, l1, l2] (.int y :: .int x :: S) σ = exec d mX0_keep 25 [l0, l1, l2] (.int (x + y) :: S) σ) ∧
  (∀ (d : Nat) (σ : Sg) (S : List Value) (l0 l2 : Value) (k : Nat), exec d mX0_keep 25 [l0, .ref k, l2] S σ = exec d mX0_keep 26 [l0, .ref k, l2] (.ref k :: S) σ) ∧
  (∀ (d : Nat) (σ : Sg) (S : List Value) (l0 l1 l2 : Value), exec d mX0_keep 26 [l0, l1, l2] (.ref 8 :: S) σ = exec d mX0_keep 29 [l0, l1, l2] (.int (σ 8 2) :: S) σ) ∧
  (∀ (d : Nat) (σ : Sg) (S : List Value) (l0 l1 l2 : Value) (x y : Int32), exec d mX0_keep 29 [l0, l1, l2] (.int y :: .int x :: .ref 45 :: S) σ = if inb x 144 = true then exec d mX0_keep 30 [l0, l1, l2] S (up σ 45 x.toNatClampNeg y) else none) ∧
  (∀ (d : Nat) (σ : Sg) (S : List Value) (l1 l2 : Value) (k : Nat), exec d mX0_keep 30 [.ref k, l1, l2] S σ = exec d mX0_keep 31 [.ref k, l1, l2] (.ref k :: S) σ) ∧
  (∀ (d : Nat) (σ : Sg) (S : List Value) (l0 l1 l2 : Value), exec d mX0_keep 31 [l0, l1, l2] (.ref 44 :: S) σ = exec d mX0_keep 34 [l0, l1, l2] (.ref 45 :: S) σ) ∧
  (∀ (d : Nat) (σ : Sg) (S : List Value) (l0 l1 : Value) (x : Int32), exec d mX0_keep 34 [l0, l1, .int x] S σ = exec d mX0_keep 35 [l0, l1, .int x] (.int x :: S) σ) ∧
  (∀ (d : Nat) (σ : Sg) (S : List Value) (l0 l1 l2 : Value), exec d mX0_keep 35 [l0, l1, l2] S σ = exec d mX0_keep 36 [l0, l1, l2] (.int (nI 2) :: S) σ) ∧
  (∀ (d : Nat) (σ : Sg) (S : List Value) (l0 l1 l2 : Value) (x y : Int32), exec d mX0_keep 36 [l0, l1, l2] (.int y :: .int x :: S) σ = exec d mX0_keep 37 [l0, l1, l2] (.int (x + y) :: S) σ) ∧
  (∀ (d : Nat) (σ : Sg) (S : List Value) (l0 l2 : Value) (k : Nat), exec d mX0_keep 37 [l0, .ref k, l2] S σ = exec d mX0_keep 38 [l0, .ref k, l2] (.ref k :: S) σ) ∧
  (∀ (d : Nat) (σ : Sg) (S : List Value) (l0 l1 l2 : Value), exec d mX0_keep 38 [l0, l1, l2] (.ref 8 :: S) σ = exec d mX0_keep 41 [l0, l1, l2] (.int (σ 8 3) :: S) σ) ∧
  (∀ (d : Nat) (σ : Sg) (S : List Value) (l0 l1 l2 : Value) (x y : Int32), exec d mX0_keep 41 [l0, l1, l2] (.int y :: .int x :: .ref 45 :: S) σ = if inb x 144 = true then exec d mX0_keep 42 [l0, l1, l2] S (up σ 45 x.toNatClampNeg y) else none) ∧
  (∀ (d : Nat) (σ : Sg) (S : List Value) (l1 l2 : Value) (k : Nat), exec d mX0_keep 42 [.ref k, l1, l2] S σ = exec d mX0_keep 43 [.ref k, l1, l2] (.ref k :: S) σ) ∧
  (∀ (d : Nat) (σ : Sg) (S : List Value) (l0 l1 l2 : Value), exec d mX0_keep 43 [l0, l1, l2] (.ref 44 :: S) σ = exec d mX0_keep 46 [l0, l1, l2] (.ref 45 :: S) σ) ∧
  (∀ (d : Nat) (σ : Sg) (S : List Value) (l0 l1 : Value) (x : Int32), exec d mX0_keep 46 [l0, l1, .int x] S σ = exec d mX0_keep 47 [l0, l1, .int x] (.int x :: S) σ) ∧
  (∀ (d : Nat) (σ : Sg) (S : List Value) (l0 l1 l2 : Value), exec d mX0_keep 47 [l0, l1, l2] S σ = exec d mX0_keep 48 [l0, l1, l2] (.int (nI 3) :: S) σ) ∧
  (∀ (d : Nat) (σ : Sg) (S : List Value) (l0 l1 l2 : Value) (x y : Int32), exec d mX0_keep 48 [l0, l1, l2] (.int y :: .int x :: S) σ = exec d mX0_keep 49 [l0, l1, l2] (.int (x + y) :: S) σ) ∧
  (∀ (d : Nat) (σ : Sg) (S : List Value) (l0 l2 : Value) (k : Nat), exec d mX0_keep 49 [l0, .ref k, l2] S σ = exec d mX0_keep 50 [l0, .ref k, l2] (.ref k :: S) σ) ∧
  (∀ (d : Nat) (σ : Sg) (S : List Value) (l0 l1 l2 : Value), exec d mX0_keep 50 [l0, l1, l2] (.ref 8 :: S) σ = exec d mX0_keep 53 [l0, l1, l2] (.int (σ 8 6) :: S) σ) ∧
  (∀ (d : Nat) (σ : Sg) (S : List Value) (l0 l1 l2 : Value) (x y : Int32), exec d mX0_keep 53 [l0, l1, l2] (.int y :: .int x :: .ref 45 :: S) σ = if inb x 144 = true then exec d mX0_keep 54 [l0, l1, l2] S (up σ 45 x.toNatClampNeg y) else none) ∧
  (∀ (d : Nat) (σ : Sg) (S : List Value) (l1 l2 : Value) (k : Nat), exec d mX0_keep 54 [.ref k, l1, l2] S σ = exec d mX0_keep 55 [.ref k, l1, l2] (.ref k :: S) σ) ∧
  (∀ (d : Nat) (σ : Sg) (S : List Value) (l0 l1 l2 : Value), exec d mX0_keep 55 [l0, l1, l2] (.ref 44 :: S) σ = exec d mX0_keep 58 [l0, l1, l2] (.ref 45 :: S) σ) ∧
  (∀ (d : Nat) (σ : Sg) (S : List Value) (l0 l1 : Value) (x : Int32), exec d mX0_keep 58 [l0, l1, .int x] S σ = exec d mX0_keep 59 [l0, l1, .int x] (.int x :: S) σ) ∧
  (∀ (d : Nat) (σ : Sg) (S : List Value) (l0 l1 l2 : Value), exec d mX0_keep 59 [l0, l1, l2] S σ = exec d mX0_keep 60 [l0, l1, l2] (.int (nI 4) :: S) σ) ∧
  (∀ (d : Nat) (σ : Sg) (S : List Value) (l0 l1 l2 : Value) (x y : Int32), exec d mX0_keep 60 [l0, l1, l2] (.int y :: .int x :: S) σ = exec d mX0_keep 61 [l0, l1, l2] (.int (x + y) :: S) σ) :=
  ⟨fun d σ S l1 l2 k => ex_aload_n (show decode mX0_keep.2.1 0 = .ok (.aload_n 0, 1) by decide +kernel) rfl,
  fun d σ S l0 l1 l2 => ex_get (idx := 17) (ci := 0) (ff := 2) (n := 3) (hh := 281) (by decide +kernel),
  fun d σ S l0 l1 l2 => ex_bipush (show decode mX0_keep.2.1 4 = .ok (.bipush 6, 2) by decide +kernel) (by decide +kernel),
  fun d σ S l0 l1 l2 x y => ex_imul (show decode mX0_keep.2.1 6 = .ok (.imul, 1) by decide +kernel),
  fun d σ S l0 l2 k x => ex_istore_n (show decode mX0_keep.2.1 7 = .ok (.istore_n 2, 1) by decide +kernel) (Nat.le_of_ble_eq_true rfl) rfl,
  fun d σ S l1 l2 k => ex_aload_n (show decode mX0_keep.2.1 8 = .ok (.aload_n 0, 1) by decide +kernel) rfl,
  fun d σ S l0 l1 l2 => ex_getr (idx := 9) (ci := 0) (ff := 0) (n := 3) (hh := 278) (by decide +kernel),
  fun d σ S l0 l1 x => ex_iload_n (show decode mX0_keep.2.1 12 = .ok (.iload_n 2, 1) by decide +kernel) rfl,
  fun d σ S l0 l2 k => ex_aload_n (show decode mX0_keep.2.1 13 = .ok (.aload_n 1, 1) by decide +kernel) rfl,
  fun d σ S l0 l1 l2 => ex_get (idx := 20) (ci := 5) (ff := 1) (n := 17) (hh := 184) (by decide +kernel),
  fun d σ S l0 l1 l2 x y => ex_iast (by decide +kernel),
  fun d σ S l1 l2 k => ex_aload_n (show decode mX0_keep.2.1 18 = .ok (.aload_n 0, 1) by decide +kernel) rfl,
  fun d σ S l0 l1 l2 => ex_getr (idx := 9) (ci := 0) (ff := 0) (n := 3) (hh := 278) (by decide +kernel),
  fun d σ S l0 l1 x => ex_iload_n (show decode mX0_keep.2.1 22 = .ok (.iload_n 2, 1) by decide +kernel) rfl,
  fun d σ S l0 l1 l2 => ex_iconst (show decode mX0_keep.2.1 23 = .ok (.iconst 1, 1) by decide +kernel) (by decide +kernel),
  fun d σ S l0 l1 l2 x y => ex_iadd (show decode mX0_keep.2.1 24 = .ok (.iadd, 1) by decide +kernel),
  fun d σ S l0 l2 k => ex_aload_n (show decode mX0_keep.2.1 25 = .ok (.aload_n 1, 1) by decide +kernel) rfl,
  fun d σ S l0 l1 l2 => ex_get (idx := 25) (ci := 5) (ff := 2) (n := 17) (hh := 190) (by decide +kernel),
  fun d σ S l0 l1 l2 x y => ex_iast (by decide +kernel),
  fun d σ S l1 l2 k => ex_aload_n (show decode mX0_keep.2.1 30 = .ok (.aload_n 0, 1) by decide +kernel) rfl,
  fun d σ S l0 l1 l2 => ex_getr (idx := 9) (ci := 0) (ff := 0) (n := 3) (hh := 278) (by decide +kernel),
  fun d σ S l0 l1 x => ex_iload_n (show decode mX0_keep.2.1 34 = .ok (.iload_n 2, 1) by decide +kernel) rfl,
  fun d σ S l0 l1 l2 => ex_iconst (show decode mX0_keep.2.1 35 = .ok (.iconst 2, 1) by decide +kernel) (by decide +kernel),
  fun d σ S l0 l1 l2 x y => ex_iadd (show decode mX0_keep.2.1 36 = .ok (.iadd, 1) by decide +kernel),
  fun d σ S l0 l2 k => ex_aload_n (show decode mX0_keep.2.1 37 = .ok (.aload_n 1, 1) by decide +kernel) rfl,
  fun d σ S l0 l1 l2 => ex_get (idx := 28) (ci := 5) (ff := 3) (n := 17) (hh := 194) (by decide +kernel),
  fun d σ S l0 l1 l2 x y => ex_iast (by decide +kernel),
  fun d σ S l1 l2 k => ex_aload_n (show decode mX0_keep.2.1 42 = .ok (.aload_n 0, 1) by decide +kernel) rfl,
  fun d σ S l0 l1 l2 => ex_getr (idx := 9) (ci := 0) (ff := 0) (n := 3) (hh := 278) (by decide +kernel),
  fun d σ S l0 l1 x => ex_iload_n (show decode mX0_keep.2.1 46 = .ok (.iload_n 2, 1) by decide +kernel) rfl,
  fun d σ S l0 l1 l2 => ex_iconst (show decode mX0_keep.2.1 47 = .ok (.iconst 3, 1) by decide +kernel) (by decide +kernel),
  fun d σ S l0 l1 l2 x y => ex_iadd (show decode mX0_keep.2.1 48 = .ok (.iadd, 1) by decide +kernel),
  fun d σ S l0 l2 k => ex_aload_n (show decode mX0_keep.2.1 49 = .ok (.aload_n 1, 1) by decide +kernel) rfl,
  fun d σ S l0 l1 l2 => ex_get (idx := 31) (ci := 5) (ff := 6) (n := 17) (hh := 207) (by decide +kernel),
  fun d σ S l0 l1 l2 x y => ex_iast (by decide +kernel),
  fun d σ S l1 l2 k => ex_aload_n (show decode mX0_keep.2.1 54 = .ok (.aload_n 0, 1) by decide +kernel) rfl,
  fun d σ S l0 l1 l2 => ex_getr (idx := 9) (ci := 0) (ff := 0) (n := 3) (hh := 278) (by decide +kernel),
  fun d σ S l0 l1 x => ex_iload_n (show decode mX0_keep.2.1 58 = .ok (.iload_n 2, 1) by decide +kernel) rfl,
  fun d σ S l0 l1 l2 => ex_iconst (show decode mX0_keep.2.1 59 = .ok (.iconst 4, 1) by decide +kernel) (by decide +kernel),
  fun d σ S l0 l1 l2 x y => ex_iadd (show decode mX0_keep.2.1 60 = .ok (.iadd, 1) by decide +kernel)⟩
theorem kX0_keep_1 : (∀ (d : Nat) (σ : Sg) (S : List Value) (l0 l2 : Value) (k : Nat), exec d mX0_keep 61 [l0, .ref k, l2] S σ = exec d mX0_keep 62 [l0, .ref k, l2] (.ref k :: S) σ) ∧
  (∀ (d : Nat) (σ : Sg) (S : List Value) (l0 l1 l2 : Value), exec d mX0_keep 62 [l0, l1, l2] (.ref 8 :: S) σ = exec d mX0_keep 65 [l0, l1, l2] (.int (σ 8 7) :: S) σ) ∧
  (∀ (d : Nat) (σ : Sg) (S : List Value) (l0 l1 l2 : Value) (x y : Int32), exec d mX0_keep 65 [l0, l1, l2] (.int y :: .int x :: .ref 45 :: S) σ = if inb x 144 = true then exec d mX0_keep 66 [l0, l1, l2] S (up σ 45 x.toNatClampNeg y) else none) ∧
  (∀ (d : Nat) (σ : Sg) (S : List Value) (l1 l2 : Value) (k : Nat), exec d mX0_keep 66 [.ref k, l1, l2] S σ = exec d mX0_keep 67 [.ref k, l1, l2] (.ref k :: S) σ) ∧
  (∀ (d : Nat) (σ : Sg) (S : List Value) (l0 l1 l2 : Value), exec d mX0_keep 67 [l0, l1, l2] (.ref 44 :: S) σ = exec d mX0_keep 70 [l0, l1, l2] (.ref 45 :: S) σ) ∧
  (∀ (d : Nat) (σ : Sg) (S : List Value) (l0 l1 : Value) (x : Int32), exec d mX0_keep 70 [l0, l1, .int x] S σ = exec d mX0_keep 71 [l0, l1, .int x] (.int x :: S) σ) ∧
  (∀ (d : Nat) (σ : Sg) (S : List Value) (l0 l1 l2 : Value), exec d mX0_keep 71 [l0, l1, l2] S σ = exec d mX0_keep 72 [l0, l1, l2] (.int (nI 5) :: S) σ) ∧
  (∀ (d : Nat) (σ : Sg) (S : List Value) (l0 l1 l2 : Value) (x y : Int32), exec d mX0_keep 72 [l0, l1, l2] (.int y :: .int x :: S) σ = exec d mX0_keep 73 [l0, l1, l2] (.int (x + y) :: S) σ) ∧
  (∀ (d : Nat) (σ : Sg) (S : List Value) (l0 l2 : Value) (k : Nat), exec d mX0_keep 73 [l0, .ref k, l2] S σ = exec d mX0_keep 74 [l0, .ref k, l2] (.ref k :: S) σ) ∧
  (∀ (d : Nat) (σ : Sg) (S : List Value) (l0 l1 l2 : Value), exec d mX0_keep 74 [l0, l1, l2] (.ref 8 :: S) σ = exec d mX0_keep 77 [l0, l1, l2] (.int (σ 8 8) :: S) σ) ∧
  (∀ (d : Nat) (σ : Sg) (S : List Value) (l0 l1 l2 : Value) (x y : Int32), exec d mX0_keep 77 [l0, l1, l2] (.int y :: .int x :: .ref 45 :: S) σ = if inb x 144 = true then exec d mX0_keep 78 [l0, l1, l2] S (up σ 45 x.toNatClampNeg y) else none) ∧
  (∀ (d : Nat) (σ : Sg) (S : List Value) (l1 l2 : Value) (k : Nat), exec d mX0_keep 78 [.ref k, l1, l2] S σ = exec d mX0_keep 79 [.ref k, l1, l2] (.ref k :: S) σ) ∧
  (∀ (d : Nat) (σ : Sg) (S : List Value) (l1 l2 : Value) (k : Nat), exec d mX0_keep 79 [.ref k, l1, l2] S σ = exec d mX0_keep 80 [.ref k, l1, l2] (.ref k :: S) σ) ∧
  (∀ (d : Nat) (σ : Sg) (S : List Value) (l0 l1 l2 : Value), exec d mX0_keep 80 [l0, l1, l2] (.ref 44 :: S) σ = exec d mX0_keep 83 [l0, l1, l2] (.int (σ 44 2) :: S) σ) ∧
  (∀ (d : Nat) (σ : Sg) (S : List Value) (l0 l1 l2 : Value), exec d mX0_keep 83 [l0, l1, l2] S σ = exec d mX0_keep 84 [l0, l1, l2] (.int (nI 1) :: S) σ) ∧
  (∀ (d : Nat) (σ : Sg) (S : List Value) (l0 l1 l2 : Value) (x y : Int32), exec d mX0_keep 84 [l0, l1, l2] (.int y :: .int x :: S) σ = exec d mX0_keep 85 [l0, l1, l2] (.int (x + y) :: S) σ) ∧
  (∀ (d : Nat) (σ : Sg) (S : List Value) (l0 l1 l2 : Value), exec d mX0_keep 85 [l0, l1, l2] S σ = exec d mX0_keep 87 [l0, l1, l2] (.int (nI 24) :: S) σ) ∧
  (∀ (d : Nat) (σ : Sg) (S : List Value) (l0 l1 l2 : Value) (x y : Int32), exec d mX0_keep 87 [l0, l1, l2] (.int y :: .int x :: S) σ = if y ≤ x then exec d mX0_keep 99 [l0, l1, l2] S σ else exec d mX0_keep 90 [l0, l1, l2] S σ) ∧
  (∀ (d : Nat) (σ : Sg) (S : List Value) (l1 l2 : Value) (k : Nat), exec d mX0_keep 90 [.ref k, l1, l2] S σ = exec d mX0_keep 91 [.ref k, l1, l2] (.ref k :: S) σ) ∧
  (∀ (d : Nat) (σ : Sg) (S : List Value) (l0 l1 l2 : Value), exec d mX0_keep 91 [l0, l1, l2] (.ref 44 :: S) σ = exec d mX0_keep 94 [l0, l1, l2] (.int (σ 44 2) :: S) σ) ∧
  (∀ (d : Nat) (σ : Sg) (S : List Value) (l0 l1 l2 : Value), exec d mX0_keep 94 [l0, l1, l2] S σ = exec d mX0_keep 95 [l0, l1, l2] (.int (nI 1) :: S) σ) ∧
  (∀ (d : Nat) (σ : Sg) (S : List Value) (l0 l1 l2 : Value) (x y : Int32), exec d mX0_keep 95 [l0, l1, l2] (.int y :: .int x :: S) σ = exec d mX0_keep 96 [l0, l1, l2] (.int (x + y) :: S) σ) ∧
  (∀ (d : Nat) (σ : Sg) (S : List Value) (l0 l1 l2 : Value), exec d mX0_keep 96 [l0, l1, l2] S σ = exec d mX0_keep 100 [l0, l1, l2] S σ) ∧
  (∀ (d : Nat) (σ : Sg) (S : List Value) (l0 l1 l2 : Value), exec d mX0_keep 99 [l0, l1, l2] S σ = exec d mX0_keep 100 [l0, l1, l2] (.int (nI 0) :: S) σ) ∧
  (∀ (d : Nat) (σ : Sg) (S : List Value) (l0 l1 l2 : Value) (x : Int32), exec d mX0_keep 100 [l0, l1, l2] (.int x :: .ref 44 :: S) σ = exec d mX0_keep 103 [l0, l1, l2] S (up σ 44 2 x)) ∧
  (∀ (d : Nat) (σ : Sg) (S : List Value) (l1 l2 : Value) (k : Nat), exec d mX0_keep 103 [.ref k, l1, l2] S σ = exec d mX0_keep 104 [.ref k, l1, l2] (.ref k :: S) σ) ∧
  (∀ (d : Nat) (σ : Sg) (S : List Value) (l0 l1 l2 : Value), exec d mX0_keep 104 [l0, l1, l2] S σ = exec d mX0_keep 106 [l0, l1, l2] (.int (nI 24) :: S) σ) ∧
  (∀ (d : Nat) (σ : Sg) (S : List Value) (l1 l2 : Value) (k : Nat), exec d mX0_keep 106 [.ref k, l1, l2] S σ = exec d mX0_keep 107 [.ref k, l1, l2] (.ref k :: S) σ) ∧
  (∀ (d : Nat) (σ : Sg) (S : List Value) (l0 l1 l2 : Value), exec d mX0_keep 107 [l0, l1, l2] (.ref 44 :: S) σ = exec d mX0_keep 110 [l0, l1, l2] (.int (σ 44 1) :: S) σ) ∧
  (∀ (d : Nat) (σ : Sg) (S : List Value) (l0 l1 l2 : Value), exec d mX0_keep 110 [l0, l1, l2] S σ = exec d mX0_keep 111 [l0, l1, l2] (.int (nI 1) :: S) σ) ∧
  (∀ (d : Nat) (σ : Sg) (S : List Value) (l0 l1 l2 : Value) (x y : Int32), exec d mX0_keep 111 [l0, l1, l2] (.int y :: .int x :: S) σ = exec d mX0_keep 112 [l0, l1, l2] (.int (x + y) :: S) σ) ∧
  (∀ (d : Nat) (σ : Sg) (l0 l1 l2 : Value) (x y : Int32), exec d mX0_keep 112 [l0, l1, l2] (.int y :: .int x :: [.ref 44]) σ = exec d mX0_keep 115 [l0, l1, l2] (.int (if y < x then y else x) :: [.ref 44]) σ) ∧
  (∀ (d : Nat) (σ : Sg) (S : List Value) (l0 l1 l2 : Value) (x : Int32), exec d mX0_keep 115 [l0, l1, l2] (.int x :: .ref 44 :: S) σ = exec d mX0_keep 118 [l0, l1, l2] S (up σ 44 1 x)) ∧
  (∀ (d : Nat) (σ : Sg) (l0 l1 l2 : Value), exec d mX0_keep 118 [l0, l1, l2] [] σ = some (none, σ)) :=
  ⟨fun d σ S l0 l2 k => ex_aload_n (show decode mX0_keep.2.1 61 = .ok (.aload_n 1, 1) by decide +kernel) rfl,
  fun d σ S l0 l1 l2 => ex_get (idx := 34) (ci := 5) (ff := 7) (n := 17) (hh := 211) (by decide +kernel),
  fun d σ S l0 l1 l2 x y => ex_iast (by decide +kernel),
  fun d σ S l1 l2 k => ex_aload_n (show decode mX0_keep.2.1 66 = .ok (.aload_n 0, 1) by decide +kernel) rfl,
  fun d σ S l0 l1 l2 => ex_getr (idx := 9) (ci := 0) (ff := 0) (n := 3) (hh := 278) (by decide +kernel),
  fun d σ S l0 l1 x => ex_iload_n (show decode mX0_keep.2.1 70 = .ok (.iload_n 2, 1) by decide +kernel) rfl,
  fun d σ S l0 l1 l2 => ex_iconst (show decode mX0_keep.2.1 71 = .ok (.iconst 5, 1) by decide +kernel) (by decide +kernel),
  fun d σ S l0 l1 l2 x y => ex_iadd (show decode mX0_keep.2.1 72 = .ok (.iadd, 1) by decide +kernel),
  fun d σ S l0 l2 k => ex_aload_n (show decode mX0_keep.2.1 73 = .ok (.aload_n 1, 1) by decide +kernel) rfl,
  fun d σ S l0 l1 l2 => ex_get (idx := 37) (ci := 5) (ff := 8) (n := 17) (hh := 214) (by decide +kernel),
  fun d σ S l0 l1 l2 x y => ex_iast (by decide +kernel),
  fun d σ S l1 l2 k => ex_aload_n (show decode mX0_keep.2.1 78 = .ok (.aload_n 0, 1) by decide +kernel) rfl,
  fun d σ S l1 l2 k => ex_aload_n (show decode mX0_keep.2.1 79 = .ok (.aload_n 0, 1) by decide +kernel) rfl,
  fun d σ S l0 l1 l2 => ex_get (idx := 17) (ci := 0) (ff := 2) (n := 3) (hh := 281) (by decide +kernel),
  fun d σ S l0 l1 l2 => ex_iconst (show decode mX0_keep.2.1 83 = .ok (.iconst 1, 1) by decide +kernel) (by decide +kernel),
  fun d σ S l0 l1 l2 x y => ex_iadd (show decode mX0_keep.2.1 84 = .ok (.iadd, 1) by decide +kernel),
  fun d σ S l0 l1 l2 => ex_bipush (show decode mX0_keep.2.1 85 = .ok (.bipush 24, 2) by decide +kernel) (by decide +kernel),
  fun d σ S l0 l1 l2 x y => ex_cge (show decode mX0_keep.2.1 87 = .ok (.if_icmp .ge 12, 3) by decide +kernel) (by decide),
  fun d σ S l1 l2 k => ex_aload_n (show decode mX0_keep.2.1 90 = .ok (.aload_n 0, 1) by decide +kernel) rfl,
  fun d σ S l0 l1 l2 => ex_get (idx := 17) (ci := 0) (ff := 2) (n := 3) (hh := 281) (by decide +kernel),
  fun d σ S l0 l1 l2 => ex_iconst (show decode mX0_keep.2.1 94 = .ok (.iconst 1, 1) by decide +kernel) (by decide +kernel),
  fun d σ S l0 l1 l2 x y => ex_iadd (show decode mX0_keep.2.1 95 = .ok (.iadd, 1) by decide +kernel),
  fun d σ S l0 l1 l2 => ex_goto (show decode mX0_keep.2.1 96 = .ok (.goto 4, 3) by decide +kernel) (by decide),
  fun d σ S l0 l1 l2 => ex_iconst (show decode mX0_keep.2.1 99 = .ok (.iconst 0, 1) by decide +kernel) (by decide +kernel),
  fun d σ S l0 l1 l2 x => ex_put (idx := 17) (ci := 0) (ff := 2) (n := 3) (hh := 281) (by decide +kernel),
  fun d σ S l1 l2 k => ex_aload_n (show decode mX0_keep.2.1 103 = .ok (.aload_n 0, 1) by decide +kernel) rfl,
  fun d σ S l0 l1 l2 => ex_bipush (show decode mX0_keep.2.1 104 = .ok (.bipush 24, 2) by decide +kernel) (by decide +kernel),
  fun d σ S l1 l2 k => ex_aload_n (show decode mX0_keep.2.1 106 = .ok (.aload_n 0, 1) by decide +kernel) rfl,
  fun d σ S l0 l1 l2 => ex_get (idx := 13) (ci := 0) (ff := 1) (n := 3) (hh := 279) (by decide +kernel),
  fun d σ S l0 l1 l2 => ex_iconst (show decode mX0_keep.2.1 110 = .ok (.iconst 1, 1) by decide +kernel) (by decide +kernel),
  fun d σ S l0 l1 l2 x y => ex_iadd (show decode mX0_keep.2.1 111 = .ok (.iadd, 1) by decide +kernel),
  fun d σ l0 l1 l2 x y => ex_min (hh := 550) (show decode mX0_keep.2.1 112 = .ok (.invokestatic 40, 3) by decide +kernel) (by decide +kernel) (by decide +kernel) (Nat.le_of_ble_eq_true rfl),
  fun d σ S l0 l1 l2 x => ex_put (idx := 13) (ci := 0) (ff := 1) (n := 3) (hh := 279) (by decide +kernel),
  fun d σ l0 l1 l2 => ex_vret (show decode mX0_keep.2.1 118 = .ok (.return_, 1) by decide +kernel) rfl⟩
theorem aX0_keep_44_8 : ∀ (d : Nat)  (σ : Sg), cal (d + 1) mX0_keep [.ref 44, .ref 8] σ = exec d mX0_keep 0 [.ref 44, .ref 8, uu] [] σ := fun _ _ => rfl
theorem kX0_takeBack_0 : (∀ (d : Nat) (σ : Sg) (S : List Value) (l1 l2 : Value) (k : Nat), exec d mX0_takeBack 0 [.ref k, l1, l2] S σ = exec d mX0_takeBack 1 [.ref k, l1, l2] (.ref k :: S) σ) ∧
  (∀ (d : Nat) (σ : Sg) (S : List Value) (l1 l2 : Value) (k : Nat), exec d mX0_takeBack 1 [.ref k, l1, l2] S σ = exec d mX0_takeBack 2 [.ref k, l1, l2] (.ref k :: S) σ) ∧
  (∀ (d : Nat) (σ : Sg) (S : List Value) (l0 l1 l2 : Value), exec d mX0_takeBack 2 [l0, l1, l2] (.ref 44 :: S) σ = exec d mX0_takeBack 5 [l0, l1, l2] (.int (σ 44 2) :: S) σ) ∧
  (∀ (d : Nat) (σ : Sg) (S : List Value) (l0 l1 l2 : Value) (x : Int32), exec d mX0_takeBack 5 [l0, l1, l2] (.int x :: S) σ = if x ≤ nI 0 then exec d mX0_takeBack 17 [l0, l1, l2] S σ else exec d mX0_takeBack 8 [l0, l1, l2] S σ) ∧
  (∀ (d : Nat) (σ : Sg) (S : List Value) (l1 l2 : Value) (k : Nat), exec d mX0_takeBack 8 [.ref k, l1, l2] S σ = exec d mX0_takeBack 9 [.ref k, l1, l2] (.ref k :: S) σ) ∧
  (∀ (d : Nat) (σ : Sg) (S : List Value) (l0 l1 l2 : Value), exec d mX0_takeBack 9 [l0, l1, l2] (.ref 44 :: S) σ = exec d mX0_takeBack 12 [l0, l1, l2] (.int (σ 44 2) :: S) σ) ∧
  (∀ (d : Nat) (σ : Sg) (S : List Value) (l0 l1 l2 : Value), exec d mX0_takeBack 12 [l0, l1, l2] S σ = exec d mX0_takeBack 13 [l0, l1, l2] (.int (nI 1) :: S) σ) ∧
  (∀ (d : Nat) (σ : Sg) (S : List Value) (l0 l1 l2 : Value) (x y : Int32), exec d mX0_takeBack 13 [l0, l1, l2] (.int y :: .int x :: S) σ = exec d mX0_takeBack 14 [l0, l1, l2] (.int (x - y) :: S) σ) ∧
  (∀ (d : Nat) (σ : Sg) (S : List Value) (l0 l1 l2 : Value), exec d mX0_takeBack 14 [l0, l1, l2] S σ = exec d mX0_takeBack 19 [l0, l1, l2] S σ) ∧
  (∀ (d : Nat) (σ : Sg) (S : List Value) (l0 l1 l2 : Value), exec d mX0_takeBack 17 [l0, l1, l2] S σ = exec d mX0_takeBack 19 [l0, l1, l2] (.int (nI 23) :: S) σ) ∧
  (∀ (d : Nat) (σ : Sg) (S : List Value) (l0 l1 l2 : Value) (x : Int32), exec d mX0_takeBack 19 [l0, l1, l2] (.int x :: .ref 44 :: S) σ = exec d mX0_takeBack 22 [l0, l1, l2] S (up σ 44 2 x)) ∧
  (∀ (d : Nat) (σ : Sg) (S : List Value) (l1 l2 : Value) (k : Nat), exec d mX0_takeBack 22 [.ref k, l1, l2] S σ = exec d mX0_takeBack 23 [.ref k, l1, l2] (.ref k :: S) σ) ∧
  (∀ (d : Nat) (σ : Sg) (S : List Value) (l0 l1 l2 : Value) (k : Nat), exec d mX0_takeBack 23 [l0, l1, l2] (.ref k :: S) σ = exec d mX0_takeBack 24 [l0, l1, l2] (.ref k :: .ref k :: S) σ) ∧
  (∀ (d : Nat) (σ : Sg) (S : List Value) (l0 l1 l2 : Value), exec d mX0_takeBack 24 [l0, l1, l2] (.ref 44 :: S) σ = exec d mX0_takeBack 27 [l0, l1, l2] (.int (σ 44 1) :: S) σ) ∧
  (∀ (d : Nat) (σ : Sg) (S : List Value) (l0 l1 l2 : Value), exec d mX0_takeBack 27 [l0, l1, l2] S σ = exec d mX0_takeBack 28 [l0, l1, l2] (.int (nI 1) :: S) σ) ∧
  (∀ (d : Nat) (σ : Sg) (S : List Value) (l0 l1 l2 : Value) (x y : Int32), exec d mX0_takeBack 28 [l0, l1, l2] (.int y :: .int x :: S) σ = exec d mX0_takeBack 29 [l0, l1, l2] (.int (x - y) :: S) σ) ∧
  (∀ (d : Nat) (σ : Sg) (S : List Value) (l0 l1 l2 : Value) (x : Int32), exec d mX0_takeBack 29 [l0, l1, l2] (.int x :: .ref 44 :: S) σ = exec d mX0_takeBack 32 [l0, l1, l2] S (up σ 44 1 x)) ∧
  (∀ (d : Nat) (σ : Sg) (S : List Value) (l1 l2 : Value) (k : Nat), exec d mX0_takeBack 32 [.ref k, l1, l2] S σ = exec d mX0_takeBack 33 [.ref k, l1, l2] (.ref k :: S) σ) ∧
  (∀ (d : Nat) (σ : Sg) (S : List Value) (l0 l1 l2 : Value), exec d mX0_takeBack 33 [l0, l1, l2] (.ref 44 :: S) σ = exec d mX0_takeBack 36 [l0, l1, l2] (.int (σ 44 2) :: S) σ) ∧
  (∀ (d : Nat) (σ : Sg) (S : List Value) (l0 l1 l2 : Value), exec d mX0_takeBack 36 [l0, l1, l2] S σ = exec d mX0_takeBack 38 [l0, l1, l2] (.int (nI 6) :: S) σ) ∧
  (∀ (d : Nat) (σ : Sg) (S : List Value) (l0 l1 l2 : Value) (x y : Int32), exec d mX0_takeBack 38 [l0, l1, l2] (.int y :: .int x :: S) σ = exec d mX0_takeBack 39 [l0, l1, l2] (.int (x * y) :: S) σ) ∧
  (∀ (d : Nat) (σ : Sg) (S : List Value) (l0 l2 : Value) (k : Nat) (x : Int32), exec d mX0_takeBack 39 [l0, .ref k, l2] (.int x :: S) σ = exec d mX0_takeBack 40 [l0, .ref k, .int x] S σ) ∧
  (∀ (d : Nat) (σ : Sg) (S : List Value) (l0 l2 : Value) (k : Nat), exec d mX0_takeBack 40 [l0, .ref k, l2] S σ = exec d mX0_takeBack 41 [l0, .ref k, l2] (.ref k :: S) σ) ∧
  (∀ (d : Nat) (σ : Sg) (S : List Value) (l1 l2 : Value) (k : Nat), exec d mX0_takeBack 41 [.ref k, l1, l2] S σ = exec d mX0_takeBack 42 [.ref k, l1, l2] (.ref k :: S) σ) ∧
  (∀ (d : Nat) (σ : Sg) (S : List Value) (l0 l1 l2 : Value), exec d mX0_takeBack 42 [l0, l1, l2] (.ref 44 :: S) σ = exec d mX0_takeBack 45 [l0, l1, l2] (.ref 45 :: S) σ) ∧
  (∀ (d : Nat) (σ : Sg) (S : List Value) (l0 l1 : Value) (x : Int32), exec d mX0_takeBack 45 [l0, l1, .int x] S σ = exec d mX0_takeBack 46 [l0, l1, .int x] (.int x :: S) σ) ∧
  (∀ (d : Nat) (σ : Sg) (S : List Value) (l0 l1 l2 : Value) (x : Int32), exec d mX0_takeBack 46 [l0, l1, l2] (.int x :: .ref 45 :: S) σ = if inb x 144 = true then exec d mX0_takeBack 47 [l0, l1, l2] (.int (σ 45 x.toNatClampNeg) :: S) σ else none) ∧
  (∀ (d : Nat) (σ : Sg) (S : List Value) (l0 l1 l2 : Value) (x : Int32), exec d mX0_takeBack 47 [l0, l1, l2] (.int x :: .ref 8 :: S) σ = exec d mX0_takeBack 50 [l0, l1, l2] S (up σ 8 1 x)) ∧
  (∀ (d : Nat) (σ : Sg) (S : List Value) (l0 l2 : Value) (k : Nat), exec d mX0_takeBack 50 [l0, .ref k, l2] S σ = exec d mX0_takeBack 51 [l0, .ref k, l2] (.ref k :: S) σ) ∧
  (∀ (d : Nat) (σ : Sg) (S : List Value) (l1 l2 : Value) (k : Nat), exec d mX0_takeBack 51 [.ref k, l1, l2] S σ = exec d mX0_takeBack 52 [.ref k, l1, l2] (.ref k :: S) σ) ∧
  (∀ (d : Nat) (σ : Sg) (S : List Value) (l0 l1 l2 : Value), exec d mX0_takeBack 52 [l0, l1, l2] (.ref 44 :: S) σ = exec d mX0_takeBack 55 [l0, l1, l2] (.ref 45 :: S) σ) ∧
  (∀ (d : Nat) (σ : Sg) (S : List Value) (l0 l1 : Value) (x : Int32), exec d mX0_takeBack 55 [l0, l1, .int x] S σ = exec d mX0_takeBack 56 [l0, l1, .int x] (.int x :: S) σ) ∧
  (∀ (d : Nat) (σ : Sg) (S : List Value) (l0 l1 l2 : Value), exec d mX0_takeBack 56 [l0, l1, l2] S σ = exec d mX0_takeBack 57 [l0, l1, l2] (.int (nI 1) :: S) σ) ∧
  (∀ (d : Nat) (σ : Sg) (S : List Value) (l0 l1 l2 : Value) (x y : Int32), exec d mX0_takeBack 57 [l0, l1, l2] (.int y :: .int x :: S) σ = exec d mX0_takeBack 58 [l0, l1, l2] (.int (x + y) :: S) σ) ∧
  (∀ (d : Nat) (σ : Sg) (S : List Value) (l0 l1 l2 : Value) (x : Int32), exec d mX0_takeBack 58 [l0, l1, l2] (.int x :: .ref 45 :: S) σ = if inb x 144 = true then exec d mX0_takeBack 59 [l0, l1, l2] (.int (σ 45 x.toNatClampNeg) :: S) σ else none) ∧
  (∀ (d : Nat) (σ : Sg) (S : List Value) (l0 l1 l2 : Value) (x : Int32), exec d mX0_takeBack 59 [l0, l1, l2] (.int x :: .ref 8 :: S) σ = exec d mX0_takeBack 62 [l0, l1, l2] S (up σ 8 2 x)) ∧
  (∀ (d : Nat) (σ : Sg) (S : List Value) (l0 l2 : Value) (k : Nat), exec d mX0_takeBack 62 [l0, .ref k, l2] S σ = exec d mX0_takeBack 63 [l0, .ref k, l2] (.ref k :: S) σ) ∧
  (∀ (d : Nat) (σ : Sg) (S : List Value) (l1 l2 : Value) (k : Nat), exec d mX0_takeBack 63 [.ref k, l1, l2] S σ = exec d mX0_takeBack 64 [.ref k, l1, l2] (.ref k :: S) σ) ∧
  (∀ (d : Nat) (σ : Sg) (S : List Value) (l0 l1 l2 : Value), exec d mX0_takeBack 64 [l0, l1, l2] (.ref 44 :: S) σ = exec d mX0_takeBack 67 [l0, l1, l2] (.ref 45 :: S) σ) ∧
  (∀ (d : Nat) (σ : Sg) (S : List Value) (l0 l1 : Value) (x : Int32), exec d mX0_takeBack 67 [l0, l1, .int x] S σ = exec d mX0_takeBack 68 [l0, l1, .int x] (.int x :: S) σ) :=
  ⟨fun d σ S l1 l2 k => ex_aload_n (show decode mX0_takeBack.2.1 0 = .ok (.aload_n 0, 1) by decide +kernel) rfl,
  fun d σ S l1 l2 k => ex_aload_n (show decode mX0_takeBack.2.1 1 = .ok (.aload_n 0, 1) by decide +kernel) rfl,
  fun d σ S l0 l1 l2 => ex_get (idx := 17) (ci := 0) (ff := 2) (n := 3) (hh := 281) (by decide +kernel),
  fun d σ S l0 l1 l2 x => ex_zle (show decode mX0_takeBack.2.1 5 = .ok (.ifCond .le 12, 3) by decide +kernel) (by decide),
  fun d σ S l1 l2 k => ex_aload_n (show decode mX0_takeBack.2.1 8 = .ok (.aload_n 0, 1) by decide +kernel) rfl,
  fun d σ S l0 l1 l2 => ex_get (idx := 17) (ci := 0) (ff := 2) (n := 3) (hh := 281) (by decide +kernel),
  fun d σ S l0 l1 l2 => ex_iconst (show decode mX0_takeBack.2.1 12 = .ok (.iconst 1, 1) by decide +kernel) (by decide +kernel),
  fun d σ S l0 l1 l2 x y => ex_isub (show decode mX0_takeBack.2.1 13 = .ok (.isub, 1) by decide +kernel),
  fun d σ S l0 l1 l2 => ex_goto (show decode mX0_takeBack.2.1 14 = .ok (.goto 5, 3) by decide +kernel) (by decide),
  fun d σ S l0 l1 l2 => ex_bipush (show decode mX0_takeBack.2.1 17 = .ok (.bipush 23, 2) by decide +kernel) (by decide +kernel),
  fun d σ S l0 l1 l2 x => ex_put (idx := 17) (ci := 0) (ff := 2) (n := 3) (hh := 281) (by decide +kernel),
  fun d σ S l1 l2 k => ex_aload_n (show decode mX0_takeBack.2.1 22 = .ok (.aload_n 0, 1) by decide +kernel) rfl,
  fun d σ S l0 l1 l2 k => ex_dup (show decode mX0_takeBack.2.1 23 = .ok (.dup, 1) by decide +kernel) rfl,
  fun d σ S l0 l1 l2 => ex_get (idx := 13) (ci := 0) (ff := 1) (n := 3) (hh := 279) (by decide +kernel),
  fun d σ S l0 l1 l2 => ex_iconst (show decode mX0_takeBack.2.1 27 = .ok (.iconst 1, 1) by decide +kernel) (by decide +kernel),
  fun d σ S l0 l1 l2 x y => ex_isub (show decode mX0_takeBack.2.1 28 = .ok (.isub, 1) by decide +kernel),
  fun d σ S l0 l1 l2 x => ex_put (idx := 13) (ci := 0) (ff := 1) (n := 3) (hh := 279) (by decide +kernel),
  fun d σ S l1 l2 k => ex_aload_n (show decode mX0_takeBack.2.1 32 = .ok (.aload_n 0, 1) by decide +kernel) rfl,
  fun d σ S l0 l1 l2 => ex_get (idx := 17) (ci := 0) (ff := 2) (n := 3) (hh := 281) (by decide +kernel),
  fun d σ S l0 l1 l2 => ex_bipush (show decode mX0_takeBack.2.1 36 = .ok (.bipush 6, 2) by decide +kernel) (by decide +kernel),
  fun d σ S l0 l1 l2 x y => ex_imul (show decode mX0_takeBack.2.1 38 = .ok (.imul, 1) by decide +kernel),
  fun d σ S l0 l2 k x => ex_istore_n (show decode mX0_takeBack.2.1 39 = .ok (.istore_n 2, 1) by decide +kernel) (Nat.le_of_ble_eq_true rfl) rfl,
  fun d σ S l0 l2 k => ex_aload_n (show decode mX0_takeBack.2.1 40 = .ok (.aload_n 1, 1) by decide +kernel) rfl,
  fun d σ S l1 l2 k => ex_aload_n (show decode mX0_takeBack.2.1 41 = .ok (.aload_n 0, 1) by decide +kernel) rfl,
  fun d σ S l0 l1 l2 => ex_getr (idx := 9) (ci := 0) (ff := 0) (n := 3) (hh := 278) (by decide +kernel),
  fun d σ S l0 l1 x => ex_iload_n (show decode mX0_takeBack.2.1 45 = .ok (.iload_n 2, 1) by decide +kernel) rfl,
  fun d σ S l0 l1 l2 x => ex_iald (by decide +kernel),
  fun d σ S l0 l1 l2 x => ex_put (idx := 20) (ci := 5) (ff := 1) (n := 17) (hh := 184) (by decide +kernel),
  fun d σ S l0 l2 k => ex_aload_n (show decode mX0_takeBack.2.1 50 = .ok (.aload_n 1, 1) by decide +kernel) rfl,
  fun d σ S l1 l2 k => ex_aload_n (show decode mX0_takeBack.2.1 51 = .ok (.aload_n 0, 1) by decide +kernel) rfl,
  fun d σ S l0 l1 l2 => ex_getr (idx := 9) (ci := 0) (ff := 0) (n := 3) (hh := 278) (by decide +kernel),
  fun d σ S l0 l1 x => ex_iload_n (show decode mX0_takeBack.2.1 55 = .ok (.iload_n 2, 1) by decide +kernel) rfl,
  fun d σ S l0 l1 l2 => ex_iconst (show decode mX0_takeBack.2.1 56 = .ok (.iconst 1, 1) by decide +kernel) (by decide +kernel),
  fun d σ S l0 l1 l2 x y => ex_iadd (show decode mX0_takeBack.2.1 57 = .ok (.iadd, 1) by decide +kernel),
  fun d σ S l0 l1 l2 x => ex_iald (by decide +kernel),
  fun d σ S l0 l1 l2 x => ex_put (idx := 25) (ci := 5) (ff := 2) (n := 17) (hh := 190) (by decide +kernel),
  fun d σ S l0 l2 k => ex_aload_n (show decode mX0_takeBack.2.1 62 = .ok (.aload_n 1, 1) by decide +kernel) rfl,
  fun d σ S l1 l2 k => ex_aload_n (show decode mX0_takeBack.2.1 63 = .ok (.aload_n 0, 1) by decide +kernel) rfl,
  fun d σ S l0 l1 l2 => ex_getr (idx := 9) (ci := 0) (ff := 0) (n := 3) (hh := 278) (by decide +kernel),
  fun d σ S l0 l1 x => ex_iload_n (show decode mX0_takeBack.2.1 67 = .ok (.iload_n 2, 1) by decide +kernel) rfl⟩
theorem kX0_takeBack_1 : (∀ (d : Nat) (σ : Sg) (S : List Value) (l0 l1 l2 : Value), exec d mX0_takeBack 68 [l0, l1, l2] S σ = exec d mX0_takeBack 69 [l0, l1, l2] (.int (nI 2) :: S) σ) ∧
  (∀ (d : Nat) (σ : Sg) (S : List Value) (l0 l1 l2 : Value) (x y : Int32), exec d mX0_takeBack 69 [l0, l1, l2] (.int y :: .int x :: S) σ = exec d mX0_takeBack 70 [l0, l1, l2] (.int (x + y) :: S) σ) ∧
  (∀ (d : Nat) (σ : Sg) (S : List Value) (l0 l1 l2 : Value) (x : Int32), exec d mX0_takeBack 70 [l0, l1, l2] (.int x :: .ref 45 :: S) σ = if inb x 144 = true then exec d mX0_takeBack 71 [l0, l1, l2] (.int (σ 45 x.toNatClampNeg) :: S) σ else none) ∧
  (∀ (d : Nat) (σ : Sg) (S : List Value) (l0 l1 l2 : Value) (x : Int32), exec d mX0_takeBack 71 [l0, l1, l2] (.int x :: .ref 8 :: S) σ = exec d mX0_takeBack 74 [l0, l1, l2] S (up σ 8 3 x)) ∧
  (∀ (d : Nat) (σ : Sg) (S : List Value) (l0 l2 : Value) (k : Nat), exec d mX0_takeBack 74 [l0, .ref k, l2] S σ = exec d mX0_takeBack 75 [l0, .ref k, l2] (.ref k :: S) σ) ∧
  (∀ (d : Nat) (σ : Sg) (S : List Value) (l1 l2 : Value) (k : Nat), exec d mX0_takeBack 75 [.ref k, l1, l2] S σ = exec d mX0_takeBack 76 [.ref k, l1, l2] (.ref k :: S) σ) ∧
  (∀ (d : Nat) (σ : Sg) (S : List Value) (l0 l1 l2 : Value), exec d mX0_takeBack 76 [l0, l1, l2] (.ref 44 :: S) σ = exec d mX0_takeBack 79 [l0, l1, l2] (.ref 45 :: S) σ) ∧
  (∀ (d : Nat) (σ : Sg) (S : List Value) (l0 l1 : Value) (x : Int32), exec d mX0_takeBack 79 [l0, l1, .int x] S σ = exec d mX0_takeBack 80 [l0, l1, .int x] (.int x :: S) σ) ∧
  (∀ (d : Nat) (σ : Sg) (S : List Value) (l0 l1 l2 : Value), exec d mX0_takeBack 80 [l0, l1, l2] S σ = exec d mX0_takeBack 81 [l0, l1, l2] (.int (nI 3) :: S) σ) ∧
  (∀ (d : Nat) (σ : Sg) (S : List Value) (l0 l1 l2 : Value) (x y : Int32), exec d mX0_takeBack 81 [l0, l1, l2] (.int y :: .int x :: S) σ = exec d mX0_takeBack 82 [l0, l1, l2] (.int (x + y) :: S) σ) ∧
  (∀ (d : Nat) (σ : Sg) (S : List Value) (l0 l1 l2 : Value) (x : Int32), exec d mX0_takeBack 82 [l0, l1, l2] (.int x :: .ref 45 :: S) σ = if inb x 144 = true then exec d mX0_takeBack 83 [l0, l1, l2] (.int (σ 45 x.toNatClampNeg) :: S) σ else none) ∧
  (∀ (d : Nat) (σ : Sg) (S : List Value) (l0 l1 l2 : Value) (x : Int32), exec d mX0_takeBack 83 [l0, l1, l2] (.int x :: .ref 8 :: S) σ = exec d mX0_takeBack 86 [l0, l1, l2] S (up σ 8 6 x)) ∧
  (∀ (d : Nat) (σ : Sg) (S : List Value) (l0 l2 : Value) (k : Nat), exec d mX0_takeBack 86 [l0, .ref k, l2] S σ = exec d mX0_takeBack 87 [l0, .ref k, l2] (.ref k :: S) σ) ∧
  (∀ (d : Nat) (σ : Sg) (S : List Value) (l1 l2 : Value) (k : Nat), exec d mX0_takeBack 87 [.ref k, l1, l2] S σ = exec d mX0_takeBack 88 [.ref k, l1, l2] (.ref k :: S) σ) ∧
  (∀ (d : Nat) (σ : Sg) (S : List Value) (l0 l1 l2 : Value), exec d mX0_takeBack 88 [l0, l1, l2] (.ref 44 :: S) σ = exec d mX0_takeBack 91 [l0, l1, l2] (.ref 45 :: S) σ) ∧
  (∀ (d : Nat) (σ : Sg) (S : List Value) (l0 l1 : Value) (x : Int32), exec d mX0_takeBack 91 [l0, l1, .int x] S σ = exec d mX0_takeBack 92 [l0, l1, .int x] (.int x :: S) σ) ∧
  (∀ (d : Nat) (σ : Sg) (S : List Value) (l0 l1 l2 : Value), exec d mX0_takeBack 92 [l0, l1, l2] S σ = exec d mX0_takeBack 93 [l0, l1, l2] (.int (nI 4) :: S) σ) ∧
  (∀ (d : Nat) (σ : Sg) (S : List Value) (l0 l1 l2 : Value) (x y : Int32), exec d mX0_takeBack 93 [l0, l1, l2] (.int y :: .int x :: S) σ = exec d mX0_takeBack 94 [l0, l1, l2] (.int (x + y) :: S) σ) ∧
  (∀ (d : Nat) (σ : Sg) (S : List Value) (l0 l1 l2 : Value) (x : Int32), exec d mX0_takeBack 94 [l0, l1, l2] (.int x :: .ref 45 :: S) σ = if inb x 144 = true then exec d mX0_takeBack 95 [l0, l1, l2] (.int (σ 45 x.toNatClampNeg) :: S) σ else none) ∧
  (∀ (d : Nat) (σ : Sg) (S : List Value) (l0 l1 l2 : Value) (x : Int32), exec d mX0_takeBack 95 [l0, l1, l2] (.int x :: .ref 8 :: S) σ = exec d mX0_takeBack 98 [l0, l1, l2] S (up σ 8 7 x)) ∧
  (∀ (d : Nat) (σ : Sg) (S : List Value) (l0 l2 : Value) (k : Nat), exec d mX0_takeBack 98 [l0, .ref k, l2] S σ = exec d mX0_takeBack 99 [l0, .ref k, l2] (.ref k :: S) σ) ∧
  (∀ (d : Nat) (σ : Sg) (S : List Value) (l1 l2 : Value) (k : Nat), exec d mX0_takeBack 99 [.ref k, l1, l2] S σ = exec d mX0_takeBack 100 [.ref k, l1, l2] (.ref k :: S) σ) ∧
  (∀ (d : Nat) (σ : Sg) (S : List Value) (l0 l1 l2 : Value), exec d mX0_takeBack 100 [l0, l1, l2] (.ref 44 :: S) σ = exec d mX0_takeBack 103 [l0, l1, l2] (.ref 45 :: S) σ) ∧
  (∀ (d : Nat) (σ : Sg) (S : List Value) (l0 l1 : Value) (x : Int32), exec d mX0_takeBack 103 [l0, l1, .int x] S σ = exec d mX0_takeBack 104 [l0, l1, .int x] (.int x :: S) σ) ∧
  (∀ (d : Nat) (σ : Sg) (S : List Value) (l0 l1 l2 : Value), exec d mX0_takeBack 104 [l0, l1, l2] S σ = exec d mX0_takeBack 105 [l0, l1, l2] (.int (nI 5) :: S) σ) ∧
  (∀ (d : Nat) (σ : Sg) (S : List Value) (l0 l1 l2 : Value) (x y : Int32), exec d mX0_takeBack 105 [l0, l1, l2] (.int y :: .int x :: S) σ = exec d mX0_takeBack 106 [l0, l1, l2] (.int (x + y) :: S) σ) ∧
  (∀ (d : Nat) (σ : Sg) (S : List Value) (l0 l1 l2 : Value) (x : Int32), exec d mX0_takeBack 106 [l0, l1, l2] (.int x :: .ref 45 :: S) σ = if inb x 144 = true then exec d mX0_takeBack 107 [l0, l1, l2] (.int (σ 45 x.toNatClampNeg) :: S) σ else none) ∧
  (∀ (d : Nat) (σ : Sg) (S : List Value) (l0 l1 l2 : Value) (x : Int32), exec d mX0_takeBack 107 [l0, l1, l2] (.int x :: .ref 8 :: S) σ = exec d mX0_takeBack 110 [l0, l1, l2] S (up σ 8 8 x)) ∧
  (∀ (d : Nat) (σ : Sg) (S : List Value) (l1 l2 : Value) (k : Nat), exec d mX0_takeBack 110 [.ref k, l1, l2] S σ = exec d mX0_takeBack 111 [.ref k, l1, l2] (.ref k :: S) σ) ∧
  (∀ (d : Nat) (σ : Sg) (S : List Value) (l0 l1 l2 : Value), exec d mX0_takeBack 111 [l0, l1, l2] (.ref 44 :: S) σ = exec d mX0_takeBack 114 [l0, l1, l2] (.int (σ 44 1) :: S) σ) ∧
  (∀ (d : Nat) (σ : Sg) (l0 l1 l2 : Value) (x : Int32), exec d mX0_takeBack 114 [l0, l1, l2] [.int x] σ = some (some (.int x), σ)) :=
  ⟨fun d σ S l0 l1 l2 => ex_iconst (show decode mX0_takeBack.2.1 68 = .ok (.iconst 2, 1) by decide +kernel) (by decide +kernel),
  fun d σ S l0 l1 l2 x y => ex_iadd (show decode mX0_takeBack.2.1 69 = .ok (.iadd, 1) by decide +kernel),
  fun d σ S l0 l1 l2 x => ex_iald (by decide +kernel),
  fun d σ S l0 l1 l2 x => ex_put (idx := 28) (ci := 5) (ff := 3) (n := 17) (hh := 194) (by decide +kernel),
  fun d σ S l0 l2 k => ex_aload_n (show decode mX0_takeBack.2.1 74 = .ok (.aload_n 1, 1) by decide +kernel) rfl,
  fun d σ S l1 l2 k => ex_aload_n (show decode mX0_takeBack.2.1 75 = .ok (.aload_n 0, 1) by decide +kernel) rfl,
  fun d σ S l0 l1 l2 => ex_getr (idx := 9) (ci := 0) (ff := 0) (n := 3) (hh := 278) (by decide +kernel),
  fun d σ S l0 l1 x => ex_iload_n (show decode mX0_takeBack.2.1 79 = .ok (.iload_n 2, 1) by decide +kernel) rfl,
  fun d σ S l0 l1 l2 => ex_iconst (show decode mX0_takeBack.2.1 80 = .ok (.iconst 3, 1) by decide +kernel) (by decide +kernel),
  fun d σ S l0 l1 l2 x y => ex_iadd (show decode mX0_takeBack.2.1 81 = .ok (.iadd, 1) by decide +kernel),
  fun d σ S l0 l1 l2 x => ex_iald (by decide +kernel),
  fun d σ S l0 l1 l2 x => ex_put (idx := 31) (ci := 5) (ff := 6) (n := 17) (hh := 207) (by decide +kernel),
  fun d σ S l0 l2 k => ex_aload_n (show decode mX0_takeBack.2.1 86 = .ok (.aload_n 1, 1) by decide +kernel) rfl,
  fun d σ S l1 l2 k => ex_aload_n (show decode mX0_takeBack.2.1 87 = .ok (.aload_n 0, 1) by decide +kernel) rfl,
  fun d σ S l0 l1 l2 => ex_getr (idx := 9) (ci := 0) (ff := 0) (n := 3) (hh := 278) (by decide +kernel),
  fun d σ S l0 l1 x => ex_iload_n (show decode mX0_takeBack.2.1 91 = .ok (.iload_n 2, 1) by decide +kernel) rfl,
  fun d σ S l0 l1 l2 => ex_iconst (show decode mX0_takeBack.2.1 92 = .ok (.iconst 4, 1) by decide +kernel) (by decide +kernel),
  fun d σ S l0 l1 l2 x y => ex_iadd (show decode mX0_takeBack.2.1 93 = .ok (.iadd, 1) by decide +kernel),
  fun d σ S l0 l1 l2 x => ex_iald (by decide +kernel),
  fun d σ S l0 l1 l2 x => ex_put (idx := 34) (ci := 5) (ff := 7) (n := 17) (hh := 211) (by decide +kernel),
  fun d σ S l0 l2 k => ex_aload_n (show decode mX0_takeBack.2.1 98 = .ok (.aload_n 1, 1) by decide +kernel) rfl,
  fun d σ S l1 l2 k => ex_aload_n (show decode mX0_takeBack.2.1 99 = .ok (.aload_n 0, 1) by decide +kernel) rfl,
  fun d σ S l0 l1 l2 => ex_getr (idx := 9) (ci := 0) (ff := 0) (n := 3) (hh := 278) (by decide +kernel),
  fun d σ S l0 l1 x => ex_iload_n (show decode mX0_takeBack.2.1 103 = .ok (.iload_n 2, 1) by decide +kernel) rfl,
  fun d σ S l0 l1 l2 => ex_iconst (show decode mX0_takeBack.2.1 104 = .ok (.iconst 5, 1) by decide +kernel) (by decide +kernel),
  fun d σ S l0 l1 l2 x y => ex_iadd (show decode mX0_takeBack.2.1 105 = .ok (.iadd, 1) by decide +kernel),
  fun d σ S l0 l1 l2 x => ex_iald (by decide +kernel),
  fun d σ S l0 l1 l2 x => ex_put (idx := 37) (ci := 5) (ff := 8) (n := 17) (hh := 214) (by decide +kernel),
  fun d σ S l1 l2 k => ex_aload_n (show decode mX0_takeBack.2.1 110 = .ok (.aload_n 0, 1) by decide +kernel) rfl,
  fun d σ S l0 l1 l2 => ex_get (idx := 13) (ci := 0) (ff := 1) (n := 3) (hh := 279) (by decide +kernel),
  fun d σ l0 l1 l2 x => ex_iret (show decode mX0_takeBack.2.1 114 = .ok (.ireturn, 1) by decide +kernel) rfl⟩
theorem aX0_takeBack_44_8 : ∀ (d : Nat)  (σ : Sg), cal (d + 1) mX0_takeBack [.ref 44, .ref 8] σ = exec d mX0_takeBack 0 [.ref 44, .ref 8, uu] [] σ := fun _ _ => rfl
