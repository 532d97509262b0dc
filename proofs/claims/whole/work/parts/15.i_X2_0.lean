/-! generated: the instructions of GuildPiece$Plan -/
theorem kX2_reckon_0 : (∀ (d : Nat) (σ : Sg) (S : List Value) (l0 l1 l2 l3 l4 : Value), exec d mX2_reckon 0 [l0, l1, l2, l3, l4] S σ = exec d mX2_reckon 1 [l0, l1, l2, l3, l4] (.int (nI 1) :: S) σ) ∧
  (∀ (d : Nat) (σ : Sg) (S : List Value) (l0 l2 l3 l4 : Value) (k : Nat), exec d mX2_reckon 1 [l0, .ref k, l2, l3, l4] S σ = exec d mX2_reckon 2 [l0, .ref k, l2, l3, l4] (.ref k :: S) σ) ∧
  (∀ (d : Nat) (σ : Sg) (S : List Value) (l0 l1 l2 l3 l4 : Value), exec d mX2_reckon 2 [l0, l1, l2, l3, l4] (.ref 8 :: S) σ = exec d mX2_reckon 5 [l0, l1, l2, l3, l4] (.int (σ 8 4) :: S) σ) ∧
  (∀ (d : Nat) (σ : Sg) (S : List Value) (l0 l1 l2 l3 l4 : Value) (x y : Int32), exec d mX2_reckon 5 [l0, l1, l2, l3, l4] (.int y :: .int x :: S) σ = exec d mX2_reckon 6 [l0, l1, l2, l3, l4] (.int (x <<< (y &&& 31)) :: S) σ) ∧
  (∀ (d : Nat) (σ : Sg) (S : List Value) (l0 l1 l2 l3 l4 : Value), exec d mX2_reckon 6 [l0, l1, l2, l3, l4] S σ = exec d mX2_reckon 7 [l0, l1, l2, l3, l4] (.int (nI 1) :: S) σ) ∧
  (∀ (d : Nat) (σ : Sg) (S : List Value) (l0 l1 l2 l3 l4 : Value) (x y : Int32), exec d mX2_reckon 7 [l0, l1, l2, l3, l4] (.int y :: .int x :: S) σ = exec d mX2_reckon 8 [l0, l1, l2, l3, l4] (.int (x - y) :: S) σ) ∧
  (∀ (d : Nat) (σ : Sg) (S : List Value) (l0 l1 l3 l4 : Value) (x y : Int32), exec d mX2_reckon 8 [l0, l1, .int y, l3, l4] (.int x :: S) σ = exec d mX2_reckon 9 [l0, l1, .int y, .int x, l4] S σ) ∧
  (∀ (d : Nat) (σ : Sg) (S : List Value) (l0 l1 l2 l3 l4 : Value), exec d mX2_reckon 9 [l0, l1, l2, l3, l4] S σ = exec d mX2_reckon 10 [l0, l1, l2, l3, l4] (.int (nI 0) :: S) σ) ∧
  (∀ (d : Nat) (σ : Sg) (S : List Value) (l0 l1 l2 l4 : Value) (x y : Int32), exec d mX2_reckon 10 [l0, l1, l2, .int y, l4] (.int x :: S) σ = exec d mX2_reckon 12 [l0, l1, l2, .int y, .int x] S σ) ∧
  (∀ (d : Nat) (σ : Sg) (S : List Value) (l0 l1 l2 l4 : Value) (x : Int32), exec d mX2_reckon 14 [l0, l1, l2, .int x, l4] S σ = exec d mX2_reckon 15 [l0, l1, l2, .int x, l4] (.int x :: S) σ) ∧
  (∀ (d : Nat) (σ : Sg) (S : List Value) (l0 l1 l2 l3 l4 : Value), exec d mX2_reckon 15 [l0, l1, l2, l3, l4] S σ = exec d mX2_reckon 16 [l0, l1, l2, l3, l4] (.int (nI 1) :: S) σ) ∧
  (∀ (d : Nat) (σ : Sg) (S : List Value) (l0 l1 l2 l3 l4 : Value) (x y : Int32), exec d mX2_reckon 16 [l0, l1, l2, l3, l4] (.int y :: .int x :: S) σ = exec d mX2_reckon 17 [l0, l1, l2, l3, l4] (.int (x + y) :: S) σ) ∧
  (∀ (d : Nat) (σ : Sg) (S : List Value) (l0 l1 l2 l3 l4 : Value), exec d mX2_reckon 17 [l0, l1, l2, l3, l4] S σ = exec d mX2_reckon 19 [l0, l1, l2, l3, l4] (.int (nI 8) :: S) σ) ∧
  (∀ (d : Nat) (σ : Sg) (S : List Value) (l0 l1 l2 l3 l4 : Value) (x y : Int32), exec d mX2_reckon 19 [l0, l1, l2, l3, l4] (.int y :: .int x :: S) σ = exec d mX2_reckon 20 [l0, l1, l2, l3, l4] (.int (x * y) :: S) σ) ∧
  (∀ (d : Nat) (σ : Sg) (S : List Value) (l0 l1 l2 l3 l4 : Value) (x y : Int32), exec d mX2_reckon 20 [l0, l1, l2, l3, l4] (.int y :: .int x :: S) σ = if y ≤ x then exec d mX2_reckon 37 [l0, l1, l2, l3, l4] S σ else exec d mX2_reckon 23 [l0, l1, l2, l3, l4] S σ) ∧
  (∀ (d : Nat) (σ : Sg) (S : List Value) (l1 l2 l3 l4 : Value) (k : Nat), exec d mX2_reckon 23 [.ref k, l1, l2, l3, l4] S σ = exec d mX2_reckon 24 [.ref k, l1, l2, l3, l4] (.ref k :: S) σ) ∧
  (∀ (d : Nat) (σ : Sg) (S : List Value) (l0 l1 l2 l3 l4 : Value), exec d mX2_reckon 24 [l0, l1, l2, l3, l4] (.ref 46 :: S) σ = exec d mX2_reckon 27 [l0, l1, l2, l3, l4] (.ref 47 :: S) σ) ∧
  (∀ (d : Nat) (σ : Sg) (S : List Value) (l0 l1 l2 l3 : Value) (x : Int32), exec d mX2_reckon 27 [l0, l1, l2, l3, .int x] S σ = exec d mX2_reckon 29 [l0, l1, l2, l3, .int x] (.int x :: S) σ) ∧
  (∀ (d : Nat) (σ : Sg) (S : List Value) (l0 l1 l2 l3 l4 : Value), exec d mX2_reckon 29 [l0, l1, l2, l3, l4] S σ = exec d mX2_reckon 30 [l0, l1, l2, l3, l4] (.int ((-1)) :: S) σ) ∧
  (∀ (d : Nat) (σ : Sg) (S : List Value) (l0 l1 l2 l3 l4 : Value) (x y : Int32), exec d mX2_reckon 30 [l0, l1, l2, l3, l4] (.int y :: .int x :: .ref 47 :: S) σ = if inb x 1024 = true then exec d mX2_reckon 31 [l0, l1, l2, l3, l4] S (up σ 47 x.toNatClampNeg y) else none) ∧
  (∀ (d : Nat) (σ : Sg) (S : List Value) (l0 l1 l2 : Value) (x y : Int32), exec d mX2_reckon 31 [l0, l1, l2, .int y, .int x] S σ = exec d mX2_reckon 34 [l0, l1, l2, .int y, .int (x + nI 1)] S σ) ∧
  (∀ (d : Nat) (σ : Sg) (S : List Value) (l0 l1 l2 l3 l4 : Value), exec d mX2_reckon 34 [l0, l1, l2, l3, l4] S σ = exec d mX2_reckon 12 [l0, l1, l2, l3, l4] S σ) ∧
  (∀ (d : Nat) (σ : Sg) (S : List Value) (l1 l2 l3 l4 : Value) (k : Nat), exec d mX2_reckon 37 [.ref k, l1, l2, l3, l4] S σ = exec d mX2_reckon 38 [.ref k, l1, l2, l3, l4] (.ref k :: S) σ) ∧
  (∀ (d : Nat) (σ : Sg) (S : List Value) (l0 l1 l2 l3 l4 : Value), exec d mX2_reckon 38 [l0, l1, l2, l3, l4] (.ref 46 :: S) σ = exec d mX2_reckon 41 [l0, l1, l2, l3, l4] (.ref 47 :: S) σ) ∧
  (∀ (d : Nat) (σ : Sg) (S : List Value) (l0 l2 l3 l4 : Value) (k : Nat), exec d mX2_reckon 41 [l0, .ref k, l2, l3, l4] S σ = exec d mX2_reckon 42 [l0, .ref k, l2, l3, l4] (.ref k :: S) σ) ∧
  (∀ (d : Nat) (σ : Sg) (S : List Value) (l0 l1 l2 l3 l4 : Value), exec d mX2_reckon 42 [l0, l1, l2, l3, l4] (.ref 8 :: S) σ = exec d mX2_reckon 45 [l0, l1, l2, l3, l4] (.int (σ 8 6) :: S) σ) ∧
  (∀ (d : Nat) (σ : Sg) (S : List Value) (l0 l1 l2 l3 l4 : Value), exec d mX2_reckon 45 [l0, l1, l2, l3, l4] S σ = exec d mX2_reckon 47 [l0, l1, l2, l3, l4] (.int (nI 8) :: S) σ) ∧
  (∀ (d : Nat) (σ : Sg) (S : List Value) (l0 l1 l2 l3 l4 : Value) (x y : Int32), exec d mX2_reckon 47 [l0, l1, l2, l3, l4] (.int y :: .int x :: S) σ = exec d mX2_reckon 48 [l0, l1, l2, l3, l4] (.int (x * y) :: S) σ) ∧
  (∀ (d : Nat) (σ : Sg) (S : List Value) (l0 l2 l3 l4 : Value) (k : Nat), exec d mX2_reckon 48 [l0, .ref k, l2, l3, l4] S σ = exec d mX2_reckon 49 [l0, .ref k, l2, l3, l4] (.ref k :: S) σ) ∧
  (∀ (d : Nat) (σ : Sg) (S : List Value) (l0 l1 l2 l3 l4 : Value), exec d mX2_reckon 49 [l0, l1, l2, l3, l4] (.ref 8 :: S) σ = exec d mX2_reckon 52 [l0, l1, l2, l3, l4] (.int (σ 8 7) :: S) σ) ∧
  (∀ (d : Nat) (σ : Sg) (l0 l1 l2 l3 l4 : Value) (x0 x1 : Int32), exec d mX2_reckon 52 [l0, l1, l2, l3, l4] [.int x0, .int x1, .ref 47] σ = kb (cal d mJ6_bitCount_0f7a4 [.int x0] σ) (fun rs σ2 => exec d mX2_reckon 55 [l0, l1, l2, l3, l4] (rs ++ [.int x1, .ref 47]) σ2)) ∧
  (∀ (d : Nat) (σ : Sg) (S : List Value) (l0 l1 l2 l3 l4 : Value) (x y : Int32), exec d mX2_reckon 55 [l0, l1, l2, l3, l4] (.int y :: .int x :: S) σ = exec d mX2_reckon 56 [l0, l1, l2, l3, l4] (.int (x + y) :: S) σ) ∧
  (∀ (d : Nat) (σ : Sg) (S : List Value) (l0 l1 l2 l3 l4 : Value), exec d mX2_reckon 56 [l0, l1, l2, l3, l4] S σ = exec d mX2_reckon 58 [l0, l1, l2, l3, l4] (.int (nI 8) :: S) σ) ∧
  (∀ (d : Nat) (σ : Sg) (S : List Value) (l0 l2 l3 l4 : Value) (k : Nat), exec d mX2_reckon 58 [l0, .ref k, l2, l3, l4] S σ = exec d mX2_reckon 59 [l0, .ref k, l2, l3, l4] (.ref k :: S) σ) ∧
  (∀ (d : Nat) (σ : Sg) (S : List Value) (l0 l1 l2 l3 l4 : Value), exec d mX2_reckon 59 [l0, l1, l2, l3, l4] (.ref 8 :: S) σ = exec d mX2_reckon 62 [l0, l1, l2, l3, l4] (.int (σ 8 2) :: S) σ) ∧
  (∀ (d : Nat) (σ : Sg) (S : List Value) (l0 l1 l3 l4 : Value) (x : Int32), exec d mX2_reckon 62 [l0, l1, .int x, l3, l4] S σ = exec d mX2_reckon 63 [l0, l1, .int x, l3, l4] (.int x :: S) σ) ∧
  (∀ (d : Nat) (σ : Sg) (S : List Value) (l0 l1 l2 l3 l4 : Value) (x y : Int32), exec d mX2_reckon 63 [l0, l1, l2, l3, l4] (.int y :: .int x :: S) σ = exec d mX2_reckon 64 [l0, l1, l2, l3, l4] (.int (x + y) :: S) σ) ∧
  (∀ (d : Nat) (σ : Sg) (S : List Value) (l0 l1 l2 l3 l4 : Value) (x y : Int32), exec d mX2_reckon 64 [l0, l1, l2, l3, l4] (.int y :: .int x :: S) σ = exec d mX2_reckon 65 [l0, l1, l2, l3, l4] (.int (x * y) :: S) σ) ∧
  (∀ (d : Nat) (σ : Sg) (S : List Value) (l0 l1 l2 l3 l4 : Value) (x y : Int32), exec d mX2_reckon 65 [l0, l1, l2, l3, l4] (.int y :: .int x :: .ref 47 :: S) σ = if inb x 1024 = true then exec d mX2_reckon 66 [l0, l1, l2, l3, l4] S (up σ 47 x.toNatClampNeg y) else none) ∧
  (∀ (d : Nat) (σ : Sg) (S : List Value) (l1 l2 l3 l4 : Value) (k : Nat), exec d mX2_reckon 66 [.ref k, l1, l2, l3, l4] S σ = exec d mX2_reckon 67 [.ref k, l1, l2, l3, l4] (.ref k :: S) σ) :=
  ⟨fun d σ S l0 l1 l2 l3 l4 => ex_iconst (show decode mX2_reckon.2.1 0 = .ok (.iconst 1, 1) by decide +kernel) (by decide +kernel),
  fun d σ S l0 l2 l3 l4 k => ex_aload_n (show decode mX2_reckon.2.1 1 = .ok (.aload_n 1, 1) by decide +kernel) rfl,
  fun d σ S l0 l1 l2 l3 l4 => ex_get (idx := 15) (ci := 5) (ff := 4) (n := 17) (hh := 198) (by decide +kernel),
  fun d σ S l0 l1 l2 l3 l4 x y => ex_ishl (show decode mX2_reckon.2.1 5 = .ok (.ishl, 1) by decide +kernel),
  fun d σ S l0 l1 l2 l3 l4 => ex_iconst (show decode mX2_reckon.2.1 6 = .ok (.iconst 1, 1) by decide +kernel) (by decide +kernel),
  fun d σ S l0 l1 l2 l3 l4 x y => ex_isub (show decode mX2_reckon.2.1 7 = .ok (.isub, 1) by decide +kernel),
  fun d σ S l0 l1 l3 l4 x y => ex_istore_n (show decode mX2_reckon.2.1 8 = .ok (.istore_n 3, 1) by decide +kernel) (Nat.le_of_ble_eq_true rfl) rfl,
  fun d σ S l0 l1 l2 l3 l4 => ex_iconst (show decode mX2_reckon.2.1 9 = .ok (.iconst 0, 1) by decide +kernel) (by decide +kernel),
  fun d σ S l0 l1 l2 l4 x y => ex_istore (show decode mX2_reckon.2.1 10 = .ok (.istore 4, 2) by decide +kernel) (Nat.le_of_ble_eq_true rfl) rfl,
  fun d σ S l0 l1 l2 l4 x => ex_iload_n (show decode mX2_reckon.2.1 14 = .ok (.iload_n 3, 1) by decide +kernel) rfl,
  fun d σ S l0 l1 l2 l3 l4 => ex_iconst (show decode mX2_reckon.2.1 15 = .ok (.iconst 1, 1) by decide +kernel) (by decide +kernel),
  fun d σ S l0 l1 l2 l3 l4 x y => ex_iadd (show decode mX2_reckon.2.1 16 = .ok (.iadd, 1) by decide +kernel),
  fun d σ S l0 l1 l2 l3 l4 => ex_bipush (show decode mX2_reckon.2.1 17 = .ok (.bipush 8, 2) by decide +kernel) (by decide +kernel),
  fun d σ S l0 l1 l2 l3 l4 x y => ex_imul (show decode mX2_reckon.2.1 19 = .ok (.imul, 1) by decide +kernel),
  fun d σ S l0 l1 l2 l3 l4 x y => ex_cge (show decode mX2_reckon.2.1 20 = .ok (.if_icmp .ge 17, 3) by decide +kernel) (by decide),
  fun d σ S l1 l2 l3 l4 k => ex_aload_n (show decode mX2_reckon.2.1 23 = .ok (.aload_n 0, 1) by decide +kernel) rfl,
  fun d σ S l0 l1 l2 l3 l4 => ex_getr (idx := 11) (ci := 2) (ff := 0) (n := 6) (hh := 295) (by decide +kernel),
  fun d σ S l0 l1 l2 l3 x => ex_iload (show decode mX2_reckon.2.1 27 = .ok (.iload 4, 2) by decide +kernel) rfl,
  fun d σ S l0 l1 l2 l3 l4 => ex_iconst (show decode mX2_reckon.2.1 29 = .ok (.iconst (-1), 1) by decide +kernel) (by decide +kernel),
  fun d σ S l0 l1 l2 l3 l4 x y => ex_iast (by decide +kernel),
  fun d σ S l0 l1 l2 x y => ex_iinc (show decode mX2_reckon.2.1 31 = .ok (.iinc 4 1, 3) by decide +kernel) rfl (by decide +kernel) (Nat.le_of_ble_eq_true rfl) rfl,
  fun d σ S l0 l1 l2 l3 l4 => ex_goto (show decode mX2_reckon.2.1 34 = .ok (.goto (-22), 3) by decide +kernel) (by decide),
  fun d σ S l1 l2 l3 l4 k => ex_aload_n (show decode mX2_reckon.2.1 37 = .ok (.aload_n 0, 1) by decide +kernel) rfl,
  fun d σ S l0 l1 l2 l3 l4 => ex_getr (idx := 11) (ci := 2) (ff := 0) (n := 6) (hh := 295) (by decide +kernel),
  fun d σ S l0 l2 l3 l4 k => ex_aload_n (show decode mX2_reckon.2.1 41 = .ok (.aload_n 1, 1) by decide +kernel) rfl,
  fun d σ S l0 l1 l2 l3 l4 => ex_get (idx := 21) (ci := 5) (ff := 6) (n := 17) (hh := 206) (by decide +kernel),
  fun d σ S l0 l1 l2 l3 l4 => ex_bipush (show decode mX2_reckon.2.1 45 = .ok (.bipush 8, 2) by decide +kernel) (by decide +kernel),
  fun d σ S l0 l1 l2 l3 l4 x y => ex_imul (show decode mX2_reckon.2.1 47 = .ok (.imul, 1) by decide +kernel),
  fun d σ S l0 l2 l3 l4 k => ex_aload_n (show decode mX2_reckon.2.1 48 = .ok (.aload_n 1, 1) by decide +kernel) rfl,
  fun d σ S l0 l1 l2 l3 l4 => ex_get (idx := 24) (ci := 5) (ff := 7) (n := 17) (hh := 210) (by decide +kernel),
  fun d σ l0 l1 l2 l3 l4 x0 x1 => ex_is (hs := [636, 605, 606, 104]) (show decode mX2_reckon.2.1 52 = .ok (.invokestatic 27, 3) by decide +kernel) lkS_2_27 ⟨rfl, Nat.le_of_ble_eq_true rfl, Nat.le_of_ble_eq_true rfl, fun q => nomatch q⟩ rfl rfl,
  fun d σ S l0 l1 l2 l3 l4 x y => ex_iadd (show decode mX2_reckon.2.1 55 = .ok (.iadd, 1) by decide +kernel),
  fun d σ S l0 l1 l2 l3 l4 => ex_bipush (show decode mX2_reckon.2.1 56 = .ok (.bipush 8, 2) by decide +kernel) (by decide +kernel),
  fun d σ S l0 l2 l3 l4 k => ex_aload_n (show decode mX2_reckon.2.1 58 = .ok (.aload_n 1, 1) by decide +kernel) rfl,
  fun d σ S l0 l1 l2 l3 l4 => ex_get (idx := 33) (ci := 5) (ff := 2) (n := 17) (hh := 189) (by decide +kernel),
  fun d σ S l0 l1 l3 l4 x => ex_iload_n (show decode mX2_reckon.2.1 62 = .ok (.iload_n 2, 1) by decide +kernel) rfl,
  fun d σ S l0 l1 l2 l3 l4 x y => ex_iadd (show decode mX2_reckon.2.1 63 = .ok (.iadd, 1) by decide +kernel),
  fun d σ S l0 l1 l2 l3 l4 x y => ex_imul (show decode mX2_reckon.2.1 64 = .ok (.imul, 1) by decide +kernel),
  fun d σ S l0 l1 l2 l3 l4 x y => ex_iast (by decide +kernel),
  fun d σ S l1 l2 l3 l4 k => ex_aload_n (show decode mX2_reckon.2.1 66 = .ok (.aload_n 0, 1) by decide +kernel) rfl⟩
theorem kX2_reckon_1 : (∀ (d : Nat) (σ : Sg) (S : List Value) (l0 l1 l2 l3 l4 : Value), exec d mX2_reckon 67 [l0, l1, l2, l3, l4] S σ = exec d mX2_reckon 68 [l0, l1, l2, l3, l4] (.int (nI 0) :: S) σ) ∧
  (∀ (d : Nat) (σ : Sg) (S : List Value) (l0 l1 l2 l3 l4 : Value) (x : Int32), exec d mX2_reckon 68 [l0, l1, l2, l3, l4] (.int x :: .ref 46 :: S) σ = exec d mX2_reckon 71 [l0, l1, l2, l3, l4] S (up σ 46 1 x)) ∧
  (∀ (d : Nat) (σ : Sg) (S : List Value) (l0 l2 l3 l4 : Value) (k : Nat), exec d mX2_reckon 71 [l0, .ref k, l2, l3, l4] S σ = exec d mX2_reckon 72 [l0, .ref k, l2, l3, l4] (.ref k :: S) σ) ∧
  (∀ (d : Nat) (σ : Sg) (S : List Value) (l0 l1 l2 l3 l4 : Value), exec d mX2_reckon 72 [l0, l1, l2, l3, l4] (.ref 8 :: S) σ = exec d mX2_reckon 75 [l0, l1, l2, l3, l4] (.int (σ 8 6) :: S) σ) ∧
  (∀ (d : Nat) (σ : Sg) (S : List Value) (l0 l1 l2 l4 : Value) (x y : Int32), exec d mX2_reckon 75 [l0, l1, l2, .int y, l4] (.int x :: S) σ = exec d mX2_reckon 77 [l0, l1, l2, .int y, .int x] S σ) ∧
  (∀ (d : Nat) (σ : Sg) (S : List Value) (l0 l1 l2 l4 : Value) (x : Int32), exec d mX2_reckon 79 [l0, l1, l2, .int x, l4] S σ = exec d mX2_reckon 80 [l0, l1, l2, .int x, l4] (.int x :: S) σ) ∧
  (∀ (d : Nat) (σ : Sg) (S : List Value) (l0 l1 l2 l3 l4 : Value) (x y : Int32), exec d mX2_reckon 80 [l0, l1, l2, l3, l4] (.int y :: .int x :: S) σ = if y < x then exec d mX2_reckon 116 [l0, l1, l2, l3, l4] S σ else exec d mX2_reckon 83 [l0, l1, l2, l3, l4] S σ) ∧
  (∀ (d : Nat) (σ : Sg) (S : List Value) (l1 l2 l3 l4 : Value) (k : Nat), exec d mX2_reckon 83 [.ref k, l1, l2, l3, l4] S σ = exec d mX2_reckon 84 [.ref k, l1, l2, l3, l4] (.ref k :: S) σ) ∧
  (∀ (d : Nat) (σ : Sg) (S : List Value) (l0 l1 l2 l3 : Value) (x : Int32), exec d mX2_reckon 84 [l0, l1, l2, l3, .int x] S σ = exec d mX2_reckon 86 [l0, l1, l2, l3, .int x] (.int x :: S) σ) ∧
  (∀ (d : Nat) (σ : Sg) (l0 l1 l2 l3 l4 : Value) (x0 : Int32), exec d mX2_reckon 86 [l0, l1, l2, l3, l4] [.int x0, .ref 46] σ = kb (cal d mX2_isReached [.ref 46, .int x0] σ) (fun rs σ2 => exec d mX2_reckon 89 [l0, l1, l2, l3, l4] (rs ++ []) σ2)) ∧
  (∀ (d : Nat) (σ : Sg) (S : List Value) (l0 l1 l2 l3 l4 : Value) (x : Int32), exec d mX2_reckon 89 [l0, l1, l2, l3, l4] (.int x :: S) σ = if x = nI 0 then exec d mX2_reckon 110 [l0, l1, l2, l3, l4] S σ else exec d mX2_reckon 92 [l0, l1, l2, l3, l4] S σ) ∧
  (∀ (d : Nat) (σ : Sg) (S : List Value) (l1 l2 l3 l4 : Value) (k : Nat), exec d mX2_reckon 92 [.ref k, l1, l2, l3, l4] S σ = exec d mX2_reckon 93 [.ref k, l1, l2, l3, l4] (.ref k :: S) σ) ∧
  (∀ (d : Nat) (σ : Sg) (S : List Value) (l0 l1 l2 l3 l4 : Value) (k : Nat), exec d mX2_reckon 93 [l0, l1, l2, l3, l4] (.ref k :: S) σ = exec d mX2_reckon 94 [l0, l1, l2, l3, l4] (.ref k :: .ref k :: S) σ) ∧
  (∀ (d : Nat) (σ : Sg) (S : List Value) (l0 l1 l2 l3 l4 : Value), exec d mX2_reckon 94 [l0, l1, l2, l3, l4] (.ref 46 :: S) σ = exec d mX2_reckon 97 [l0, l1, l2, l3, l4] (.int (σ 46 1) :: S) σ) ∧
  (∀ (d : Nat) (σ : Sg) (S : List Value) (l0 l1 l2 l3 : Value) (x : Int32), exec d mX2_reckon 97 [l0, l1, l2, l3, .int x] S σ = exec d mX2_reckon 99 [l0, l1, l2, l3, .int x] (.int x :: S) σ) ∧
  (∀ (d : Nat) (σ : Sg) (S : List Value) (l0 l1 l2 l3 l4 : Value) (x y : Int32), exec d mX2_reckon 99 [l0, l1, l2, l3, l4] (.int y :: .int x :: S) σ = exec d mX2_reckon 100 [l0, l1, l2, l3, l4] (.int (x ||| y) :: S) σ) ∧
  (∀ (d : Nat) (σ : Sg) (S : List Value) (l0 l1 l2 l3 l4 : Value) (x : Int32), exec d mX2_reckon 100 [l0, l1, l2, l3, l4] (.int x :: .ref 46 :: S) σ = exec d mX2_reckon 103 [l0, l1, l2, l3, l4] S (up σ 46 1 x)) ∧
  (∀ (d : Nat) (σ : Sg) (S : List Value) (l1 l2 l3 l4 : Value) (k : Nat), exec d mX2_reckon 103 [.ref k, l1, l2, l3, l4] S σ = exec d mX2_reckon 104 [.ref k, l1, l2, l3, l4] (.ref k :: S) σ) ∧
  (∀ (d : Nat) (σ : Sg) (S : List Value) (l0 l2 l3 l4 : Value) (k : Nat), exec d mX2_reckon 104 [l0, .ref k, l2, l3, l4] S σ = exec d mX2_reckon 105 [l0, .ref k, l2, l3, l4] (.ref k :: S) σ) ∧
  (∀ (d : Nat) (σ : Sg) (S : List Value) (l0 l1 l2 l3 : Value) (x : Int32), exec d mX2_reckon 105 [l0, l1, l2, l3, .int x] S σ = exec d mX2_reckon 107 [l0, l1, l2, l3, .int x] (.int x :: S) σ) ∧
  (∀ (d : Nat) (σ : Sg) (l0 l1 l2 l3 l4 : Value) (x0 : Int32), exec d mX2_reckon 107 [l0, l1, l2, l3, l4] [.int x0, .ref 8, .ref 46] σ = kb (cal d mX2_goOnFrom [.ref 46, .ref 8, .int x0] σ) (fun rs σ2 => exec d mX2_reckon 110 [l0, l1, l2, l3, l4] (rs ++ []) σ2)) ∧
  (∀ (d : Nat) (σ : Sg) (S : List Value) (l0 l1 l2 : Value) (x y : Int32), exec d mX2_reckon 110 [l0, l1, l2, .int y, .int x] S σ = exec d mX2_reckon 113 [l0, l1, l2, .int y, .int (x + nI 1)] S σ) ∧
  (∀ (d : Nat) (σ : Sg) (S : List Value) (l0 l1 l2 l3 l4 : Value), exec d mX2_reckon 113 [l0, l1, l2, l3, l4] S σ = exec d mX2_reckon 77 [l0, l1, l2, l3, l4] S σ) ∧
  (∀ (d : Nat) (σ : Sg) (S : List Value) (l1 l2 l3 l4 : Value) (k : Nat), exec d mX2_reckon 116 [.ref k, l1, l2, l3, l4] S σ = exec d mX2_reckon 117 [.ref k, l1, l2, l3, l4] (.ref k :: S) σ) ∧
  (∀ (d : Nat) (σ : Sg) (S : List Value) (l0 l1 l2 l4 : Value) (x : Int32), exec d mX2_reckon 117 [l0, l1, l2, .int x, l4] S σ = exec d mX2_reckon 118 [l0, l1, l2, .int x, l4] (.int x :: S) σ) ∧
  (∀ (d : Nat) (σ : Sg) (l0 l1 l2 l3 l4 : Value) (x0 : Int32), exec d mX2_reckon 118 [l0, l1, l2, l3, l4] [.int x0, .ref 46] σ = kb (cal d mX2_conclude [.ref 46, .int x0] σ) (fun rs σ2 => exec d mX2_reckon 121 [l0, l1, l2, l3, l4] (rs ++ []) σ2)) ∧
  (∀ (d : Nat) (σ : Sg) (l0 l1 l2 l3 l4 : Value), exec d mX2_reckon 121 [l0, l1, l2, l3, l4] [] σ = some (none, σ)) :=
  ⟨fun d σ S l0 l1 l2 l3 l4 => ex_iconst (show decode mX2_reckon.2.1 67 = .ok (.iconst 0, 1) by decide +kernel) (by decide +kernel),
  fun d σ S l0 l1 l2 l3 l4 x => ex_put (idx := 36) (ci := 2) (ff := 1) (n := 6) (hh := 296) (by decide +kernel),
  fun d σ S l0 l2 l3 l4 k => ex_aload_n (show decode mX2_reckon.2.1 71 = .ok (.aload_n 1, 1) by decide +kernel) rfl,
  fun d σ S l0 l1 l2 l3 l4 => ex_get (idx := 21) (ci := 5) (ff := 6) (n := 17) (hh := 206) (by decide +kernel),
  fun d σ S l0 l1 l2 l4 x y => ex_istore (show decode mX2_reckon.2.1 75 = .ok (.istore 4, 2) by decide +kernel) (Nat.le_of_ble_eq_true rfl) rfl,
  fun d σ S l0 l1 l2 l4 x => ex_iload_n (show decode mX2_reckon.2.1 79 = .ok (.iload_n 3, 1) by decide +kernel) rfl,
  fun d σ S l0 l1 l2 l3 l4 x y => ex_cgt (show decode mX2_reckon.2.1 80 = .ok (.if_icmp .gt 36, 3) by decide +kernel) (by decide),
  fun d σ S l1 l2 l3 l4 k => ex_aload_n (show decode mX2_reckon.2.1 83 = .ok (.aload_n 0, 1) by decide +kernel) rfl,
  fun d σ S l0 l1 l2 l3 x => ex_iload (show decode mX2_reckon.2.1 84 = .ok (.iload 4, 2) by decide +kernel) rfl,
  fun d σ l0 l1 l2 l3 l4 x0 => ex_iv (hs := [637, 639, 35, 640, 99]) (show decode mX2_reckon.2.1 86 = .ok (.invokevirtual 39, 3) by decide +kernel) lkV_2_39 ⟨rfl, Nat.le_of_ble_eq_true rfl, Nat.le_of_ble_eq_true rfl, fun _ => rfl⟩ rfl rfl,
  fun d σ S l0 l1 l2 l3 l4 x => ex_zeq (show decode mX2_reckon.2.1 89 = .ok (.ifCond .eq 21, 3) by decide +kernel) (by decide),
  fun d σ S l1 l2 l3 l4 k => ex_aload_n (show decode mX2_reckon.2.1 92 = .ok (.aload_n 0, 1) by decide +kernel) rfl,
  fun d σ S l0 l1 l2 l3 l4 k => ex_dup (show decode mX2_reckon.2.1 93 = .ok (.dup, 1) by decide +kernel) rfl,
  fun d σ S l0 l1 l2 l3 l4 => ex_get (idx := 36) (ci := 2) (ff := 1) (n := 6) (hh := 296) (by decide +kernel),
  fun d σ S l0 l1 l2 l3 x => ex_iload (show decode mX2_reckon.2.1 97 = .ok (.iload 4, 2) by decide +kernel) rfl,
  fun d σ S l0 l1 l2 l3 l4 x y => ex_ior (show decode mX2_reckon.2.1 99 = .ok (.ior, 1) by decide +kernel),
  fun d σ S l0 l1 l2 l3 l4 x => ex_put (idx := 36) (ci := 2) (ff := 1) (n := 6) (hh := 296) (by decide +kernel),
  fun d σ S l1 l2 l3 l4 k => ex_aload_n (show decode mX2_reckon.2.1 103 = .ok (.aload_n 0, 1) by decide +kernel) rfl,
  fun d σ S l0 l2 l3 l4 k => ex_aload_n (show decode mX2_reckon.2.1 104 = .ok (.aload_n 1, 1) by decide +kernel) rfl,
  fun d σ S l0 l1 l2 l3 x => ex_iload (show decode mX2_reckon.2.1 105 = .ok (.iload 4, 2) by decide +kernel) rfl,
  fun d σ l0 l1 l2 l3 l4 x0 => ex_iv (hs := [641, 643, 36, 644, 99]) (show decode mX2_reckon.2.1 107 = .ok (.invokevirtual 43, 3) by decide +kernel) lkV_2_43 ⟨rfl, Nat.le_of_ble_eq_true rfl, Nat.le_of_ble_eq_true rfl, fun _ => rfl⟩ rfl rfl,
  fun d σ S l0 l1 l2 x y => ex_iinc (show decode mX2_reckon.2.1 110 = .ok (.iinc 4 1, 3) by decide +kernel) rfl (by decide +kernel) (Nat.le_of_ble_eq_true rfl) rfl,
  fun d σ S l0 l1 l2 l3 l4 => ex_goto (show decode mX2_reckon.2.1 113 = .ok (.goto (-36), 3) by decide +kernel) (by decide),
  fun d σ S l1 l2 l3 l4 k => ex_aload_n (show decode mX2_reckon.2.1 116 = .ok (.aload_n 0, 1) by decide +kernel) rfl,
  fun d σ S l0 l1 l2 l4 x => ex_iload_n (show decode mX2_reckon.2.1 117 = .ok (.iload_n 3, 1) by decide +kernel) rfl,
  fun d σ l0 l1 l2 l3 l4 x0 => ex_iv (hs := [657, 659, 38, 660, 99]) (show decode mX2_reckon.2.1 118 = .ok (.invokevirtual 47, 3) by decide +kernel) lkV_2_47 ⟨rfl, Nat.le_of_ble_eq_true rfl, Nat.le_of_ble_eq_true rfl, fun _ => rfl⟩ rfl rfl,
  fun d σ l0 l1 l2 l3 l4 => ex_vret (show decode mX2_reckon.2.1 121 = .ok (.return_, 1) by decide +kernel) rfl⟩
theorem hX2_reckon_12 : ∀ (d : Nat) (σ : Sg) (S : List Value) (l0 l1 l2 l3 : Value) (x : Int32), exec d mX2_reckon 12 [l0, l1, l2, l3, .int x] S σ = exec d mX2_reckon 14 [l0, l1, l2, l3, .int x] (.int x :: S) σ := fun d σ S l0 l1 l2 l3 x => ex_iload (show decode mX2_reckon.2.1 12 = .ok (.iload 4, 2) by decide +kernel) rfl
theorem hX2_reckon_77 : ∀ (d : Nat) (σ : Sg) (S : List Value) (l0 l1 l2 l3 : Value) (x : Int32), exec d mX2_reckon 77 [l0, l1, l2, l3, .int x] S σ = exec d mX2_reckon 79 [l0, l1, l2, l3, .int x] (.int x :: S) σ := fun d σ S l0 l1 l2 l3 x => ex_iload (show decode mX2_reckon.2.1 77 = .ok (.iload 4, 2) by decide +kernel) rfl
theorem aX2_reckon_46_8 : ∀ (d : Nat) (a2 : Int32) (σ : Sg), cal (d + 1) mX2_reckon [.ref 46, .ref 8, .int a2] σ = exec d mX2_reckon 0 [.ref 46, .ref 8, .int a2, uu, uu] [] σ := fun _ _ _ => rfl
theorem kX2_isReached : (∀ (d : Nat) (σ : Sg) (S : List Value) (l0 l1 l2 : Value), exec d mX2_isReached 0 [l0, l1, l2] S σ = exec d mX2_isReached 1 [l0, l1, l2] (.int (nI 0) :: S) σ) ∧
  (∀ (d : Nat) (σ : Sg) (S : List Value) (l0 l2 : Value) (x y : Int32), exec d mX2_isReached 1 [l0, .int y, l2] (.int x :: S) σ = exec d mX2_isReached 2 [l0, .int y, .int x] S σ) ∧
  (∀ (d : Nat) (σ : Sg) (S : List Value) (l0 l1 l2 : Value), exec d mX2_isReached 3 [l0, l1, l2] S σ = exec d mX2_isReached 5 [l0, l1, l2] (.int (nI 8) :: S) σ) ∧
  (∀ (d : Nat) (σ : Sg) (S : List Value) (l0 l1 l2 : Value) (x y : Int32), exec d mX2_isReached 5 [l0, l1, l2] (.int y :: .int x :: S) σ = if y ≤ x then exec d mX2_isReached 31 [l0, l1, l2] S σ else exec d mX2_isReached 8 [l0, l1, l2] S σ) ∧
  (∀ (d : Nat) (σ : Sg) (S : List Value) (l1 l2 : Value) (k : Nat), exec d mX2_isReached 8 [.ref k, l1, l2] S σ = exec d mX2_isReached 9 [.ref k, l1, l2] (.ref k :: S) σ) ∧
  (∀ (d : Nat) (σ : Sg) (S : List Value) (l0 l1 l2 : Value), exec d mX2_isReached 9 [l0, l1, l2] (.ref 46 :: S) σ = exec d mX2_isReached 12 [l0, l1, l2] (.ref 47 :: S) σ) ∧
  (∀ (d : Nat) (σ : Sg) (S : List Value) (l0 l2 : Value) (x : Int32), exec d mX2_isReached 12 [l0, .int x, l2] S σ = exec d mX2_isReached 13 [l0, .int x, l2] (.int x :: S) σ) ∧
  (∀ (d : Nat) (σ : Sg) (S : List Value) (l0 l1 l2 : Value), exec d mX2_isReached 13 [l0, l1, l2] S σ = exec d mX2_isReached 15 [l0, l1, l2] (.int (nI 8) :: S) σ) ∧
  (∀ (d : Nat) (σ : Sg) (S : List Value) (l0 l1 l2 : Value) (x y : Int32), exec d mX2_isReached 15 [l0, l1, l2] (.int y :: .int x :: S) σ = exec d mX2_isReached 16 [l0, l1, l2] (.int (x * y) :: S) σ) ∧
  (∀ (d : Nat) (σ : Sg) (S : List Value) (l0 l1 : Value) (x : Int32), exec d mX2_isReached 16 [l0, l1, .int x] S σ = exec d mX2_isReached 17 [l0, l1, .int x] (.int x :: S) σ) ∧
  (∀ (d : Nat) (σ : Sg) (S : List Value) (l0 l1 l2 : Value) (x y : Int32), exec d mX2_isReached 17 [l0, l1, l2] (.int y :: .int x :: S) σ = exec d mX2_isReached 18 [l0, l1, l2] (.int (x + y) :: S) σ) ∧
  (∀ (d : Nat) (σ : Sg) (S : List Value) (l0 l1 l2 : Value) (x : Int32), exec d mX2_isReached 18 [l0, l1, l2] (.int x :: .ref 47 :: S) σ = if inb x 1024 = true then exec d mX2_isReached 19 [l0, l1, l2] (.int (σ 47 x.toNatClampNeg) :: S) σ else none) ∧
  (∀ (d : Nat) (σ : Sg) (S : List Value) (l0 l1 l2 : Value), exec d mX2_isReached 19 [l0, l1, l2] S σ = exec d mX2_isReached 20 [l0, l1, l2] (.int ((-1)) :: S) σ) ∧
  (∀ (d : Nat) (σ : Sg) (S : List Value) (l0 l1 l2 : Value) (x y : Int32), exec d mX2_isReached 20 [l0, l1, l2] (.int y :: .int x :: S) σ = if x = y then exec d mX2_isReached 25 [l0, l1, l2] S σ else exec d mX2_isReached 23 [l0, l1, l2] S σ) ∧
  (∀ (d : Nat) (σ : Sg) (S : List Value) (l0 l1 l2 : Value), exec d mX2_isReached 23 [l0, l1, l2] S σ = exec d mX2_isReached 24 [l0, l1, l2] (.int (nI 1) :: S) σ) ∧
  (∀ (d : Nat) (σ : Sg) (l0 l1 l2 : Value) (x : Int32), exec d mX2_isReached 24 [l0, l1, l2] [.int x] σ = if b01 x = true then some (some (.int x), σ) else none) ∧
  (∀ (d : Nat) (σ : Sg) (S : List Value) (l0 : Value) (x y : Int32), exec d mX2_isReached 25 [l0, .int y, .int x] S σ = exec d mX2_isReached 28 [l0, .int y, .int (x + nI 1)] S σ) ∧
  (∀ (d : Nat) (σ : Sg) (S : List Value) (l0 l1 l2 : Value), exec d mX2_isReached 28 [l0, l1, l2] S σ = exec d mX2_isReached 2 [l0, l1, l2] S σ) ∧
  (∀ (d : Nat) (σ : Sg) (S : List Value) (l0 l1 l2 : Value), exec d mX2_isReached 31 [l0, l1, l2] S σ = exec d mX2_isReached 32 [l0, l1, l2] (.int (nI 0) :: S) σ) ∧
  (∀ (d : Nat) (σ : Sg) (l0 l1 l2 : Value) (x : Int32), exec d mX2_isReached 32 [l0, l1, l2] [.int x] σ = if b01 x = true then some (some (.int x), σ) else none) :=
  ⟨fun d σ S l0 l1 l2 => ex_iconst (show decode mX2_isReached.2.1 0 = .ok (.iconst 0, 1) by decide +kernel) (by decide +kernel),
  fun d σ S l0 l2 x y => ex_istore_n (show decode mX2_isReached.2.1 1 = .ok (.istore_n 2, 1) by decide +kernel) (Nat.le_of_ble_eq_true rfl) rfl,
  fun d σ S l0 l1 l2 => ex_bipush (show decode mX2_isReached.2.1 3 = .ok (.bipush 8, 2) by decide +kernel) (by decide +kernel),
  fun d σ S l0 l1 l2 x y => ex_cge (show decode mX2_isReached.2.1 5 = .ok (.if_icmp .ge 26, 3) by decide +kernel) (by decide),
  fun d σ S l1 l2 k => ex_aload_n (show decode mX2_isReached.2.1 8 = .ok (.aload_n 0, 1) by decide +kernel) rfl,
  fun d σ S l0 l1 l2 => ex_getr (idx := 11) (ci := 2) (ff := 0) (n := 6) (hh := 295) (by decide +kernel),
  fun d σ S l0 l2 x => ex_iload_n (show decode mX2_isReached.2.1 12 = .ok (.iload_n 1, 1) by decide +kernel) rfl,
  fun d σ S l0 l1 l2 => ex_bipush (show decode mX2_isReached.2.1 13 = .ok (.bipush 8, 2) by decide +kernel) (by decide +kernel),
  fun d σ S l0 l1 l2 x y => ex_imul (show decode mX2_isReached.2.1 15 = .ok (.imul, 1) by decide +kernel),
  fun d σ S l0 l1 x => ex_iload_n (show decode mX2_isReached.2.1 16 = .ok (.iload_n 2, 1) by decide +kernel) rfl,
  fun d σ S l0 l1 l2 x y => ex_iadd (show decode mX2_isReached.2.1 17 = .ok (.iadd, 1) by decide +kernel),
  fun d σ S l0 l1 l2 x => ex_iald (by decide +kernel),
  fun d σ S l0 l1 l2 => ex_iconst (show decode mX2_isReached.2.1 19 = .ok (.iconst (-1), 1) by decide +kernel) (by decide +kernel),
  fun d σ S l0 l1 l2 x y => ex_ceq (show decode mX2_isReached.2.1 20 = .ok (.if_icmp .eq 5, 3) by decide +kernel) (by decide),
  fun d σ S l0 l1 l2 => ex_iconst (show decode mX2_isReached.2.1 23 = .ok (.iconst 1, 1) by decide +kernel) (by decide +kernel),
  fun d σ l0 l1 l2 x => ex_zret (show decode mX2_isReached.2.1 24 = .ok (.ireturn, 1) by decide +kernel) rfl,
  fun d σ S l0 x y => ex_iinc (show decode mX2_isReached.2.1 25 = .ok (.iinc 2 1, 3) by decide +kernel) rfl (by decide +kernel) (Nat.le_of_ble_eq_true rfl) rfl,
  fun d σ S l0 l1 l2 => ex_goto (show decode mX2_isReached.2.1 28 = .ok (.goto (-26), 3) by decide +kernel) (by decide),
  fun d σ S l0 l1 l2 => ex_iconst (show decode mX2_isReached.2.1 31 = .ok (.iconst 0, 1) by decide +kernel) (by decide +kernel),
  fun d σ l0 l1 l2 x => ex_zret (show decode mX2_isReached.2.1 32 = .ok (.ireturn, 1) by decide +kernel) rfl⟩
theorem hX2_isReached_2 : ∀ (d : Nat) (σ : Sg) (S : List Value) (l0 l1 : Value) (x : Int32), exec d mX2_isReached 2 [l0, l1, .int x] S σ = exec d mX2_isReached 3 [l0, l1, .int x] (.int x :: S) σ := fun d σ S l0 l1 x => ex_iload_n (show decode mX2_isReached.2.1 2 = .ok (.iload_n 2, 1) by decide +kernel) rfl
theorem aX2_isReached_46 : ∀ (d : Nat) (a1 : Int32) (σ : Sg), cal (d + 1) mX2_isReached [.ref 46, .int a1] σ = exec d mX2_isReached 0 [.ref 46, .int a1, uu] [] σ := fun _ _ _ => rfl
theorem kX2_goOnFrom_0 : (∀ (d : Nat) (σ : Sg) (S : List Value) (l0 l2 l3 l4 l5 l6 l7 l8 : Value) (k : Nat), exec d mX2_goOnFrom 0 [l0, .ref k, l2, l3, l4, l5, l6, l7, l8] S σ = exec d mX2_goOnFrom 1 [l0, .ref k, l2, l3, l4, l5, l6, l7, l8] (.ref k :: S) σ) ∧
  (∀ (d : Nat) (σ : Sg) (S : List Value) (l0 l1 l2 l3 l4 l5 l6 l7 l8 : Value), exec d mX2_goOnFrom 1 [l0, l1, l2, l3, l4, l5, l6, l7, l8] (.ref 8 :: S) σ = exec d mX2_goOnFrom 4 [l0, l1, l2, l3, l4, l5, l6, l7, l8] (.int (σ 8 1) :: S) σ) ∧
  (∀ (d : Nat) (σ : Sg) (S : List Value) (l0 l1 l3 l4 l5 l6 l7 l8 : Value) (x y : Int32), exec d mX2_goOnFrom 4 [l0, l1, .int y, l3, l4, l5, l6, l7, l8] (.int x :: S) σ = exec d mX2_goOnFrom 5 [l0, l1, .int y, .int x, l4, l5, l6, l7, l8] S σ) ∧
  (∀ (d : Nat) (σ : Sg) (S : List Value) (l0 l2 l3 l4 l5 l6 l7 l8 : Value) (k : Nat), exec d mX2_goOnFrom 5 [l0, .ref k, l2, l3, l4, l5, l6, l7, l8] S σ = exec d mX2_goOnFrom 6 [l0, .ref k, l2, l3, l4, l5, l6, l7, l8] (.ref k :: S) σ) ∧
  (∀ (d : Nat) (σ : Sg) (S : List Value) (l0 l1 l2 l3 l4 l5 l6 l7 l8 : Value), exec d mX2_goOnFrom 6 [l0, l1, l2, l3, l4, l5, l6, l7, l8] (.ref 8 :: S) σ = exec d mX2_goOnFrom 9 [l0, l1, l2, l3, l4, l5, l6, l7, l8] (.int (σ 8 3) :: S) σ) ∧
  (∀ (d : Nat) (σ : Sg) (S : List Value) (l0 l1 l2 l4 l5 l6 l7 l8 : Value) (x y : Int32), exec d mX2_goOnFrom 9 [l0, l1, l2, .int y, l4, l5, l6, l7, l8] (.int x :: S) σ = exec d mX2_goOnFrom 11 [l0, l1, l2, .int y, .int x, l5, l6, l7, l8] S σ) ∧
  (∀ (d : Nat) (σ : Sg) (S : List Value) (l0 l1 l2 l3 l4 l5 l6 l7 l8 : Value), exec d mX2_goOnFrom 11 [l0, l1, l2, l3, l4, l5, l6, l7, l8] S σ = exec d mX2_goOnFrom 12 [l0, l1, l2, l3, l4, l5, l6, l7, l8] (.int (nI 0) :: S) σ) ∧
  (∀ (d : Nat) (σ : Sg) (S : List Value) (l0 l1 l2 l3 l5 l6 l7 l8 : Value) (x y : Int32), exec d mX2_goOnFrom 12 [l0, l1, l2, l3, .int y, l5, l6, l7, l8] (.int x :: S) σ = exec d mX2_goOnFrom 14 [l0, l1, l2, l3, .int y, .int x, l6, l7, l8] S σ) ∧
  (∀ (d : Nat) (σ : Sg) (S : List Value) (l0 l2 l3 l4 l5 l6 l7 l8 : Value) (k : Nat), exec d mX2_goOnFrom 16 [l0, .ref k, l2, l3, l4, l5, l6, l7, l8] S σ = exec d mX2_goOnFrom 17 [l0, .ref k, l2, l3, l4, l5, l6, l7, l8] (.ref k :: S) σ) ∧
  (∀ (d : Nat) (σ : Sg) (S : List Value) (l0 l1 l2 l3 l4 l5 l6 l7 l8 : Value), exec d mX2_goOnFrom 17 [l0, l1, l2, l3, l4, l5, l6, l7, l8] (.ref 8 :: S) σ = exec d mX2_goOnFrom 20 [l0, l1, l2, l3, l4, l5, l6, l7, l8] (.int (σ 8 4) :: S) σ) ∧
  (∀ (d : Nat) (σ : Sg) (S : List Value) (l0 l1 l2 l3 l4 l5 l6 l7 l8 : Value) (x y : Int32), exec d mX2_goOnFrom 20 [l0, l1, l2, l3, l4, l5, l6, l7, l8] (.int y :: .int x :: S) σ = if y ≤ x then exec d mX2_goOnFrom 85 [l0, l1, l2, l3, l4, l5, l6, l7, l8] S σ else exec d mX2_goOnFrom 23 [l0, l1, l2, l3, l4, l5, l6, l7, l8] S σ) ∧
  (∀ (d : Nat) (σ : Sg) (S : List Value) (l0 l1 l3 l4 l5 l6 l7 l8 : Value) (x : Int32), exec d mX2_goOnFrom 23 [l0, l1, .int x, l3, l4, l5, l6, l7, l8] S σ = exec d mX2_goOnFrom 24 [l0, l1, .int x, l3, l4, l5, l6, l7, l8] (.int x :: S) σ) ∧
  (∀ (d : Nat) (σ : Sg) (S : List Value) (l0 l2 l3 l4 l5 l6 l7 l8 : Value) (k : Nat), exec d mX2_goOnFrom 24 [l0, .ref k, l2, l3, l4, l5, l6, l7, l8] S σ = exec d mX2_goOnFrom 25 [l0, .ref k, l2, l3, l4, l5, l6, l7, l8] (.ref k :: S) σ) ∧
  (∀ (d : Nat) (σ : Sg) (S : List Value) (l0 l1 l2 l3 l4 l5 l6 l7 l8 : Value), exec d mX2_goOnFrom 25 [l0, l1, l2, l3, l4, l5, l6, l7, l8] (.ref 8 :: S) σ = exec d mX2_goOnFrom 28 [l0, l1, l2, l3, l4, l5, l6, l7, l8] (.int (σ 8 6) :: S) σ) ∧
  (∀ (d : Nat) (σ : Sg) (S : List Value) (l0 l1 l2 l3 l4 l5 l6 l7 l8 : Value), exec d mX2_goOnFrom 28 [l0, l1, l2, l3, l4, l5, l6, l7, l8] S σ = exec d mX2_goOnFrom 29 [l0, l1, l2, l3, l4, l5, l6, l7, l8] (.int ((-1)) :: S) σ) ∧
  (∀ (d : Nat) (σ : Sg) (S : List Value) (l0 l1 l2 l3 l4 l5 l6 l7 l8 : Value) (x y : Int32), exec d mX2_goOnFrom 29 [l0, l1, l2, l3, l4, l5, l6, l7, l8] (.int y :: .int x :: S) σ = exec d mX2_goOnFrom 30 [l0, l1, l2, l3, l4, l5, l6, l7, l8] (.int (x ^^^ y) :: S) σ) ∧
  (∀ (d : Nat) (σ : Sg) (S : List Value) (l0 l1 l2 l3 l4 l5 l6 l7 l8 : Value) (x y : Int32), exec d mX2_goOnFrom 30 [l0, l1, l2, l3, l4, l5, l6, l7, l8] (.int y :: .int x :: S) σ = exec d mX2_goOnFrom 31 [l0, l1, l2, l3, l4, l5, l6, l7, l8] (.int (x &&& y) :: S) σ) ∧
  (∀ (d : Nat) (σ : Sg) (S : List Value) (l0 l1 l2 l3 l4 l6 l7 l8 : Value) (x : Int32), exec d mX2_goOnFrom 31 [l0, l1, l2, l3, l4, .int x, l6, l7, l8] S σ = exec d mX2_goOnFrom 33 [l0, l1, l2, l3, l4, .int x, l6, l7, l8] (.int x :: S) σ) ∧
  (∀ (d : Nat) (σ : Sg) (l0 l1 l2 l3 l4 l5 l6 l7 l8 : Value) (x0 x1 : Int32), exec d mX2_goOnFrom 33 [l0, l1, l2, l3, l4, l5, l6, l7, l8] [.int x0, .int x1] σ = kb (cal d mX6_bit [.int x1, .int x0] σ) (fun rs σ2 => exec d mX2_goOnFrom 36 [l0, l1, l2, l3, l4, l5, l6, l7, l8] (rs ++ []) σ2)) ∧
  (∀ (d : Nat) (σ : Sg) (S : List Value) (l0 l1 l2 l3 l4 l5 l6 l7 l8 : Value), exec d mX2_goOnFrom 36 [l0, l1, l2, l3, l4, l5, l6, l7, l8] S σ = exec d mX2_goOnFrom 37 [l0, l1, l2, l3, l4, l5, l6, l7, l8] (.int (nI 1) :: S) σ) ∧
  (∀ (d : Nat) (σ : Sg) (S : List Value) (l0 l1 l2 l3 l4 l5 l6 l7 l8 : Value) (x y : Int32), exec d mX2_goOnFrom 37 [l0, l1, l2, l3, l4, l5, l6, l7, l8] (.int y :: .int x :: S) σ = if x = y then exec d mX2_goOnFrom 40 [l0, l1, l2, l3, l4, l5, l6, l7, l8] S σ else exec d mX2_goOnFrom 79 [l0, l1, l2, l3, l4, l5, l6, l7, l8] S σ) ∧
  (∀ (d : Nat) (σ : Sg) (S : List Value) (l0 l2 l3 l4 l5 l6 l7 l8 : Value) (k : Nat), exec d mX2_goOnFrom 40 [l0, .ref k, l2, l3, l4, l5, l6, l7, l8] S σ = exec d mX2_goOnFrom 41 [l0, .ref k, l2, l3, l4, l5, l6, l7, l8] (.ref k :: S) σ) ∧
  (∀ (d : Nat) (σ : Sg) (S : List Value) (l0 l1 l2 l3 l4 l5 l6 l7 l8 : Value), exec d mX2_goOnFrom 41 [l0, l1, l2, l3, l4, l5, l6, l7, l8] (.ref 8 :: S) σ = exec d mX2_goOnFrom 44 [l0, l1, l2, l3, l4, l5, l6, l7, l8] (.ref 9 :: S) σ) ∧
  (∀ (d : Nat) (σ : Sg) (S : List Value) (l0 l1 l2 l3 l4 l6 l7 l8 : Value) (x : Int32), exec d mX2_goOnFrom 44 [l0, l1, l2, l3, l4, .int x, l6, l7, l8] S σ = exec d mX2_goOnFrom 46 [l0, l1, l2, l3, l4, .int x, l6, l7, l8] (.int x :: S) σ) ∧
  (∀ (d : Nat) (σ : Sg) (S : List Value) (l0 l1 l2 l3 l4 l5 l6 l7 l8 : Value) (x : Int32), exec d mX2_goOnFrom 46 [l0, l1, l2, l3, l4, l5, l6, l7, l8] (.int x :: .ref 9 :: S) σ = if inb x 7 = true then exec d mX2_goOnFrom 47 [l0, l1, l2, l3, l4, l5, l6, l7, l8] (.int (σ 9 x.toNatClampNeg) :: S) σ else none) ∧
  (∀ (d : Nat) (σ : Sg) (S : List Value) (l0 l1 l2 l4 l5 l6 l7 l8 : Value) (x : Int32), exec d mX2_goOnFrom 47 [l0, l1, l2, .int x, l4, l5, l6, l7, l8] S σ = exec d mX2_goOnFrom 48 [l0, l1, l2, .int x, l4, l5, l6, l7, l8] (.int x :: S) σ) ∧
  (∀ (d : Nat) (σ : Sg) (l0 l1 l2 l3 l4 l5 l6 l7 l8 : Value) (x0 x1 : Int32), exec d mX2_goOnFrom 48 [l0, l1, l2, l3, l4, l5, l6, l7, l8] [.int x0, .int x1] σ = kb (cal d mX6_skillBehind [.int x1, .int x0] σ) (fun rs σ2 => exec d mX2_goOnFrom 51 [l0, l1, l2, l3, l4, l5, l6, l7, l8] (rs ++ []) σ2)) ∧
  (∀ (d : Nat) (σ : Sg) (S : List Value) (l0 l1 l3 l4 l5 l6 l7 l8 : Value) (x y : Int32), exec d mX2_goOnFrom 51 [l0, l1, .int y, l3, l4, l5, l6, l7, l8] (.int x :: S) σ = exec d mX2_goOnFrom 52 [l0, l1, .int y, .int x, l4, l5, l6, l7, l8] S σ) ∧
  (∀ (d : Nat) (σ : Sg) (S : List Value) (l0 l1 l2 l3 l5 l6 l7 l8 : Value) (x : Int32), exec d mX2_goOnFrom 52 [l0, l1, l2, l3, .int x, l5, l6, l7, l8] S σ = exec d mX2_goOnFrom 54 [l0, l1, l2, l3, .int x, l5, l6, l7, l8] (.int x :: S) σ) ∧
  (∀ (d : Nat) (σ : Sg) (S : List Value) (l0 l2 l3 l4 l5 l6 l7 l8 : Value) (k : Nat), exec d mX2_goOnFrom 54 [l0, .ref k, l2, l3, l4, l5, l6, l7, l8] S σ = exec d mX2_goOnFrom 55 [l0, .ref k, l2, l3, l4, l5, l6, l7, l8] (.ref k :: S) σ) ∧
  (∀ (d : Nat) (σ : Sg) (S : List Value) (l0 l1 l2 l3 l4 l5 l6 l7 l8 : Value), exec d mX2_goOnFrom 55 [l0, l1, l2, l3, l4, l5, l6, l7, l8] (.ref 8 :: S) σ = exec d mX2_goOnFrom 58 [l0, l1, l2, l3, l4, l5, l6, l7, l8] (.ref 9 :: S) σ) ∧
  (∀ (d : Nat) (σ : Sg) (S : List Value) (l0 l1 l2 l3 l4 l6 l7 l8 : Value) (x : Int32), exec d mX2_goOnFrom 58 [l0, l1, l2, l3, l4, .int x, l6, l7, l8] S σ = exec d mX2_goOnFrom 60 [l0, l1, l2, l3, l4, .int x, l6, l7, l8] (.int x :: S) σ) ∧
  (∀ (d : Nat) (σ : Sg) (S : List Value) (l0 l1 l2 l3 l4 l5 l6 l7 l8 : Value) (x : Int32), exec d mX2_goOnFrom 60 [l0, l1, l2, l3, l4, l5, l6, l7, l8] (.int x :: .ref 9 :: S) σ = if inb x 7 = true then exec d mX2_goOnFrom 61 [l0, l1, l2, l3, l4, l5, l6, l7, l8] (.int (σ 9 x.toNatClampNeg) :: S) σ else none) ∧
  (∀ (d : Nat) (σ : Sg) (S : List Value) (l0 l1 l2 l3 l4 l5 l6 l7 l8 : Value), exec d mX2_goOnFrom 61 [l0, l1, l2, l3, l4, l5, l6, l7, l8] S σ = exec d mX2_goOnFrom 62 [l0, l1, l2, l3, l4, l5, l6, l7, l8] (.int (nI 5) :: S) σ) ∧
  (∀ (d : Nat) (σ : Sg) (S : List Value) (l0 l1 l2 l3 l4 l5 l6 l7 l8 : Value) (x y : Int32), exec d mX2_goOnFrom 62 [l0, l1, l2, l3, l4, l5, l6, l7, l8] (.int y :: .int x :: S) σ = if x = y then exec d mX2_goOnFrom 65 [l0, l1, l2, l3, l4, l5, l6, l7, l8] S σ else exec d mX2_goOnFrom 75 [l0, l1, l2, l3, l4, l5, l6, l7, l8] S σ) ∧
  (∀ (d : Nat) (σ : Sg) (S : List Value) (l0 l2 l3 l4 l5 l6 l7 l8 : Value) (k : Nat), exec d mX2_goOnFrom 65 [l0, .ref k, l2, l3, l4, l5, l6, l7, l8] S σ = exec d mX2_goOnFrom 66 [l0, .ref k, l2, l3, l4, l5, l6, l7, l8] (.ref k :: S) σ) ∧
  (∀ (d : Nat) (σ : Sg) (S : List Value) (l0 l1 l2 l3 l4 l5 l6 l7 l8 : Value), exec d mX2_goOnFrom 66 [l0, l1, l2, l3, l4, l5, l6, l7, l8] (.ref 8 :: S) σ = exec d mX2_goOnFrom 69 [l0, l1, l2, l3, l4, l5, l6, l7, l8] (.ref 11 :: S) σ) ∧
  (∀ (d : Nat) (σ : Sg) (S : List Value) (l0 l1 l2 l3 l4 l6 l7 l8 : Value) (x : Int32), exec d mX2_goOnFrom 69 [l0, l1, l2, l3, l4, .int x, l6, l7, l8] S σ = exec d mX2_goOnFrom 71 [l0, l1, l2, l3, l4, .int x, l6, l7, l8] (.int x :: S) σ) ∧
  (∀ (d : Nat) (σ : Sg) (S : List Value) (l0 l1 l2 l3 l4 l5 l6 l7 l8 : Value) (x : Int32), exec d mX2_goOnFrom 71 [l0, l1, l2, l3, l4, l5, l6, l7, l8] (.int x :: .ref 11 :: S) σ = if inb x 7 = true then exec d mX2_goOnFrom 72 [l0, l1, l2, l3, l4, l5, l6, l7, l8] (.int (σ 11 x.toNatClampNeg) :: S) σ else none) ∧
  (∀ (d : Nat) (σ : Sg) (S : List Value) (l0 l1 l2 l3 l4 l5 l6 l7 l8 : Value), exec d mX2_goOnFrom 72 [l0, l1, l2, l3, l4, l5, l6, l7, l8] S σ = exec d mX2_goOnFrom 76 [l0, l1, l2, l3, l4, l5, l6, l7, l8] S σ) :=
  ⟨fun d σ S l0 l2 l3 l4 l5 l6 l7 l8 k => ex_aload_n (show decode mX2_goOnFrom.2.1 0 = .ok (.aload_n 1, 1) by decide +kernel) rfl,
  fun d σ S l0 l1 l2 l3 l4 l5 l6 l7 l8 => ex_get (idx := 51) (ci := 5) (ff := 1) (n := 17) (hh := 185) (by decide +kernel),
  fun d σ S l0 l1 l3 l4 l5 l6 l7 l8 x y => ex_istore_n (show decode mX2_goOnFrom.2.1 4 = .ok (.istore_n 3, 1) by decide +kernel) (Nat.le_of_ble_eq_true rfl) rfl,
  fun d σ S l0 l2 l3 l4 l5 l6 l7 l8 k => ex_aload_n (show decode mX2_goOnFrom.2.1 5 = .ok (.aload_n 1, 1) by decide +kernel) rfl,
  fun d σ S l0 l1 l2 l3 l4 l5 l6 l7 l8 => ex_get (idx := 54) (ci := 5) (ff := 3) (n := 17) (hh := 195) (by decide +kernel),
  fun d σ S l0 l1 l2 l4 l5 l6 l7 l8 x y => ex_istore (show decode mX2_goOnFrom.2.1 9 = .ok (.istore 4, 2) by decide +kernel) (Nat.le_of_ble_eq_true rfl) rfl,
  fun d σ S l0 l1 l2 l3 l4 l5 l6 l7 l8 => ex_iconst (show decode mX2_goOnFrom.2.1 11 = .ok (.iconst 0, 1) by decide +kernel) (by decide +kernel),
  fun d σ S l0 l1 l2 l3 l5 l6 l7 l8 x y => ex_istore (show decode mX2_goOnFrom.2.1 12 = .ok (.istore 5, 2) by decide +kernel) (Nat.le_of_ble_eq_true rfl) rfl,
  fun d σ S l0 l2 l3 l4 l5 l6 l7 l8 k => ex_aload_n (show decode mX2_goOnFrom.2.1 16 = .ok (.aload_n 1, 1) by decide +kernel) rfl,
  fun d σ S l0 l1 l2 l3 l4 l5 l6 l7 l8 => ex_get (idx := 15) (ci := 5) (ff := 4) (n := 17) (hh := 198) (by decide +kernel),
  fun d σ S l0 l1 l2 l3 l4 l5 l6 l7 l8 x y => ex_cge (show decode mX2_goOnFrom.2.1 20 = .ok (.if_icmp .ge 65, 3) by decide +kernel) (by decide),
  fun d σ S l0 l1 l3 l4 l5 l6 l7 l8 x => ex_iload_n (show decode mX2_goOnFrom.2.1 23 = .ok (.iload_n 2, 1) by decide +kernel) rfl,
  fun d σ S l0 l2 l3 l4 l5 l6 l7 l8 k => ex_aload_n (show decode mX2_goOnFrom.2.1 24 = .ok (.aload_n 1, 1) by decide +kernel) rfl,
  fun d σ S l0 l1 l2 l3 l4 l5 l6 l7 l8 => ex_get (idx := 21) (ci := 5) (ff := 6) (n := 17) (hh := 206) (by decide +kernel),
  fun d σ S l0 l1 l2 l3 l4 l5 l6 l7 l8 => ex_iconst (show decode mX2_goOnFrom.2.1 28 = .ok (.iconst (-1), 1) by decide +kernel) (by decide +kernel),
  fun d σ S l0 l1 l2 l3 l4 l5 l6 l7 l8 x y => ex_ixor (show decode mX2_goOnFrom.2.1 29 = .ok (.ixor, 1) by decide +kernel),
  fun d σ S l0 l1 l2 l3 l4 l5 l6 l7 l8 x y => ex_iand (show decode mX2_goOnFrom.2.1 30 = .ok (.iand, 1) by decide +kernel),
  fun d σ S l0 l1 l2 l3 l4 l6 l7 l8 x => ex_iload (show decode mX2_goOnFrom.2.1 31 = .ok (.iload 5, 2) by decide +kernel) rfl,
  fun d σ l0 l1 l2 l3 l4 l5 l6 l7 l8 x0 x1 => ex_is (hs := [645, 537, 538, 94]) (show decode mX2_goOnFrom.2.1 33 = .ok (.invokestatic 57, 3) by decide +kernel) lkS_2_57 ⟨rfl, Nat.le_of_ble_eq_true rfl, Nat.le_of_ble_eq_true rfl, fun q => nomatch q⟩ rfl rfl,
  fun d σ S l0 l1 l2 l3 l4 l5 l6 l7 l8 => ex_iconst (show decode mX2_goOnFrom.2.1 36 = .ok (.iconst 1, 1) by decide +kernel) (by decide +kernel),
  fun d σ S l0 l1 l2 l3 l4 l5 l6 l7 l8 x y => ex_cne (show decode mX2_goOnFrom.2.1 37 = .ok (.if_icmp .ne 42, 3) by decide +kernel) (by decide),
  fun d σ S l0 l2 l3 l4 l5 l6 l7 l8 k => ex_aload_n (show decode mX2_goOnFrom.2.1 40 = .ok (.aload_n 1, 1) by decide +kernel) rfl,
  fun d σ S l0 l1 l2 l3 l4 l5 l6 l7 l8 => ex_getr (idx := 61) (ci := 5) (ff := 9) (n := 17) (hh := 218) (by decide +kernel),
  fun d σ S l0 l1 l2 l3 l4 l6 l7 l8 x => ex_iload (show decode mX2_goOnFrom.2.1 44 = .ok (.iload 5, 2) by decide +kernel) rfl,
  fun d σ S l0 l1 l2 l3 l4 l5 l6 l7 l8 x => ex_iald (by decide +kernel),
  fun d σ S l0 l1 l2 l4 l5 l6 l7 l8 x => ex_iload_n (show decode mX2_goOnFrom.2.1 47 = .ok (.iload_n 3, 1) by decide +kernel) rfl,
  fun d σ l0 l1 l2 l3 l4 l5 l6 l7 l8 x0 x1 => ex_is (hs := [646, 561, 562, 94]) (show decode mX2_goOnFrom.2.1 48 = .ok (.invokestatic 64, 3) by decide +kernel) lkS_2_64 ⟨rfl, Nat.le_of_ble_eq_true rfl, Nat.le_of_ble_eq_true rfl, fun q => nomatch q⟩ rfl rfl,
  fun d σ S l0 l1 l3 l4 l5 l6 l7 l8 x y => ex_istore_n (show decode mX2_goOnFrom.2.1 51 = .ok (.istore_n 3, 1) by decide +kernel) (Nat.le_of_ble_eq_true rfl) rfl,
  fun d σ S l0 l1 l2 l3 l5 l6 l7 l8 x => ex_iload (show decode mX2_goOnFrom.2.1 52 = .ok (.iload 4, 2) by decide +kernel) rfl,
  fun d σ S l0 l2 l3 l4 l5 l6 l7 l8 k => ex_aload_n (show decode mX2_goOnFrom.2.1 54 = .ok (.aload_n 1, 1) by decide +kernel) rfl,
  fun d σ S l0 l1 l2 l3 l4 l5 l6 l7 l8 => ex_getr (idx := 61) (ci := 5) (ff := 9) (n := 17) (hh := 218) (by decide +kernel),
  fun d σ S l0 l1 l2 l3 l4 l6 l7 l8 x => ex_iload (show decode mX2_goOnFrom.2.1 58 = .ok (.iload 5, 2) by decide +kernel) rfl,
  fun d σ S l0 l1 l2 l3 l4 l5 l6 l7 l8 x => ex_iald (by decide +kernel),
  fun d σ S l0 l1 l2 l3 l4 l5 l6 l7 l8 => ex_iconst (show decode mX2_goOnFrom.2.1 61 = .ok (.iconst 5, 1) by decide +kernel) (by decide +kernel),
  fun d σ S l0 l1 l2 l3 l4 l5 l6 l7 l8 x y => ex_cne (show decode mX2_goOnFrom.2.1 62 = .ok (.if_icmp .ne 13, 3) by decide +kernel) (by decide),
  fun d σ S l0 l2 l3 l4 l5 l6 l7 l8 k => ex_aload_n (show decode mX2_goOnFrom.2.1 65 = .ok (.aload_n 1, 1) by decide +kernel) rfl,
  fun d σ S l0 l1 l2 l3 l4 l5 l6 l7 l8 => ex_getr (idx := 67) (ci := 5) (ff := 11) (n := 17) (hh := 226) (by decide +kernel),
  fun d σ S l0 l1 l2 l3 l4 l6 l7 l8 x => ex_iload (show decode mX2_goOnFrom.2.1 69 = .ok (.iload 5, 2) by decide +kernel) rfl,
  fun d σ S l0 l1 l2 l3 l4 l5 l6 l7 l8 x => ex_iald (by decide +kernel),
  fun d σ S l0 l1 l2 l3 l4 l5 l6 l7 l8 => ex_goto (show decode mX2_goOnFrom.2.1 72 = .ok (.goto 4, 3) by decide +kernel) (by decide)⟩
theorem kX2_goOnFrom_1 : (∀ (d : Nat) (σ : Sg) (S : List Value) (l0 l1 l2 l3 l4 l5 l6 l7 l8 : Value), exec d mX2_goOnFrom 75 [l0, l1, l2, l3, l4, l5, l6, l7, l8] S σ = exec d mX2_goOnFrom 76 [l0, l1, l2, l3, l4, l5, l6, l7, l8] (.int (nI 0) :: S) σ) ∧
  (∀ (d : Nat) (σ : Sg) (S : List Value) (l0 l1 l2 l3 l4 l5 l6 l7 l8 : Value) (x y : Int32), exec d mX2_goOnFrom 76 [l0, l1, l2, l3, l4, l5, l6, l7, l8] (.int y :: .int x :: S) σ = exec d mX2_goOnFrom 77 [l0, l1, l2, l3, l4, l5, l6, l7, l8] (.int (x - y) :: S) σ) ∧
  (∀ (d : Nat) (σ : Sg) (S : List Value) (l0 l1 l2 l4 l5 l6 l7 l8 : Value) (x y : Int32), exec d mX2_goOnFrom 77 [l0, l1, l2, .int y, l4, l5, l6, l7, l8] (.int x :: S) σ = exec d mX2_goOnFrom 79 [l0, l1, l2, .int y, .int x, l5, l6, l7, l8] S σ) ∧
  (∀ (d : Nat) (σ : Sg) (S : List Value) (l0 l1 l2 l3 l6 l7 l8 : Value) (x y : Int32), exec d mX2_goOnFrom 79 [l0, l1, l2, l3, .int y, .int x, l6, l7, l8] S σ = exec d mX2_goOnFrom 82 [l0, l1, l2, l3, .int y, .int (x + nI 1), l6, l7, l8] S σ) ∧
  (∀ (d : Nat) (σ : Sg) (S : List Value) (l0 l1 l2 l3 l4 l5 l6 l7 l8 : Value), exec d mX2_goOnFrom 82 [l0, l1, l2, l3, l4, l5, l6, l7, l8] S σ = exec d mX2_goOnFrom 14 [l0, l1, l2, l3, l4, l5, l6, l7, l8] S σ) ∧
  (∀ (d : Nat) (σ : Sg) (S : List Value) (l0 l1 l2 l3 l4 l5 l6 l7 l8 : Value), exec d mX2_goOnFrom 85 [l0, l1, l2, l3, l4, l5, l6, l7, l8] S σ = exec d mX2_goOnFrom 86 [l0, l1, l2, l3, l4, l5, l6, l7, l8] (.int (nI 0) :: S) σ) ∧
  (∀ (d : Nat) (σ : Sg) (S : List Value) (l0 l1 l2 l3 l5 l6 l7 l8 : Value) (x y : Int32), exec d mX2_goOnFrom 86 [l0, l1, l2, l3, .int y, l5, l6, l7, l8] (.int x :: S) σ = exec d mX2_goOnFrom 88 [l0, l1, l2, l3, .int y, .int x, l6, l7, l8] S σ) ∧
  (∀ (d : Nat) (σ : Sg) (S : List Value) (l0 l2 l3 l4 l5 l6 l7 l8 : Value) (k : Nat), exec d mX2_goOnFrom 90 [l0, .ref k, l2, l3, l4, l5, l6, l7, l8] S σ = exec d mX2_goOnFrom 91 [l0, .ref k, l2, l3, l4, l5, l6, l7, l8] (.ref k :: S) σ) ∧
  (∀ (d : Nat) (σ : Sg) (S : List Value) (l0 l1 l2 l3 l4 l5 l6 l7 l8 : Value), exec d mX2_goOnFrom 91 [l0, l1, l2, l3, l4, l5, l6, l7, l8] (.ref 8 :: S) σ = exec d mX2_goOnFrom 94 [l0, l1, l2, l3, l4, l5, l6, l7, l8] (.int (σ 8 4) :: S) σ) ∧
  (∀ (d : Nat) (σ : Sg) (S : List Value) (l0 l1 l2 l3 l4 l5 l6 l7 l8 : Value) (x y : Int32), exec d mX2_goOnFrom 94 [l0, l1, l2, l3, l4, l5, l6, l7, l8] (.int y :: .int x :: S) σ = if y ≤ x then exec d mX2_goOnFrom 240 [l0, l1, l2, l3, l4, l5, l6, l7, l8] S σ else exec d mX2_goOnFrom 97 [l0, l1, l2, l3, l4, l5, l6, l7, l8] S σ) ∧
  (∀ (d : Nat) (σ : Sg) (S : List Value) (l0 l2 l3 l4 l5 l6 l7 l8 : Value) (k : Nat), exec d mX2_goOnFrom 97 [l0, .ref k, l2, l3, l4, l5, l6, l7, l8] S σ = exec d mX2_goOnFrom 98 [l0, .ref k, l2, l3, l4, l5, l6, l7, l8] (.ref k :: S) σ) ∧
  (∀ (d : Nat) (σ : Sg) (S : List Value) (l0 l1 l2 l3 l4 l5 l6 l7 l8 : Value), exec d mX2_goOnFrom 98 [l0, l1, l2, l3, l4, l5, l6, l7, l8] (.ref 8 :: S) σ = exec d mX2_goOnFrom 101 [l0, l1, l2, l3, l4, l5, l6, l7, l8] (.ref 9 :: S) σ) ∧
  (∀ (d : Nat) (σ : Sg) (S : List Value) (l0 l1 l2 l3 l4 l6 l7 l8 : Value) (x : Int32), exec d mX2_goOnFrom 101 [l0, l1, l2, l3, l4, .int x, l6, l7, l8] S σ = exec d mX2_goOnFrom 103 [l0, l1, l2, l3, l4, .int x, l6, l7, l8] (.int x :: S) σ) ∧
  (∀ (d : Nat) (σ : Sg) (S : List Value) (l0 l1 l2 l3 l4 l5 l6 l7 l8 : Value) (x : Int32), exec d mX2_goOnFrom 103 [l0, l1, l2, l3, l4, l5, l6, l7, l8] (.int x :: .ref 9 :: S) σ = if inb x 7 = true then exec d mX2_goOnFrom 104 [l0, l1, l2, l3, l4, l5, l6, l7, l8] (.int (σ 9 x.toNatClampNeg) :: S) σ else none) ∧
  (∀ (d : Nat) (σ : Sg) (S : List Value) (l0 l1 l2 l3 l4 l5 l6 l7 l8 : Value), exec d mX2_goOnFrom 104 [l0, l1, l2, l3, l4, l5, l6, l7, l8] S σ = exec d mX2_goOnFrom 105 [l0, l1, l2, l3, l4, l5, l6, l7, l8] (.int (nI 5) :: S) σ) ∧
  (∀ (d : Nat) (σ : Sg) (S : List Value) (l0 l1 l2 l3 l4 l5 l6 l7 l8 : Value) (x y : Int32), exec d mX2_goOnFrom 105 [l0, l1, l2, l3, l4, l5, l6, l7, l8] (.int y :: .int x :: S) σ = if x = y then exec d mX2_goOnFrom 108 [l0, l1, l2, l3, l4, l5, l6, l7, l8] S σ else exec d mX2_goOnFrom 112 [l0, l1, l2, l3, l4, l5, l6, l7, l8] S σ) ∧
  (∀ (d : Nat) (σ : Sg) (S : List Value) (l0 l1 l2 l3 l4 l5 l6 l7 l8 : Value), exec d mX2_goOnFrom 108 [l0, l1, l2, l3, l4, l5, l6, l7, l8] S σ = exec d mX2_goOnFrom 109 [l0, l1, l2, l3, l4, l5, l6, l7, l8] (.int (nI 1) :: S) σ) ∧
  (∀ (d : Nat) (σ : Sg) (S : List Value) (l0 l1 l2 l3 l4 l5 l6 l7 l8 : Value), exec d mX2_goOnFrom 109 [l0, l1, l2, l3, l4, l5, l6, l7, l8] S σ = exec d mX2_goOnFrom 113 [l0, l1, l2, l3, l4, l5, l6, l7, l8] S σ) ∧
  (∀ (d : Nat) (σ : Sg) (S : List Value) (l0 l1 l2 l3 l4 l5 l6 l7 l8 : Value), exec d mX2_goOnFrom 112 [l0, l1, l2, l3, l4, l5, l6, l7, l8] S σ = exec d mX2_goOnFrom 113 [l0, l1, l2, l3, l4, l5, l6, l7, l8] (.int (nI 0) :: S) σ) ∧
  (∀ (d : Nat) (σ : Sg) (S : List Value) (l0 l1 l2 l3 l4 l6 l7 l8 : Value) (x y : Int32), exec d mX2_goOnFrom 113 [l0, l1, l2, l3, l4, .int y, l6, l7, l8] (.int x :: S) σ = exec d mX2_goOnFrom 115 [l0, l1, l2, l3, l4, .int y, .int x, l7, l8] S σ) ∧
  (∀ (d : Nat) (σ : Sg) (S : List Value) (l0 l2 l3 l4 l5 l6 l7 l8 : Value) (k : Nat), exec d mX2_goOnFrom 115 [l0, .ref k, l2, l3, l4, l5, l6, l7, l8] S σ = exec d mX2_goOnFrom 116 [l0, .ref k, l2, l3, l4, l5, l6, l7, l8] (.ref k :: S) σ) ∧
  (∀ (d : Nat) (σ : Sg) (S : List Value) (l0 l1 l2 l3 l4 l5 l6 l7 l8 : Value), exec d mX2_goOnFrom 116 [l0, l1, l2, l3, l4, l5, l6, l7, l8] (.ref 8 :: S) σ = exec d mX2_goOnFrom 119 [l0, l1, l2, l3, l4, l5, l6, l7, l8] (.ref 9 :: S) σ) ∧
  (∀ (d : Nat) (σ : Sg) (S : List Value) (l0 l1 l2 l3 l4 l6 l7 l8 : Value) (x : Int32), exec d mX2_goOnFrom 119 [l0, l1, l2, l3, l4, .int x, l6, l7, l8] S σ = exec d mX2_goOnFrom 121 [l0, l1, l2, l3, l4, .int x, l6, l7, l8] (.int x :: S) σ) ∧
  (∀ (d : Nat) (σ : Sg) (S : List Value) (l0 l1 l2 l3 l4 l5 l6 l7 l8 : Value) (x : Int32), exec d mX2_goOnFrom 121 [l0, l1, l2, l3, l4, l5, l6, l7, l8] (.int x :: .ref 9 :: S) σ = if inb x 7 = true then exec d mX2_goOnFrom 122 [l0, l1, l2, l3, l4, l5, l6, l7, l8] (.int (σ 9 x.toNatClampNeg) :: S) σ else none) ∧
  (∀ (d : Nat) (σ : Sg) (S : List Value) (l0 l2 l3 l4 l5 l6 l7 l8 : Value) (k : Nat), exec d mX2_goOnFrom 122 [l0, .ref k, l2, l3, l4, l5, l6, l7, l8] S σ = exec d mX2_goOnFrom 123 [l0, .ref k, l2, l3, l4, l5, l6, l7, l8] (.ref k :: S) σ) ∧
  (∀ (d : Nat) (σ : Sg) (S : List Value) (l0 l1 l2 l3 l4 l5 l6 l7 l8 : Value), exec d mX2_goOnFrom 123 [l0, l1, l2, l3, l4, l5, l6, l7, l8] (.ref 8 :: S) σ = exec d mX2_goOnFrom 126 [l0, l1, l2, l3, l4, l5, l6, l7, l8] (.ref 10 :: S) σ) ∧
  (∀ (d : Nat) (σ : Sg) (S : List Value) (l0 l1 l2 l3 l4 l6 l7 l8 : Value) (x : Int32), exec d mX2_goOnFrom 126 [l0, l1, l2, l3, l4, .int x, l6, l7, l8] S σ = exec d mX2_goOnFrom 128 [l0, l1, l2, l3, l4, .int x, l6, l7, l8] (.int x :: S) σ) ∧
  (∀ (d : Nat) (σ : Sg) (S : List Value) (l0 l1 l2 l3 l4 l5 l6 l7 l8 : Value) (x : Int32), exec d mX2_goOnFrom 128 [l0, l1, l2, l3, l4, l5, l6, l7, l8] (.int x :: .ref 10 :: S) σ = if inb x 7 = true then exec d mX2_goOnFrom 129 [l0, l1, l2, l3, l4, l5, l6, l7, l8] (.int (σ 10 x.toNatClampNeg) :: S) σ else none) ∧
  (∀ (d : Nat) (σ : Sg) (S : List Value) (l0 l2 l3 l4 l5 l6 l7 l8 : Value) (k : Nat), exec d mX2_goOnFrom 129 [l0, .ref k, l2, l3, l4, l5, l6, l7, l8] S σ = exec d mX2_goOnFrom 130 [l0, .ref k, l2, l3, l4, l5, l6, l7, l8] (.ref k :: S) σ) ∧
  (∀ (d : Nat) (σ : Sg) (S : List Value) (l0 l1 l2 l3 l4 l5 l6 l7 l8 : Value), exec d mX2_goOnFrom 130 [l0, l1, l2, l3, l4, l5, l6, l7, l8] (.ref 8 :: S) σ = exec d mX2_goOnFrom 133 [l0, l1, l2, l3, l4, l5, l6, l7, l8] (.ref 11 :: S) σ) ∧
  (∀ (d : Nat) (σ : Sg) (S : List Value) (l0 l1 l2 l3 l4 l6 l7 l8 : Value) (x : Int32), exec d mX2_goOnFrom 133 [l0, l1, l2, l3, l4, .int x, l6, l7, l8] S σ = exec d mX2_goOnFrom 135 [l0, l1, l2, l3, l4, .int x, l6, l7, l8] (.int x :: S) σ) ∧
  (∀ (d : Nat) (σ : Sg) (S : List Value) (l0 l1 l2 l3 l4 l5 l6 l7 l8 : Value) (x : Int32), exec d mX2_goOnFrom 135 [l0, l1, l2, l3, l4, l5, l6, l7, l8] (.int x :: .ref 11 :: S) σ = if inb x 7 = true then exec d mX2_goOnFrom 136 [l0, l1, l2, l3, l4, l5, l6, l7, l8] (.int (σ 11 x.toNatClampNeg) :: S) σ else none) ∧
  (∀ (d : Nat) (σ : Sg) (S : List Value) (l0 l1 l2 l4 l5 l6 l7 l8 : Value) (x : Int32), exec d mX2_goOnFrom 136 [l0, l1, l2, .int x, l4, l5, l6, l7, l8] S σ = exec d mX2_goOnFrom 137 [l0, l1, l2, .int x, l4, l5, l6, l7, l8] (.int x :: S) σ) ∧
  (∀ (d : Nat) (σ : Sg) (l0 l1 l2 l3 l4 l5 l6 l7 l8 : Value) (x0 x1 x2 x3 : Int32), exec d mX2_goOnFrom 137 [l0, l1, l2, l3, l4, l5, l6, l7, l8] [.int x0, .int x1, .int x2, .int x3] σ = kb (cal d mX6_taken [.int x3, .int x2, .int x1, .int x0] σ) (fun rs σ2 => exec d mX2_goOnFrom 140 [l0, l1, l2, l3, l4, l5, l6, l7, l8] (rs ++ []) σ2)) ∧
  (∀ (d : Nat) (σ : Sg) (S : List Value) (l0 l1 l2 l3 l4 l5 l7 l8 : Value) (x y : Int32), exec d mX2_goOnFrom 140 [l0, l1, l2, l3, l4, l5, .int y, l7, l8] (.int x :: S) σ = exec d mX2_goOnFrom 142 [l0, l1, l2, l3, l4, l5, .int y, .int x, l8] S σ) ∧
  (∀ (d : Nat) (σ : Sg) (S : List Value) (l0 l1 l3 l4 l5 l6 l7 l8 : Value) (x : Int32), exec d mX2_goOnFrom 142 [l0, l1, .int x, l3, l4, l5, l6, l7, l8] S σ = exec d mX2_goOnFrom 143 [l0, l1, .int x, l3, l4, l5, l6, l7, l8] (.int x :: S) σ) ∧
  (∀ (d : Nat) (σ : Sg) (S : List Value) (l0 l1 l2 l3 l4 l6 l7 l8 : Value) (x : Int32), exec d mX2_goOnFrom 143 [l0, l1, l2, l3, l4, .int x, l6, l7, l8] S σ = exec d mX2_goOnFrom 145 [l0, l1, l2, l3, l4, .int x, l6, l7, l8] (.int x :: S) σ) ∧
  (∀ (d : Nat) (σ : Sg) (l0 l1 l2 l3 l4 l5 l6 l7 l8 : Value) (x0 x1 : Int32), exec d mX2_goOnFrom 145 [l0, l1, l2, l3, l4, l5, l6, l7, l8] [.int x0, .int x1] σ = kb (cal d mX6_bit [.int x1, .int x0] σ) (fun rs σ2 => exec d mX2_goOnFrom 148 [l0, l1, l2, l3, l4, l5, l6, l7, l8] (rs ++ []) σ2)) ∧
  (∀ (d : Nat) (σ : Sg) (S : List Value) (l0 l1 l2 l3 l4 l5 l6 l7 l8 : Value) (x : Int32), exec d mX2_goOnFrom 148 [l0, l1, l2, l3, l4, l5, l6, l7, l8] (.int x :: S) σ = if x = nI 0 then exec d mX2_goOnFrom 151 [l0, l1, l2, l3, l4, l5, l6, l7, l8] S σ else exec d mX2_goOnFrom 234 [l0, l1, l2, l3, l4, l5, l6, l7, l8] S σ) ∧
  (∀ (d : Nat) (σ : Sg) (S : List Value) (l0 l2 l3 l4 l5 l6 l7 l8 : Value) (k : Nat), exec d mX2_goOnFrom 151 [l0, .ref k, l2, l3, l4, l5, l6, l7, l8] S σ = exec d mX2_goOnFrom 152 [l0, .ref k, l2, l3, l4, l5, l6, l7, l8] (.ref k :: S) σ) :=
  ⟨fun d σ S l0 l1 l2 l3 l4 l5 l6 l7 l8 => ex_iconst (show decode mX2_goOnFrom.2.1 75 = .ok (.iconst 0, 1) by decide +kernel) (by decide +kernel),
  fun d σ S l0 l1 l2 l3 l4 l5 l6 l7 l8 x y => ex_isub (show decode mX2_goOnFrom.2.1 76 = .ok (.isub, 1) by decide +kernel),
  fun d σ S l0 l1 l2 l4 l5 l6 l7 l8 x y => ex_istore (show decode mX2_goOnFrom.2.1 77 = .ok (.istore 4, 2) by decide +kernel) (Nat.le_of_ble_eq_true rfl) rfl,
  fun d σ S l0 l1 l2 l3 l6 l7 l8 x y => ex_iinc (show decode mX2_goOnFrom.2.1 79 = .ok (.iinc 5 1, 3) by decide +kernel) rfl (by decide +kernel) (Nat.le_of_ble_eq_true rfl) rfl,
  fun d σ S l0 l1 l2 l3 l4 l5 l6 l7 l8 => ex_goto (show decode mX2_goOnFrom.2.1 82 = .ok (.goto (-68), 3) by decide +kernel) (by decide),
  fun d σ S l0 l1 l2 l3 l4 l5 l6 l7 l8 => ex_iconst (show decode mX2_goOnFrom.2.1 85 = .ok (.iconst 0, 1) by decide +kernel) (by decide +kernel),
  fun d σ S l0 l1 l2 l3 l5 l6 l7 l8 x y => ex_istore (show decode mX2_goOnFrom.2.1 86 = .ok (.istore 5, 2) by decide +kernel) (Nat.le_of_ble_eq_true rfl) rfl,
  fun d σ S l0 l2 l3 l4 l5 l6 l7 l8 k => ex_aload_n (show decode mX2_goOnFrom.2.1 90 = .ok (.aload_n 1, 1) by decide +kernel) rfl,
  fun d σ S l0 l1 l2 l3 l4 l5 l6 l7 l8 => ex_get (idx := 15) (ci := 5) (ff := 4) (n := 17) (hh := 198) (by decide +kernel),
  fun d σ S l0 l1 l2 l3 l4 l5 l6 l7 l8 x y => ex_cge (show decode mX2_goOnFrom.2.1 94 = .ok (.if_icmp .ge 146, 3) by decide +kernel) (by decide),
  fun d σ S l0 l2 l3 l4 l5 l6 l7 l8 k => ex_aload_n (show decode mX2_goOnFrom.2.1 97 = .ok (.aload_n 1, 1) by decide +kernel) rfl,
  fun d σ S l0 l1 l2 l3 l4 l5 l6 l7 l8 => ex_getr (idx := 61) (ci := 5) (ff := 9) (n := 17) (hh := 218) (by decide +kernel),
  fun d σ S l0 l1 l2 l3 l4 l6 l7 l8 x => ex_iload (show decode mX2_goOnFrom.2.1 101 = .ok (.iload 5, 2) by decide +kernel) rfl,
  fun d σ S l0 l1 l2 l3 l4 l5 l6 l7 l8 x => ex_iald (by decide +kernel),
  fun d σ S l0 l1 l2 l3 l4 l5 l6 l7 l8 => ex_iconst (show decode mX2_goOnFrom.2.1 104 = .ok (.iconst 5, 1) by decide +kernel) (by decide +kernel),
  fun d σ S l0 l1 l2 l3 l4 l5 l6 l7 l8 x y => ex_cne (show decode mX2_goOnFrom.2.1 105 = .ok (.if_icmp .ne 7, 3) by decide +kernel) (by decide),
  fun d σ S l0 l1 l2 l3 l4 l5 l6 l7 l8 => ex_iconst (show decode mX2_goOnFrom.2.1 108 = .ok (.iconst 1, 1) by decide +kernel) (by decide +kernel),
  fun d σ S l0 l1 l2 l3 l4 l5 l6 l7 l8 => ex_goto (show decode mX2_goOnFrom.2.1 109 = .ok (.goto 4, 3) by decide +kernel) (by decide),
  fun d σ S l0 l1 l2 l3 l4 l5 l6 l7 l8 => ex_iconst (show decode mX2_goOnFrom.2.1 112 = .ok (.iconst 0, 1) by decide +kernel) (by decide +kernel),
  fun d σ S l0 l1 l2 l3 l4 l6 l7 l8 x y => ex_istore (show decode mX2_goOnFrom.2.1 113 = .ok (.istore 6, 2) by decide +kernel) (Nat.le_of_ble_eq_true rfl) rfl,
  fun d σ S l0 l2 l3 l4 l5 l6 l7 l8 k => ex_aload_n (show decode mX2_goOnFrom.2.1 115 = .ok (.aload_n 1, 1) by decide +kernel) rfl,
  fun d σ S l0 l1 l2 l3 l4 l5 l6 l7 l8 => ex_getr (idx := 61) (ci := 5) (ff := 9) (n := 17) (hh := 218) (by decide +kernel),
  fun d σ S l0 l1 l2 l3 l4 l6 l7 l8 x => ex_iload (show decode mX2_goOnFrom.2.1 119 = .ok (.iload 5, 2) by decide +kernel) rfl,
  fun d σ S l0 l1 l2 l3 l4 l5 l6 l7 l8 x => ex_iald (by decide +kernel),
  fun d σ S l0 l2 l3 l4 l5 l6 l7 l8 k => ex_aload_n (show decode mX2_goOnFrom.2.1 122 = .ok (.aload_n 1, 1) by decide +kernel) rfl,
  fun d σ S l0 l1 l2 l3 l4 l5 l6 l7 l8 => ex_getr (idx := 70) (ci := 5) (ff := 10) (n := 17) (hh := 222) (by decide +kernel),
  fun d σ S l0 l1 l2 l3 l4 l6 l7 l8 x => ex_iload (show decode mX2_goOnFrom.2.1 126 = .ok (.iload 5, 2) by decide +kernel) rfl,
  fun d σ S l0 l1 l2 l3 l4 l5 l6 l7 l8 x => ex_iald (by decide +kernel),
  fun d σ S l0 l2 l3 l4 l5 l6 l7 l8 k => ex_aload_n (show decode mX2_goOnFrom.2.1 129 = .ok (.aload_n 1, 1) by decide +kernel) rfl,
  fun d σ S l0 l1 l2 l3 l4 l5 l6 l7 l8 => ex_getr (idx := 67) (ci := 5) (ff := 11) (n := 17) (hh := 226) (by decide +kernel),
  fun d σ S l0 l1 l2 l3 l4 l6 l7 l8 x => ex_iload (show decode mX2_goOnFrom.2.1 133 = .ok (.iload 5, 2) by decide +kernel) rfl,
  fun d σ S l0 l1 l2 l3 l4 l5 l6 l7 l8 x => ex_iald (by decide +kernel),
  fun d σ S l0 l1 l2 l4 l5 l6 l7 l8 x => ex_iload_n (show decode mX2_goOnFrom.2.1 136 = .ok (.iload_n 3, 1) by decide +kernel) rfl,
  fun d σ l0 l1 l2 l3 l4 l5 l6 l7 l8 x0 x1 x2 x3 => ex_is (hs := [647, 544, 545, 94]) (show decode mX2_goOnFrom.2.1 137 = .ok (.invokestatic 73, 3) by decide +kernel) lkS_2_73 ⟨rfl, Nat.le_of_ble_eq_true rfl, Nat.le_of_ble_eq_true rfl, fun q => nomatch q⟩ rfl rfl,
  fun d σ S l0 l1 l2 l3 l4 l5 l7 l8 x y => ex_istore (show decode mX2_goOnFrom.2.1 140 = .ok (.istore 7, 2) by decide +kernel) (Nat.le_of_ble_eq_true rfl) rfl,
  fun d σ S l0 l1 l3 l4 l5 l6 l7 l8 x => ex_iload_n (show decode mX2_goOnFrom.2.1 142 = .ok (.iload_n 2, 1) by decide +kernel) rfl,
  fun d σ S l0 l1 l2 l3 l4 l6 l7 l8 x => ex_iload (show decode mX2_goOnFrom.2.1 143 = .ok (.iload 5, 2) by decide +kernel) rfl,
  fun d σ l0 l1 l2 l3 l4 l5 l6 l7 l8 x0 x1 => ex_is (hs := [645, 537, 538, 94]) (show decode mX2_goOnFrom.2.1 145 = .ok (.invokestatic 57, 3) by decide +kernel) lkS_2_57 ⟨rfl, Nat.le_of_ble_eq_true rfl, Nat.le_of_ble_eq_true rfl, fun q => nomatch q⟩ rfl rfl,
  fun d σ S l0 l1 l2 l3 l4 l5 l6 l7 l8 x => ex_zne (show decode mX2_goOnFrom.2.1 148 = .ok (.ifCond .ne 86, 3) by decide +kernel) (by decide),
  fun d σ S l0 l2 l3 l4 l5 l6 l7 l8 k => ex_aload_n (show decode mX2_goOnFrom.2.1 151 = .ok (.aload_n 1, 1) by decide +kernel) rfl⟩
theorem kX2_goOnFrom_2 : (∀ (d : Nat) (σ : Sg) (S : List Value) (l0 l1 l2 l3 l4 l6 l7 l8 : Value) (x : Int32), exec d mX2_goOnFrom 152 [l0, l1, l2, l3, l4, .int x, l6, l7, l8] S σ = exec d mX2_goOnFrom 154 [l0, l1, l2, l3, l4, .int x, l6, l7, l8] (.int x :: S) σ) ∧
  (∀ (d : Nat) (σ : Sg) (S : List Value) (l0 l1 l3 l4 l5 l6 l7 l8 : Value) (x : Int32), exec d mX2_goOnFrom 154 [l0, l1, .int x, l3, l4, l5, l6, l7, l8] S σ = exec d mX2_goOnFrom 155 [l0, l1, .int x, l3, l4, l5, l6, l7, l8] (.int x :: S) σ) ∧
  (∀ (d : Nat) (σ : Sg) (l0 l1 l2 l3 l4 l5 l6 l7 l8 : Value) (x0 x1 : Int32), exec d mX2_goOnFrom 155 [l0, l1, l2, l3, l4, l5, l6, l7, l8] [.int x0, .int x1, .ref 8] σ = kb (cal d mX5_isReady [.ref 8, .int x1, .int x0] σ) (fun rs σ2 => exec d mX2_goOnFrom 158 [l0, l1, l2, l3, l4, l5, l6, l7, l8] (rs ++ []) σ2)) ∧
  (∀ (d : Nat) (σ : Sg) (S : List Value) (l0 l1 l2 l3 l4 l5 l6 l7 l8 : Value) (x : Int32), exec d mX2_goOnFrom 158 [l0, l1, l2, l3, l4, l5, l6, l7, l8] (.int x :: S) σ = if x = nI 0 then exec d mX2_goOnFrom 234 [l0, l1, l2, l3, l4, l5, l6, l7, l8] S σ else exec d mX2_goOnFrom 161 [l0, l1, l2, l3, l4, l5, l6, l7, l8] S σ) ∧
  (∀ (d : Nat) (σ : Sg) (S : List Value) (l0 l1 l2 l3 l4 l5 l7 l8 : Value) (x : Int32), exec d mX2_goOnFrom 161 [l0, l1, l2, l3, l4, l5, .int x, l7, l8] S σ = exec d mX2_goOnFrom 163 [l0, l1, l2, l3, l4, l5, .int x, l7, l8] (.int x :: S) σ) ∧
  (∀ (d : Nat) (σ : Sg) (S : List Value) (l0 l1 l2 l3 l4 l5 l6 l7 l8 : Value) (x : Int32), exec d mX2_goOnFrom 163 [l0, l1, l2, l3, l4, l5, l6, l7, l8] (.int x :: S) σ = if x = nI 0 then exec d mX2_goOnFrom 173 [l0, l1, l2, l3, l4, l5, l6, l7, l8] S σ else exec d mX2_goOnFrom 166 [l0, l1, l2, l3, l4, l5, l6, l7, l8] S σ) ∧
  (∀ (d : Nat) (σ : Sg) (S : List Value) (l0 l1 l2 l3 l4 l5 l6 l8 : Value) (x : Int32), exec d mX2_goOnFrom 166 [l0, l1, l2, l3, l4, l5, l6, .int x, l8] S σ = exec d mX2_goOnFrom 168 [l0, l1, l2, l3, l4, l5, l6, .int x, l8] (.int x :: S) σ) ∧
  (∀ (d : Nat) (σ : Sg) (S : List Value) (l0 l1 l2 l3 l5 l6 l7 l8 : Value) (x : Int32), exec d mX2_goOnFrom 168 [l0, l1, l2, l3, .int x, l5, l6, l7, l8] S σ = exec d mX2_goOnFrom 170 [l0, l1, l2, l3, .int x, l5, l6, l7, l8] (.int x :: S) σ) ∧
  (∀ (d : Nat) (σ : Sg) (S : List Value) (l0 l1 l2 l3 l4 l5 l6 l7 l8 : Value) (x y : Int32), exec d mX2_goOnFrom 170 [l0, l1, l2, l3, l4, l5, l6, l7, l8] (.int y :: .int x :: S) σ = if y < x then exec d mX2_goOnFrom 234 [l0, l1, l2, l3, l4, l5, l6, l7, l8] S σ else exec d mX2_goOnFrom 173 [l0, l1, l2, l3, l4, l5, l6, l7, l8] S σ) ∧
  (∀ (d : Nat) (σ : Sg) (S : List Value) (l0 l2 l3 l4 l5 l6 l7 l8 : Value) (k : Nat), exec d mX2_goOnFrom 173 [l0, .ref k, l2, l3, l4, l5, l6, l7, l8] S σ = exec d mX2_goOnFrom 174 [l0, .ref k, l2, l3, l4, l5, l6, l7, l8] (.ref k :: S) σ) ∧
  (∀ (d : Nat) (σ : Sg) (S : List Value) (l0 l1 l2 l3 l4 l5 l6 l7 l8 : Value), exec d mX2_goOnFrom 174 [l0, l1, l2, l3, l4, l5, l6, l7, l8] (.ref 8 :: S) σ = exec d mX2_goOnFrom 177 [l0, l1, l2, l3, l4, l5, l6, l7, l8] (.ref 9 :: S) σ) ∧
  (∀ (d : Nat) (σ : Sg) (S : List Value) (l0 l1 l2 l3 l4 l6 l7 l8 : Value) (x : Int32), exec d mX2_goOnFrom 177 [l0, l1, l2, l3, l4, .int x, l6, l7, l8] S σ = exec d mX2_goOnFrom 179 [l0, l1, l2, l3, l4, .int x, l6, l7, l8] (.int x :: S) σ) ∧
  (∀ (d : Nat) (σ : Sg) (S : List Value) (l0 l1 l2 l3 l4 l5 l6 l7 l8 : Value) (x : Int32), exec d mX2_goOnFrom 179 [l0, l1, l2, l3, l4, l5, l6, l7, l8] (.int x :: .ref 9 :: S) σ = if inb x 7 = true then exec d mX2_goOnFrom 180 [l0, l1, l2, l3, l4, l5, l6, l7, l8] (.int (σ 9 x.toNatClampNeg) :: S) σ else none) ∧
  (∀ (d : Nat) (σ : Sg) (S : List Value) (l0 l2 l3 l4 l5 l6 l7 l8 : Value) (k : Nat), exec d mX2_goOnFrom 180 [l0, .ref k, l2, l3, l4, l5, l6, l7, l8] S σ = exec d mX2_goOnFrom 181 [l0, .ref k, l2, l3, l4, l5, l6, l7, l8] (.ref k :: S) σ) ∧
  (∀ (d : Nat) (σ : Sg) (S : List Value) (l0 l1 l2 l3 l4 l5 l6 l7 l8 : Value), exec d mX2_goOnFrom 181 [l0, l1, l2, l3, l4, l5, l6, l7, l8] (.ref 8 :: S) σ = exec d mX2_goOnFrom 184 [l0, l1, l2, l3, l4, l5, l6, l7, l8] (.ref 10 :: S) σ) ∧
  (∀ (d : Nat) (σ : Sg) (S : List Value) (l0 l1 l2 l3 l4 l6 l7 l8 : Value) (x : Int32), exec d mX2_goOnFrom 184 [l0, l1, l2, l3, l4, .int x, l6, l7, l8] S σ = exec d mX2_goOnFrom 186 [l0, l1, l2, l3, l4, .int x, l6, l7, l8] (.int x :: S) σ) ∧
  (∀ (d : Nat) (σ : Sg) (S : List Value) (l0 l1 l2 l3 l4 l5 l6 l7 l8 : Value) (x : Int32), exec d mX2_goOnFrom 186 [l0, l1, l2, l3, l4, l5, l6, l7, l8] (.int x :: .ref 10 :: S) σ = if inb x 7 = true then exec d mX2_goOnFrom 187 [l0, l1, l2, l3, l4, l5, l6, l7, l8] (.int (σ 10 x.toNatClampNeg) :: S) σ else none) ∧
  (∀ (d : Nat) (σ : Sg) (S : List Value) (l0 l1 l2 l4 l5 l6 l7 l8 : Value) (x : Int32), exec d mX2_goOnFrom 187 [l0, l1, l2, .int x, l4, l5, l6, l7, l8] S σ = exec d mX2_goOnFrom 188 [l0, l1, l2, .int x, l4, l5, l6, l7, l8] (.int x :: S) σ) ∧
  (∀ (d : Nat) (σ : Sg) (l0 l1 l2 l3 l4 l5 l6 l7 l8 : Value) (x0 x1 x2 : Int32), exec d mX2_goOnFrom 188 [l0, l1, l2, l3, l4, l5, l6, l7, l8] [.int x0, .int x1, .int x2] σ = kb (cal d mX6_flawed [.int x2, .int x1, .int x0] σ) (fun rs σ2 => exec d mX2_goOnFrom 191 [l0, l1, l2, l3, l4, l5, l6, l7, l8] (rs ++ []) σ2)) ∧
  (∀ (d : Nat) (σ : Sg) (S : List Value) (l0 l1 l2 l3 l4 l5 l6 l7 l8 : Value) (x : Int32), exec d mX2_goOnFrom 191 [l0, l1, l2, l3, l4, l5, l6, l7, l8] (.int x :: S) σ = if x = nI 0 then exec d mX2_goOnFrom 198 [l0, l1, l2, l3, l4, l5, l6, l7, l8] S σ else exec d mX2_goOnFrom 194 [l0, l1, l2, l3, l4, l5, l6, l7, l8] S σ) ∧
  (∀ (d : Nat) (σ : Sg) (S : List Value) (l0 l1 l2 l3 l4 l5 l6 l7 l8 : Value), exec d mX2_goOnFrom 194 [l0, l1, l2, l3, l4, l5, l6, l7, l8] S σ = exec d mX2_goOnFrom 195 [l0, l1, l2, l3, l4, l5, l6, l7, l8] (.int (nI 1) :: S) σ) ∧
  (∀ (d : Nat) (σ : Sg) (S : List Value) (l0 l1 l2 l3 l4 l5 l6 l7 l8 : Value), exec d mX2_goOnFrom 195 [l0, l1, l2, l3, l4, l5, l6, l7, l8] S σ = exec d mX2_goOnFrom 199 [l0, l1, l2, l3, l4, l5, l6, l7, l8] S σ) ∧
  (∀ (d : Nat) (σ : Sg) (S : List Value) (l0 l1 l2 l3 l4 l5 l6 l7 l8 : Value), exec d mX2_goOnFrom 198 [l0, l1, l2, l3, l4, l5, l6, l7, l8] S σ = exec d mX2_goOnFrom 199 [l0, l1, l2, l3, l4, l5, l6, l7, l8] (.int (nI 0) :: S) σ) ∧
  (∀ (d : Nat) (σ : Sg) (S : List Value) (l0 l1 l2 l3 l4 l5 l6 l8 : Value) (x y : Int32), exec d mX2_goOnFrom 199 [l0, l1, l2, l3, l4, l5, l6, .int y, l8] (.int x :: S) σ = exec d mX2_goOnFrom 201 [l0, l1, l2, l3, l4, l5, l6, .int y, .int x] S σ) ∧
  (∀ (d : Nat) (σ : Sg) (S : List Value) (l1 l2 l3 l4 l5 l6 l7 l8 : Value) (k : Nat), exec d mX2_goOnFrom 201 [.ref k, l1, l2, l3, l4, l5, l6, l7, l8] S σ = exec d mX2_goOnFrom 202 [.ref k, l1, l2, l3, l4, l5, l6, l7, l8] (.ref k :: S) σ) ∧
  (∀ (d : Nat) (σ : Sg) (S : List Value) (l0 l1 l3 l4 l5 l6 l7 l8 : Value) (x : Int32), exec d mX2_goOnFrom 202 [l0, l1, .int x, l3, l4, l5, l6, l7, l8] S σ = exec d mX2_goOnFrom 203 [l0, l1, .int x, l3, l4, l5, l6, l7, l8] (.int x :: S) σ) ∧
  (∀ (d : Nat) (σ : Sg) (S : List Value) (l0 l1 l2 l3 l4 l6 l7 l8 : Value) (x : Int32), exec d mX2_goOnFrom 203 [l0, l1, l2, l3, l4, .int x, l6, l7, l8] S σ = exec d mX2_goOnFrom 205 [l0, l1, l2, l3, l4, .int x, l6, l7, l8] (.int x :: S) σ) ∧
  (∀ (d : Nat) (σ : Sg) (S : List Value) (l0 l1 l2 l3 l4 l5 l7 l8 : Value) (x : Int32), exec d mX2_goOnFrom 205 [l0, l1, l2, l3, l4, l5, .int x, l7, l8] S σ = exec d mX2_goOnFrom 207 [l0, l1, l2, l3, l4, l5, .int x, l7, l8] (.int x :: S) σ) ∧
  (∀ (d : Nat) (σ : Sg) (S : List Value) (l0 l1 l2 l3 l4 l5 l6 l7 l8 : Value) (x : Int32), exec d mX2_goOnFrom 207 [l0, l1, l2, l3, l4, l5, l6, l7, l8] (.int x :: S) σ = if x = nI 0 then exec d mX2_goOnFrom 214 [l0, l1, l2, l3, l4, l5, l6, l7, l8] S σ else exec d mX2_goOnFrom 210 [l0, l1, l2, l3, l4, l5, l6, l7, l8] S σ) ∧
  (∀ (d : Nat) (σ : Sg) (S : List Value) (l0 l1 l2 l3 l4 l5 l6 l7 l8 : Value), exec d mX2_goOnFrom 210 [l0, l1, l2, l3, l4, l5, l6, l7, l8] S σ = exec d mX2_goOnFrom 211 [l0, l1, l2, l3, l4, l5, l6, l7, l8] (.int (nI 0) :: S) σ) ∧
  (∀ (d : Nat) (σ : Sg) (S : List Value) (l0 l1 l2 l3 l4 l5 l6 l7 l8 : Value), exec d mX2_goOnFrom 211 [l0, l1, l2, l3, l4, l5, l6, l7, l8] S σ = exec d mX2_goOnFrom 216 [l0, l1, l2, l3, l4, l5, l6, l7, l8] S σ) ∧
  (∀ (d : Nat) (σ : Sg) (S : List Value) (l0 l1 l2 l3 l4 l5 l6 l8 : Value) (x : Int32), exec d mX2_goOnFrom 214 [l0, l1, l2, l3, l4, l5, l6, .int x, l8] S σ = exec d mX2_goOnFrom 216 [l0, l1, l2, l3, l4, l5, l6, .int x, l8] (.int x :: S) σ) ∧
  (∀ (d : Nat) (σ : Sg) (S : List Value) (l0 l1 l2 l3 l4 l5 l6 l7 : Value) (x : Int32), exec d mX2_goOnFrom 216 [l0, l1, l2, l3, l4, l5, l6, l7, .int x] S σ = exec d mX2_goOnFrom 218 [l0, l1, l2, l3, l4, l5, l6, l7, .int x] (.int x :: S) σ) ∧
  (∀ (d : Nat) (σ : Sg) (S : List Value) (l0 l1 l3 l4 l5 l6 l7 l8 : Value) (x : Int32), exec d mX2_goOnFrom 218 [l0, l1, .int x, l3, l4, l5, l6, l7, l8] S σ = exec d mX2_goOnFrom 219 [l0, l1, .int x, l3, l4, l5, l6, l7, l8] (.int x :: S) σ) ∧
  (∀ (d : Nat) (σ : Sg) (S : List Value) (l0 l2 l3 l4 l5 l6 l7 l8 : Value) (k : Nat), exec d mX2_goOnFrom 219 [l0, .ref k, l2, l3, l4, l5, l6, l7, l8] S σ = exec d mX2_goOnFrom 220 [l0, .ref k, l2, l3, l4, l5, l6, l7, l8] (.ref k :: S) σ) ∧
  (∀ (d : Nat) (σ : Sg) (S : List Value) (l0 l1 l2 l3 l4 l5 l6 l7 l8 : Value), exec d mX2_goOnFrom 220 [l0, l1, l2, l3, l4, l5, l6, l7, l8] (.ref 8 :: S) σ = exec d mX2_goOnFrom 223 [l0, l1, l2, l3, l4, l5, l6, l7, l8] (.int (σ 8 6) :: S) σ) ∧
  (∀ (d : Nat) (σ : Sg) (S : List Value) (l0 l1 l2 l3 l4 l5 l6 l7 l8 : Value) (x y : Int32), exec d mX2_goOnFrom 223 [l0, l1, l2, l3, l4, l5, l6, l7, l8] (.int y :: .int x :: S) σ = if x = y then exec d mX2_goOnFrom 226 [l0, l1, l2, l3, l4, l5, l6, l7, l8] S σ else exec d mX2_goOnFrom 230 [l0, l1, l2, l3, l4, l5, l6, l7, l8] S σ) ∧
  (∀ (d : Nat) (σ : Sg) (S : List Value) (l0 l1 l2 l3 l4 l5 l6 l7 l8 : Value), exec d mX2_goOnFrom 226 [l0, l1, l2, l3, l4, l5, l6, l7, l8] S σ = exec d mX2_goOnFrom 227 [l0, l1, l2, l3, l4, l5, l6, l7, l8] (.int (nI 1) :: S) σ) ∧
  (∀ (d : Nat) (σ : Sg) (S : List Value) (l0 l1 l2 l3 l4 l5 l6 l7 l8 : Value), exec d mX2_goOnFrom 227 [l0, l1, l2, l3, l4, l5, l6, l7, l8] S σ = exec d mX2_goOnFrom 231 [l0, l1, l2, l3, l4, l5, l6, l7, l8] S σ) ∧
  (∀ (d : Nat) (σ : Sg) (S : List Value) (l0 l1 l2 l3 l4 l5 l6 l7 l8 : Value), exec d mX2_goOnFrom 230 [l0, l1, l2, l3, l4, l5, l6, l7, l8] S σ = exec d mX2_goOnFrom 231 [l0, l1, l2, l3, l4, l5, l6, l7, l8] (.int (nI 0) :: S) σ) :=
  ⟨fun d σ S l0 l1 l2 l3 l4 l6 l7 l8 x => ex_iload (show decode mX2_goOnFrom.2.1 152 = .ok (.iload 5, 2) by decide +kernel) rfl,
  fun d σ S l0 l1 l3 l4 l5 l6 l7 l8 x => ex_iload_n (show decode mX2_goOnFrom.2.1 154 = .ok (.iload_n 2, 1) by decide +kernel) rfl,
  fun d σ l0 l1 l2 l3 l4 l5 l6 l7 l8 x0 x1 => ex_iv (hs := [648, 541, 25, 542, 97]) (show decode mX2_goOnFrom.2.1 155 = .ok (.invokevirtual 77, 3) by decide +kernel) lkV_2_77 ⟨rfl, Nat.le_of_ble_eq_true rfl, Nat.le_of_ble_eq_true rfl, fun _ => rfl⟩ rfl rfl,
  fun d σ S l0 l1 l2 l3 l4 l5 l6 l7 l8 x => ex_zeq (show decode mX2_goOnFrom.2.1 158 = .ok (.ifCond .eq 76, 3) by decide +kernel) (by decide),
  fun d σ S l0 l1 l2 l3 l4 l5 l7 l8 x => ex_iload (show decode mX2_goOnFrom.2.1 161 = .ok (.iload 6, 2) by decide +kernel) rfl,
  fun d σ S l0 l1 l2 l3 l4 l5 l6 l7 l8 x => ex_zeq (show decode mX2_goOnFrom.2.1 163 = .ok (.ifCond .eq 10, 3) by decide +kernel) (by decide),
  fun d σ S l0 l1 l2 l3 l4 l5 l6 l8 x => ex_iload (show decode mX2_goOnFrom.2.1 166 = .ok (.iload 7, 2) by decide +kernel) rfl,
  fun d σ S l0 l1 l2 l3 l5 l6 l7 l8 x => ex_iload (show decode mX2_goOnFrom.2.1 168 = .ok (.iload 4, 2) by decide +kernel) rfl,
  fun d σ S l0 l1 l2 l3 l4 l5 l6 l7 l8 x y => ex_cgt (show decode mX2_goOnFrom.2.1 170 = .ok (.if_icmp .gt 64, 3) by decide +kernel) (by decide),
  fun d σ S l0 l2 l3 l4 l5 l6 l7 l8 k => ex_aload_n (show decode mX2_goOnFrom.2.1 173 = .ok (.aload_n 1, 1) by decide +kernel) rfl,
  fun d σ S l0 l1 l2 l3 l4 l5 l6 l7 l8 => ex_getr (idx := 61) (ci := 5) (ff := 9) (n := 17) (hh := 218) (by decide +kernel),
  fun d σ S l0 l1 l2 l3 l4 l6 l7 l8 x => ex_iload (show decode mX2_goOnFrom.2.1 177 = .ok (.iload 5, 2) by decide +kernel) rfl,
  fun d σ S l0 l1 l2 l3 l4 l5 l6 l7 l8 x => ex_iald (by decide +kernel),
  fun d σ S l0 l2 l3 l4 l5 l6 l7 l8 k => ex_aload_n (show decode mX2_goOnFrom.2.1 180 = .ok (.aload_n 1, 1) by decide +kernel) rfl,
  fun d σ S l0 l1 l2 l3 l4 l5 l6 l7 l8 => ex_getr (idx := 70) (ci := 5) (ff := 10) (n := 17) (hh := 222) (by decide +kernel),
  fun d σ S l0 l1 l2 l3 l4 l6 l7 l8 x => ex_iload (show decode mX2_goOnFrom.2.1 184 = .ok (.iload 5, 2) by decide +kernel) rfl,
  fun d σ S l0 l1 l2 l3 l4 l5 l6 l7 l8 x => ex_iald (by decide +kernel),
  fun d σ S l0 l1 l2 l4 l5 l6 l7 l8 x => ex_iload_n (show decode mX2_goOnFrom.2.1 187 = .ok (.iload_n 3, 1) by decide +kernel) rfl,
  fun d σ l0 l1 l2 l3 l4 l5 l6 l7 l8 x0 x1 x2 => ex_is (hs := [649, 558, 559, 94]) (show decode mX2_goOnFrom.2.1 188 = .ok (.invokestatic 81, 3) by decide +kernel) lkS_2_81 ⟨rfl, Nat.le_of_ble_eq_true rfl, Nat.le_of_ble_eq_true rfl, fun q => nomatch q⟩ rfl rfl,
  fun d σ S l0 l1 l2 l3 l4 l5 l6 l7 l8 x => ex_zeq (show decode mX2_goOnFrom.2.1 191 = .ok (.ifCond .eq 7, 3) by decide +kernel) (by decide),
  fun d σ S l0 l1 l2 l3 l4 l5 l6 l7 l8 => ex_iconst (show decode mX2_goOnFrom.2.1 194 = .ok (.iconst 1, 1) by decide +kernel) (by decide +kernel),
  fun d σ S l0 l1 l2 l3 l4 l5 l6 l7 l8 => ex_goto (show decode mX2_goOnFrom.2.1 195 = .ok (.goto 4, 3) by decide +kernel) (by decide),
  fun d σ S l0 l1 l2 l3 l4 l5 l6 l7 l8 => ex_iconst (show decode mX2_goOnFrom.2.1 198 = .ok (.iconst 0, 1) by decide +kernel) (by decide +kernel),
  fun d σ S l0 l1 l2 l3 l4 l5 l6 l8 x y => ex_istore (show decode mX2_goOnFrom.2.1 199 = .ok (.istore 8, 2) by decide +kernel) (Nat.le_of_ble_eq_true rfl) rfl,
  fun d σ S l1 l2 l3 l4 l5 l6 l7 l8 k => ex_aload_n (show decode mX2_goOnFrom.2.1 201 = .ok (.aload_n 0, 1) by decide +kernel) rfl,
  fun d σ S l0 l1 l3 l4 l5 l6 l7 l8 x => ex_iload_n (show decode mX2_goOnFrom.2.1 202 = .ok (.iload_n 2, 1) by decide +kernel) rfl,
  fun d σ S l0 l1 l2 l3 l4 l6 l7 l8 x => ex_iload (show decode mX2_goOnFrom.2.1 203 = .ok (.iload 5, 2) by decide +kernel) rfl,
  fun d σ S l0 l1 l2 l3 l4 l5 l7 l8 x => ex_iload (show decode mX2_goOnFrom.2.1 205 = .ok (.iload 6, 2) by decide +kernel) rfl,
  fun d σ S l0 l1 l2 l3 l4 l5 l6 l7 l8 x => ex_zeq (show decode mX2_goOnFrom.2.1 207 = .ok (.ifCond .eq 7, 3) by decide +kernel) (by decide),
  fun d σ S l0 l1 l2 l3 l4 l5 l6 l7 l8 => ex_iconst (show decode mX2_goOnFrom.2.1 210 = .ok (.iconst 0, 1) by decide +kernel) (by decide +kernel),
  fun d σ S l0 l1 l2 l3 l4 l5 l6 l7 l8 => ex_goto (show decode mX2_goOnFrom.2.1 211 = .ok (.goto 5, 3) by decide +kernel) (by decide),
  fun d σ S l0 l1 l2 l3 l4 l5 l6 l8 x => ex_iload (show decode mX2_goOnFrom.2.1 214 = .ok (.iload 7, 2) by decide +kernel) rfl,
  fun d σ S l0 l1 l2 l3 l4 l5 l6 l7 x => ex_iload (show decode mX2_goOnFrom.2.1 216 = .ok (.iload 8, 2) by decide +kernel) rfl,
  fun d σ S l0 l1 l3 l4 l5 l6 l7 l8 x => ex_iload_n (show decode mX2_goOnFrom.2.1 218 = .ok (.iload_n 2, 1) by decide +kernel) rfl,
  fun d σ S l0 l2 l3 l4 l5 l6 l7 l8 k => ex_aload_n (show decode mX2_goOnFrom.2.1 219 = .ok (.aload_n 1, 1) by decide +kernel) rfl,
  fun d σ S l0 l1 l2 l3 l4 l5 l6 l7 l8 => ex_get (idx := 21) (ci := 5) (ff := 6) (n := 17) (hh := 206) (by decide +kernel),
  fun d σ S l0 l1 l2 l3 l4 l5 l6 l7 l8 x y => ex_cne (show decode mX2_goOnFrom.2.1 223 = .ok (.if_icmp .ne 7, 3) by decide +kernel) (by decide),
  fun d σ S l0 l1 l2 l3 l4 l5 l6 l7 l8 => ex_iconst (show decode mX2_goOnFrom.2.1 226 = .ok (.iconst 1, 1) by decide +kernel) (by decide +kernel),
  fun d σ S l0 l1 l2 l3 l4 l5 l6 l7 l8 => ex_goto (show decode mX2_goOnFrom.2.1 227 = .ok (.goto 4, 3) by decide +kernel) (by decide),
  fun d σ S l0 l1 l2 l3 l4 l5 l6 l7 l8 => ex_iconst (show decode mX2_goOnFrom.2.1 230 = .ok (.iconst 0, 1) by decide +kernel) (by decide +kernel)⟩
theorem kX2_goOnFrom_3 : (∀ (d : Nat) (σ : Sg) (l0 l1 l2 l3 l4 l5 l6 l7 l8 : Value) (x0 x1 x2 x3 x4 : Int32), exec d mX2_goOnFrom 231 [l0, l1, l2, l3, l4, l5, l6, l7, l8] [.int x0, .int x1, .int x2, .int x3, .int x4, .ref 46] σ = kb (cal d mX2_addPart [.ref 46, .int x4, .int x3, .int x2, .int x1, .int x0] σ) (fun rs σ2 => exec d mX2_goOnFrom 234 [l0, l1, l2, l3, l4, l5, l6, l7, l8] (rs ++ []) σ2)) ∧
  (∀ (d : Nat) (σ : Sg) (S : List Value) (l0 l1 l2 l3 l6 l7 l8 : Value) (x y : Int32), exec d mX2_goOnFrom 234 [l0, l1, l2, l3, .int y, .int x, l6, l7, l8] S σ = exec d mX2_goOnFrom 237 [l0, l1, l2, l3, .int y, .int (x + nI 1), l6, l7, l8] S σ) ∧
  (∀ (d : Nat) (σ : Sg) (S : List Value) (l0 l1 l2 l3 l4 l5 l6 l7 l8 : Value), exec d mX2_goOnFrom 237 [l0, l1, l2, l3, l4, l5, l6, l7, l8] S σ = exec d mX2_goOnFrom 88 [l0, l1, l2, l3, l4, l5, l6, l7, l8] S σ) ∧
  (∀ (d : Nat) (σ : Sg) (l0 l1 l2 l3 l4 l5 l6 l7 l8 : Value), exec d mX2_goOnFrom 240 [l0, l1, l2, l3, l4, l5, l6, l7, l8] [] σ = some (none, σ)) :=
  ⟨fun d σ l0 l1 l2 l3 l4 l5 l6 l7 l8 x0 x1 x2 x3 x4 => ex_iv (hs := [650, 652, 37, 653, 99]) (show decode mX2_goOnFrom.2.1 231 = .ok (.invokevirtual 85, 3) by decide +kernel) lkV_2_85 ⟨rfl, Nat.le_of_ble_eq_true rfl, Nat.le_of_ble_eq_true rfl, fun _ => rfl⟩ rfl rfl,
  fun d σ S l0 l1 l2 l3 l6 l7 l8 x y => ex_iinc (show decode mX2_goOnFrom.2.1 234 = .ok (.iinc 5 1, 3) by decide +kernel) rfl (by decide +kernel) (Nat.le_of_ble_eq_true rfl) rfl,
  fun d σ S l0 l1 l2 l3 l4 l5 l6 l7 l8 => ex_goto (show decode mX2_goOnFrom.2.1 237 = .ok (.goto (-149), 3) by decide +kernel) (by decide),
  fun d σ l0 l1 l2 l3 l4 l5 l6 l7 l8 => ex_vret (show decode mX2_goOnFrom.2.1 240 = .ok (.return_, 1) by decide +kernel) rfl⟩
theorem hX2_goOnFrom_14 : ∀ (d : Nat) (σ : Sg) (S : List Value) (l0 l1 l2 l3 l4 l6 l7 l8 : Value) (x : Int32), exec d mX2_goOnFrom 14 [l0, l1, l2, l3, l4, .int x, l6, l7, l8] S σ = exec d mX2_goOnFrom 16 [l0, l1, l2, l3, l4, .int x, l6, l7, l8] (.int x :: S) σ := fun d σ S l0 l1 l2 l3 l4 l6 l7 l8 x => ex_iload (show decode mX2_goOnFrom.2.1 14 = .ok (.iload 5, 2) by decide +kernel) rfl
theorem hX2_goOnFrom_88 : ∀ (d : Nat) (σ : Sg) (S : List Value) (l0 l1 l2 l3 l4 l6 l7 l8 : Value) (x : Int32), exec d mX2_goOnFrom 88 [l0, l1, l2, l3, l4, .int x, l6, l7, l8] S σ = exec d mX2_goOnFrom 90 [l0, l1, l2, l3, l4, .int x, l6, l7, l8] (.int x :: S) σ := fun d σ S l0 l1 l2 l3 l4 l6 l7 l8 x => ex_iload (show decode mX2_goOnFrom.2.1 88 = .ok (.iload 5, 2) by decide +kernel) rfl
theorem aX2_goOnFrom_46_8 : ∀ (d : Nat) (a2 : Int32) (σ : Sg), cal (d + 1) mX2_goOnFrom [.ref 46, .ref 8, .int a2] σ = exec d mX2_goOnFrom 0 [.ref 46, .ref 8, .int a2, uu, uu, uu, uu, uu, uu] [] σ := fun _ _ _ => rfl
theorem kX2_addPart_0 : (∀ (d : Nat) (σ : Sg) (S : List Value) (l0 l2 l3 l4 l5 l6 l7 l8 l9 l10 l11 : Value) (x : Int32), exec d mX2_addPart 0 [l0, .int x, l2, l3, l4, l5, l6, l7, l8, l9, l10, l11] S σ = exec d mX2_addPart 1 [l0, .int x, l2, l3, l4, l5, l6, l7, l8, l9, l10, l11] (.int x :: S) σ) ∧
  (∀ (d : Nat) (σ : Sg) (S : List Value) (l0 l1 l2 l3 l4 l5 l6 l7 l8 l9 l10 l11 : Value), exec d mX2_addPart 1 [l0, l1, l2, l3, l4, l5, l6, l7, l8, l9, l10, l11] S σ = exec d mX2_addPart 3 [l0, l1, l2, l3, l4, l5, l6, l7, l8, l9, l10, l11] (.int (nI 8) :: S) σ) ∧
  (∀ (d : Nat) (σ : Sg) (S : List Value) (l0 l1 l2 l3 l4 l5 l6 l7 l8 l9 l10 l11 : Value) (x y : Int32), exec d mX2_addPart 3 [l0, l1, l2, l3, l4, l5, l6, l7, l8, l9, l10, l11] (.int y :: .int x :: S) σ = exec d mX2_addPart 4 [l0, l1, l2, l3, l4, l5, l6, l7, l8, l9, l10, l11] (.int (x * y) :: S) σ) ∧
  (∀ (d : Nat) (σ : Sg) (S : List Value) (l0 l1 l2 l3 l4 l6 l7 l8 l9 l10 l11 : Value) (x y : Int32), exec d mX2_addPart 4 [l0, l1, l2, l3, l4, .int y, l6, l7, l8, l9, l10, l11] (.int x :: S) σ = exec d mX2_addPart 6 [l0, l1, l2, l3, l4, .int y, .int x, l7, l8, l9, l10, l11] S σ) ∧
  (∀ (d : Nat) (σ : Sg) (S : List Value) (l0 l2 l3 l4 l5 l6 l7 l8 l9 l10 l11 : Value) (x : Int32), exec d mX2_addPart 6 [l0, .int x, l2, l3, l4, l5, l6, l7, l8, l9, l10, l11] S σ = exec d mX2_addPart 7 [l0, .int x, l2, l3, l4, l5, l6, l7, l8, l9, l10, l11] (.int x :: S) σ) ∧
  (∀ (d : Nat) (σ : Sg) (S : List Value) (l0 l1 l2 l3 l4 l5 l6 l7 l8 l9 l10 l11 : Value), exec d mX2_addPart 7 [l0, l1, l2, l3, l4, l5, l6, l7, l8, l9, l10, l11] S σ = exec d mX2_addPart 8 [l0, l1, l2, l3, l4, l5, l6, l7, l8, l9, l10, l11] (.int (nI 1) :: S) σ) ∧
  (∀ (d : Nat) (σ : Sg) (S : List Value) (l0 l1 l3 l4 l5 l6 l7 l8 l9 l10 l11 : Value) (x : Int32), exec d mX2_addPart 8 [l0, l1, .int x, l3, l4, l5, l6, l7, l8, l9, l10, l11] S σ = exec d mX2_addPart 9 [l0, l1, .int x, l3, l4, l5, l6, l7, l8, l9, l10, l11] (.int x :: S) σ) ∧
  (∀ (d : Nat) (σ : Sg) (S : List Value) (l0 l1 l2 l3 l4 l5 l6 l7 l8 l9 l10 l11 : Value) (x y : Int32), exec d mX2_addPart 9 [l0, l1, l2, l3, l4, l5, l6, l7, l8, l9, l10, l11] (.int y :: .int x :: S) σ = exec d mX2_addPart 10 [l0, l1, l2, l3, l4, l5, l6, l7, l8, l9, l10, l11] (.int (x <<< (y &&& 31)) :: S) σ) ∧
  (∀ (d : Nat) (σ : Sg) (S : List Value) (l0 l1 l2 l3 l4 l5 l6 l7 l8 l9 l10 l11 : Value) (x y : Int32), exec d mX2_addPart 10 [l0, l1, l2, l3, l4, l5, l6, l7, l8, l9, l10, l11] (.int y :: .int x :: S) σ = exec d mX2_addPart 11 [l0, l1, l2, l3, l4, l5, l6, l7, l8, l9, l10, l11] (.int (x ||| y) :: S) σ) ∧
  (∀ (d : Nat) (σ : Sg) (S : List Value) (l0 l1 l2 l3 l4 l5 l6 l7 l8 l9 l10 l11 : Value), exec d mX2_addPart 11 [l0, l1, l2, l3, l4, l5, l6, l7, l8, l9, l10, l11] S σ = exec d mX2_addPart 13 [l0, l1, l2, l3, l4, l5, l6, l7, l8, l9, l10, l11] (.int (nI 8) :: S) σ) ∧
  (∀ (d : Nat) (σ : Sg) (S : List Value) (l0 l1 l2 l3 l4 l5 l6 l7 l8 l9 l10 l11 : Value) (x y : Int32), exec d mX2_addPart 13 [l0, l1, l2, l3, l4, l5, l6, l7, l8, l9, l10, l11] (.int y :: .int x :: S) σ = exec d mX2_addPart 14 [l0, l1, l2, l3, l4, l5, l6, l7, l8, l9, l10, l11] (.int (x * y) :: S) σ) ∧
  (∀ (d : Nat) (σ : Sg) (S : List Value) (l0 l1 l2 l3 l4 l5 l7 l8 l9 l10 l11 : Value) (x y : Int32), exec d mX2_addPart 14 [l0, l1, l2, l3, l4, l5, .int y, l7, l8, l9, l10, l11] (.int x :: S) σ = exec d mX2_addPart 16 [l0, l1, l2, l3, l4, l5, .int y, .int x, l8, l9, l10, l11] S σ) ∧
  (∀ (d : Nat) (σ : Sg) (S : List Value) (l0 l1 l2 l3 l4 l5 l6 l7 l8 l9 l10 l11 : Value), exec d mX2_addPart 16 [l0, l1, l2, l3, l4, l5, l6, l7, l8, l9, l10, l11] S σ = exec d mX2_addPart 17 [l0, l1, l2, l3, l4, l5, l6, l7, l8, l9, l10, l11] (.int (nI 0) :: S) σ) ∧
  (∀ (d : Nat) (σ : Sg) (S : List Value) (l0 l1 l2 l3 l4 l5 l6 l8 l9 l10 l11 : Value) (x y : Int32), exec d mX2_addPart 17 [l0, l1, l2, l3, l4, l5, l6, .int y, l8, l9, l10, l11] (.int x :: S) σ = exec d mX2_addPart 19 [l0, l1, l2, l3, l4, l5, l6, .int y, .int x, l9, l10, l11] S σ) ∧
  (∀ (d : Nat) (σ : Sg) (S : List Value) (l0 l1 l2 l3 l5 l6 l7 l8 l9 l10 l11 : Value) (x : Int32), exec d mX2_addPart 21 [l0, l1, l2, l3, .int x, l5, l6, l7, l8, l9, l10, l11] S σ = exec d mX2_addPart 23 [l0, l1, l2, l3, .int x, l5, l6, l7, l8, l9, l10, l11] (.int x :: S) σ) ∧
  (∀ (d : Nat) (σ : Sg) (S : List Value) (l0 l1 l2 l3 l4 l5 l6 l7 l8 l9 l10 l11 : Value) (x y : Int32), exec d mX2_addPart 23 [l0, l1, l2, l3, l4, l5, l6, l7, l8, l9, l10, l11] (.int y :: .int x :: S) σ = exec d mX2_addPart 24 [l0, l1, l2, l3, l4, l5, l6, l7, l8, l9, l10, l11] (.int (x + y) :: S) σ) ∧
  (∀ (d : Nat) (σ : Sg) (S : List Value) (l0 l1 l2 l3 l4 l5 l6 l7 l8 l9 l10 l11 : Value), exec d mX2_addPart 24 [l0, l1, l2, l3, l4, l5, l6, l7, l8, l9, l10, l11] S σ = exec d mX2_addPart 26 [l0, l1, l2, l3, l4, l5, l6, l7, l8, l9, l10, l11] (.int (nI 8) :: S) σ) ∧
  (∀ (d : Nat) (σ : Sg) (S : List Value) (l0 l1 l2 l3 l4 l5 l6 l7 l8 l9 l10 l11 : Value) (x y : Int32), exec d mX2_addPart 26 [l0, l1, l2, l3, l4, l5, l6, l7, l8, l9, l10, l11] (.int y :: .int x :: S) σ = if y ≤ x then exec d mX2_addPart 125 [l0, l1, l2, l3, l4, l5, l6, l7, l8, l9, l10, l11] S σ else exec d mX2_addPart 29 [l0, l1, l2, l3, l4, l5, l6, l7, l8, l9, l10, l11] S σ) ∧
  (∀ (d : Nat) (σ : Sg) (S : List Value) (l1 l2 l3 l4 l5 l6 l7 l8 l9 l10 l11 : Value) (k : Nat), exec d mX2_addPart 29 [.ref k, l1, l2, l3, l4, l5, l6, l7, l8, l9, l10, l11] S σ = exec d mX2_addPart 30 [.ref k, l1, l2, l3, l4, l5, l6, l7, l8, l9, l10, l11] (.ref k :: S) σ) ∧
  (∀ (d : Nat) (σ : Sg) (S : List Value) (l0 l1 l2 l3 l4 l5 l6 l7 l8 l9 l10 l11 : Value), exec d mX2_addPart 30 [l0, l1, l2, l3, l4, l5, l6, l7, l8, l9, l10, l11] (.ref 46 :: S) σ = exec d mX2_addPart 33 [l0, l1, l2, l3, l4, l5, l6, l7, l8, l9, l10, l11] (.ref 47 :: S) σ) ∧
  (∀ (d : Nat) (σ : Sg) (S : List Value) (l0 l1 l2 l3 l4 l5 l7 l8 l9 l10 l11 : Value) (x : Int32), exec d mX2_addPart 33 [l0, l1, l2, l3, l4, l5, .int x, l7, l8, l9, l10, l11] S σ = exec d mX2_addPart 35 [l0, l1, l2, l3, l4, l5, .int x, l7, l8, l9, l10, l11] (.int x :: S) σ) ∧
  (∀ (d : Nat) (σ : Sg) (S : List Value) (l0 l1 l2 l3 l4 l5 l6 l7 l9 l10 l11 : Value) (x : Int32), exec d mX2_addPart 35 [l0, l1, l2, l3, l4, l5, l6, l7, .int x, l9, l10, l11] S σ = exec d mX2_addPart 37 [l0, l1, l2, l3, l4, l5, l6, l7, .int x, l9, l10, l11] (.int x :: S) σ) ∧
  (∀ (d : Nat) (σ : Sg) (S : List Value) (l0 l1 l2 l3 l4 l5 l6 l7 l8 l9 l10 l11 : Value) (x y : Int32), exec d mX2_addPart 37 [l0, l1, l2, l3, l4, l5, l6, l7, l8, l9, l10, l11] (.int y :: .int x :: S) σ = exec d mX2_addPart 38 [l0, l1, l2, l3, l4, l5, l6, l7, l8, l9, l10, l11] (.int (x + y) :: S) σ) ∧
  (∀ (d : Nat) (σ : Sg) (S : List Value) (l0 l1 l2 l3 l4 l5 l6 l7 l8 l9 l10 l11 : Value) (x : Int32), exec d mX2_addPart 38 [l0, l1, l2, l3, l4, l5, l6, l7, l8, l9, l10, l11] (.int x :: .ref 47 :: S) σ = if inb x 1024 = true then exec d mX2_addPart 39 [l0, l1, l2, l3, l4, l5, l6, l7, l8, l9, l10, l11] (.int (σ 47 x.toNatClampNeg) :: S) σ else none) ∧
  (∀ (d : Nat) (σ : Sg) (S : List Value) (l0 l1 l2 l3 l4 l5 l6 l7 l9 l10 l11 : Value) (x y : Int32), exec d mX2_addPart 39 [l0, l1, l2, l3, l4, l5, l6, l7, .int y, l9, l10, l11] (.int x :: S) σ = exec d mX2_addPart 41 [l0, l1, l2, l3, l4, l5, l6, l7, .int y, .int x, l10, l11] S σ) ∧
  (∀ (d : Nat) (σ : Sg) (S : List Value) (l0 l1 l2 l3 l4 l5 l6 l7 l8 l10 l11 : Value) (x : Int32), exec d mX2_addPart 41 [l0, l1, l2, l3, l4, l5, l6, l7, l8, .int x, l10, l11] S σ = exec d mX2_addPart 43 [l0, l1, l2, l3, l4, l5, l6, l7, l8, .int x, l10, l11] (.int x :: S) σ) ∧
  (∀ (d : Nat) (σ : Sg) (S : List Value) (l0 l1 l2 l3 l4 l5 l6 l7 l8 l9 l10 l11 : Value), exec d mX2_addPart 43 [l0, l1, l2, l3, l4, l5, l6, l7, l8, l9, l10, l11] S σ = exec d mX2_addPart 44 [l0, l1, l2, l3, l4, l5, l6, l7, l8, l9, l10, l11] (.int ((-1)) :: S) σ) ∧
  (∀ (d : Nat) (σ : Sg) (S : List Value) (l0 l1 l2 l3 l4 l5 l6 l7 l8 l9 l10 l11 : Value) (x y : Int32), exec d mX2_addPart 44 [l0, l1, l2, l3, l4, l5, l6, l7, l8, l9, l10, l11] (.int y :: .int x :: S) σ = if x = y then exec d mX2_addPart 119 [l0, l1, l2, l3, l4, l5, l6, l7, l8, l9, l10, l11] S σ else exec d mX2_addPart 47 [l0, l1, l2, l3, l4, l5, l6, l7, l8, l9, l10, l11] S σ) ∧
  (∀ (d : Nat) (σ : Sg) (S : List Value) (l0 l1 l2 l3 l4 l5 l6 l7 l8 l10 l11 : Value) (x : Int32), exec d mX2_addPart 47 [l0, l1, l2, l3, l4, l5, l6, l7, l8, .int x, l10, l11] S σ = exec d mX2_addPart 49 [l0, l1, l2, l3, l4, l5, l6, l7, l8, .int x, l10, l11] (.int x :: S) σ) ∧
  (∀ (d : Nat) (σ : Sg) (S : List Value) (l0 l1 l2 l3 l4 l5 l6 l7 l8 l9 l10 l11 : Value), exec d mX2_addPart 49 [l0, l1, l2, l3, l4, l5, l6, l7, l8, l9, l10, l11] S σ = exec d mX2_addPart 50 [l0, l1, l2, l3, l4, l5, l6, l7, l8, l9, l10, l11] (.int (nI 3) :: S) σ) ∧
  (∀ (d : Nat) (σ : Sg) (S : List Value) (l0 l1 l2 l3 l4 l5 l6 l7 l8 l9 l10 l11 : Value) (x y : Int32), exec d mX2_addPart 50 [l0, l1, l2, l3, l4, l5, l6, l7, l8, l9, l10, l11] (.int y :: .int x :: S) σ = exec d mX2_addPart 51 [l0, l1, l2, l3, l4, l5, l6, l7, l8, l9, l10, l11] (.int (x >>> (y &&& 31)) :: S) σ) ∧
  (∀ (d : Nat) (σ : Sg) (S : List Value) (l0 l1 l2 l4 l5 l6 l7 l8 l9 l10 l11 : Value) (x : Int32), exec d mX2_addPart 51 [l0, l1, l2, .int x, l4, l5, l6, l7, l8, l9, l10, l11] S σ = exec d mX2_addPart 52 [l0, l1, l2, .int x, l4, l5, l6, l7, l8, l9, l10, l11] (.int x :: S) σ) ∧
  (∀ (d : Nat) (σ : Sg) (S : List Value) (l0 l1 l2 l3 l4 l5 l6 l7 l8 l9 l10 l11 : Value) (x y : Int32), exec d mX2_addPart 52 [l0, l1, l2, l3, l4, l5, l6, l7, l8, l9, l10, l11] (.int y :: .int x :: S) σ = if x < y then exec d mX2_addPart 119 [l0, l1, l2, l3, l4, l5, l6, l7, l8, l9, l10, l11] S σ else exec d mX2_addPart 55 [l0, l1, l2, l3, l4, l5, l6, l7, l8, l9, l10, l11] S σ) ∧
  (∀ (d : Nat) (σ : Sg) (S : List Value) (l0 l1 l2 l3 l4 l5 l6 l7 l8 l10 l11 : Value) (x : Int32), exec d mX2_addPart 55 [l0, l1, l2, l3, l4, l5, l6, l7, l8, .int x, l10, l11] S σ = exec d mX2_addPart 57 [l0, l1, l2, l3, l4, l5, l6, l7, l8, .int x, l10, l11] (.int x :: S) σ) ∧
  (∀ (d : Nat) (σ : Sg) (S : List Value) (l0 l1 l2 l3 l4 l5 l6 l7 l8 l9 l10 l11 : Value), exec d mX2_addPart 57 [l0, l1, l2, l3, l4, l5, l6, l7, l8, l9, l10, l11] S σ = exec d mX2_addPart 58 [l0, l1, l2, l3, l4, l5, l6, l7, l8, l9, l10, l11] (.int (nI 3) :: S) σ) ∧
  (∀ (d : Nat) (σ : Sg) (S : List Value) (l0 l1 l2 l3 l4 l5 l6 l7 l8 l9 l10 l11 : Value) (x y : Int32), exec d mX2_addPart 58 [l0, l1, l2, l3, l4, l5, l6, l7, l8, l9, l10, l11] (.int y :: .int x :: S) σ = exec d mX2_addPart 59 [l0, l1, l2, l3, l4, l5, l6, l7, l8, l9, l10, l11] (.int (x >>> (y &&& 31)) :: S) σ) ∧
  (∀ (d : Nat) (σ : Sg) (S : List Value) (l0 l1 l2 l4 l5 l6 l7 l8 l9 l10 l11 : Value) (x : Int32), exec d mX2_addPart 59 [l0, l1, l2, .int x, l4, l5, l6, l7, l8, l9, l10, l11] S σ = exec d mX2_addPart 60 [l0, l1, l2, .int x, l4, l5, l6, l7, l8, l9, l10, l11] (.int x :: S) σ) ∧
  (∀ (d : Nat) (σ : Sg) (S : List Value) (l0 l1 l2 l3 l4 l5 l6 l7 l8 l9 l10 l11 : Value) (x y : Int32), exec d mX2_addPart 60 [l0, l1, l2, l3, l4, l5, l6, l7, l8, l9, l10, l11] (.int y :: .int x :: S) σ = exec d mX2_addPart 61 [l0, l1, l2, l3, l4, l5, l6, l7, l8, l9, l10, l11] (.int (x - y) :: S) σ) ∧
  (∀ (d : Nat) (σ : Sg) (S : List Value) (l0 l1 l2 l3 l4 l5 l6 l7 l8 l10 l11 : Value) (x y : Int32), exec d mX2_addPart 61 [l0, l1, l2, l3, l4, l5, l6, l7, l8, .int y, l10, l11] (.int x :: S) σ = exec d mX2_addPart 63 [l0, l1, l2, l3, l4, l5, l6, l7, l8, .int y, .int x, l11] S σ) ∧
  (∀ (d : Nat) (σ : Sg) (S : List Value) (l0 l1 l2 l3 l4 l6 l7 l8 l9 l10 l11 : Value) (x : Int32), exec d mX2_addPart 63 [l0, l1, l2, l3, l4, .int x, l6, l7, l8, l9, l10, l11] S σ = exec d mX2_addPart 65 [l0, l1, l2, l3, l4, .int x, l6, l7, l8, l9, l10, l11] (.int x :: S) σ) :=
  ⟨fun d σ S l0 l2 l3 l4 l5 l6 l7 l8 l9 l10 l11 x => ex_iload_n (show decode mX2_addPart.2.1 0 = .ok (.iload_n 1, 1) by decide +kernel) rfl,
  fun d σ S l0 l1 l2 l3 l4 l5 l6 l7 l8 l9 l10 l11 => ex_bipush (show decode mX2_addPart.2.1 1 = .ok (.bipush 8, 2) by decide +kernel) (by decide +kernel),
  fun d σ S l0 l1 l2 l3 l4 l5 l6 l7 l8 l9 l10 l11 x y => ex_imul (show decode mX2_addPart.2.1 3 = .ok (.imul, 1) by decide +kernel),
  fun d σ S l0 l1 l2 l3 l4 l6 l7 l8 l9 l10 l11 x y => ex_istore (show decode mX2_addPart.2.1 4 = .ok (.istore 6, 2) by decide +kernel) (Nat.le_of_ble_eq_true rfl) rfl,
  fun d σ S l0 l2 l3 l4 l5 l6 l7 l8 l9 l10 l11 x => ex_iload_n (show decode mX2_addPart.2.1 6 = .ok (.iload_n 1, 1) by decide +kernel) rfl,
  fun d σ S l0 l1 l2 l3 l4 l5 l6 l7 l8 l9 l10 l11 => ex_iconst (show decode mX2_addPart.2.1 7 = .ok (.iconst 1, 1) by decide +kernel) (by decide +kernel),
  fun d σ S l0 l1 l3 l4 l5 l6 l7 l8 l9 l10 l11 x => ex_iload_n (show decode mX2_addPart.2.1 8 = .ok (.iload_n 2, 1) by decide +kernel) rfl,
  fun d σ S l0 l1 l2 l3 l4 l5 l6 l7 l8 l9 l10 l11 x y => ex_ishl (show decode mX2_addPart.2.1 9 = .ok (.ishl, 1) by decide +kernel),
  fun d σ S l0 l1 l2 l3 l4 l5 l6 l7 l8 l9 l10 l11 x y => ex_ior (show decode mX2_addPart.2.1 10 = .ok (.ior, 1) by decide +kernel),
  fun d σ S l0 l1 l2 l3 l4 l5 l6 l7 l8 l9 l10 l11 => ex_bipush (show decode mX2_addPart.2.1 11 = .ok (.bipush 8, 2) by decide +kernel) (by decide +kernel),
  fun d σ S l0 l1 l2 l3 l4 l5 l6 l7 l8 l9 l10 l11 x y => ex_imul (show decode mX2_addPart.2.1 13 = .ok (.imul, 1) by decide +kernel),
  fun d σ S l0 l1 l2 l3 l4 l5 l7 l8 l9 l10 l11 x y => ex_istore (show decode mX2_addPart.2.1 14 = .ok (.istore 7, 2) by decide +kernel) (Nat.le_of_ble_eq_true rfl) rfl,
  fun d σ S l0 l1 l2 l3 l4 l5 l6 l7 l8 l9 l10 l11 => ex_iconst (show decode mX2_addPart.2.1 16 = .ok (.iconst 0, 1) by decide +kernel) (by decide +kernel),
  fun d σ S l0 l1 l2 l3 l4 l5 l6 l8 l9 l10 l11 x y => ex_istore (show decode mX2_addPart.2.1 17 = .ok (.istore 8, 2) by decide +kernel) (Nat.le_of_ble_eq_true rfl) rfl,
  fun d σ S l0 l1 l2 l3 l5 l6 l7 l8 l9 l10 l11 x => ex_iload (show decode mX2_addPart.2.1 21 = .ok (.iload 4, 2) by decide +kernel) rfl,
  fun d σ S l0 l1 l2 l3 l4 l5 l6 l7 l8 l9 l10 l11 x y => ex_iadd (show decode mX2_addPart.2.1 23 = .ok (.iadd, 1) by decide +kernel),
  fun d σ S l0 l1 l2 l3 l4 l5 l6 l7 l8 l9 l10 l11 => ex_bipush (show decode mX2_addPart.2.1 24 = .ok (.bipush 8, 2) by decide +kernel) (by decide +kernel),
  fun d σ S l0 l1 l2 l3 l4 l5 l6 l7 l8 l9 l10 l11 x y => ex_cge (show decode mX2_addPart.2.1 26 = .ok (.if_icmp .ge 99, 3) by decide +kernel) (by decide),
  fun d σ S l1 l2 l3 l4 l5 l6 l7 l8 l9 l10 l11 k => ex_aload_n (show decode mX2_addPart.2.1 29 = .ok (.aload_n 0, 1) by decide +kernel) rfl,
  fun d σ S l0 l1 l2 l3 l4 l5 l6 l7 l8 l9 l10 l11 => ex_getr (idx := 11) (ci := 2) (ff := 0) (n := 6) (hh := 295) (by decide +kernel),
  fun d σ S l0 l1 l2 l3 l4 l5 l7 l8 l9 l10 l11 x => ex_iload (show decode mX2_addPart.2.1 33 = .ok (.iload 6, 2) by decide +kernel) rfl,
  fun d σ S l0 l1 l2 l3 l4 l5 l6 l7 l9 l10 l11 x => ex_iload (show decode mX2_addPart.2.1 35 = .ok (.iload 8, 2) by decide +kernel) rfl,
  fun d σ S l0 l1 l2 l3 l4 l5 l6 l7 l8 l9 l10 l11 x y => ex_iadd (show decode mX2_addPart.2.1 37 = .ok (.iadd, 1) by decide +kernel),
  fun d σ S l0 l1 l2 l3 l4 l5 l6 l7 l8 l9 l10 l11 x => ex_iald (by decide +kernel),
  fun d σ S l0 l1 l2 l3 l4 l5 l6 l7 l9 l10 l11 x y => ex_istore (show decode mX2_addPart.2.1 39 = .ok (.istore 9, 2) by decide +kernel) (Nat.le_of_ble_eq_true rfl) rfl,
  fun d σ S l0 l1 l2 l3 l4 l5 l6 l7 l8 l10 l11 x => ex_iload (show decode mX2_addPart.2.1 41 = .ok (.iload 9, 2) by decide +kernel) rfl,
  fun d σ S l0 l1 l2 l3 l4 l5 l6 l7 l8 l9 l10 l11 => ex_iconst (show decode mX2_addPart.2.1 43 = .ok (.iconst (-1), 1) by decide +kernel) (by decide +kernel),
  fun d σ S l0 l1 l2 l3 l4 l5 l6 l7 l8 l9 l10 l11 x y => ex_ceq (show decode mX2_addPart.2.1 44 = .ok (.if_icmp .eq 75, 3) by decide +kernel) (by decide),
  fun d σ S l0 l1 l2 l3 l4 l5 l6 l7 l8 l10 l11 x => ex_iload (show decode mX2_addPart.2.1 47 = .ok (.iload 9, 2) by decide +kernel) rfl,
  fun d σ S l0 l1 l2 l3 l4 l5 l6 l7 l8 l9 l10 l11 => ex_iconst (show decode mX2_addPart.2.1 49 = .ok (.iconst 3, 1) by decide +kernel) (by decide +kernel),
  fun d σ S l0 l1 l2 l3 l4 l5 l6 l7 l8 l9 l10 l11 x y => ex_ishr (show decode mX2_addPart.2.1 50 = .ok (.ishr, 1) by decide +kernel),
  fun d σ S l0 l1 l2 l4 l5 l6 l7 l8 l9 l10 l11 x => ex_iload_n (show decode mX2_addPart.2.1 51 = .ok (.iload_n 3, 1) by decide +kernel) rfl,
  fun d σ S l0 l1 l2 l3 l4 l5 l6 l7 l8 l9 l10 l11 x y => ex_clt (show decode mX2_addPart.2.1 52 = .ok (.if_icmp .lt 67, 3) by decide +kernel) (by decide),
  fun d σ S l0 l1 l2 l3 l4 l5 l6 l7 l8 l10 l11 x => ex_iload (show decode mX2_addPart.2.1 55 = .ok (.iload 9, 2) by decide +kernel) rfl,
  fun d σ S l0 l1 l2 l3 l4 l5 l6 l7 l8 l9 l10 l11 => ex_iconst (show decode mX2_addPart.2.1 57 = .ok (.iconst 3, 1) by decide +kernel) (by decide +kernel),
  fun d σ S l0 l1 l2 l3 l4 l5 l6 l7 l8 l9 l10 l11 x y => ex_ishr (show decode mX2_addPart.2.1 58 = .ok (.ishr, 1) by decide +kernel),
  fun d σ S l0 l1 l2 l4 l5 l6 l7 l8 l9 l10 l11 x => ex_iload_n (show decode mX2_addPart.2.1 59 = .ok (.iload_n 3, 1) by decide +kernel) rfl,
  fun d σ S l0 l1 l2 l3 l4 l5 l6 l7 l8 l9 l10 l11 x y => ex_isub (show decode mX2_addPart.2.1 60 = .ok (.isub, 1) by decide +kernel),
  fun d σ S l0 l1 l2 l3 l4 l5 l6 l7 l8 l10 l11 x y => ex_istore (show decode mX2_addPart.2.1 61 = .ok (.istore 10, 2) by decide +kernel) (Nat.le_of_ble_eq_true rfl) rfl,
  fun d σ S l0 l1 l2 l3 l4 l6 l7 l8 l9 l10 l11 x => ex_iload (show decode mX2_addPart.2.1 63 = .ok (.iload 5, 2) by decide +kernel) rfl⟩
theorem kX2_addPart_1 : (∀ (d : Nat) (σ : Sg) (S : List Value) (l0 l1 l2 l3 l4 l5 l6 l7 l8 l9 l10 l11 : Value) (x : Int32), exec d mX2_addPart 65 [l0, l1, l2, l3, l4, l5, l6, l7, l8, l9, l10, l11] (.int x :: S) σ = if x = nI 0 then exec d mX2_addPart 75 [l0, l1, l2, l3, l4, l5, l6, l7, l8, l9, l10, l11] S σ else exec d mX2_addPart 68 [l0, l1, l2, l3, l4, l5, l6, l7, l8, l9, l10, l11] S σ) ∧
  (∀ (d : Nat) (σ : Sg) (S : List Value) (l0 l1 l2 l3 l4 l5 l6 l7 l8 l9 l10 l11 : Value), exec d mX2_addPart 68 [l0, l1, l2, l3, l4, l5, l6, l7, l8, l9, l10, l11] S σ = exec d mX2_addPart 70 [l0, l1, l2, l3, l4, l5, l6, l7, l8, l9, l10, l11] (.int (nI 7) :: S) σ) ∧
  (∀ (d : Nat) (σ : Sg) (S : List Value) (l0 l1 l3 l4 l5 l6 l7 l8 l9 l10 l11 : Value) (x : Int32), exec d mX2_addPart 70 [l0, l1, .int x, l3, l4, l5, l6, l7, l8, l9, l10, l11] S σ = exec d mX2_addPart 71 [l0, l1, .int x, l3, l4, l5, l6, l7, l8, l9, l10, l11] (.int x :: S) σ) ∧
  (∀ (d : Nat) (σ : Sg) (S : List Value) (l0 l1 l2 l3 l4 l5 l6 l7 l8 l9 l10 l11 : Value) (x y : Int32), exec d mX2_addPart 71 [l0, l1, l2, l3, l4, l5, l6, l7, l8, l9, l10, l11] (.int y :: .int x :: S) σ = exec d mX2_addPart 72 [l0, l1, l2, l3, l4, l5, l6, l7, l8, l9, l10, l11] (.int (x - y) :: S) σ) ∧
  (∀ (d : Nat) (σ : Sg) (S : List Value) (l0 l1 l2 l3 l4 l5 l6 l7 l8 l9 l10 l11 : Value), exec d mX2_addPart 72 [l0, l1, l2, l3, l4, l5, l6, l7, l8, l9, l10, l11] S σ = exec d mX2_addPart 80 [l0, l1, l2, l3, l4, l5, l6, l7, l8, l9, l10, l11] S σ) ∧
  (∀ (d : Nat) (σ : Sg) (S : List Value) (l0 l1 l2 l3 l4 l5 l6 l7 l8 l10 l11 : Value) (x : Int32), exec d mX2_addPart 75 [l0, l1, l2, l3, l4, l5, l6, l7, l8, .int x, l10, l11] S σ = exec d mX2_addPart 77 [l0, l1, l2, l3, l4, l5, l6, l7, l8, .int x, l10, l11] (.int x :: S) σ) ∧
  (∀ (d : Nat) (σ : Sg) (S : List Value) (l0 l1 l2 l3 l4 l5 l6 l7 l8 l9 l10 l11 : Value), exec d mX2_addPart 77 [l0, l1, l2, l3, l4, l5, l6, l7, l8, l9, l10, l11] S σ = exec d mX2_addPart 79 [l0, l1, l2, l3, l4, l5, l6, l7, l8, l9, l10, l11] (.int (nI 7) :: S) σ) ∧
  (∀ (d : Nat) (σ : Sg) (S : List Value) (l0 l1 l2 l3 l4 l5 l6 l7 l8 l9 l10 l11 : Value) (x y : Int32), exec d mX2_addPart 79 [l0, l1, l2, l3, l4, l5, l6, l7, l8, l9, l10, l11] (.int y :: .int x :: S) σ = exec d mX2_addPart 80 [l0, l1, l2, l3, l4, l5, l6, l7, l8, l9, l10, l11] (.int (x &&& y) :: S) σ) ∧
  (∀ (d : Nat) (σ : Sg) (S : List Value) (l0 l1 l2 l3 l4 l5 l6 l7 l8 l9 l11 : Value) (x y : Int32), exec d mX2_addPart 80 [l0, l1, l2, l3, l4, l5, l6, l7, l8, l9, .int y, l11] (.int x :: S) σ = exec d mX2_addPart 82 [l0, l1, l2, l3, l4, l5, l6, l7, l8, l9, .int y, .int x] S σ) ∧
  (∀ (d : Nat) (σ : Sg) (S : List Value) (l1 l2 l3 l4 l5 l6 l7 l8 l9 l10 l11 : Value) (k : Nat), exec d mX2_addPart 82 [.ref k, l1, l2, l3, l4, l5, l6, l7, l8, l9, l10, l11] S σ = exec d mX2_addPart 83 [.ref k, l1, l2, l3, l4, l5, l6, l7, l8, l9, l10, l11] (.ref k :: S) σ) ∧
  (∀ (d : Nat) (σ : Sg) (S : List Value) (l0 l1 l2 l3 l4 l5 l6 l7 l8 l9 l10 l11 : Value), exec d mX2_addPart 83 [l0, l1, l2, l3, l4, l5, l6, l7, l8, l9, l10, l11] (.ref 46 :: S) σ = exec d mX2_addPart 86 [l0, l1, l2, l3, l4, l5, l6, l7, l8, l9, l10, l11] (.ref 47 :: S) σ) ∧
  (∀ (d : Nat) (σ : Sg) (S : List Value) (l0 l1 l2 l3 l4 l5 l6 l8 l9 l10 l11 : Value) (x : Int32), exec d mX2_addPart 86 [l0, l1, l2, l3, l4, l5, l6, .int x, l8, l9, l10, l11] S σ = exec d mX2_addPart 88 [l0, l1, l2, l3, l4, l5, l6, .int x, l8, l9, l10, l11] (.int x :: S) σ) ∧
  (∀ (d : Nat) (σ : Sg) (S : List Value) (l0 l1 l2 l3 l4 l5 l6 l7 l9 l10 l11 : Value) (x : Int32), exec d mX2_addPart 88 [l0, l1, l2, l3, l4, l5, l6, l7, .int x, l9, l10, l11] S σ = exec d mX2_addPart 90 [l0, l1, l2, l3, l4, l5, l6, l7, .int x, l9, l10, l11] (.int x :: S) σ) ∧
  (∀ (d : Nat) (σ : Sg) (S : List Value) (l0 l1 l2 l3 l4 l5 l6 l7 l8 l9 l10 l11 : Value) (x y : Int32), exec d mX2_addPart 90 [l0, l1, l2, l3, l4, l5, l6, l7, l8, l9, l10, l11] (.int y :: .int x :: S) σ = exec d mX2_addPart 91 [l0, l1, l2, l3, l4, l5, l6, l7, l8, l9, l10, l11] (.int (x + y) :: S) σ) ∧
  (∀ (d : Nat) (σ : Sg) (S : List Value) (l0 l1 l2 l3 l5 l6 l7 l8 l9 l10 l11 : Value) (x : Int32), exec d mX2_addPart 91 [l0, l1, l2, l3, .int x, l5, l6, l7, l8, l9, l10, l11] S σ = exec d mX2_addPart 93 [l0, l1, l2, l3, .int x, l5, l6, l7, l8, l9, l10, l11] (.int x :: S) σ) ∧
  (∀ (d : Nat) (σ : Sg) (S : List Value) (l0 l1 l2 l3 l4 l5 l6 l7 l8 l9 l10 l11 : Value) (x y : Int32), exec d mX2_addPart 93 [l0, l1, l2, l3, l4, l5, l6, l7, l8, l9, l10, l11] (.int y :: .int x :: S) σ = exec d mX2_addPart 94 [l0, l1, l2, l3, l4, l5, l6, l7, l8, l9, l10, l11] (.int (x + y) :: S) σ) ∧
  (∀ (d : Nat) (σ : Sg) (S : List Value) (l1 l2 l3 l4 l5 l6 l7 l8 l9 l10 l11 : Value) (k : Nat), exec d mX2_addPart 94 [.ref k, l1, l2, l3, l4, l5, l6, l7, l8, l9, l10, l11] S σ = exec d mX2_addPart 95 [.ref k, l1, l2, l3, l4, l5, l6, l7, l8, l9, l10, l11] (.ref k :: S) σ) ∧
  (∀ (d : Nat) (σ : Sg) (S : List Value) (l0 l1 l2 l3 l4 l5 l6 l7 l8 l9 l10 l11 : Value), exec d mX2_addPart 95 [l0, l1, l2, l3, l4, l5, l6, l7, l8, l9, l10, l11] (.ref 46 :: S) σ = exec d mX2_addPart 98 [l0, l1, l2, l3, l4, l5, l6, l7, l8, l9, l10, l11] (.ref 47 :: S) σ) ∧
  (∀ (d : Nat) (σ : Sg) (S : List Value) (l0 l1 l2 l3 l4 l5 l6 l8 l9 l10 l11 : Value) (x : Int32), exec d mX2_addPart 98 [l0, l1, l2, l3, l4, l5, l6, .int x, l8, l9, l10, l11] S σ = exec d mX2_addPart 100 [l0, l1, l2, l3, l4, l5, l6, .int x, l8, l9, l10, l11] (.int x :: S) σ) ∧
  (∀ (d : Nat) (σ : Sg) (S : List Value) (l0 l1 l2 l3 l4 l5 l6 l7 l9 l10 l11 : Value) (x : Int32), exec d mX2_addPart 100 [l0, l1, l2, l3, l4, l5, l6, l7, .int x, l9, l10, l11] S σ = exec d mX2_addPart 102 [l0, l1, l2, l3, l4, l5, l6, l7, .int x, l9, l10, l11] (.int x :: S) σ) ∧
  (∀ (d : Nat) (σ : Sg) (S : List Value) (l0 l1 l2 l3 l4 l5 l6 l7 l8 l9 l10 l11 : Value) (x y : Int32), exec d mX2_addPart 102 [l0, l1, l2, l3, l4, l5, l6, l7, l8, l9, l10, l11] (.int y :: .int x :: S) σ = exec d mX2_addPart 103 [l0, l1, l2, l3, l4, l5, l6, l7, l8, l9, l10, l11] (.int (x + y) :: S) σ) ∧
  (∀ (d : Nat) (σ : Sg) (S : List Value) (l0 l1 l2 l3 l5 l6 l7 l8 l9 l10 l11 : Value) (x : Int32), exec d mX2_addPart 103 [l0, l1, l2, l3, .int x, l5, l6, l7, l8, l9, l10, l11] S σ = exec d mX2_addPart 105 [l0, l1, l2, l3, .int x, l5, l6, l7, l8, l9, l10, l11] (.int x :: S) σ) ∧
  (∀ (d : Nat) (σ : Sg) (S : List Value) (l0 l1 l2 l3 l4 l5 l6 l7 l8 l9 l10 l11 : Value) (x y : Int32), exec d mX2_addPart 105 [l0, l1, l2, l3, l4, l5, l6, l7, l8, l9, l10, l11] (.int y :: .int x :: S) σ = exec d mX2_addPart 106 [l0, l1, l2, l3, l4, l5, l6, l7, l8, l9, l10, l11] (.int (x + y) :: S) σ) ∧
  (∀ (d : Nat) (σ : Sg) (S : List Value) (l0 l1 l2 l3 l4 l5 l6 l7 l8 l9 l10 l11 : Value) (x : Int32), exec d mX2_addPart 106 [l0, l1, l2, l3, l4, l5, l6, l7, l8, l9, l10, l11] (.int x :: .ref 47 :: S) σ = if inb x 1024 = true then exec d mX2_addPart 107 [l0, l1, l2, l3, l4, l5, l6, l7, l8, l9, l10, l11] (.int (σ 47 x.toNatClampNeg) :: S) σ else none) ∧
  (∀ (d : Nat) (σ : Sg) (S : List Value) (l0 l1 l2 l3 l4 l5 l6 l7 l8 l9 l10 l11 : Value), exec d mX2_addPart 107 [l0, l1, l2, l3, l4, l5, l6, l7, l8, l9, l10, l11] S σ = exec d mX2_addPart 109 [l0, l1, l2, l3, l4, l5, l6, l7, l8, l9, l10, l11] (.int (nI 8) :: S) σ) ∧
  (∀ (d : Nat) (σ : Sg) (S : List Value) (l0 l1 l2 l3 l4 l5 l6 l7 l8 l9 l11 : Value) (x : Int32), exec d mX2_addPart 109 [l0, l1, l2, l3, l4, l5, l6, l7, l8, l9, .int x, l11] S σ = exec d mX2_addPart 111 [l0, l1, l2, l3, l4, l5, l6, l7, l8, l9, .int x, l11] (.int x :: S) σ) ∧
  (∀ (d : Nat) (σ : Sg) (S : List Value) (l0 l1 l2 l3 l4 l5 l6 l7 l8 l9 l10 l11 : Value) (x y : Int32), exec d mX2_addPart 111 [l0, l1, l2, l3, l4, l5, l6, l7, l8, l9, l10, l11] (.int y :: .int x :: S) σ = exec d mX2_addPart 112 [l0, l1, l2, l3, l4, l5, l6, l7, l8, l9, l10, l11] (.int (x * y) :: S) σ) ∧
  (∀ (d : Nat) (σ : Sg) (S : List Value) (l0 l1 l2 l3 l4 l5 l6 l7 l8 l9 l10 : Value) (x : Int32), exec d mX2_addPart 112 [l0, l1, l2, l3, l4, l5, l6, l7, l8, l9, l10, .int x] S σ = exec d mX2_addPart 114 [l0, l1, l2, l3, l4, l5, l6, l7, l8, l9, l10, .int x] (.int x :: S) σ) ∧
  (∀ (d : Nat) (σ : Sg) (S : List Value) (l0 l1 l2 l3 l4 l5 l6 l7 l8 l9 l10 l11 : Value) (x y : Int32), exec d mX2_addPart 114 [l0, l1, l2, l3, l4, l5, l6, l7, l8, l9, l10, l11] (.int y :: .int x :: S) σ = exec d mX2_addPart 115 [l0, l1, l2, l3, l4, l5, l6, l7, l8, l9, l10, l11] (.int (x + y) :: S) σ) ∧
  (∀ (d : Nat) (σ : Sg) (l0 l1 l2 l3 l4 l5 l6 l7 l8 l9 l10 l11 : Value) (x y z0 : Int32), exec d mX2_addPart 115 [l0, l1, l2, l3, l4, l5, l6, l7, l8, l9, l10, l11] (.int y :: .int x :: [.int z0, .ref 47]) σ = exec d mX2_addPart 118 [l0, l1, l2, l3, l4, l5, l6, l7, l8, l9, l10, l11] (.int (if x < y then y else x) :: [.int z0, .ref 47]) σ) ∧
  (∀ (d : Nat) (σ : Sg) (S : List Value) (l0 l1 l2 l3 l4 l5 l6 l7 l8 l9 l10 l11 : Value) (x y : Int32), exec d mX2_addPart 118 [l0, l1, l2, l3, l4, l5, l6, l7, l8, l9, l10, l11] (.int y :: .int x :: .ref 47 :: S) σ = if inb x 1024 = true then exec d mX2_addPart 119 [l0, l1, l2, l3, l4, l5, l6, l7, l8, l9, l10, l11] S (up σ 47 x.toNatClampNeg y) else none) ∧
  (∀ (d : Nat) (σ : Sg) (S : List Value) (l0 l1 l2 l3 l4 l5 l6 l9 l10 l11 : Value) (x y : Int32), exec d mX2_addPart 119 [l0, l1, l2, l3, l4, l5, l6, .int y, .int x, l9, l10, l11] S σ = exec d mX2_addPart 122 [l0, l1, l2, l3, l4, l5, l6, .int y, .int (x + nI 1), l9, l10, l11] S σ) ∧
  (∀ (d : Nat) (σ : Sg) (S : List Value) (l0 l1 l2 l3 l4 l5 l6 l7 l8 l9 l10 l11 : Value), exec d mX2_addPart 122 [l0, l1, l2, l3, l4, l5, l6, l7, l8, l9, l10, l11] S σ = exec d mX2_addPart 19 [l0, l1, l2, l3, l4, l5, l6, l7, l8, l9, l10, l11] S σ) ∧
  (∀ (d : Nat) (σ : Sg) (l0 l1 l2 l3 l4 l5 l6 l7 l8 l9 l10 l11 : Value), exec d mX2_addPart 125 [l0, l1, l2, l3, l4, l5, l6, l7, l8, l9, l10, l11] [] σ = some (none, σ)) :=
  ⟨fun d σ S l0 l1 l2 l3 l4 l5 l6 l7 l8 l9 l10 l11 x => ex_zeq (show decode mX2_addPart.2.1 65 = .ok (.ifCond .eq 10, 3) by decide +kernel) (by decide),
  fun d σ S l0 l1 l2 l3 l4 l5 l6 l7 l8 l9 l10 l11 => ex_bipush (show decode mX2_addPart.2.1 68 = .ok (.bipush 7, 2) by decide +kernel) (by decide +kernel),
  fun d σ S l0 l1 l3 l4 l5 l6 l7 l8 l9 l10 l11 x => ex_iload_n (show decode mX2_addPart.2.1 70 = .ok (.iload_n 2, 1) by decide +kernel) rfl,
  fun d σ S l0 l1 l2 l3 l4 l5 l6 l7 l8 l9 l10 l11 x y => ex_isub (show decode mX2_addPart.2.1 71 = .ok (.isub, 1) by decide +kernel),
  fun d σ S l0 l1 l2 l3 l4 l5 l6 l7 l8 l9 l10 l11 => ex_goto (show decode mX2_addPart.2.1 72 = .ok (.goto 8, 3) by decide +kernel) (by decide),
  fun d σ S l0 l1 l2 l3 l4 l5 l6 l7 l8 l10 l11 x => ex_iload (show decode mX2_addPart.2.1 75 = .ok (.iload 9, 2) by decide +kernel) rfl,
  fun d σ S l0 l1 l2 l3 l4 l5 l6 l7 l8 l9 l10 l11 => ex_bipush (show decode mX2_addPart.2.1 77 = .ok (.bipush 7, 2) by decide +kernel) (by decide +kernel),
  fun d σ S l0 l1 l2 l3 l4 l5 l6 l7 l8 l9 l10 l11 x y => ex_iand (show decode mX2_addPart.2.1 79 = .ok (.iand, 1) by decide +kernel),
  fun d σ S l0 l1 l2 l3 l4 l5 l6 l7 l8 l9 l11 x y => ex_istore (show decode mX2_addPart.2.1 80 = .ok (.istore 11, 2) by decide +kernel) (Nat.le_of_ble_eq_true rfl) rfl,
  fun d σ S l1 l2 l3 l4 l5 l6 l7 l8 l9 l10 l11 k => ex_aload_n (show decode mX2_addPart.2.1 82 = .ok (.aload_n 0, 1) by decide +kernel) rfl,
  fun d σ S l0 l1 l2 l3 l4 l5 l6 l7 l8 l9 l10 l11 => ex_getr (idx := 11) (ci := 2) (ff := 0) (n := 6) (hh := 295) (by decide +kernel),
  fun d σ S l0 l1 l2 l3 l4 l5 l6 l8 l9 l10 l11 x => ex_iload (show decode mX2_addPart.2.1 86 = .ok (.iload 7, 2) by decide +kernel) rfl,
  fun d σ S l0 l1 l2 l3 l4 l5 l6 l7 l9 l10 l11 x => ex_iload (show decode mX2_addPart.2.1 88 = .ok (.iload 8, 2) by decide +kernel) rfl,
  fun d σ S l0 l1 l2 l3 l4 l5 l6 l7 l8 l9 l10 l11 x y => ex_iadd (show decode mX2_addPart.2.1 90 = .ok (.iadd, 1) by decide +kernel),
  fun d σ S l0 l1 l2 l3 l5 l6 l7 l8 l9 l10 l11 x => ex_iload (show decode mX2_addPart.2.1 91 = .ok (.iload 4, 2) by decide +kernel) rfl,
  fun d σ S l0 l1 l2 l3 l4 l5 l6 l7 l8 l9 l10 l11 x y => ex_iadd (show decode mX2_addPart.2.1 93 = .ok (.iadd, 1) by decide +kernel),
  fun d σ S l1 l2 l3 l4 l5 l6 l7 l8 l9 l10 l11 k => ex_aload_n (show decode mX2_addPart.2.1 94 = .ok (.aload_n 0, 1) by decide +kernel) rfl,
  fun d σ S l0 l1 l2 l3 l4 l5 l6 l7 l8 l9 l10 l11 => ex_getr (idx := 11) (ci := 2) (ff := 0) (n := 6) (hh := 295) (by decide +kernel),
  fun d σ S l0 l1 l2 l3 l4 l5 l6 l8 l9 l10 l11 x => ex_iload (show decode mX2_addPart.2.1 98 = .ok (.iload 7, 2) by decide +kernel) rfl,
  fun d σ S l0 l1 l2 l3 l4 l5 l6 l7 l9 l10 l11 x => ex_iload (show decode mX2_addPart.2.1 100 = .ok (.iload 8, 2) by decide +kernel) rfl,
  fun d σ S l0 l1 l2 l3 l4 l5 l6 l7 l8 l9 l10 l11 x y => ex_iadd (show decode mX2_addPart.2.1 102 = .ok (.iadd, 1) by decide +kernel),
  fun d σ S l0 l1 l2 l3 l5 l6 l7 l8 l9 l10 l11 x => ex_iload (show decode mX2_addPart.2.1 103 = .ok (.iload 4, 2) by decide +kernel) rfl,
  fun d σ S l0 l1 l2 l3 l4 l5 l6 l7 l8 l9 l10 l11 x y => ex_iadd (show decode mX2_addPart.2.1 105 = .ok (.iadd, 1) by decide +kernel),
  fun d σ S l0 l1 l2 l3 l4 l5 l6 l7 l8 l9 l10 l11 x => ex_iald (by decide +kernel),
  fun d σ S l0 l1 l2 l3 l4 l5 l6 l7 l8 l9 l10 l11 => ex_bipush (show decode mX2_addPart.2.1 107 = .ok (.bipush 8, 2) by decide +kernel) (by decide +kernel),
  fun d σ S l0 l1 l2 l3 l4 l5 l6 l7 l8 l9 l11 x => ex_iload (show decode mX2_addPart.2.1 109 = .ok (.iload 10, 2) by decide +kernel) rfl,
  fun d σ S l0 l1 l2 l3 l4 l5 l6 l7 l8 l9 l10 l11 x y => ex_imul (show decode mX2_addPart.2.1 111 = .ok (.imul, 1) by decide +kernel),
  fun d σ S l0 l1 l2 l3 l4 l5 l6 l7 l8 l9 l10 x => ex_iload (show decode mX2_addPart.2.1 112 = .ok (.iload 11, 2) by decide +kernel) rfl,
  fun d σ S l0 l1 l2 l3 l4 l5 l6 l7 l8 l9 l10 l11 x y => ex_iadd (show decode mX2_addPart.2.1 114 = .ok (.iadd, 1) by decide +kernel),
  fun d σ l0 l1 l2 l3 l4 l5 l6 l7 l8 l9 l10 l11 x y z0 => ex_max (hh := 654) (show decode mX2_addPart.2.1 115 = .ok (.invokestatic 89, 3) by decide +kernel) (by decide +kernel) (by decide +kernel) (Nat.le_of_ble_eq_true rfl),
  fun d σ S l0 l1 l2 l3 l4 l5 l6 l7 l8 l9 l10 l11 x y => ex_iast (by decide +kernel),
  fun d σ S l0 l1 l2 l3 l4 l5 l6 l9 l10 l11 x y => ex_iinc (show decode mX2_addPart.2.1 119 = .ok (.iinc 8 1, 3) by decide +kernel) rfl (by decide +kernel) (Nat.le_of_ble_eq_true rfl) rfl,
  fun d σ S l0 l1 l2 l3 l4 l5 l6 l7 l8 l9 l10 l11 => ex_goto (show decode mX2_addPart.2.1 122 = .ok (.goto (-103), 3) by decide +kernel) (by decide),
  fun d σ l0 l1 l2 l3 l4 l5 l6 l7 l8 l9 l10 l11 => ex_vret (show decode mX2_addPart.2.1 125 = .ok (.return_, 1) by decide +kernel) rfl⟩
theorem hX2_addPart_19 : ∀ (d : Nat) (σ : Sg) (S : List Value) (l0 l1 l2 l3 l4 l5 l6 l7 l9 l10 l11 : Value) (x : Int32), exec d mX2_addPart 19 [l0, l1, l2, l3, l4, l5, l6, l7, .int x, l9, l10, l11] S σ = exec d mX2_addPart 21 [l0, l1, l2, l3, l4, l5, l6, l7, .int x, l9, l10, l11] (.int x :: S) σ := fun d σ S l0 l1 l2 l3 l4 l5 l6 l7 l9 l10 l11 x => ex_iload (show decode mX2_addPart.2.1 19 = .ok (.iload 8, 2) by decide +kernel) rfl
theorem aX2_addPart_46 : ∀ (d : Nat) (a1 : Int32) (a2 : Int32) (a3 : Int32) (a4 : Int32) (a5 : Int32) (σ : Sg), cal (d + 1) mX2_addPart [.ref 46, .int a1, .int a2, .int a3, .int a4, .int a5] σ = exec d mX2_addPart 0 [.ref 46, .int a1, .int a2, .int a3, .int a4, .int a5, uu, uu, uu, uu, uu, uu] [] σ := fun _ _ _ _ _ _ _ => rfl
theorem kX2_conclude_0 : (∀ (d : Nat) (σ : Sg) (S : List Value) (l1 l2 l3 : Value) (k : Nat), exec d mX2_conclude 0 [.ref k, l1, l2, l3] S σ = exec d mX2_conclude 1 [.ref k, l1, l2, l3] (.ref k :: S) σ) ∧
  (∀ (d : Nat) (σ : Sg) (S : List Value) (l0 l1 l2 l3 : Value), exec d mX2_conclude 1 [l0, l1, l2, l3] S σ = exec d mX2_conclude 2 [l0, l1, l2, l3] (.int (nI 0) :: S) σ) ∧
  (∀ (d : Nat) (σ : Sg) (S : List Value) (l0 l1 l2 l3 : Value) (x : Int32), exec d mX2_conclude 2 [l0, l1, l2, l3] (.int x :: .ref 46 :: S) σ = if b01 x = true then exec d mX2_conclude 5 [l0, l1, l2, l3] S (up σ 46 2 x) else none) ∧
  (∀ (d : Nat) (σ : Sg) (S : List Value) (l0 l1 l2 l3 : Value), exec d mX2_conclude 5 [l0, l1, l2, l3] S σ = exec d mX2_conclude 6 [l0, l1, l2, l3] (.int (nI 0) :: S) σ) ∧
  (∀ (d : Nat) (σ : Sg) (S : List Value) (l0 l2 l3 : Value) (x y : Int32), exec d mX2_conclude 6 [l0, .int y, l2, l3] (.int x :: S) σ = exec d mX2_conclude 7 [l0, .int y, .int x, l3] S σ) ∧
  (∀ (d : Nat) (σ : Sg) (S : List Value) (l0 l1 l2 l3 : Value), exec d mX2_conclude 8 [l0, l1, l2, l3] S σ = exec d mX2_conclude 10 [l0, l1, l2, l3] (.int (nI 8) :: S) σ) ∧
  (∀ (d : Nat) (σ : Sg) (S : List Value) (l0 l1 l2 l3 : Value) (x y : Int32), exec d mX2_conclude 10 [l0, l1, l2, l3] (.int y :: .int x :: S) σ = if y ≤ x then exec d mX2_conclude 71 [l0, l1, l2, l3] S σ else exec d mX2_conclude 13 [l0, l1, l2, l3] S σ) ∧
  (∀ (d : Nat) (σ : Sg) (S : List Value) (l1 l2 l3 : Value) (k : Nat), exec d mX2_conclude 13 [.ref k, l1, l2, l3] S σ = exec d mX2_conclude 14 [.ref k, l1, l2, l3] (.ref k :: S) σ) ∧
  (∀ (d : Nat) (σ : Sg) (S : List Value) (l0 l1 l2 l3 : Value), exec d mX2_conclude 14 [l0, l1, l2, l3] (.ref 46 :: S) σ = exec d mX2_conclude 17 [l0, l1, l2, l3] (.int (σ 46 2) :: S) σ) ∧
  (∀ (d : Nat) (σ : Sg) (S : List Value) (l0 l1 l2 l3 : Value) (x : Int32), exec d mX2_conclude 17 [l0, l1, l2, l3] (.int x :: S) σ = if x = nI 0 then exec d mX2_conclude 20 [l0, l1, l2, l3] S σ else exec d mX2_conclude 71 [l0, l1, l2, l3] S σ) ∧
  (∀ (d : Nat) (σ : Sg) (S : List Value) (l1 l2 l3 : Value) (k : Nat), exec d mX2_conclude 20 [.ref k, l1, l2, l3] S σ = exec d mX2_conclude 21 [.ref k, l1, l2, l3] (.ref k :: S) σ) ∧
  (∀ (d : Nat) (σ : Sg) (S : List Value) (l0 l1 l2 l3 : Value), exec d mX2_conclude 21 [l0, l1, l2, l3] (.ref 46 :: S) σ = exec d mX2_conclude 24 [l0, l1, l2, l3] (.ref 47 :: S) σ) ∧
  (∀ (d : Nat) (σ : Sg) (S : List Value) (l0 l2 l3 : Value) (x : Int32), exec d mX2_conclude 24 [l0, .int x, l2, l3] S σ = exec d mX2_conclude 25 [l0, .int x, l2, l3] (.int x :: S) σ) ∧
  (∀ (d : Nat) (σ : Sg) (S : List Value) (l0 l1 l2 l3 : Value), exec d mX2_conclude 25 [l0, l1, l2, l3] S σ = exec d mX2_conclude 27 [l0, l1, l2, l3] (.int (nI 8) :: S) σ) ∧
  (∀ (d : Nat) (σ : Sg) (S : List Value) (l0 l1 l2 l3 : Value) (x y : Int32), exec d mX2_conclude 27 [l0, l1, l2, l3] (.int y :: .int x :: S) σ = exec d mX2_conclude 28 [l0, l1, l2, l3] (.int (x * y) :: S) σ) ∧
  (∀ (d : Nat) (σ : Sg) (S : List Value) (l0 l1 l3 : Value) (x : Int32), exec d mX2_conclude 28 [l0, l1, .int x, l3] S σ = exec d mX2_conclude 29 [l0, l1, .int x, l3] (.int x :: S) σ) ∧
  (∀ (d : Nat) (σ : Sg) (S : List Value) (l0 l1 l2 l3 : Value) (x y : Int32), exec d mX2_conclude 29 [l0, l1, l2, l3] (.int y :: .int x :: S) σ = exec d mX2_conclude 30 [l0, l1, l2, l3] (.int (x + y) :: S) σ) ∧
  (∀ (d : Nat) (σ : Sg) (S : List Value) (l0 l1 l2 l3 : Value) (x : Int32), exec d mX2_conclude 30 [l0, l1, l2, l3] (.int x :: .ref 47 :: S) σ = if inb x 1024 = true then exec d mX2_conclude 31 [l0, l1, l2, l3] (.int (σ 47 x.toNatClampNeg) :: S) σ else none) ∧
  (∀ (d : Nat) (σ : Sg) (S : List Value) (l0 l1 l3 : Value) (x y : Int32), exec d mX2_conclude 31 [l0, l1, .int y, l3] (.int x :: S) σ = exec d mX2_conclude 32 [l0, l1, .int y, .int x] S σ) ∧
  (∀ (d : Nat) (σ : Sg) (S : List Value) (l0 l1 l2 : Value) (x : Int32), exec d mX2_conclude 32 [l0, l1, l2, .int x] S σ = exec d mX2_conclude 33 [l0, l1, l2, .int x] (.int x :: S) σ) ∧
  (∀ (d : Nat) (σ : Sg) (S : List Value) (l0 l1 l2 l3 : Value), exec d mX2_conclude 33 [l0, l1, l2, l3] S σ = exec d mX2_conclude 34 [l0, l1, l2, l3] (.int ((-1)) :: S) σ) ∧
  (∀ (d : Nat) (σ : Sg) (S : List Value) (l0 l1 l2 l3 : Value) (x y : Int32), exec d mX2_conclude 34 [l0, l1, l2, l3] (.int y :: .int x :: S) σ = if x = y then exec d mX2_conclude 65 [l0, l1, l2, l3] S σ else exec d mX2_conclude 37 [l0, l1, l2, l3] S σ) ∧
  (∀ (d : Nat) (σ : Sg) (S : List Value) (l1 l2 l3 : Value) (k : Nat), exec d mX2_conclude 37 [.ref k, l1, l2, l3] S σ = exec d mX2_conclude 38 [.ref k, l1, l2, l3] (.ref k :: S) σ) ∧
  (∀ (d : Nat) (σ : Sg) (S : List Value) (l0 l1 l2 l3 : Value), exec d mX2_conclude 38 [l0, l1, l2, l3] S σ = exec d mX2_conclude 39 [l0, l1, l2, l3] (.int (nI 1) :: S) σ) ∧
  (∀ (d : Nat) (σ : Sg) (S : List Value) (l0 l1 l2 l3 : Value) (x : Int32), exec d mX2_conclude 39 [l0, l1, l2, l3] (.int x :: .ref 46 :: S) σ = if b01 x = true then exec d mX2_conclude 42 [l0, l1, l2, l3] S (up σ 46 2 x) else none) ∧
  (∀ (d : Nat) (σ : Sg) (S : List Value) (l1 l2 l3 : Value) (k : Nat), exec d mX2_conclude 42 [.ref k, l1, l2, l3] S σ = exec d mX2_conclude 43 [.ref k, l1, l2, l3] (.ref k :: S) σ) ∧
  (∀ (d : Nat) (σ : Sg) (S : List Value) (l0 l1 l3 : Value) (x : Int32), exec d mX2_conclude 43 [l0, l1, .int x, l3] S σ = exec d mX2_conclude 44 [l0, l1, .int x, l3] (.int x :: S) σ) ∧
  (∀ (d : Nat) (σ : Sg) (S : List Value) (l0 l1 l2 l3 : Value) (x : Int32), exec d mX2_conclude 44 [l0, l1, l2, l3] (.int x :: .ref 46 :: S) σ = exec d mX2_conclude 47 [l0, l1, l2, l3] S (up σ 46 3 x)) ∧
  (∀ (d : Nat) (σ : Sg) (S : List Value) (l1 l2 l3 : Value) (k : Nat), exec d mX2_conclude 47 [.ref k, l1, l2, l3] S σ = exec d mX2_conclude 48 [.ref k, l1, l2, l3] (.ref k :: S) σ) ∧
  (∀ (d : Nat) (σ : Sg) (S : List Value) (l0 l1 l2 : Value) (x : Int32), exec d mX2_conclude 48 [l0, l1, l2, .int x] S σ = exec d mX2_conclude 49 [l0, l1, l2, .int x] (.int x :: S) σ) ∧
  (∀ (d : Nat) (σ : Sg) (S : List Value) (l0 l1 l2 l3 : Value), exec d mX2_conclude 49 [l0, l1, l2, l3] S σ = exec d mX2_conclude 50 [l0, l1, l2, l3] (.int (nI 3) :: S) σ) ∧
  (∀ (d : Nat) (σ : Sg) (S : List Value) (l0 l1 l2 l3 : Value) (x y : Int32), exec d mX2_conclude 50 [l0, l1, l2, l3] (.int y :: .int x :: S) σ = exec d mX2_conclude 51 [l0, l1, l2, l3] (.int (x >>> (y &&& 31)) :: S) σ) ∧
  (∀ (d : Nat) (σ : Sg) (S : List Value) (l0 l1 l2 l3 : Value) (x : Int32), exec d mX2_conclude 51 [l0, l1, l2, l3] (.int x :: .ref 46 :: S) σ = exec d mX2_conclude 54 [l0, l1, l2, l3] S (up σ 46 4 x)) ∧
  (∀ (d : Nat) (σ : Sg) (S : List Value) (l1 l2 l3 : Value) (k : Nat), exec d mX2_conclude 54 [.ref k, l1, l2, l3] S σ = exec d mX2_conclude 55 [.ref k, l1, l2, l3] (.ref k :: S) σ) ∧
  (∀ (d : Nat) (σ : Sg) (S : List Value) (l0 l1 l2 l3 : Value), exec d mX2_conclude 55 [l0, l1, l2, l3] S σ = exec d mX2_conclude 57 [l0, l1, l2, l3] (.int (nI 7) :: S) σ) ∧
  (∀ (d : Nat) (σ : Sg) (S : List Value) (l0 l1 l2 : Value) (x : Int32), exec d mX2_conclude 57 [l0, l1, l2, .int x] S σ = exec d mX2_conclude 58 [l0, l1, l2, .int x] (.int x :: S) σ) ∧
  (∀ (d : Nat) (σ : Sg) (S : List Value) (l0 l1 l2 l3 : Value), exec d mX2_conclude 58 [l0, l1, l2, l3] S σ = exec d mX2_conclude 60 [l0, l1, l2, l3] (.int (nI 7) :: S) σ) ∧
  (∀ (d : Nat) (σ : Sg) (S : List Value) (l0 l1 l2 l3 : Value) (x y : Int32), exec d mX2_conclude 60 [l0, l1, l2, l3] (.int y :: .int x :: S) σ = exec d mX2_conclude 61 [l0, l1, l2, l3] (.int (x &&& y) :: S) σ) ∧
  (∀ (d : Nat) (σ : Sg) (S : List Value) (l0 l1 l2 l3 : Value) (x y : Int32), exec d mX2_conclude 61 [l0, l1, l2, l3] (.int y :: .int x :: S) σ = exec d mX2_conclude 62 [l0, l1, l2, l3] (.int (x - y) :: S) σ) ∧
  (∀ (d : Nat) (σ : Sg) (S : List Value) (l0 l1 l2 l3 : Value) (x : Int32), exec d mX2_conclude 62 [l0, l1, l2, l3] (.int x :: .ref 46 :: S) σ = exec d mX2_conclude 65 [l0, l1, l2, l3] S (up σ 46 5 x)) :=
  ⟨fun d σ S l1 l2 l3 k => ex_aload_n (show decode mX2_conclude.2.1 0 = .ok (.aload_n 0, 1) by decide +kernel) rfl,
  fun d σ S l0 l1 l2 l3 => ex_iconst (show decode mX2_conclude.2.1 1 = .ok (.iconst 0, 1) by decide +kernel) (by decide +kernel),
  fun d σ S l0 l1 l2 l3 x => ex_putz (idx := 94) (ci := 2) (ff := 2) (n := 6) (hh := 298) (by decide +kernel),
  fun d σ S l0 l1 l2 l3 => ex_iconst (show decode mX2_conclude.2.1 5 = .ok (.iconst 0, 1) by decide +kernel) (by decide +kernel),
  fun d σ S l0 l2 l3 x y => ex_istore_n (show decode mX2_conclude.2.1 6 = .ok (.istore_n 2, 1) by decide +kernel) (Nat.le_of_ble_eq_true rfl) rfl,
  fun d σ S l0 l1 l2 l3 => ex_bipush (show decode mX2_conclude.2.1 8 = .ok (.bipush 8, 2) by decide +kernel) (by decide +kernel),
  fun d σ S l0 l1 l2 l3 x y => ex_cge (show decode mX2_conclude.2.1 10 = .ok (.if_icmp .ge 61, 3) by decide +kernel) (by decide),
  fun d σ S l1 l2 l3 k => ex_aload_n (show decode mX2_conclude.2.1 13 = .ok (.aload_n 0, 1) by decide +kernel) rfl,
  fun d σ S l0 l1 l2 l3 => ex_get (idx := 94) (ci := 2) (ff := 2) (n := 6) (hh := 298) (by decide +kernel),
  fun d σ S l0 l1 l2 l3 x => ex_zne (show decode mX2_conclude.2.1 17 = .ok (.ifCond .ne 54, 3) by decide +kernel) (by decide),
  fun d σ S l1 l2 l3 k => ex_aload_n (show decode mX2_conclude.2.1 20 = .ok (.aload_n 0, 1) by decide +kernel) rfl,
  fun d σ S l0 l1 l2 l3 => ex_getr (idx := 11) (ci := 2) (ff := 0) (n := 6) (hh := 295) (by decide +kernel),
  fun d σ S l0 l2 l3 x => ex_iload_n (show decode mX2_conclude.2.1 24 = .ok (.iload_n 1, 1) by decide +kernel) rfl,
  fun d σ S l0 l1 l2 l3 => ex_bipush (show decode mX2_conclude.2.1 25 = .ok (.bipush 8, 2) by decide +kernel) (by decide +kernel),
  fun d σ S l0 l1 l2 l3 x y => ex_imul (show decode mX2_conclude.2.1 27 = .ok (.imul, 1) by decide +kernel),
  fun d σ S l0 l1 l3 x => ex_iload_n (show decode mX2_conclude.2.1 28 = .ok (.iload_n 2, 1) by decide +kernel) rfl,
  fun d σ S l0 l1 l2 l3 x y => ex_iadd (show decode mX2_conclude.2.1 29 = .ok (.iadd, 1) by decide +kernel),
  fun d σ S l0 l1 l2 l3 x => ex_iald (by decide +kernel),
  fun d σ S l0 l1 l3 x y => ex_istore_n (show decode mX2_conclude.2.1 31 = .ok (.istore_n 3, 1) by decide +kernel) (Nat.le_of_ble_eq_true rfl) rfl,
  fun d σ S l0 l1 l2 x => ex_iload_n (show decode mX2_conclude.2.1 32 = .ok (.iload_n 3, 1) by decide +kernel) rfl,
  fun d σ S l0 l1 l2 l3 => ex_iconst (show decode mX2_conclude.2.1 33 = .ok (.iconst (-1), 1) by decide +kernel) (by decide +kernel),
  fun d σ S l0 l1 l2 l3 x y => ex_ceq (show decode mX2_conclude.2.1 34 = .ok (.if_icmp .eq 31, 3) by decide +kernel) (by decide),
  fun d σ S l1 l2 l3 k => ex_aload_n (show decode mX2_conclude.2.1 37 = .ok (.aload_n 0, 1) by decide +kernel) rfl,
  fun d σ S l0 l1 l2 l3 => ex_iconst (show decode mX2_conclude.2.1 38 = .ok (.iconst 1, 1) by decide +kernel) (by decide +kernel),
  fun d σ S l0 l1 l2 l3 x => ex_putz (idx := 94) (ci := 2) (ff := 2) (n := 6) (hh := 298) (by decide +kernel),
  fun d σ S l1 l2 l3 k => ex_aload_n (show decode mX2_conclude.2.1 42 = .ok (.aload_n 0, 1) by decide +kernel) rfl,
  fun d σ S l0 l1 l3 x => ex_iload_n (show decode mX2_conclude.2.1 43 = .ok (.iload_n 2, 1) by decide +kernel) rfl,
  fun d σ S l0 l1 l2 l3 x => ex_put (idx := 98) (ci := 2) (ff := 3) (n := 6) (hh := 300) (by decide +kernel),
  fun d σ S l1 l2 l3 k => ex_aload_n (show decode mX2_conclude.2.1 47 = .ok (.aload_n 0, 1) by decide +kernel) rfl,
  fun d σ S l0 l1 l2 x => ex_iload_n (show decode mX2_conclude.2.1 48 = .ok (.iload_n 3, 1) by decide +kernel) rfl,
  fun d σ S l0 l1 l2 l3 => ex_iconst (show decode mX2_conclude.2.1 49 = .ok (.iconst 3, 1) by decide +kernel) (by decide +kernel),
  fun d σ S l0 l1 l2 l3 x y => ex_ishr (show decode mX2_conclude.2.1 50 = .ok (.ishr, 1) by decide +kernel),
  fun d σ S l0 l1 l2 l3 x => ex_put (idx := 101) (ci := 2) (ff := 4) (n := 6) (hh := 302) (by decide +kernel),
  fun d σ S l1 l2 l3 k => ex_aload_n (show decode mX2_conclude.2.1 54 = .ok (.aload_n 0, 1) by decide +kernel) rfl,
  fun d σ S l0 l1 l2 l3 => ex_bipush (show decode mX2_conclude.2.1 55 = .ok (.bipush 7, 2) by decide +kernel) (by decide +kernel),
  fun d σ S l0 l1 l2 x => ex_iload_n (show decode mX2_conclude.2.1 57 = .ok (.iload_n 3, 1) by decide +kernel) rfl,
  fun d σ S l0 l1 l2 l3 => ex_bipush (show decode mX2_conclude.2.1 58 = .ok (.bipush 7, 2) by decide +kernel) (by decide +kernel),
  fun d σ S l0 l1 l2 l3 x y => ex_iand (show decode mX2_conclude.2.1 60 = .ok (.iand, 1) by decide +kernel),
  fun d σ S l0 l1 l2 l3 x y => ex_isub (show decode mX2_conclude.2.1 61 = .ok (.isub, 1) by decide +kernel),
  fun d σ S l0 l1 l2 l3 x => ex_put (idx := 102) (ci := 2) (ff := 5) (n := 6) (hh := 304) (by decide +kernel)⟩
theorem kX2_conclude_1 : (∀ (d : Nat) (σ : Sg) (S : List Value) (l0 l3 : Value) (x y : Int32), exec d mX2_conclude 65 [l0, .int y, .int x, l3] S σ = exec d mX2_conclude 68 [l0, .int y, .int (x + nI 1), l3] S σ) ∧
  (∀ (d : Nat) (σ : Sg) (S : List Value) (l0 l1 l2 l3 : Value), exec d mX2_conclude 68 [l0, l1, l2, l3] S σ = exec d mX2_conclude 7 [l0, l1, l2, l3] S σ) ∧
  (∀ (d : Nat) (σ : Sg) (l0 l1 l2 l3 : Value), exec d mX2_conclude 71 [l0, l1, l2, l3] [] σ = some (none, σ)) :=
  ⟨fun d σ S l0 l3 x y => ex_iinc (show decode mX2_conclude.2.1 65 = .ok (.iinc 2 1, 3) by decide +kernel) rfl (by decide +kernel) (Nat.le_of_ble_eq_true rfl) rfl,
  fun d σ S l0 l1 l2 l3 => ex_goto (show decode mX2_conclude.2.1 68 = .ok (.goto (-61), 3) by decide +kernel) (by decide),
  fun d σ l0 l1 l2 l3 => ex_vret (show decode mX2_conclude.2.1 71 = .ok (.return_, 1) by decide +kernel) rfl⟩
theorem hX2_conclude_7 : ∀ (d : Nat) (σ : Sg) (S : List Value) (l0 l1 l3 : Value) (x : Int32), exec d mX2_conclude 7 [l0, l1, .int x, l3] S σ = exec d mX2_conclude 8 [l0, l1, .int x, l3] (.int x :: S) σ := fun d σ S l0 l1 l3 x => ex_iload_n (show decode mX2_conclude.2.1 7 = .ok (.iload_n 2, 1) by decide +kernel) rfl
theorem aX2_conclude_46 : ∀ (d : Nat) (a1 : Int32) (σ : Sg), cal (d + 1) mX2_conclude [.ref 46, .int a1] σ = exec d mX2_conclude 0 [.ref 46, .int a1, uu, uu] [] σ := fun _ _ _ => rfl
