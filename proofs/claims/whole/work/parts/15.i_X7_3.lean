/-! generated: the instructions of GuildPieceModel -/
theorem kX7_whereIs_0 : (∀ (d : Nat) (σ : Sg) (S : List Value) (l1 l2 l3 l4 l5 l6 l7 l8 l9 : Value) (k : Nat), exec d mX7_whereIs 0 [.ref k, l1, l2, l3, l4, l5, l6, l7, l8, l9] S σ = exec d mX7_whereIs 1 [.ref k, l1, l2, l3, l4, l5, l6, l7, l8, l9] (.ref k :: S) σ) ∧
  (∀ (d : Nat) (σ : Sg) (l0 l1 l2 l3 l4 l5 l6 l7 l8 l9 : Value), exec d mX7_whereIs 1 [l0, l1, l2, l3, l4, l5, l6, l7, l8, l9] [.ref 50] σ = kb (cal d mX7_isTrial [.ref 50] σ) (fun rs σ2 => exec d mX7_whereIs 4 [l0, l1, l2, l3, l4, l5, l6, l7, l8, l9] (rs ++ []) σ2)) ∧
  (∀ (d : Nat) (σ : Sg) (S : List Value) (l0 l1 l2 l3 l4 l5 l6 l7 l8 l9 : Value) (x : Int32), exec d mX7_whereIs 4 [l0, l1, l2, l3, l4, l5, l6, l7, l8, l9] (.int x :: S) σ = if x = nI 0 then exec d mX7_whereIs 7 [l0, l1, l2, l3, l4, l5, l6, l7, l8, l9] S σ else exec d mX7_whereIs 10 [l0, l1, l2, l3, l4, l5, l6, l7, l8, l9] S σ) ∧
  (∀ (d : Nat) (σ : Sg) (S : List Value) (l0 l1 l2 l3 l4 l5 l6 l7 l8 l9 : Value), exec d mX7_whereIs 7 [l0, l1, l2, l3, l4, l5, l6, l7, l8, l9] S σ = exec d mX7_whereIs 9 [l0, l1, l2, l3, l4, l5, l6, l7, l8, l9] (.int ((-1000002)) :: S) σ) ∧
  (∀ (d : Nat) (σ : Sg) (l0 l1 l2 l3 l4 l5 l6 l7 l8 l9 : Value) (x : Int32), exec d mX7_whereIs 9 [l0, l1, l2, l3, l4, l5, l6, l7, l8, l9] [.int x] σ = some (some (.int x), σ)) ∧
  (∀ (d : Nat) (σ : Sg) (S : List Value) (l0 l2 l3 l4 l5 l6 l7 l8 l9 : Value) (x : Int32), exec d mX7_whereIs 10 [l0, .int x, l2, l3, l4, l5, l6, l7, l8, l9] S σ = exec d mX7_whereIs 11 [l0, .int x, l2, l3, l4, l5, l6, l7, l8, l9] (.int x :: S) σ) ∧
  (∀ (d : Nat) (σ : Sg) (l0 l1 l2 l3 l4 l5 l6 l7 l8 l9 : Value) (x0 : Int32), exec d mX7_whereIs 11 [l0, l1, l2, l3, l4, l5, l6, l7, l8, l9] [.int x0] σ = kb (cal d mX7_isRow [.int x0] σ) (fun rs σ2 => exec d mX7_whereIs 14 [l0, l1, l2, l3, l4, l5, l6, l7, l8, l9] (rs ++ []) σ2)) ∧
  (∀ (d : Nat) (σ : Sg) (S : List Value) (l0 l1 l2 l3 l4 l5 l6 l7 l8 l9 : Value) (x : Int32), exec d mX7_whereIs 14 [l0, l1, l2, l3, l4, l5, l6, l7, l8, l9] (.int x :: S) σ = if x = nI 0 then exec d mX7_whereIs 27 [l0, l1, l2, l3, l4, l5, l6, l7, l8, l9] S σ else exec d mX7_whereIs 17 [l0, l1, l2, l3, l4, l5, l6, l7, l8, l9] S σ) ∧
  (∀ (d : Nat) (σ : Sg) (S : List Value) (l0 l1 l2 l4 l5 l6 l7 l8 l9 : Value) (x : Int32), exec d mX7_whereIs 17 [l0, l1, l2, .int x, l4, l5, l6, l7, l8, l9] S σ = exec d mX7_whereIs 18 [l0, l1, l2, .int x, l4, l5, l6, l7, l8, l9] (.int x :: S) σ) ∧
  (∀ (d : Nat) (σ : Sg) (S : List Value) (l0 l1 l2 l3 l4 l5 l6 l7 l8 l9 : Value) (x : Int32), exec d mX7_whereIs 18 [l0, l1, l2, l3, l4, l5, l6, l7, l8, l9] (.int x :: S) σ = exec d mX7_whereIs 19 [l0, l1, l2, l3, l4, l5, l6, l7, l8, l9] (.long x.toInt64 :: S) σ) ∧
  (∀ (d : Nat) (σ : Sg) (S : List Value) (l0 l1 l2 l3 l4 l5 l6 l7 l8 l9 : Value), exec d mX7_whereIs 19 [l0, l1, l2, l3, l4, l5, l6, l7, l8, l9] S σ = exec d mX7_whereIs 20 [l0, l1, l2, l3, l4, l5, l6, l7, l8, l9] (.long (lN 0) :: S) σ) ∧
  (∀ (d : Nat) (σ : Sg) (S : List Value) (l0 l1 l2 l3 l4 l5 l6 l7 l8 l9 : Value), exec d mX7_whereIs 20 [l0, l1, l2, l3, l4, l5, l6, l7, l8, l9] S σ = exec d mX7_whereIs 21 [l0, l1, l2, l3, l4, l5, l6, l7, l8, l9] (.long (lN 1) :: S) σ) ∧
  (∀ (d : Nat) (σ : Sg) (l0 l1 l2 l3 l4 l5 l6 l7 l8 l9 : Value) (x0 x1 x2 : Int64), exec d mX7_whereIs 21 [l0, l1, l2, l3, l4, l5, l6, l7, l8, l9] [.long x0, .long x1, .long x2] σ = kb (cal d mX7_in [.long x2, .long x1, .long x0] σ) (fun rs σ2 => exec d mX7_whereIs 24 [l0, l1, l2, l3, l4, l5, l6, l7, l8, l9] (rs ++ []) σ2)) ∧
  (∀ (d : Nat) (σ : Sg) (S : List Value) (l0 l1 l2 l3 l4 l5 l6 l7 l8 l9 : Value) (x : Int32), exec d mX7_whereIs 24 [l0, l1, l2, l3, l4, l5, l6, l7, l8, l9] (.int x :: S) σ = if x = nI 0 then exec d mX7_whereIs 27 [l0, l1, l2, l3, l4, l5, l6, l7, l8, l9] S σ else exec d mX7_whereIs 30 [l0, l1, l2, l3, l4, l5, l6, l7, l8, l9] S σ) ∧
  (∀ (d : Nat) (σ : Sg) (S : List Value) (l0 l1 l2 l3 l4 l5 l6 l7 l8 l9 : Value), exec d mX7_whereIs 27 [l0, l1, l2, l3, l4, l5, l6, l7, l8, l9] S σ = exec d mX7_whereIs 29 [l0, l1, l2, l3, l4, l5, l6, l7, l8, l9] (.int ((-1000001)) :: S) σ) ∧
  (∀ (d : Nat) (σ : Sg) (l0 l1 l2 l3 l4 l5 l6 l7 l8 l9 : Value) (x : Int32), exec d mX7_whereIs 29 [l0, l1, l2, l3, l4, l5, l6, l7, l8, l9] [.int x] σ = some (some (.int x), σ)) ∧
  (∀ (d : Nat) (σ : Sg) (S : List Value) (l1 l2 l3 l4 l5 l6 l7 l8 l9 : Value) (k : Nat), exec d mX7_whereIs 30 [.ref k, l1, l2, l3, l4, l5, l6, l7, l8, l9] S σ = exec d mX7_whereIs 31 [.ref k, l1, l2, l3, l4, l5, l6, l7, l8, l9] (.ref k :: S) σ) ∧
  (∀ (d : Nat) (σ : Sg) (S : List Value) (l0 l2 l3 l4 l5 l6 l7 l8 l9 : Value) (x : Int32), exec d mX7_whereIs 31 [l0, .int x, l2, l3, l4, l5, l6, l7, l8, l9] S σ = exec d mX7_whereIs 32 [l0, .int x, l2, l3, l4, l5, l6, l7, l8, l9] (.int x :: S) σ) ∧
  (∀ (d : Nat) (σ : Sg) (S : List Value) (l0 l1 l3 l4 l5 l6 l7 l8 l9 : Value) (x : Int32), exec d mX7_whereIs 32 [l0, l1, .int x, l3, l4, l5, l6, l7, l8, l9] S σ = exec d mX7_whereIs 33 [l0, l1, .int x, l3, l4, l5, l6, l7, l8, l9] (.int x :: S) σ) ∧
  (∀ (d : Nat) (σ : Sg) (S : List Value) (l1 l2 l3 l4 l5 l6 l7 l8 l9 : Value) (k : Nat), exec d mX7_whereIs 33 [.ref k, l1, l2, l3, l4, l5, l6, l7, l8, l9] S σ = exec d mX7_whereIs 34 [.ref k, l1, l2, l3, l4, l5, l6, l7, l8, l9] (.ref k :: S) σ) ∧
  (∀ (d : Nat) (σ : Sg) (S : List Value) (l0 l1 l2 l3 l4 l5 l6 l7 l8 l9 : Value), exec d mX7_whereIs 34 [l0, l1, l2, l3, l4, l5, l6, l7, l8, l9] (.ref 50 :: S) σ = exec d mX7_whereIs 37 [l0, l1, l2, l3, l4, l5, l6, l7, l8, l9] (.ref 51 :: S) σ) ∧
  (∀ (d : Nat) (σ : Sg) (S : List Value) (l0 l1 l2 l3 l4 l5 l6 l7 l8 l9 : Value), exec d mX7_whereIs 37 [l0, l1, l2, l3, l4, l5, l6, l7, l8, l9] S σ = exec d mX7_whereIs 39 [l0, l1, l2, l3, l4, l5, l6, l7, l8, l9] (.int (nI 8) :: S) σ) ∧
  (∀ (d : Nat) (σ : Sg) (S : List Value) (l0 l1 l2 l3 l4 l5 l6 l7 l8 l9 : Value) (x : Int32), exec d mX7_whereIs 39 [l0, l1, l2, l3, l4, l5, l6, l7, l8, l9] (.int x :: .ref 51 :: S) σ = if inb x 208 = true then exec d mX7_whereIs 40 [l0, l1, l2, l3, l4, l5, l6, l7, l8, l9] (.int (σ 51 x.toNatClampNeg) :: S) σ else none) ∧
  (∀ (d : Nat) (σ : Sg) (l0 l1 l2 l3 l4 l5 l6 l7 l8 l9 : Value) (x0 x1 x2 : Int32), exec d mX7_whereIs 40 [l0, l1, l2, l3, l4, l5, l6, l7, l8, l9] [.int x0, .int x1, .int x2, .ref 50] σ = kb (cal d mX7_against [.ref 50, .int x2, .int x1, .int x0] σ) (fun rs σ2 => exec d mX7_whereIs 43 [l0, l1, l2, l3, l4, l5, l6, l7, l8, l9] (rs ++ []) σ2)) ∧
  (∀ (d : Nat) (σ : Sg) (S : List Value) (l0 l1 l2 l4 l5 l6 l7 l8 l9 : Value) (x y : Int32), exec d mX7_whereIs 43 [l0, l1, l2, .int y, l4, l5, l6, l7, l8, l9] (.int x :: S) σ = exec d mX7_whereIs 45 [l0, l1, l2, .int y, .int x, l5, l6, l7, l8, l9] S σ) ∧
  (∀ (d : Nat) (σ : Sg) (S : List Value) (l0 l1 l2 l3 l5 l6 l7 l8 l9 : Value) (x : Int32), exec d mX7_whereIs 45 [l0, l1, l2, l3, .int x, l5, l6, l7, l8, l9] S σ = exec d mX7_whereIs 47 [l0, l1, l2, l3, .int x, l5, l6, l7, l8, l9] (.int x :: S) σ) ∧
  (∀ (d : Nat) (σ : Sg) (S : List Value) (l0 l1 l2 l3 l4 l5 l6 l7 l8 l9 : Value) (x : Int32), exec d mX7_whereIs 47 [l0, l1, l2, l3, l4, l5, l6, l7, l8, l9] (.int x :: S) σ = if nI 0 ≤ x then exec d mX7_whereIs 53 [l0, l1, l2, l3, l4, l5, l6, l7, l8, l9] S σ else exec d mX7_whereIs 50 [l0, l1, l2, l3, l4, l5, l6, l7, l8, l9] S σ) ∧
  (∀ (d : Nat) (σ : Sg) (S : List Value) (l0 l1 l2 l3 l5 l6 l7 l8 l9 : Value) (x : Int32), exec d mX7_whereIs 50 [l0, l1, l2, l3, .int x, l5, l6, l7, l8, l9] S σ = exec d mX7_whereIs 52 [l0, l1, l2, l3, .int x, l5, l6, l7, l8, l9] (.int x :: S) σ) ∧
  (∀ (d : Nat) (σ : Sg) (l0 l1 l2 l3 l4 l5 l6 l7 l8 l9 : Value) (x : Int32), exec d mX7_whereIs 52 [l0, l1, l2, l3, l4, l5, l6, l7, l8, l9] [.int x] σ = some (some (.int x), σ)) ∧
  (∀ (d : Nat) (σ : Sg) (S : List Value) (l0 l1 l2 l3 l4 l5 l6 l7 l8 l9 : Value), exec d mX7_whereIs 53 [l0, l1, l2, l3, l4, l5, l6, l7, l8, l9] S σ = exec d mX7_whereIs 54 [l0, l1, l2, l3, l4, l5, l6, l7, l8, l9] (.int (nI 0) :: S) σ) ∧
  (∀ (d : Nat) (σ : Sg) (S : List Value) (l0 l1 l2 l3 l5 l6 l7 l8 l9 : Value) (x y : Int32), exec d mX7_whereIs 54 [l0, l1, l2, l3, .int y, l5, l6, l7, l8, l9] (.int x :: S) σ = exec d mX7_whereIs 56 [l0, l1, l2, l3, .int y, .int x, l6, l7, l8, l9] S σ) ∧
  (∀ (d : Nat) (σ : Sg) (S : List Value) (l0 l1 l2 l3 l4 l5 l6 l7 l8 l9 : Value), exec d mX7_whereIs 56 [l0, l1, l2, l3, l4, l5, l6, l7, l8, l9] S σ = exec d mX7_whereIs 58 [l0, l1, l2, l3, l4, l5, l6, l7, l8, l9] (.int ((-1000000)) :: S) σ) ∧
  (∀ (d : Nat) (σ : Sg) (S : List Value) (l0 l1 l2 l3 l4 l6 l7 l8 l9 : Value) (x y : Int32), exec d mX7_whereIs 58 [l0, l1, l2, l3, l4, .int y, l6, l7, l8, l9] (.int x :: S) σ = exec d mX7_whereIs 60 [l0, l1, l2, l3, l4, .int y, .int x, l7, l8, l9] S σ) ∧
  (∀ (d : Nat) (σ : Sg) (S : List Value) (l0 l1 l2 l3 l4 l5 l6 l7 l8 l9 : Value), exec d mX7_whereIs 60 [l0, l1, l2, l3, l4, l5, l6, l7, l8, l9] S σ = exec d mX7_whereIs 61 [l0, l1, l2, l3, l4, l5, l6, l7, l8, l9] (.int (nI 0) :: S) σ) ∧
  (∀ (d : Nat) (σ : Sg) (S : List Value) (l0 l1 l2 l3 l4 l5 l7 l8 l9 : Value) (x y : Int32), exec d mX7_whereIs 61 [l0, l1, l2, l3, l4, l5, .int y, l7, l8, l9] (.int x :: S) σ = exec d mX7_whereIs 63 [l0, l1, l2, l3, l4, l5, .int y, .int x, l8, l9] S σ) ∧
  (∀ (d : Nat) (σ : Sg) (S : List Value) (l0 l1 l2 l3 l4 l5 l6 l7 l8 l9 : Value), exec d mX7_whereIs 65 [l0, l1, l2, l3, l4, l5, l6, l7, l8, l9] S σ = exec d mX7_whereIs 66 [l0, l1, l2, l3, l4, l5, l6, l7, l8, l9] (.int (nI 1) :: S) σ) ∧
  (∀ (d : Nat) (σ : Sg) (S : List Value) (l1 l2 l3 l4 l5 l6 l7 l8 l9 : Value) (k : Nat), exec d mX7_whereIs 66 [.ref k, l1, l2, l3, l4, l5, l6, l7, l8, l9] S σ = exec d mX7_whereIs 67 [.ref k, l1, l2, l3, l4, l5, l6, l7, l8, l9] (.ref k :: S) σ) ∧
  (∀ (d : Nat) (σ : Sg) (S : List Value) (l0 l1 l2 l3 l4 l5 l6 l7 l8 l9 : Value), exec d mX7_whereIs 67 [l0, l1, l2, l3, l4, l5, l6, l7, l8, l9] (.ref 50 :: S) σ = exec d mX7_whereIs 70 [l0, l1, l2, l3, l4, l5, l6, l7, l8, l9] (.ref 51 :: S) σ) ∧
  (∀ (d : Nat) (σ : Sg) (S : List Value) (l0 l1 l2 l3 l4 l5 l6 l7 l8 l9 : Value), exec d mX7_whereIs 70 [l0, l1, l2, l3, l4, l5, l6, l7, l8, l9] S σ = exec d mX7_whereIs 72 [l0, l1, l2, l3, l4, l5, l6, l7, l8, l9] (.int (nI 7) :: S) σ) ∧
  (∀ (d : Nat) (σ : Sg) (S : List Value) (l0 l1 l2 l3 l4 l5 l6 l7 l8 l9 : Value) (x : Int32), exec d mX7_whereIs 72 [l0, l1, l2, l3, l4, l5, l6, l7, l8, l9] (.int x :: .ref 51 :: S) σ = if inb x 208 = true then exec d mX7_whereIs 73 [l0, l1, l2, l3, l4, l5, l6, l7, l8, l9] (.int (σ 51 x.toNatClampNeg) :: S) σ else none) :=
  ⟨fun d σ S l1 l2 l3 l4 l5 l6 l7 l8 l9 k => ex_aload_n (show decode mX7_whereIs.2.1 0 = .ok (.aload_n 0, 1) by decide +kernel) rfl,
  fun d σ l0 l1 l2 l3 l4 l5 l6 l7 l8 l9 => ex_iv (hs := [1074, 1076, 74, 1077, 101]) (show decode mX7_whereIs.2.1 1 = .ok (.invokevirtual 188, 3) by decide +kernel) lkV_7_188 ⟨rfl, Nat.le_of_ble_eq_true rfl, Nat.le_of_ble_eq_true rfl, fun _ => rfl⟩ rfl rfl,
  fun d σ S l0 l1 l2 l3 l4 l5 l6 l7 l8 l9 x => ex_zne (show decode mX7_whereIs.2.1 4 = .ok (.ifCond .ne 6, 3) by decide +kernel) (by decide),
  fun d σ S l0 l1 l2 l3 l4 l5 l6 l7 l8 l9 => ex_ldc (hh := 1009) (show decode mX7_whereIs.2.1 7 = .ok (.ldc 171, 2) by decide +kernel) (by decide +kernel),
  fun d σ l0 l1 l2 l3 l4 l5 l6 l7 l8 l9 x => ex_iret (show decode mX7_whereIs.2.1 9 = .ok (.ireturn, 1) by decide +kernel) rfl,
  fun d σ S l0 l2 l3 l4 l5 l6 l7 l8 l9 x => ex_iload_n (show decode mX7_whereIs.2.1 10 = .ok (.iload_n 1, 1) by decide +kernel) rfl,
  fun d σ l0 l1 l2 l3 l4 l5 l6 l7 l8 l9 x0 => ex_is (hs := [916, 917, 918, 101]) (show decode mX7_whereIs.2.1 11 = .ok (.invokestatic 67, 3) by decide +kernel) lkS_7_67 ⟨rfl, Nat.le_of_ble_eq_true rfl, Nat.le_of_ble_eq_true rfl, fun q => nomatch q⟩ rfl rfl,
  fun d σ S l0 l1 l2 l3 l4 l5 l6 l7 l8 l9 x => ex_zeq (show decode mX7_whereIs.2.1 14 = .ok (.ifCond .eq 13, 3) by decide +kernel) (by decide),
  fun d σ S l0 l1 l2 l4 l5 l6 l7 l8 l9 x => ex_iload_n (show decode mX7_whereIs.2.1 17 = .ok (.iload_n 3, 1) by decide +kernel) rfl,
  fun d σ S l0 l1 l2 l3 l4 l5 l6 l7 l8 l9 x => ex_i2l (show decode mX7_whereIs.2.1 18 = .ok (.i2l, 1) by decide +kernel),
  fun d σ S l0 l1 l2 l3 l4 l5 l6 l7 l8 l9 => ex_lconst (show decode mX7_whereIs.2.1 19 = .ok (.lconst 0, 1) by decide +kernel) (by decide +kernel),
  fun d σ S l0 l1 l2 l3 l4 l5 l6 l7 l8 l9 => ex_lconst (show decode mX7_whereIs.2.1 20 = .ok (.lconst 1, 1) by decide +kernel) (by decide +kernel),
  fun d σ l0 l1 l2 l3 l4 l5 l6 l7 l8 l9 x0 x1 x2 => ex_is (hs := [920, 921, 922, 101]) (show decode mX7_whereIs.2.1 21 = .ok (.invokestatic 63, 3) by decide +kernel) lkS_7_63 ⟨rfl, Nat.le_of_ble_eq_true rfl, Nat.le_of_ble_eq_true rfl, fun q => nomatch q⟩ rfl rfl,
  fun d σ S l0 l1 l2 l3 l4 l5 l6 l7 l8 l9 x => ex_zne (show decode mX7_whereIs.2.1 24 = .ok (.ifCond .ne 6, 3) by decide +kernel) (by decide),
  fun d σ S l0 l1 l2 l3 l4 l5 l6 l7 l8 l9 => ex_ldc (hh := 924) (show decode mX7_whereIs.2.1 27 = .ok (.ldc 73, 2) by decide +kernel) (by decide +kernel),
  fun d σ l0 l1 l2 l3 l4 l5 l6 l7 l8 l9 x => ex_iret (show decode mX7_whereIs.2.1 29 = .ok (.ireturn, 1) by decide +kernel) rfl,
  fun d σ S l1 l2 l3 l4 l5 l6 l7 l8 l9 k => ex_aload_n (show decode mX7_whereIs.2.1 30 = .ok (.aload_n 0, 1) by decide +kernel) rfl,
  fun d σ S l0 l2 l3 l4 l5 l6 l7 l8 l9 x => ex_iload_n (show decode mX7_whereIs.2.1 31 = .ok (.iload_n 1, 1) by decide +kernel) rfl,
  fun d σ S l0 l1 l3 l4 l5 l6 l7 l8 l9 x => ex_iload_n (show decode mX7_whereIs.2.1 32 = .ok (.iload_n 2, 1) by decide +kernel) rfl,
  fun d σ S l1 l2 l3 l4 l5 l6 l7 l8 l9 k => ex_aload_n (show decode mX7_whereIs.2.1 33 = .ok (.aload_n 0, 1) by decide +kernel) rfl,
  fun d σ S l0 l1 l2 l3 l4 l5 l6 l7 l8 l9 => ex_getr (idx := 7) (ci := 7) (ff := 0) (n := 26) (hh := 833) (by decide +kernel),
  fun d σ S l0 l1 l2 l3 l4 l5 l6 l7 l8 l9 => ex_bipush (show decode mX7_whereIs.2.1 37 = .ok (.bipush 8, 2) by decide +kernel) (by decide +kernel),
  fun d σ S l0 l1 l2 l3 l4 l5 l6 l7 l8 l9 x => ex_iald (by decide +kernel),
  fun d σ l0 l1 l2 l3 l4 l5 l6 l7 l8 l9 x0 x1 x2 => ex_iv (hs := [1165, 1167, 85, 1168, 101]) (show decode mX7_whereIs.2.1 40 = .ok (.invokevirtual 241, 3) by decide +kernel) lkV_7_241 ⟨rfl, Nat.le_of_ble_eq_true rfl, Nat.le_of_ble_eq_true rfl, fun _ => rfl⟩ rfl rfl,
  fun d σ S l0 l1 l2 l4 l5 l6 l7 l8 l9 x y => ex_istore (show decode mX7_whereIs.2.1 43 = .ok (.istore 4, 2) by decide +kernel) (Nat.le_of_ble_eq_true rfl) rfl,
  fun d σ S l0 l1 l2 l3 l5 l6 l7 l8 l9 x => ex_iload (show decode mX7_whereIs.2.1 45 = .ok (.iload 4, 2) by decide +kernel) rfl,
  fun d σ S l0 l1 l2 l3 l4 l5 l6 l7 l8 l9 x => ex_zge (show decode mX7_whereIs.2.1 47 = .ok (.ifCond .ge 6, 3) by decide +kernel) (by decide),
  fun d σ S l0 l1 l2 l3 l5 l6 l7 l8 l9 x => ex_iload (show decode mX7_whereIs.2.1 50 = .ok (.iload 4, 2) by decide +kernel) rfl,
  fun d σ l0 l1 l2 l3 l4 l5 l6 l7 l8 l9 x => ex_iret (show decode mX7_whereIs.2.1 52 = .ok (.ireturn, 1) by decide +kernel) rfl,
  fun d σ S l0 l1 l2 l3 l4 l5 l6 l7 l8 l9 => ex_iconst (show decode mX7_whereIs.2.1 53 = .ok (.iconst 0, 1) by decide +kernel) (by decide +kernel),
  fun d σ S l0 l1 l2 l3 l5 l6 l7 l8 l9 x y => ex_istore (show decode mX7_whereIs.2.1 54 = .ok (.istore 5, 2) by decide +kernel) (Nat.le_of_ble_eq_true rfl) rfl,
  fun d σ S l0 l1 l2 l3 l4 l5 l6 l7 l8 l9 => ex_ldc (hh := 1087) (show decode mX7_whereIs.2.1 56 = .ok (.ldc 205, 2) by decide +kernel) (by decide +kernel),
  fun d σ S l0 l1 l2 l3 l4 l6 l7 l8 l9 x y => ex_istore (show decode mX7_whereIs.2.1 58 = .ok (.istore 6, 2) by decide +kernel) (Nat.le_of_ble_eq_true rfl) rfl,
  fun d σ S l0 l1 l2 l3 l4 l5 l6 l7 l8 l9 => ex_iconst (show decode mX7_whereIs.2.1 60 = .ok (.iconst 0, 1) by decide +kernel) (by decide +kernel),
  fun d σ S l0 l1 l2 l3 l4 l5 l7 l8 l9 x y => ex_istore (show decode mX7_whereIs.2.1 61 = .ok (.istore 7, 2) by decide +kernel) (Nat.le_of_ble_eq_true rfl) rfl,
  fun d σ S l0 l1 l2 l3 l4 l5 l6 l7 l8 l9 => ex_iconst (show decode mX7_whereIs.2.1 65 = .ok (.iconst 1, 1) by decide +kernel) (by decide +kernel),
  fun d σ S l1 l2 l3 l4 l5 l6 l7 l8 l9 k => ex_aload_n (show decode mX7_whereIs.2.1 66 = .ok (.aload_n 0, 1) by decide +kernel) rfl,
  fun d σ S l0 l1 l2 l3 l4 l5 l6 l7 l8 l9 => ex_getr (idx := 7) (ci := 7) (ff := 0) (n := 26) (hh := 833) (by decide +kernel),
  fun d σ S l0 l1 l2 l3 l4 l5 l6 l7 l8 l9 => ex_bipush (show decode mX7_whereIs.2.1 70 = .ok (.bipush 7, 2) by decide +kernel) (by decide +kernel),
  fun d σ S l0 l1 l2 l3 l4 l5 l6 l7 l8 l9 x => ex_iald (by decide +kernel)⟩
theorem kX7_whereIs_1 : (∀ (d : Nat) (σ : Sg) (S : List Value) (l0 l1 l2 l3 l4 l5 l6 l7 l8 l9 : Value) (x y : Int32), exec d mX7_whereIs 73 [l0, l1, l2, l3, l4, l5, l6, l7, l8, l9] (.int y :: .int x :: S) σ = exec d mX7_whereIs 74 [l0, l1, l2, l3, l4, l5, l6, l7, l8, l9] (.int (x <<< (y &&& 31)) :: S) σ) ∧
  (∀ (d : Nat) (σ : Sg) (S : List Value) (l0 l1 l2 l3 l4 l5 l6 l7 l8 l9 : Value) (x y : Int32), exec d mX7_whereIs 74 [l0, l1, l2, l3, l4, l5, l6, l7, l8, l9] (.int y :: .int x :: S) σ = if y ≤ x then exec d mX7_whereIs 196 [l0, l1, l2, l3, l4, l5, l6, l7, l8, l9] S σ else exec d mX7_whereIs 77 [l0, l1, l2, l3, l4, l5, l6, l7, l8, l9] S σ) ∧
  (∀ (d : Nat) (σ : Sg) (S : List Value) (l0 l1 l2 l3 l4 l5 l6 l8 l9 : Value) (x : Int32), exec d mX7_whereIs 77 [l0, l1, l2, l3, l4, l5, l6, .int x, l8, l9] S σ = exec d mX7_whereIs 79 [l0, l1, l2, l3, l4, l5, l6, .int x, l8, l9] (.int x :: S) σ) ∧
  (∀ (d : Nat) (σ : Sg) (S : List Value) (l1 l2 l3 l4 l5 l6 l7 l8 l9 : Value) (k : Nat), exec d mX7_whereIs 79 [.ref k, l1, l2, l3, l4, l5, l6, l7, l8, l9] S σ = exec d mX7_whereIs 80 [.ref k, l1, l2, l3, l4, l5, l6, l7, l8, l9] (.ref k :: S) σ) ∧
  (∀ (d : Nat) (σ : Sg) (S : List Value) (l0 l1 l2 l3 l4 l5 l6 l7 l8 l9 : Value), exec d mX7_whereIs 80 [l0, l1, l2, l3, l4, l5, l6, l7, l8, l9] (.ref 50 :: S) σ = exec d mX7_whereIs 83 [l0, l1, l2, l3, l4, l5, l6, l7, l8, l9] (.ref 51 :: S) σ) ∧
  (∀ (d : Nat) (σ : Sg) (S : List Value) (l0 l1 l2 l3 l4 l5 l6 l7 l8 l9 : Value), exec d mX7_whereIs 83 [l0, l1, l2, l3, l4, l5, l6, l7, l8, l9] S σ = exec d mX7_whereIs 84 [l0, l1, l2, l3, l4, l5, l6, l7, l8, l9] (.int (nI 3) :: S) σ) ∧
  (∀ (d : Nat) (σ : Sg) (S : List Value) (l0 l1 l2 l3 l4 l5 l6 l7 l8 l9 : Value) (x : Int32), exec d mX7_whereIs 84 [l0, l1, l2, l3, l4, l5, l6, l7, l8, l9] (.int x :: .ref 51 :: S) σ = if inb x 208 = true then exec d mX7_whereIs 85 [l0, l1, l2, l3, l4, l5, l6, l7, l8, l9] (.int (σ 51 x.toNatClampNeg) :: S) σ else none) ∧
  (∀ (d : Nat) (σ : Sg) (S : List Value) (l0 l1 l2 l3 l4 l5 l6 l7 l8 l9 : Value), exec d mX7_whereIs 85 [l0, l1, l2, l3, l4, l5, l6, l7, l8, l9] S σ = exec d mX7_whereIs 86 [l0, l1, l2, l3, l4, l5, l6, l7, l8, l9] (.int ((-1)) :: S) σ) ∧
  (∀ (d : Nat) (σ : Sg) (S : List Value) (l0 l1 l2 l3 l4 l5 l6 l7 l8 l9 : Value) (x y : Int32), exec d mX7_whereIs 86 [l0, l1, l2, l3, l4, l5, l6, l7, l8, l9] (.int y :: .int x :: S) σ = exec d mX7_whereIs 87 [l0, l1, l2, l3, l4, l5, l6, l7, l8, l9] (.int (x ^^^ y) :: S) σ) ∧
  (∀ (d : Nat) (σ : Sg) (S : List Value) (l0 l1 l2 l3 l4 l5 l6 l7 l8 l9 : Value) (x y : Int32), exec d mX7_whereIs 87 [l0, l1, l2, l3, l4, l5, l6, l7, l8, l9] (.int y :: .int x :: S) σ = exec d mX7_whereIs 88 [l0, l1, l2, l3, l4, l5, l6, l7, l8, l9] (.int (x &&& y) :: S) σ) ∧
  (∀ (d : Nat) (σ : Sg) (S : List Value) (l0 l1 l2 l3 l4 l5 l6 l7 l8 l9 : Value) (x : Int32), exec d mX7_whereIs 88 [l0, l1, l2, l3, l4, l5, l6, l7, l8, l9] (.int x :: S) σ = if x = nI 0 then exec d mX7_whereIs 91 [l0, l1, l2, l3, l4, l5, l6, l7, l8, l9] S σ else exec d mX7_whereIs 95 [l0, l1, l2, l3, l4, l5, l6, l7, l8, l9] S σ) ∧
  (∀ (d : Nat) (σ : Sg) (S : List Value) (l0 l1 l2 l3 l4 l5 l6 l7 l8 l9 : Value), exec d mX7_whereIs 91 [l0, l1, l2, l3, l4, l5, l6, l7, l8, l9] S σ = exec d mX7_whereIs 92 [l0, l1, l2, l3, l4, l5, l6, l7, l8, l9] (.int (nI 1) :: S) σ) ∧
  (∀ (d : Nat) (σ : Sg) (S : List Value) (l0 l1 l2 l3 l4 l5 l6 l7 l8 l9 : Value), exec d mX7_whereIs 92 [l0, l1, l2, l3, l4, l5, l6, l7, l8, l9] S σ = exec d mX7_whereIs 96 [l0, l1, l2, l3, l4, l5, l6, l7, l8, l9] S σ) ∧
  (∀ (d : Nat) (σ : Sg) (S : List Value) (l0 l1 l2 l3 l4 l5 l6 l7 l8 l9 : Value), exec d mX7_whereIs 95 [l0, l1, l2, l3, l4, l5, l6, l7, l8, l9] S σ = exec d mX7_whereIs 96 [l0, l1, l2, l3, l4, l5, l6, l7, l8, l9] (.int (nI 0) :: S) σ) ∧
  (∀ (d : Nat) (σ : Sg) (S : List Value) (l0 l1 l2 l3 l4 l5 l6 l8 l9 : Value) (x y : Int32), exec d mX7_whereIs 96 [l0, l1, l2, l3, l4, l5, l6, .int y, l8, l9] (.int x :: S) σ = exec d mX7_whereIs 98 [l0, l1, l2, l3, l4, l5, l6, .int y, .int x, l9] S σ) ∧
  (∀ (d : Nat) (σ : Sg) (S : List Value) (l0 l1 l2 l3 l4 l5 l6 l7 l8 l9 : Value), exec d mX7_whereIs 98 [l0, l1, l2, l3, l4, l5, l6, l7, l8, l9] S σ = exec d mX7_whereIs 99 [l0, l1, l2, l3, l4, l5, l6, l7, l8, l9] (.int (nI 0) :: S) σ) ∧
  (∀ (d : Nat) (σ : Sg) (S : List Value) (l0 l1 l2 l3 l4 l5 l6 l7 l9 : Value) (x y : Int32), exec d mX7_whereIs 99 [l0, l1, l2, l3, l4, l5, l6, l7, .int y, l9] (.int x :: S) σ = exec d mX7_whereIs 101 [l0, l1, l2, l3, l4, l5, l6, l7, .int y, .int x] S σ) ∧
  (∀ (d : Nat) (σ : Sg) (S : List Value) (l1 l2 l3 l4 l5 l6 l7 l8 l9 : Value) (k : Nat), exec d mX7_whereIs 103 [.ref k, l1, l2, l3, l4, l5, l6, l7, l8, l9] S σ = exec d mX7_whereIs 104 [.ref k, l1, l2, l3, l4, l5, l6, l7, l8, l9] (.ref k :: S) σ) ∧
  (∀ (d : Nat) (σ : Sg) (S : List Value) (l0 l1 l2 l3 l4 l5 l6 l7 l8 l9 : Value), exec d mX7_whereIs 104 [l0, l1, l2, l3, l4, l5, l6, l7, l8, l9] (.ref 50 :: S) σ = exec d mX7_whereIs 107 [l0, l1, l2, l3, l4, l5, l6, l7, l8, l9] (.ref 51 :: S) σ) ∧
  (∀ (d : Nat) (σ : Sg) (S : List Value) (l0 l1 l2 l3 l4 l5 l6 l7 l8 l9 : Value), exec d mX7_whereIs 107 [l0, l1, l2, l3, l4, l5, l6, l7, l8, l9] S σ = exec d mX7_whereIs 109 [l0, l1, l2, l3, l4, l5, l6, l7, l8, l9] (.int (nI 8) :: S) σ) ∧
  (∀ (d : Nat) (σ : Sg) (S : List Value) (l0 l1 l2 l3 l4 l5 l6 l7 l8 l9 : Value) (x : Int32), exec d mX7_whereIs 109 [l0, l1, l2, l3, l4, l5, l6, l7, l8, l9] (.int x :: .ref 51 :: S) σ = if inb x 208 = true then exec d mX7_whereIs 110 [l0, l1, l2, l3, l4, l5, l6, l7, l8, l9] (.int (σ 51 x.toNatClampNeg) :: S) σ else none) ∧
  (∀ (d : Nat) (σ : Sg) (S : List Value) (l0 l1 l2 l3 l4 l5 l6 l7 l8 l9 : Value) (x y : Int32), exec d mX7_whereIs 110 [l0, l1, l2, l3, l4, l5, l6, l7, l8, l9] (.int y :: .int x :: S) σ = if y ≤ x then exec d mX7_whereIs 156 [l0, l1, l2, l3, l4, l5, l6, l7, l8, l9] S σ else exec d mX7_whereIs 113 [l0, l1, l2, l3, l4, l5, l6, l7, l8, l9] S σ) ∧
  (∀ (d : Nat) (σ : Sg) (S : List Value) (l0 l1 l2 l3 l4 l5 l6 l7 l9 : Value) (x : Int32), exec d mX7_whereIs 113 [l0, l1, l2, l3, l4, l5, l6, l7, .int x, l9] S σ = exec d mX7_whereIs 115 [l0, l1, l2, l3, l4, l5, l6, l7, .int x, l9] (.int x :: S) σ) ∧
  (∀ (d : Nat) (σ : Sg) (S : List Value) (l0 l1 l2 l3 l4 l5 l6 l7 l8 l9 : Value) (x : Int32), exec d mX7_whereIs 115 [l0, l1, l2, l3, l4, l5, l6, l7, l8, l9] (.int x :: S) σ = if x = nI 0 then exec d mX7_whereIs 147 [l0, l1, l2, l3, l4, l5, l6, l7, l8, l9] S σ else exec d mX7_whereIs 118 [l0, l1, l2, l3, l4, l5, l6, l7, l8, l9] S σ) ∧
  (∀ (d : Nat) (σ : Sg) (S : List Value) (l1 l2 l3 l4 l5 l6 l7 l8 l9 : Value) (k : Nat), exec d mX7_whereIs 118 [.ref k, l1, l2, l3, l4, l5, l6, l7, l8, l9] S σ = exec d mX7_whereIs 119 [.ref k, l1, l2, l3, l4, l5, l6, l7, l8, l9] (.ref k :: S) σ) ∧
  (∀ (d : Nat) (σ : Sg) (S : List Value) (l0 l1 l2 l3 l4 l5 l6 l7 l8 : Value) (x : Int32), exec d mX7_whereIs 119 [l0, l1, l2, l3, l4, l5, l6, l7, l8, .int x] S σ = exec d mX7_whereIs 121 [l0, l1, l2, l3, l4, l5, l6, l7, l8, .int x] (.int x :: S) σ) ∧
  (∀ (d : Nat) (σ : Sg) (S : List Value) (l0 l1 l2 l3 l4 l5 l6 l8 l9 : Value) (x : Int32), exec d mX7_whereIs 121 [l0, l1, l2, l3, l4, l5, l6, .int x, l8, l9] S σ = exec d mX7_whereIs 123 [l0, l1, l2, l3, l4, l5, l6, .int x, l8, l9] (.int x :: S) σ) ∧
  (∀ (d : Nat) (σ : Sg) (l0 l1 l2 l3 l4 l5 l6 l7 l8 l9 : Value) (x0 x1 : Int32), exec d mX7_whereIs 123 [l0, l1, l2, l3, l4, l5, l6, l7, l8, l9] [.int x0, .int x1, .ref 50] σ = kb (cal d mX7_findsOf [.ref 50, .int x1, .int x0] σ) (fun rs σ2 => exec d mX7_whereIs 126 [l0, l1, l2, l3, l4, l5, l6, l7, l8, l9] (rs ++ []) σ2)) ∧
  (∀ (d : Nat) (σ : Sg) (S : List Value) (l1 l2 l3 l4 l5 l6 l7 l8 l9 : Value) (k : Nat), exec d mX7_whereIs 126 [.ref k, l1, l2, l3, l4, l5, l6, l7, l8, l9] S σ = exec d mX7_whereIs 127 [.ref k, l1, l2, l3, l4, l5, l6, l7, l8, l9] (.ref k :: S) σ) ∧
  (∀ (d : Nat) (σ : Sg) (S : List Value) (l0 l1 l2 l3 l4 l5 l6 l7 l8 l9 : Value), exec d mX7_whereIs 127 [l0, l1, l2, l3, l4, l5, l6, l7, l8, l9] (.ref 50 :: S) σ = exec d mX7_whereIs 130 [l0, l1, l2, l3, l4, l5, l6, l7, l8, l9] (.ref 54 :: S) σ) ∧
  (∀ (d : Nat) (σ : Sg) (S : List Value) (l0 l1 l2 l3 l4 l5 l6 l7 l8 l9 : Value), exec d mX7_whereIs 130 [l0, l1, l2, l3, l4, l5, l6, l7, l8, l9] S σ = exec d mX7_whereIs 132 [l0, l1, l2, l3, l4, l5, l6, l7, l8, l9] (.int (nI 40) :: S) σ) ∧
  (∀ (d : Nat) (σ : Sg) (S : List Value) (l0 l2 l3 l4 l5 l6 l7 l8 l9 : Value) (x : Int32), exec d mX7_whereIs 132 [l0, .int x, l2, l3, l4, l5, l6, l7, l8, l9] S σ = exec d mX7_whereIs 133 [l0, .int x, l2, l3, l4, l5, l6, l7, l8, l9] (.int x :: S) σ) ∧
  (∀ (d : Nat) (σ : Sg) (S : List Value) (l0 l1 l2 l3 l4 l5 l6 l7 l8 l9 : Value) (x y : Int32), exec d mX7_whereIs 133 [l0, l1, l2, l3, l4, l5, l6, l7, l8, l9] (.int y :: .int x :: S) σ = exec d mX7_whereIs 134 [l0, l1, l2, l3, l4, l5, l6, l7, l8, l9] (.int (x * y) :: S) σ) ∧
  (∀ (d : Nat) (σ : Sg) (S : List Value) (l0 l1 l3 l4 l5 l6 l7 l8 l9 : Value) (x : Int32), exec d mX7_whereIs 134 [l0, l1, .int x, l3, l4, l5, l6, l7, l8, l9] S σ = exec d mX7_whereIs 135 [l0, l1, .int x, l3, l4, l5, l6, l7, l8, l9] (.int x :: S) σ) ∧
  (∀ (d : Nat) (σ : Sg) (S : List Value) (l0 l1 l2 l3 l4 l5 l6 l7 l8 l9 : Value) (x y : Int32), exec d mX7_whereIs 135 [l0, l1, l2, l3, l4, l5, l6, l7, l8, l9] (.int y :: .int x :: S) σ = exec d mX7_whereIs 136 [l0, l1, l2, l3, l4, l5, l6, l7, l8, l9] (.int (x + y) :: S) σ) ∧
  (∀ (d : Nat) (σ : Sg) (S : List Value) (l0 l1 l2 l3 l4 l5 l6 l7 l8 : Value) (x : Int32), exec d mX7_whereIs 136 [l0, l1, l2, l3, l4, l5, l6, l7, l8, .int x] S σ = exec d mX7_whereIs 138 [l0, l1, l2, l3, l4, l5, l6, l7, l8, .int x] (.int x :: S) σ) ∧
  (∀ (d : Nat) (σ : Sg) (S : List Value) (l0 l1 l2 l3 l4 l5 l6 l7 l8 l9 : Value) (x y : Int32), exec d mX7_whereIs 138 [l0, l1, l2, l3, l4, l5, l6, l7, l8, l9] (.int y :: .int x :: S) σ = exec d mX7_whereIs 139 [l0, l1, l2, l3, l4, l5, l6, l7, l8, l9] (.int (x + y) :: S) σ) ∧
  (∀ (d : Nat) (σ : Sg) (S : List Value) (l0 l1 l2 l3 l4 l5 l6 l7 l8 l9 : Value) (x : Int32), exec d mX7_whereIs 139 [l0, l1, l2, l3, l4, l5, l6, l7, l8, l9] (.int x :: .ref 54 :: S) σ = if inb x 320 = true then exec d mX7_whereIs 140 [l0, l1, l2, l3, l4, l5, l6, l7, l8, l9] (.int (σ 54 x.toNatClampNeg) :: S) σ else none) ∧
  (∀ (d : Nat) (σ : Sg) (S : List Value) (l0 l1 l2 l3 l4 l5 l6 l7 l8 l9 : Value) (x y : Int32), exec d mX7_whereIs 140 [l0, l1, l2, l3, l4, l5, l6, l7, l8, l9] (.int y :: .int x :: S) σ = if x = y then exec d mX7_whereIs 143 [l0, l1, l2, l3, l4, l5, l6, l7, l8, l9] S σ else exec d mX7_whereIs 147 [l0, l1, l2, l3, l4, l5, l6, l7, l8, l9] S σ) ∧
  (∀ (d : Nat) (σ : Sg) (S : List Value) (l0 l1 l2 l3 l4 l5 l6 l7 l8 l9 : Value), exec d mX7_whereIs 143 [l0, l1, l2, l3, l4, l5, l6, l7, l8, l9] S σ = exec d mX7_whereIs 144 [l0, l1, l2, l3, l4, l5, l6, l7, l8, l9] (.int (nI 1) :: S) σ) :=
  ⟨fun d σ S l0 l1 l2 l3 l4 l5 l6 l7 l8 l9 x y => ex_ishl (show decode mX7_whereIs.2.1 73 = .ok (.ishl, 1) by decide +kernel),
  fun d σ S l0 l1 l2 l3 l4 l5 l6 l7 l8 l9 x y => ex_cge (show decode mX7_whereIs.2.1 74 = .ok (.if_icmp .ge 122, 3) by decide +kernel) (by decide),
  fun d σ S l0 l1 l2 l3 l4 l5 l6 l8 l9 x => ex_iload (show decode mX7_whereIs.2.1 77 = .ok (.iload 7, 2) by decide +kernel) rfl,
  fun d σ S l1 l2 l3 l4 l5 l6 l7 l8 l9 k => ex_aload_n (show decode mX7_whereIs.2.1 79 = .ok (.aload_n 0, 1) by decide +kernel) rfl,
  fun d σ S l0 l1 l2 l3 l4 l5 l6 l7 l8 l9 => ex_getr (idx := 7) (ci := 7) (ff := 0) (n := 26) (hh := 833) (by decide +kernel),
  fun d σ S l0 l1 l2 l3 l4 l5 l6 l7 l8 l9 => ex_iconst (show decode mX7_whereIs.2.1 83 = .ok (.iconst 3, 1) by decide +kernel) (by decide +kernel),
  fun d σ S l0 l1 l2 l3 l4 l5 l6 l7 l8 l9 x => ex_iald (by decide +kernel),
  fun d σ S l0 l1 l2 l3 l4 l5 l6 l7 l8 l9 => ex_iconst (show decode mX7_whereIs.2.1 85 = .ok (.iconst (-1), 1) by decide +kernel) (by decide +kernel),
  fun d σ S l0 l1 l2 l3 l4 l5 l6 l7 l8 l9 x y => ex_ixor (show decode mX7_whereIs.2.1 86 = .ok (.ixor, 1) by decide +kernel),
  fun d σ S l0 l1 l2 l3 l4 l5 l6 l7 l8 l9 x y => ex_iand (show decode mX7_whereIs.2.1 87 = .ok (.iand, 1) by decide +kernel),
  fun d σ S l0 l1 l2 l3 l4 l5 l6 l7 l8 l9 x => ex_zne (show decode mX7_whereIs.2.1 88 = .ok (.ifCond .ne 7, 3) by decide +kernel) (by decide),
  fun d σ S l0 l1 l2 l3 l4 l5 l6 l7 l8 l9 => ex_iconst (show decode mX7_whereIs.2.1 91 = .ok (.iconst 1, 1) by decide +kernel) (by decide +kernel),
  fun d σ S l0 l1 l2 l3 l4 l5 l6 l7 l8 l9 => ex_goto (show decode mX7_whereIs.2.1 92 = .ok (.goto 4, 3) by decide +kernel) (by decide),
  fun d σ S l0 l1 l2 l3 l4 l5 l6 l7 l8 l9 => ex_iconst (show decode mX7_whereIs.2.1 95 = .ok (.iconst 0, 1) by decide +kernel) (by decide +kernel),
  fun d σ S l0 l1 l2 l3 l4 l5 l6 l8 l9 x y => ex_istore (show decode mX7_whereIs.2.1 96 = .ok (.istore 8, 2) by decide +kernel) (Nat.le_of_ble_eq_true rfl) rfl,
  fun d σ S l0 l1 l2 l3 l4 l5 l6 l7 l8 l9 => ex_iconst (show decode mX7_whereIs.2.1 98 = .ok (.iconst 0, 1) by decide +kernel) (by decide +kernel),
  fun d σ S l0 l1 l2 l3 l4 l5 l6 l7 l9 x y => ex_istore (show decode mX7_whereIs.2.1 99 = .ok (.istore 9, 2) by decide +kernel) (Nat.le_of_ble_eq_true rfl) rfl,
  fun d σ S l1 l2 l3 l4 l5 l6 l7 l8 l9 k => ex_aload_n (show decode mX7_whereIs.2.1 103 = .ok (.aload_n 0, 1) by decide +kernel) rfl,
  fun d σ S l0 l1 l2 l3 l4 l5 l6 l7 l8 l9 => ex_getr (idx := 7) (ci := 7) (ff := 0) (n := 26) (hh := 833) (by decide +kernel),
  fun d σ S l0 l1 l2 l3 l4 l5 l6 l7 l8 l9 => ex_bipush (show decode mX7_whereIs.2.1 107 = .ok (.bipush 8, 2) by decide +kernel) (by decide +kernel),
  fun d σ S l0 l1 l2 l3 l4 l5 l6 l7 l8 l9 x => ex_iald (by decide +kernel),
  fun d σ S l0 l1 l2 l3 l4 l5 l6 l7 l8 l9 x y => ex_cge (show decode mX7_whereIs.2.1 110 = .ok (.if_icmp .ge 46, 3) by decide +kernel) (by decide),
  fun d σ S l0 l1 l2 l3 l4 l5 l6 l7 l9 x => ex_iload (show decode mX7_whereIs.2.1 113 = .ok (.iload 8, 2) by decide +kernel) rfl,
  fun d σ S l0 l1 l2 l3 l4 l5 l6 l7 l8 l9 x => ex_zeq (show decode mX7_whereIs.2.1 115 = .ok (.ifCond .eq 32, 3) by decide +kernel) (by decide),
  fun d σ S l1 l2 l3 l4 l5 l6 l7 l8 l9 k => ex_aload_n (show decode mX7_whereIs.2.1 118 = .ok (.aload_n 0, 1) by decide +kernel) rfl,
  fun d σ S l0 l1 l2 l3 l4 l5 l6 l7 l8 x => ex_iload (show decode mX7_whereIs.2.1 119 = .ok (.iload 9, 2) by decide +kernel) rfl,
  fun d σ S l0 l1 l2 l3 l4 l5 l6 l8 l9 x => ex_iload (show decode mX7_whereIs.2.1 121 = .ok (.iload 7, 2) by decide +kernel) rfl,
  fun d σ l0 l1 l2 l3 l4 l5 l6 l7 l8 l9 x0 x1 => ex_iv (hs := [1092, 1094, 75, 1095, 101]) (show decode mX7_whereIs.2.1 123 = .ok (.invokevirtual 196, 3) by decide +kernel) lkV_7_196 ⟨rfl, Nat.le_of_ble_eq_true rfl, Nat.le_of_ble_eq_true rfl, fun _ => rfl⟩ rfl rfl,
  fun d σ S l1 l2 l3 l4 l5 l6 l7 l8 l9 k => ex_aload_n (show decode mX7_whereIs.2.1 126 = .ok (.aload_n 0, 1) by decide +kernel) rfl,
  fun d σ S l0 l1 l2 l3 l4 l5 l6 l7 l8 l9 => ex_getr (idx := 20) (ci := 7) (ff := 4) (n := 26) (hh := 837) (by decide +kernel),
  fun d σ S l0 l1 l2 l3 l4 l5 l6 l7 l8 l9 => ex_bipush (show decode mX7_whereIs.2.1 130 = .ok (.bipush 40, 2) by decide +kernel) (by decide +kernel),
  fun d σ S l0 l2 l3 l4 l5 l6 l7 l8 l9 x => ex_iload_n (show decode mX7_whereIs.2.1 132 = .ok (.iload_n 1, 1) by decide +kernel) rfl,
  fun d σ S l0 l1 l2 l3 l4 l5 l6 l7 l8 l9 x y => ex_imul (show decode mX7_whereIs.2.1 133 = .ok (.imul, 1) by decide +kernel),
  fun d σ S l0 l1 l3 l4 l5 l6 l7 l8 l9 x => ex_iload_n (show decode mX7_whereIs.2.1 134 = .ok (.iload_n 2, 1) by decide +kernel) rfl,
  fun d σ S l0 l1 l2 l3 l4 l5 l6 l7 l8 l9 x y => ex_iadd (show decode mX7_whereIs.2.1 135 = .ok (.iadd, 1) by decide +kernel),
  fun d σ S l0 l1 l2 l3 l4 l5 l6 l7 l8 x => ex_iload (show decode mX7_whereIs.2.1 136 = .ok (.iload 9, 2) by decide +kernel) rfl,
  fun d σ S l0 l1 l2 l3 l4 l5 l6 l7 l8 l9 x y => ex_iadd (show decode mX7_whereIs.2.1 138 = .ok (.iadd, 1) by decide +kernel),
  fun d σ S l0 l1 l2 l3 l4 l5 l6 l7 l8 l9 x => ex_iald (by decide +kernel),
  fun d σ S l0 l1 l2 l3 l4 l5 l6 l7 l8 l9 x y => ex_cne (show decode mX7_whereIs.2.1 140 = .ok (.if_icmp .ne 7, 3) by decide +kernel) (by decide),
  fun d σ S l0 l1 l2 l3 l4 l5 l6 l7 l8 l9 => ex_iconst (show decode mX7_whereIs.2.1 143 = .ok (.iconst 1, 1) by decide +kernel) (by decide +kernel)⟩
theorem kX7_whereIs_2 : (∀ (d : Nat) (σ : Sg) (S : List Value) (l0 l1 l2 l3 l4 l5 l6 l7 l8 l9 : Value), exec d mX7_whereIs 144 [l0, l1, l2, l3, l4, l5, l6, l7, l8, l9] S σ = exec d mX7_whereIs 148 [l0, l1, l2, l3, l4, l5, l6, l7, l8, l9] S σ) ∧
  (∀ (d : Nat) (σ : Sg) (S : List Value) (l0 l1 l2 l3 l4 l5 l6 l7 l8 l9 : Value), exec d mX7_whereIs 147 [l0, l1, l2, l3, l4, l5, l6, l7, l8, l9] S σ = exec d mX7_whereIs 148 [l0, l1, l2, l3, l4, l5, l6, l7, l8, l9] (.int (nI 0) :: S) σ) ∧
  (∀ (d : Nat) (σ : Sg) (S : List Value) (l0 l1 l2 l3 l4 l5 l6 l8 l9 : Value) (x y : Int32), exec d mX7_whereIs 148 [l0, l1, l2, l3, l4, l5, l6, .int y, l8, l9] (.int x :: S) σ = exec d mX7_whereIs 150 [l0, l1, l2, l3, l4, l5, l6, .int y, .int x, l9] S σ) ∧
  (∀ (d : Nat) (σ : Sg) (S : List Value) (l0 l1 l2 l3 l4 l5 l6 l7 : Value) (x y : Int32), exec d mX7_whereIs 150 [l0, l1, l2, l3, l4, l5, l6, l7, .int y, .int x] S σ = exec d mX7_whereIs 153 [l0, l1, l2, l3, l4, l5, l6, l7, .int y, .int (x + nI 1)] S σ) ∧
  (∀ (d : Nat) (σ : Sg) (S : List Value) (l0 l1 l2 l3 l4 l5 l6 l7 l8 l9 : Value), exec d mX7_whereIs 153 [l0, l1, l2, l3, l4, l5, l6, l7, l8, l9] S σ = exec d mX7_whereIs 101 [l0, l1, l2, l3, l4, l5, l6, l7, l8, l9] S σ) ∧
  (∀ (d : Nat) (σ : Sg) (S : List Value) (l0 l1 l2 l3 l4 l5 l6 l7 l9 : Value) (x : Int32), exec d mX7_whereIs 156 [l0, l1, l2, l3, l4, l5, l6, l7, .int x, l9] S σ = exec d mX7_whereIs 158 [l0, l1, l2, l3, l4, l5, l6, l7, .int x, l9] (.int x :: S) σ) ∧
  (∀ (d : Nat) (σ : Sg) (S : List Value) (l0 l1 l2 l3 l4 l5 l6 l7 l8 l9 : Value) (x : Int32), exec d mX7_whereIs 158 [l0, l1, l2, l3, l4, l5, l6, l7, l8, l9] (.int x :: S) σ = if x = nI 0 then exec d mX7_whereIs 171 [l0, l1, l2, l3, l4, l5, l6, l7, l8, l9] S σ else exec d mX7_whereIs 161 [l0, l1, l2, l3, l4, l5, l6, l7, l8, l9] S σ) ∧
  (∀ (d : Nat) (σ : Sg) (S : List Value) (l0 l1 l2 l3 l4 l6 l7 l8 l9 : Value) (x : Int32), exec d mX7_whereIs 161 [l0, l1, l2, l3, l4, .int x, l6, l7, l8, l9] S σ = exec d mX7_whereIs 163 [l0, l1, l2, l3, l4, .int x, l6, l7, l8, l9] (.int x :: S) σ) ∧
  (∀ (d : Nat) (σ : Sg) (S : List Value) (l0 l1 l2 l3 l4 l5 l6 l7 l8 l9 : Value) (x : Int32), exec d mX7_whereIs 163 [l0, l1, l2, l3, l4, l5, l6, l7, l8, l9] (.int x :: S) σ = if x = nI 0 then exec d mX7_whereIs 166 [l0, l1, l2, l3, l4, l5, l6, l7, l8, l9] S σ else exec d mX7_whereIs 171 [l0, l1, l2, l3, l4, l5, l6, l7, l8, l9] S σ) ∧
  (∀ (d : Nat) (σ : Sg) (S : List Value) (l0 l1 l2 l3 l4 l5 l6 l8 l9 : Value) (x : Int32), exec d mX7_whereIs 166 [l0, l1, l2, l3, l4, l5, l6, .int x, l8, l9] S σ = exec d mX7_whereIs 168 [l0, l1, l2, l3, l4, l5, l6, .int x, l8, l9] (.int x :: S) σ) ∧
  (∀ (d : Nat) (σ : Sg) (S : List Value) (l0 l1 l2 l3 l4 l5 l6 l7 l8 l9 : Value), exec d mX7_whereIs 168 [l0, l1, l2, l3, l4, l5, l6, l7, l8, l9] S σ = exec d mX7_whereIs 173 [l0, l1, l2, l3, l4, l5, l6, l7, l8, l9] S σ) ∧
  (∀ (d : Nat) (σ : Sg) (S : List Value) (l0 l1 l2 l3 l4 l5 l7 l8 l9 : Value) (x : Int32), exec d mX7_whereIs 171 [l0, l1, l2, l3, l4, l5, .int x, l7, l8, l9] S σ = exec d mX7_whereIs 173 [l0, l1, l2, l3, l4, l5, .int x, l7, l8, l9] (.int x :: S) σ) ∧
  (∀ (d : Nat) (σ : Sg) (S : List Value) (l0 l1 l2 l3 l4 l6 l7 l8 l9 : Value) (x y : Int32), exec d mX7_whereIs 173 [l0, l1, l2, l3, l4, .int y, l6, l7, l8, l9] (.int x :: S) σ = exec d mX7_whereIs 175 [l0, l1, l2, l3, l4, .int y, .int x, l7, l8, l9] S σ) ∧
  (∀ (d : Nat) (σ : Sg) (S : List Value) (l0 l1 l2 l3 l4 l6 l7 l8 l9 : Value) (x : Int32), exec d mX7_whereIs 175 [l0, l1, l2, l3, l4, .int x, l6, l7, l8, l9] S σ = exec d mX7_whereIs 177 [l0, l1, l2, l3, l4, .int x, l6, l7, l8, l9] (.int x :: S) σ) ∧
  (∀ (d : Nat) (σ : Sg) (S : List Value) (l0 l1 l2 l3 l4 l5 l6 l7 l9 : Value) (x : Int32), exec d mX7_whereIs 177 [l0, l1, l2, l3, l4, l5, l6, l7, .int x, l9] S σ = exec d mX7_whereIs 179 [l0, l1, l2, l3, l4, l5, l6, l7, .int x, l9] (.int x :: S) σ) ∧
  (∀ (d : Nat) (σ : Sg) (S : List Value) (l0 l1 l2 l3 l4 l5 l6 l7 l8 l9 : Value) (x : Int32), exec d mX7_whereIs 179 [l0, l1, l2, l3, l4, l5, l6, l7, l8, l9] (.int x :: S) σ = if x = nI 0 then exec d mX7_whereIs 186 [l0, l1, l2, l3, l4, l5, l6, l7, l8, l9] S σ else exec d mX7_whereIs 182 [l0, l1, l2, l3, l4, l5, l6, l7, l8, l9] S σ) ∧
  (∀ (d : Nat) (σ : Sg) (S : List Value) (l0 l1 l2 l3 l4 l5 l6 l7 l8 l9 : Value), exec d mX7_whereIs 182 [l0, l1, l2, l3, l4, l5, l6, l7, l8, l9] S σ = exec d mX7_whereIs 183 [l0, l1, l2, l3, l4, l5, l6, l7, l8, l9] (.int (nI 1) :: S) σ) ∧
  (∀ (d : Nat) (σ : Sg) (S : List Value) (l0 l1 l2 l3 l4 l5 l6 l7 l8 l9 : Value), exec d mX7_whereIs 183 [l0, l1, l2, l3, l4, l5, l6, l7, l8, l9] S σ = exec d mX7_whereIs 187 [l0, l1, l2, l3, l4, l5, l6, l7, l8, l9] S σ) ∧
  (∀ (d : Nat) (σ : Sg) (S : List Value) (l0 l1 l2 l3 l4 l5 l6 l7 l8 l9 : Value), exec d mX7_whereIs 186 [l0, l1, l2, l3, l4, l5, l6, l7, l8, l9] S σ = exec d mX7_whereIs 187 [l0, l1, l2, l3, l4, l5, l6, l7, l8, l9] (.int (nI 0) :: S) σ) ∧
  (∀ (d : Nat) (σ : Sg) (S : List Value) (l0 l1 l2 l3 l4 l5 l6 l7 l8 l9 : Value) (x y : Int32), exec d mX7_whereIs 187 [l0, l1, l2, l3, l4, l5, l6, l7, l8, l9] (.int y :: .int x :: S) σ = exec d mX7_whereIs 188 [l0, l1, l2, l3, l4, l5, l6, l7, l8, l9] (.int (x + y) :: S) σ) ∧
  (∀ (d : Nat) (σ : Sg) (S : List Value) (l0 l1 l2 l3 l5 l6 l7 l8 l9 : Value) (x y : Int32), exec d mX7_whereIs 188 [l0, l1, l2, l3, .int y, l5, l6, l7, l8, l9] (.int x :: S) σ = exec d mX7_whereIs 190 [l0, l1, l2, l3, .int y, .int x, l6, l7, l8, l9] S σ) ∧
  (∀ (d : Nat) (σ : Sg) (S : List Value) (l0 l1 l2 l3 l4 l5 l8 l9 : Value) (x y : Int32), exec d mX7_whereIs 190 [l0, l1, l2, l3, l4, l5, .int y, .int x, l8, l9] S σ = exec d mX7_whereIs 193 [l0, l1, l2, l3, l4, l5, .int y, .int (x + nI 1), l8, l9] S σ) ∧
  (∀ (d : Nat) (σ : Sg) (S : List Value) (l0 l1 l2 l3 l4 l5 l6 l7 l8 l9 : Value), exec d mX7_whereIs 193 [l0, l1, l2, l3, l4, l5, l6, l7, l8, l9] S σ = exec d mX7_whereIs 63 [l0, l1, l2, l3, l4, l5, l6, l7, l8, l9] S σ) ∧
  (∀ (d : Nat) (σ : Sg) (S : List Value) (l1 l2 l3 l4 l5 l6 l7 l8 l9 : Value) (k : Nat), exec d mX7_whereIs 196 [.ref k, l1, l2, l3, l4, l5, l6, l7, l8, l9] S σ = exec d mX7_whereIs 197 [.ref k, l1, l2, l3, l4, l5, l6, l7, l8, l9] (.ref k :: S) σ) ∧
  (∀ (d : Nat) (σ : Sg) (S : List Value) (l0 l1 l2 l4 l5 l6 l7 l8 l9 : Value) (x : Int32), exec d mX7_whereIs 197 [l0, l1, l2, .int x, l4, l5, l6, l7, l8, l9] S σ = exec d mX7_whereIs 198 [l0, l1, l2, .int x, l4, l5, l6, l7, l8, l9] (.int x :: S) σ) ∧
  (∀ (d : Nat) (σ : Sg) (S : List Value) (l0 l1 l2 l3 l4 l5 l6 l7 l8 l9 : Value) (x : Int32), exec d mX7_whereIs 198 [l0, l1, l2, l3, l4, l5, l6, l7, l8, l9] (.int x :: S) σ = if x = nI 0 then exec d mX7_whereIs 201 [l0, l1, l2, l3, l4, l5, l6, l7, l8, l9] S σ else exec d mX7_whereIs 206 [l0, l1, l2, l3, l4, l5, l6, l7, l8, l9] S σ) ∧
  (∀ (d : Nat) (σ : Sg) (S : List Value) (l0 l1 l2 l3 l4 l6 l7 l8 l9 : Value) (x : Int32), exec d mX7_whereIs 201 [l0, l1, l2, l3, l4, .int x, l6, l7, l8, l9] S σ = exec d mX7_whereIs 203 [l0, l1, l2, l3, l4, .int x, l6, l7, l8, l9] (.int x :: S) σ) ∧
  (∀ (d : Nat) (σ : Sg) (S : List Value) (l0 l1 l2 l3 l4 l5 l6 l7 l8 l9 : Value), exec d mX7_whereIs 203 [l0, l1, l2, l3, l4, l5, l6, l7, l8, l9] S σ = exec d mX7_whereIs 208 [l0, l1, l2, l3, l4, l5, l6, l7, l8, l9] S σ) ∧
  (∀ (d : Nat) (σ : Sg) (S : List Value) (l0 l1 l2 l3 l4 l5 l7 l8 l9 : Value) (x : Int32), exec d mX7_whereIs 206 [l0, l1, l2, l3, l4, l5, .int x, l7, l8, l9] S σ = exec d mX7_whereIs 208 [l0, l1, l2, l3, l4, l5, .int x, l7, l8, l9] (.int x :: S) σ) ∧
  (∀ (d : Nat) (σ : Sg) (l0 l1 l2 l3 l4 l5 l6 l7 l8 l9 : Value) (x0 : Int32), exec d mX7_whereIs 208 [l0, l1, l2, l3, l4, l5, l6, l7, l8, l9] [.int x0, .ref 50] σ = kb (cal d mX7_good [.ref 50, .int x0] σ) (fun rs σ2 => exec d mX7_whereIs 211 [l0, l1, l2, l3, l4, l5, l6, l7, l8, l9] (rs ++ []) σ2)) ∧
  (∀ (d : Nat) (σ : Sg) (l0 l1 l2 l3 l4 l5 l6 l7 l8 l9 : Value) (x : Int32), exec d mX7_whereIs 211 [l0, l1, l2, l3, l4, l5, l6, l7, l8, l9] [.int x] σ = some (some (.int x), σ)) :=
  ⟨fun d σ S l0 l1 l2 l3 l4 l5 l6 l7 l8 l9 => ex_goto (show decode mX7_whereIs.2.1 144 = .ok (.goto 4, 3) by decide +kernel) (by decide),
  fun d σ S l0 l1 l2 l3 l4 l5 l6 l7 l8 l9 => ex_iconst (show decode mX7_whereIs.2.1 147 = .ok (.iconst 0, 1) by decide +kernel) (by decide +kernel),
  fun d σ S l0 l1 l2 l3 l4 l5 l6 l8 l9 x y => ex_istore (show decode mX7_whereIs.2.1 148 = .ok (.istore 8, 2) by decide +kernel) (Nat.le_of_ble_eq_true rfl) rfl,
  fun d σ S l0 l1 l2 l3 l4 l5 l6 l7 x y => ex_iinc (show decode mX7_whereIs.2.1 150 = .ok (.iinc 9 1, 3) by decide +kernel) rfl (by decide +kernel) (Nat.le_of_ble_eq_true rfl) rfl,
  fun d σ S l0 l1 l2 l3 l4 l5 l6 l7 l8 l9 => ex_goto (show decode mX7_whereIs.2.1 153 = .ok (.goto (-52), 3) by decide +kernel) (by decide),
  fun d σ S l0 l1 l2 l3 l4 l5 l6 l7 l9 x => ex_iload (show decode mX7_whereIs.2.1 156 = .ok (.iload 8, 2) by decide +kernel) rfl,
  fun d σ S l0 l1 l2 l3 l4 l5 l6 l7 l8 l9 x => ex_zeq (show decode mX7_whereIs.2.1 158 = .ok (.ifCond .eq 13, 3) by decide +kernel) (by decide),
  fun d σ S l0 l1 l2 l3 l4 l6 l7 l8 l9 x => ex_iload (show decode mX7_whereIs.2.1 161 = .ok (.iload 5, 2) by decide +kernel) rfl,
  fun d σ S l0 l1 l2 l3 l4 l5 l6 l7 l8 l9 x => ex_zne (show decode mX7_whereIs.2.1 163 = .ok (.ifCond .ne 8, 3) by decide +kernel) (by decide),
  fun d σ S l0 l1 l2 l3 l4 l5 l6 l8 l9 x => ex_iload (show decode mX7_whereIs.2.1 166 = .ok (.iload 7, 2) by decide +kernel) rfl,
  fun d σ S l0 l1 l2 l3 l4 l5 l6 l7 l8 l9 => ex_goto (show decode mX7_whereIs.2.1 168 = .ok (.goto 5, 3) by decide +kernel) (by decide),
  fun d σ S l0 l1 l2 l3 l4 l5 l7 l8 l9 x => ex_iload (show decode mX7_whereIs.2.1 171 = .ok (.iload 6, 2) by decide +kernel) rfl,
  fun d σ S l0 l1 l2 l3 l4 l6 l7 l8 l9 x y => ex_istore (show decode mX7_whereIs.2.1 173 = .ok (.istore 6, 2) by decide +kernel) (Nat.le_of_ble_eq_true rfl) rfl,
  fun d σ S l0 l1 l2 l3 l4 l6 l7 l8 l9 x => ex_iload (show decode mX7_whereIs.2.1 175 = .ok (.iload 5, 2) by decide +kernel) rfl,
  fun d σ S l0 l1 l2 l3 l4 l5 l6 l7 l9 x => ex_iload (show decode mX7_whereIs.2.1 177 = .ok (.iload 8, 2) by decide +kernel) rfl,
  fun d σ S l0 l1 l2 l3 l4 l5 l6 l7 l8 l9 x => ex_zeq (show decode mX7_whereIs.2.1 179 = .ok (.ifCond .eq 7, 3) by decide +kernel) (by decide),
  fun d σ S l0 l1 l2 l3 l4 l5 l6 l7 l8 l9 => ex_iconst (show decode mX7_whereIs.2.1 182 = .ok (.iconst 1, 1) by decide +kernel) (by decide +kernel),
  fun d σ S l0 l1 l2 l3 l4 l5 l6 l7 l8 l9 => ex_goto (show decode mX7_whereIs.2.1 183 = .ok (.goto 4, 3) by decide +kernel) (by decide),
  fun d σ S l0 l1 l2 l3 l4 l5 l6 l7 l8 l9 => ex_iconst (show decode mX7_whereIs.2.1 186 = .ok (.iconst 0, 1) by decide +kernel) (by decide +kernel),
  fun d σ S l0 l1 l2 l3 l4 l5 l6 l7 l8 l9 x y => ex_iadd (show decode mX7_whereIs.2.1 187 = .ok (.iadd, 1) by decide +kernel),
  fun d σ S l0 l1 l2 l3 l5 l6 l7 l8 l9 x y => ex_istore (show decode mX7_whereIs.2.1 188 = .ok (.istore 5, 2) by decide +kernel) (Nat.le_of_ble_eq_true rfl) rfl,
  fun d σ S l0 l1 l2 l3 l4 l5 l8 l9 x y => ex_iinc (show decode mX7_whereIs.2.1 190 = .ok (.iinc 7 1, 3) by decide +kernel) rfl (by decide +kernel) (Nat.le_of_ble_eq_true rfl) rfl,
  fun d σ S l0 l1 l2 l3 l4 l5 l6 l7 l8 l9 => ex_goto (show decode mX7_whereIs.2.1 193 = .ok (.goto (-130), 3) by decide +kernel) (by decide),
  fun d σ S l1 l2 l3 l4 l5 l6 l7 l8 l9 k => ex_aload_n (show decode mX7_whereIs.2.1 196 = .ok (.aload_n 0, 1) by decide +kernel) rfl,
  fun d σ S l0 l1 l2 l4 l5 l6 l7 l8 l9 x => ex_iload_n (show decode mX7_whereIs.2.1 197 = .ok (.iload_n 3, 1) by decide +kernel) rfl,
  fun d σ S l0 l1 l2 l3 l4 l5 l6 l7 l8 l9 x => ex_zne (show decode mX7_whereIs.2.1 198 = .ok (.ifCond .ne 8, 3) by decide +kernel) (by decide),
  fun d σ S l0 l1 l2 l3 l4 l6 l7 l8 l9 x => ex_iload (show decode mX7_whereIs.2.1 201 = .ok (.iload 5, 2) by decide +kernel) rfl,
  fun d σ S l0 l1 l2 l3 l4 l5 l6 l7 l8 l9 => ex_goto (show decode mX7_whereIs.2.1 203 = .ok (.goto 5, 3) by decide +kernel) (by decide),
  fun d σ S l0 l1 l2 l3 l4 l5 l7 l8 l9 x => ex_iload (show decode mX7_whereIs.2.1 206 = .ok (.iload 6, 2) by decide +kernel) rfl,
  fun d σ l0 l1 l2 l3 l4 l5 l6 l7 l8 l9 x0 => ex_iv (hs := [930, 932, 55, 933, 101]) (show decode mX7_whereIs.2.1 208 = .ok (.invokevirtual 78, 3) by decide +kernel) lkV_7_78 ⟨rfl, Nat.le_of_ble_eq_true rfl, Nat.le_of_ble_eq_true rfl, fun _ => rfl⟩ rfl rfl,
  fun d σ l0 l1 l2 l3 l4 l5 l6 l7 l8 l9 x => ex_iret (show decode mX7_whereIs.2.1 211 = .ok (.ireturn, 1) by decide +kernel) rfl⟩
theorem hX7_whereIs_63 : ∀ (d : Nat) (σ : Sg) (S : List Value) (l0 l1 l2 l3 l4 l5 l6 l8 l9 : Value) (x : Int32), exec d mX7_whereIs 63 [l0, l1, l2, l3, l4, l5, l6, .int x, l8, l9] S σ = exec d mX7_whereIs 65 [l0, l1, l2, l3, l4, l5, l6, .int x, l8, l9] (.int x :: S) σ := fun d σ S l0 l1 l2 l3 l4 l5 l6 l8 l9 x => ex_iload (show decode mX7_whereIs.2.1 63 = .ok (.iload 7, 2) by decide +kernel) rfl
theorem hX7_whereIs_101 : ∀ (d : Nat) (σ : Sg) (S : List Value) (l0 l1 l2 l3 l4 l5 l6 l7 l8 : Value) (x : Int32), exec d mX7_whereIs 101 [l0, l1, l2, l3, l4, l5, l6, l7, l8, .int x] S σ = exec d mX7_whereIs 103 [l0, l1, l2, l3, l4, l5, l6, l7, l8, .int x] (.int x :: S) σ := fun d σ S l0 l1 l2 l3 l4 l5 l6 l7 l8 x => ex_iload (show decode mX7_whereIs.2.1 101 = .ok (.iload 9, 2) by decide +kernel) rfl
theorem aX7_whereIs_50 : ∀ (d : Nat) (a1 : Int32) (a2 : Int32) (a3 : Int32) (σ : Sg), cal (d + 1) mX7_whereIs [.ref 50, .int a1, .int a2, .int a3] σ = exec d mX7_whereIs 0 [.ref 50, .int a1, .int a2, .int a3, uu, uu, uu, uu, uu, uu] [] σ := fun _ _ _ _ _ => rfl
theorem kX7_skills_0 : (∀ (d : Nat) (σ : Sg) (S : List Value) (l1 l2 l3 l4 l5 l6 l7 l8 l9 l10 l11 l12 : Value) (k : Nat), exec d mX7_skills 0 [.ref k, l1, l2, l3, l4, l5, l6, l7, l8, l9, l10, l11, l12] S σ = exec d mX7_skills 1 [.ref k, l1, l2, l3, l4, l5, l6, l7, l8, l9, l10, l11, l12] (.ref k :: S) σ) ∧
  (∀ (d : Nat) (σ : Sg) (l0 l1 l2 l3 l4 l5 l6 l7 l8 l9 l10 l11 l12 : Value), exec d mX7_skills 1 [l0, l1, l2, l3, l4, l5, l6, l7, l8, l9, l10, l11, l12] [.ref 50] σ = kb (cal d mX7_isTrial [.ref 50] σ) (fun rs σ2 => exec d mX7_skills 4 [l0, l1, l2, l3, l4, l5, l6, l7, l8, l9, l10, l11, l12] (rs ++ []) σ2)) ∧
  (∀ (d : Nat) (σ : Sg) (S : List Value) (l0 l1 l2 l3 l4 l5 l6 l7 l8 l9 l10 l11 l12 : Value) (x : Int32), exec d mX7_skills 4 [l0, l1, l2, l3, l4, l5, l6, l7, l8, l9, l10, l11, l12] (.int x :: S) σ = if x = nI 0 then exec d mX7_skills 7 [l0, l1, l2, l3, l4, l5, l6, l7, l8, l9, l10, l11, l12] S σ else exec d mX7_skills 10 [l0, l1, l2, l3, l4, l5, l6, l7, l8, l9, l10, l11, l12] S σ) ∧
  (∀ (d : Nat) (σ : Sg) (S : List Value) (l0 l1 l2 l3 l4 l5 l6 l7 l8 l9 l10 l11 l12 : Value), exec d mX7_skills 7 [l0, l1, l2, l3, l4, l5, l6, l7, l8, l9, l10, l11, l12] S σ = exec d mX7_skills 9 [l0, l1, l2, l3, l4, l5, l6, l7, l8, l9, l10, l11, l12] (.int ((-1000002)) :: S) σ) ∧
  (∀ (d : Nat) (σ : Sg) (l0 l1 l2 l3 l4 l5 l6 l7 l8 l9 l10 l11 l12 : Value) (x : Int32), exec d mX7_skills 9 [l0, l1, l2, l3, l4, l5, l6, l7, l8, l9, l10, l11, l12] [.int x] σ = some (some (.int x), σ)) ∧
  (∀ (d : Nat) (σ : Sg) (S : List Value) (l0 l2 l3 l4 l5 l6 l7 l8 l9 l10 l11 l12 : Value) (x : Int32), exec d mX7_skills 10 [l0, .int x, l2, l3, l4, l5, l6, l7, l8, l9, l10, l11, l12] S σ = exec d mX7_skills 11 [l0, .int x, l2, l3, l4, l5, l6, l7, l8, l9, l10, l11, l12] (.int x :: S) σ) ∧
  (∀ (d : Nat) (σ : Sg) (l0 l1 l2 l3 l4 l5 l6 l7 l8 l9 l10 l11 l12 : Value) (x0 : Int32), exec d mX7_skills 11 [l0, l1, l2, l3, l4, l5, l6, l7, l8, l9, l10, l11, l12] [.int x0] σ = kb (cal d mX7_isRow [.int x0] σ) (fun rs σ2 => exec d mX7_skills 14 [l0, l1, l2, l3, l4, l5, l6, l7, l8, l9, l10, l11, l12] (rs ++ []) σ2)) ∧
  (∀ (d : Nat) (σ : Sg) (S : List Value) (l0 l1 l2 l3 l4 l5 l6 l7 l8 l9 l10 l11 l12 : Value) (x : Int32), exec d mX7_skills 14 [l0, l1, l2, l3, l4, l5, l6, l7, l8, l9, l10, l11, l12] (.int x :: S) σ = if x = nI 0 then exec d mX7_skills 29 [l0, l1, l2, l3, l4, l5, l6, l7, l8, l9, l10, l11, l12] S σ else exec d mX7_skills 17 [l0, l1, l2, l3, l4, l5, l6, l7, l8, l9, l10, l11, l12] S σ) ∧
  (∀ (d : Nat) (σ : Sg) (S : List Value) (l0 l1 l2 l4 l5 l6 l7 l8 l9 l10 l11 l12 : Value) (x : Int32), exec d mX7_skills 17 [l0, l1, l2, .int x, l4, l5, l6, l7, l8, l9, l10, l11, l12] S σ = exec d mX7_skills 18 [l0, l1, l2, .int x, l4, l5, l6, l7, l8, l9, l10, l11, l12] (.int x :: S) σ) ∧
  (∀ (d : Nat) (σ : Sg) (S : List Value) (l0 l1 l2 l3 l4 l5 l6 l7 l8 l9 l10 l11 l12 : Value) (x : Int32), exec d mX7_skills 18 [l0, l1, l2, l3, l4, l5, l6, l7, l8, l9, l10, l11, l12] (.int x :: S) σ = exec d mX7_skills 19 [l0, l1, l2, l3, l4, l5, l6, l7, l8, l9, l10, l11, l12] (.long x.toInt64 :: S) σ) ∧
  (∀ (d : Nat) (σ : Sg) (S : List Value) (l0 l1 l2 l3 l4 l5 l6 l7 l8 l9 l10 l11 l12 : Value), exec d mX7_skills 19 [l0, l1, l2, l3, l4, l5, l6, l7, l8, l9, l10, l11, l12] S σ = exec d mX7_skills 20 [l0, l1, l2, l3, l4, l5, l6, l7, l8, l9, l10, l11, l12] (.long (lN 1) :: S) σ) ∧
  (∀ (d : Nat) (σ : Sg) (S : List Value) (l0 l1 l2 l3 l4 l5 l6 l7 l8 l9 l10 l11 l12 : Value), exec d mX7_skills 20 [l0, l1, l2, l3, l4, l5, l6, l7, l8, l9, l10, l11, l12] S σ = exec d mX7_skills 23 [l0, l1, l2, l3, l4, l5, l6, l7, l8, l9, l10, l11, l12] (.long (lN 6) :: S) σ) ∧
  (∀ (d : Nat) (σ : Sg) (l0 l1 l2 l3 l4 l5 l6 l7 l8 l9 l10 l11 l12 : Value) (x0 x1 x2 : Int64), exec d mX7_skills 23 [l0, l1, l2, l3, l4, l5, l6, l7, l8, l9, l10, l11, l12] [.long x0, .long x1, .long x2] σ = kb (cal d mX7_in [.long x2, .long x1, .long x0] σ) (fun rs σ2 => exec d mX7_skills 26 [l0, l1, l2, l3, l4, l5, l6, l7, l8, l9, l10, l11, l12] (rs ++ []) σ2)) ∧
  (∀ (d : Nat) (σ : Sg) (S : List Value) (l0 l1 l2 l3 l4 l5 l6 l7 l8 l9 l10 l11 l12 : Value) (x : Int32), exec d mX7_skills 26 [l0, l1, l2, l3, l4, l5, l6, l7, l8, l9, l10, l11, l12] (.int x :: S) σ = if x = nI 0 then exec d mX7_skills 29 [l0, l1, l2, l3, l4, l5, l6, l7, l8, l9, l10, l11, l12] S σ else exec d mX7_skills 32 [l0, l1, l2, l3, l4, l5, l6, l7, l8, l9, l10, l11, l12] S σ) ∧
  (∀ (d : Nat) (σ : Sg) (S : List Value) (l0 l1 l2 l3 l4 l5 l6 l7 l8 l9 l10 l11 l12 : Value), exec d mX7_skills 29 [l0, l1, l2, l3, l4, l5, l6, l7, l8, l9, l10, l11, l12] S σ = exec d mX7_skills 31 [l0, l1, l2, l3, l4, l5, l6, l7, l8, l9, l10, l11, l12] (.int ((-1000001)) :: S) σ) ∧
  (∀ (d : Nat) (σ : Sg) (l0 l1 l2 l3 l4 l5 l6 l7 l8 l9 l10 l11 l12 : Value) (x : Int32), exec d mX7_skills 31 [l0, l1, l2, l3, l4, l5, l6, l7, l8, l9, l10, l11, l12] [.int x] σ = some (some (.int x), σ)) ∧
  (∀ (d : Nat) (σ : Sg) (S : List Value) (l1 l2 l3 l4 l5 l6 l7 l8 l9 l10 l11 l12 : Value) (k : Nat), exec d mX7_skills 32 [.ref k, l1, l2, l3, l4, l5, l6, l7, l8, l9, l10, l11, l12] S σ = exec d mX7_skills 33 [.ref k, l1, l2, l3, l4, l5, l6, l7, l8, l9, l10, l11, l12] (.ref k :: S) σ) ∧
  (∀ (d : Nat) (σ : Sg) (S : List Value) (l0 l2 l3 l4 l5 l6 l7 l8 l9 l10 l11 l12 : Value) (x : Int32), exec d mX7_skills 33 [l0, .int x, l2, l3, l4, l5, l6, l7, l8, l9, l10, l11, l12] S σ = exec d mX7_skills 34 [l0, .int x, l2, l3, l4, l5, l6, l7, l8, l9, l10, l11, l12] (.int x :: S) σ) ∧
  (∀ (d : Nat) (σ : Sg) (S : List Value) (l0 l1 l3 l4 l5 l6 l7 l8 l9 l10 l11 l12 : Value) (x : Int32), exec d mX7_skills 34 [l0, l1, .int x, l3, l4, l5, l6, l7, l8, l9, l10, l11, l12] S σ = exec d mX7_skills 35 [l0, l1, .int x, l3, l4, l5, l6, l7, l8, l9, l10, l11, l12] (.int x :: S) σ) ∧
  (∀ (d : Nat) (σ : Sg) (S : List Value) (l0 l1 l2 l3 l4 l5 l6 l7 l8 l9 l10 l11 l12 : Value), exec d mX7_skills 35 [l0, l1, l2, l3, l4, l5, l6, l7, l8, l9, l10, l11, l12] S σ = exec d mX7_skills 36 [l0, l1, l2, l3, l4, l5, l6, l7, l8, l9, l10, l11, l12] (.int (nI 2) :: S) σ) ∧
  (∀ (d : Nat) (σ : Sg) (S : List Value) (l0 l1 l2 l4 l5 l6 l7 l8 l9 l10 l11 l12 : Value) (x : Int32), exec d mX7_skills 36 [l0, l1, l2, .int x, l4, l5, l6, l7, l8, l9, l10, l11, l12] S σ = exec d mX7_skills 37 [l0, l1, l2, .int x, l4, l5, l6, l7, l8, l9, l10, l11, l12] (.int x :: S) σ) ∧
  (∀ (d : Nat) (σ : Sg) (S : List Value) (l0 l1 l2 l3 l4 l5 l6 l7 l8 l9 l10 l11 l12 : Value) (x y : Int32), exec d mX7_skills 37 [l0, l1, l2, l3, l4, l5, l6, l7, l8, l9, l10, l11, l12] (.int y :: .int x :: S) σ = exec d mX7_skills 38 [l0, l1, l2, l3, l4, l5, l6, l7, l8, l9, l10, l11, l12] (.int (x * y) :: S) σ) ∧
  (∀ (d : Nat) (σ : Sg) (l0 l1 l2 l3 l4 l5 l6 l7 l8 l9 l10 l11 l12 : Value) (x0 x1 x2 : Int32), exec d mX7_skills 38 [l0, l1, l2, l3, l4, l5, l6, l7, l8, l9, l10, l11, l12] [.int x0, .int x1, .int x2, .ref 50] σ = kb (cal d mX7_against [.ref 50, .int x2, .int x1, .int x0] σ) (fun rs σ2 => exec d mX7_skills 41 [l0, l1, l2, l3, l4, l5, l6, l7, l8, l9, l10, l11, l12] (rs ++ []) σ2)) ∧
  (∀ (d : Nat) (σ : Sg) (S : List Value) (l0 l1 l2 l4 l5 l6 l7 l8 l9 l10 l11 l12 : Value) (x y : Int32), exec d mX7_skills 41 [l0, l1, l2, .int y, l4, l5, l6, l7, l8, l9, l10, l11, l12] (.int x :: S) σ = exec d mX7_skills 43 [l0, l1, l2, .int y, .int x, l5, l6, l7, l8, l9, l10, l11, l12] S σ) ∧
  (∀ (d : Nat) (σ : Sg) (S : List Value) (l0 l1 l2 l3 l5 l6 l7 l8 l9 l10 l11 l12 : Value) (x : Int32), exec d mX7_skills 43 [l0, l1, l2, l3, .int x, l5, l6, l7, l8, l9, l10, l11, l12] S σ = exec d mX7_skills 45 [l0, l1, l2, l3, .int x, l5, l6, l7, l8, l9, l10, l11, l12] (.int x :: S) σ) ∧
  (∀ (d : Nat) (σ : Sg) (S : List Value) (l0 l1 l2 l3 l4 l5 l6 l7 l8 l9 l10 l11 l12 : Value) (x : Int32), exec d mX7_skills 45 [l0, l1, l2, l3, l4, l5, l6, l7, l8, l9, l10, l11, l12] (.int x :: S) σ = if nI 0 ≤ x then exec d mX7_skills 51 [l0, l1, l2, l3, l4, l5, l6, l7, l8, l9, l10, l11, l12] S σ else exec d mX7_skills 48 [l0, l1, l2, l3, l4, l5, l6, l7, l8, l9, l10, l11, l12] S σ) ∧
  (∀ (d : Nat) (σ : Sg) (S : List Value) (l0 l1 l2 l3 l5 l6 l7 l8 l9 l10 l11 l12 : Value) (x : Int32), exec d mX7_skills 48 [l0, l1, l2, l3, .int x, l5, l6, l7, l8, l9, l10, l11, l12] S σ = exec d mX7_skills 50 [l0, l1, l2, l3, .int x, l5, l6, l7, l8, l9, l10, l11, l12] (.int x :: S) σ) ∧
  (∀ (d : Nat) (σ : Sg) (l0 l1 l2 l3 l4 l5 l6 l7 l8 l9 l10 l11 l12 : Value) (x : Int32), exec d mX7_skills 50 [l0, l1, l2, l3, l4, l5, l6, l7, l8, l9, l10, l11, l12] [.int x] σ = some (some (.int x), σ)) ∧
  (∀ (d : Nat) (σ : Sg) (S : List Value) (l1 l2 l3 l4 l5 l6 l7 l8 l9 l10 l11 l12 : Value) (k : Nat), exec d mX7_skills 51 [.ref k, l1, l2, l3, l4, l5, l6, l7, l8, l9, l10, l11, l12] S σ = exec d mX7_skills 52 [.ref k, l1, l2, l3, l4, l5, l6, l7, l8, l9, l10, l11, l12] (.ref k :: S) σ) ∧
  (∀ (d : Nat) (σ : Sg) (S : List Value) (l0 l1 l2 l3 l4 l5 l6 l7 l8 l9 l10 l11 l12 : Value), exec d mX7_skills 52 [l0, l1, l2, l3, l4, l5, l6, l7, l8, l9, l10, l11, l12] (.ref 50 :: S) σ = exec d mX7_skills 55 [l0, l1, l2, l3, l4, l5, l6, l7, l8, l9, l10, l11, l12] (.ref 51 :: S) σ) ∧
  (∀ (d : Nat) (σ : Sg) (S : List Value) (l0 l1 l2 l3 l4 l5 l6 l7 l8 l9 l10 l11 l12 : Value), exec d mX7_skills 55 [l0, l1, l2, l3, l4, l5, l6, l7, l8, l9, l10, l11, l12] S σ = exec d mX7_skills 56 [l0, l1, l2, l3, l4, l5, l6, l7, l8, l9, l10, l11, l12] (.int (nI 3) :: S) σ) ∧
  (∀ (d : Nat) (σ : Sg) (S : List Value) (l0 l1 l2 l3 l4 l5 l6 l7 l8 l9 l10 l11 l12 : Value) (x : Int32), exec d mX7_skills 56 [l0, l1, l2, l3, l4, l5, l6, l7, l8, l9, l10, l11, l12] (.int x :: .ref 51 :: S) σ = if inb x 208 = true then exec d mX7_skills 57 [l0, l1, l2, l3, l4, l5, l6, l7, l8, l9, l10, l11, l12] (.int (σ 51 x.toNatClampNeg) :: S) σ else none) ∧
  (∀ (d : Nat) (σ : Sg) (S : List Value) (l0 l1 l2 l3 l5 l6 l7 l8 l9 l10 l11 l12 : Value) (x y : Int32), exec d mX7_skills 57 [l0, l1, l2, l3, .int y, l5, l6, l7, l8, l9, l10, l11, l12] (.int x :: S) σ = exec d mX7_skills 59 [l0, l1, l2, l3, .int y, .int x, l6, l7, l8, l9, l10, l11, l12] S σ) ∧
  (∀ (d : Nat) (σ : Sg) (S : List Value) (l0 l1 l2 l3 l4 l5 l6 l7 l8 l9 l10 l11 l12 : Value), exec d mX7_skills 59 [l0, l1, l2, l3, l4, l5, l6, l7, l8, l9, l10, l11, l12] S σ = exec d mX7_skills 60 [l0, l1, l2, l3, l4, l5, l6, l7, l8, l9, l10, l11, l12] (.int (nI 1) :: S) σ) ∧
  (∀ (d : Nat) (σ : Sg) (S : List Value) (l0 l1 l2 l3 l4 l6 l7 l8 l9 l10 l11 l12 : Value) (x y : Int32), exec d mX7_skills 60 [l0, l1, l2, l3, l4, .int y, l6, l7, l8, l9, l10, l11, l12] (.int x :: S) σ = exec d mX7_skills 62 [l0, l1, l2, l3, l4, .int y, .int x, l7, l8, l9, l10, l11, l12] S σ) ∧
  (∀ (d : Nat) (σ : Sg) (S : List Value) (l0 l1 l2 l3 l4 l5 l6 l7 l8 l9 l10 l11 l12 : Value), exec d mX7_skills 62 [l0, l1, l2, l3, l4, l5, l6, l7, l8, l9, l10, l11, l12] S σ = exec d mX7_skills 63 [l0, l1, l2, l3, l4, l5, l6, l7, l8, l9, l10, l11, l12] (.int (nI 0) :: S) σ) ∧
  (∀ (d : Nat) (σ : Sg) (S : List Value) (l0 l1 l2 l3 l4 l5 l7 l8 l9 l10 l11 l12 : Value) (x y : Int32), exec d mX7_skills 63 [l0, l1, l2, l3, l4, l5, .int y, l7, l8, l9, l10, l11, l12] (.int x :: S) σ = exec d mX7_skills 65 [l0, l1, l2, l3, l4, l5, .int y, .int x, l8, l9, l10, l11, l12] S σ) ∧
  (∀ (d : Nat) (σ : Sg) (S : List Value) (l0 l1 l2 l4 l5 l6 l7 l8 l9 l10 l11 l12 : Value) (x : Int32), exec d mX7_skills 67 [l0, l1, l2, .int x, l4, l5, l6, l7, l8, l9, l10, l11, l12] S σ = exec d mX7_skills 68 [l0, l1, l2, .int x, l4, l5, l6, l7, l8, l9, l10, l11, l12] (.int x :: S) σ) ∧
  (∀ (d : Nat) (σ : Sg) (S : List Value) (l0 l1 l2 l3 l4 l5 l6 l7 l8 l9 l10 l11 l12 : Value) (x y : Int32), exec d mX7_skills 68 [l0, l1, l2, l3, l4, l5, l6, l7, l8, l9, l10, l11, l12] (.int y :: .int x :: S) σ = if y ≤ x then exec d mX7_skills 149 [l0, l1, l2, l3, l4, l5, l6, l7, l8, l9, l10, l11, l12] S σ else exec d mX7_skills 71 [l0, l1, l2, l3, l4, l5, l6, l7, l8, l9, l10, l11, l12] S σ) ∧
  (∀ (d : Nat) (σ : Sg) (S : List Value) (l1 l2 l3 l4 l5 l6 l7 l8 l9 l10 l11 l12 : Value) (k : Nat), exec d mX7_skills 71 [.ref k, l1, l2, l3, l4, l5, l6, l7, l8, l9, l10, l11, l12] S σ = exec d mX7_skills 72 [.ref k, l1, l2, l3, l4, l5, l6, l7, l8, l9, l10, l11, l12] (.ref k :: S) σ) :=
  ⟨fun d σ S l1 l2 l3 l4 l5 l6 l7 l8 l9 l10 l11 l12 k => ex_aload_n (show decode mX7_skills.2.1 0 = .ok (.aload_n 0, 1) by decide +kernel) rfl,
  fun d σ l0 l1 l2 l3 l4 l5 l6 l7 l8 l9 l10 l11 l12 => ex_iv (hs := [1074, 1076, 74, 1077, 101]) (show decode mX7_skills.2.1 1 = .ok (.invokevirtual 188, 3) by decide +kernel) lkV_7_188 ⟨rfl, Nat.le_of_ble_eq_true rfl, Nat.le_of_ble_eq_true rfl, fun _ => rfl⟩ rfl rfl,
  fun d σ S l0 l1 l2 l3 l4 l5 l6 l7 l8 l9 l10 l11 l12 x => ex_zne (show decode mX7_skills.2.1 4 = .ok (.ifCond .ne 6, 3) by decide +kernel) (by decide),
  fun d σ S l0 l1 l2 l3 l4 l5 l6 l7 l8 l9 l10 l11 l12 => ex_ldc (hh := 1009) (show decode mX7_skills.2.1 7 = .ok (.ldc 171, 2) by decide +kernel) (by decide +kernel),
  fun d σ l0 l1 l2 l3 l4 l5 l6 l7 l8 l9 l10 l11 l12 x => ex_iret (show decode mX7_skills.2.1 9 = .ok (.ireturn, 1) by decide +kernel) rfl,
  fun d σ S l0 l2 l3 l4 l5 l6 l7 l8 l9 l10 l11 l12 x => ex_iload_n (show decode mX7_skills.2.1 10 = .ok (.iload_n 1, 1) by decide +kernel) rfl,
  fun d σ l0 l1 l2 l3 l4 l5 l6 l7 l8 l9 l10 l11 l12 x0 => ex_is (hs := [916, 917, 918, 101]) (show decode mX7_skills.2.1 11 = .ok (.invokestatic 67, 3) by decide +kernel) lkS_7_67 ⟨rfl, Nat.le_of_ble_eq_true rfl, Nat.le_of_ble_eq_true rfl, fun q => nomatch q⟩ rfl rfl,
  fun d σ S l0 l1 l2 l3 l4 l5 l6 l7 l8 l9 l10 l11 l12 x => ex_zeq (show decode mX7_skills.2.1 14 = .ok (.ifCond .eq 15, 3) by decide +kernel) (by decide),
  fun d σ S l0 l1 l2 l4 l5 l6 l7 l8 l9 l10 l11 l12 x => ex_iload_n (show decode mX7_skills.2.1 17 = .ok (.iload_n 3, 1) by decide +kernel) rfl,
  fun d σ S l0 l1 l2 l3 l4 l5 l6 l7 l8 l9 l10 l11 l12 x => ex_i2l (show decode mX7_skills.2.1 18 = .ok (.i2l, 1) by decide +kernel),
  fun d σ S l0 l1 l2 l3 l4 l5 l6 l7 l8 l9 l10 l11 l12 => ex_lconst (show decode mX7_skills.2.1 19 = .ok (.lconst 1, 1) by decide +kernel) (by decide +kernel),
  fun d σ S l0 l1 l2 l3 l4 l5 l6 l7 l8 l9 l10 l11 l12 => ex_ldc2 (hh := 1112) (show decode mX7_skills.2.1 20 = .ok (.ldc2_w 210, 3) by decide +kernel) (by decide +kernel),
  fun d σ l0 l1 l2 l3 l4 l5 l6 l7 l8 l9 l10 l11 l12 x0 x1 x2 => ex_is (hs := [920, 921, 922, 101]) (show decode mX7_skills.2.1 23 = .ok (.invokestatic 63, 3) by decide +kernel) lkS_7_63 ⟨rfl, Nat.le_of_ble_eq_true rfl, Nat.le_of_ble_eq_true rfl, fun q => nomatch q⟩ rfl rfl,
  fun d σ S l0 l1 l2 l3 l4 l5 l6 l7 l8 l9 l10 l11 l12 x => ex_zne (show decode mX7_skills.2.1 26 = .ok (.ifCond .ne 6, 3) by decide +kernel) (by decide),
  fun d σ S l0 l1 l2 l3 l4 l5 l6 l7 l8 l9 l10 l11 l12 => ex_ldc (hh := 924) (show decode mX7_skills.2.1 29 = .ok (.ldc 73, 2) by decide +kernel) (by decide +kernel),
  fun d σ l0 l1 l2 l3 l4 l5 l6 l7 l8 l9 l10 l11 l12 x => ex_iret (show decode mX7_skills.2.1 31 = .ok (.ireturn, 1) by decide +kernel) rfl,
  fun d σ S l1 l2 l3 l4 l5 l6 l7 l8 l9 l10 l11 l12 k => ex_aload_n (show decode mX7_skills.2.1 32 = .ok (.aload_n 0, 1) by decide +kernel) rfl,
  fun d σ S l0 l2 l3 l4 l5 l6 l7 l8 l9 l10 l11 l12 x => ex_iload_n (show decode mX7_skills.2.1 33 = .ok (.iload_n 1, 1) by decide +kernel) rfl,
  fun d σ S l0 l1 l3 l4 l5 l6 l7 l8 l9 l10 l11 l12 x => ex_iload_n (show decode mX7_skills.2.1 34 = .ok (.iload_n 2, 1) by decide +kernel) rfl,
  fun d σ S l0 l1 l2 l3 l4 l5 l6 l7 l8 l9 l10 l11 l12 => ex_iconst (show decode mX7_skills.2.1 35 = .ok (.iconst 2, 1) by decide +kernel) (by decide +kernel),
  fun d σ S l0 l1 l2 l4 l5 l6 l7 l8 l9 l10 l11 l12 x => ex_iload_n (show decode mX7_skills.2.1 36 = .ok (.iload_n 3, 1) by decide +kernel) rfl,
  fun d σ S l0 l1 l2 l3 l4 l5 l6 l7 l8 l9 l10 l11 l12 x y => ex_imul (show decode mX7_skills.2.1 37 = .ok (.imul, 1) by decide +kernel),
  fun d σ l0 l1 l2 l3 l4 l5 l6 l7 l8 l9 l10 l11 l12 x0 x1 x2 => ex_iv (hs := [1165, 1167, 85, 1168, 101]) (show decode mX7_skills.2.1 38 = .ok (.invokevirtual 241, 3) by decide +kernel) lkV_7_241 ⟨rfl, Nat.le_of_ble_eq_true rfl, Nat.le_of_ble_eq_true rfl, fun _ => rfl⟩ rfl rfl,
  fun d σ S l0 l1 l2 l4 l5 l6 l7 l8 l9 l10 l11 l12 x y => ex_istore (show decode mX7_skills.2.1 41 = .ok (.istore 4, 2) by decide +kernel) (Nat.le_of_ble_eq_true rfl) rfl,
  fun d σ S l0 l1 l2 l3 l5 l6 l7 l8 l9 l10 l11 l12 x => ex_iload (show decode mX7_skills.2.1 43 = .ok (.iload 4, 2) by decide +kernel) rfl,
  fun d σ S l0 l1 l2 l3 l4 l5 l6 l7 l8 l9 l10 l11 l12 x => ex_zge (show decode mX7_skills.2.1 45 = .ok (.ifCond .ge 6, 3) by decide +kernel) (by decide),
  fun d σ S l0 l1 l2 l3 l5 l6 l7 l8 l9 l10 l11 l12 x => ex_iload (show decode mX7_skills.2.1 48 = .ok (.iload 4, 2) by decide +kernel) rfl,
  fun d σ l0 l1 l2 l3 l4 l5 l6 l7 l8 l9 l10 l11 l12 x => ex_iret (show decode mX7_skills.2.1 50 = .ok (.ireturn, 1) by decide +kernel) rfl,
  fun d σ S l1 l2 l3 l4 l5 l6 l7 l8 l9 l10 l11 l12 k => ex_aload_n (show decode mX7_skills.2.1 51 = .ok (.aload_n 0, 1) by decide +kernel) rfl,
  fun d σ S l0 l1 l2 l3 l4 l5 l6 l7 l8 l9 l10 l11 l12 => ex_getr (idx := 7) (ci := 7) (ff := 0) (n := 26) (hh := 833) (by decide +kernel),
  fun d σ S l0 l1 l2 l3 l4 l5 l6 l7 l8 l9 l10 l11 l12 => ex_iconst (show decode mX7_skills.2.1 55 = .ok (.iconst 3, 1) by decide +kernel) (by decide +kernel),
  fun d σ S l0 l1 l2 l3 l4 l5 l6 l7 l8 l9 l10 l11 l12 x => ex_iald (by decide +kernel),
  fun d σ S l0 l1 l2 l3 l5 l6 l7 l8 l9 l10 l11 l12 x y => ex_istore (show decode mX7_skills.2.1 57 = .ok (.istore 5, 2) by decide +kernel) (Nat.le_of_ble_eq_true rfl) rfl,
  fun d σ S l0 l1 l2 l3 l4 l5 l6 l7 l8 l9 l10 l11 l12 => ex_iconst (show decode mX7_skills.2.1 59 = .ok (.iconst 1, 1) by decide +kernel) (by decide +kernel),
  fun d σ S l0 l1 l2 l3 l4 l6 l7 l8 l9 l10 l11 l12 x y => ex_istore (show decode mX7_skills.2.1 60 = .ok (.istore 6, 2) by decide +kernel) (Nat.le_of_ble_eq_true rfl) rfl,
  fun d σ S l0 l1 l2 l3 l4 l5 l6 l7 l8 l9 l10 l11 l12 => ex_iconst (show decode mX7_skills.2.1 62 = .ok (.iconst 0, 1) by decide +kernel) (by decide +kernel),
  fun d σ S l0 l1 l2 l3 l4 l5 l7 l8 l9 l10 l11 l12 x y => ex_istore (show decode mX7_skills.2.1 63 = .ok (.istore 7, 2) by decide +kernel) (Nat.le_of_ble_eq_true rfl) rfl,
  fun d σ S l0 l1 l2 l4 l5 l6 l7 l8 l9 l10 l11 l12 x => ex_iload_n (show decode mX7_skills.2.1 67 = .ok (.iload_n 3, 1) by decide +kernel) rfl,
  fun d σ S l0 l1 l2 l3 l4 l5 l6 l7 l8 l9 l10 l11 l12 x y => ex_cge (show decode mX7_skills.2.1 68 = .ok (.if_icmp .ge 81, 3) by decide +kernel) (by decide),
  fun d σ S l1 l2 l3 l4 l5 l6 l7 l8 l9 l10 l11 l12 k => ex_aload_n (show decode mX7_skills.2.1 71 = .ok (.aload_n 0, 1) by decide +kernel) rfl⟩
theorem kX7_skills_1 : (∀ (d : Nat) (σ : Sg) (S : List Value) (l0 l1 l2 l3 l4 l5 l6 l7 l8 l9 l10 l11 l12 : Value), exec d mX7_skills 72 [l0, l1, l2, l3, l4, l5, l6, l7, l8, l9, l10, l11, l12] (.ref 50 :: S) σ = exec d mX7_skills 75 [l0, l1, l2, l3, l4, l5, l6, l7, l8, l9, l10, l11, l12] (.ref 54 :: S) σ) ∧
  (∀ (d : Nat) (σ : Sg) (S : List Value) (l0 l1 l2 l3 l4 l5 l6 l7 l8 l9 l10 l11 l12 : Value), exec d mX7_skills 75 [l0, l1, l2, l3, l4, l5, l6, l7, l8, l9, l10, l11, l12] S σ = exec d mX7_skills 77 [l0, l1, l2, l3, l4, l5, l6, l7, l8, l9, l10, l11, l12] (.int (nI 40) :: S) σ) ∧
  (∀ (d : Nat) (σ : Sg) (S : List Value) (l0 l2 l3 l4 l5 l6 l7 l8 l9 l10 l11 l12 : Value) (x : Int32), exec d mX7_skills 77 [l0, .int x, l2, l3, l4, l5, l6, l7, l8, l9, l10, l11, l12] S σ = exec d mX7_skills 78 [l0, .int x, l2, l3, l4, l5, l6, l7, l8, l9, l10, l11, l12] (.int x :: S) σ) ∧
  (∀ (d : Nat) (σ : Sg) (S : List Value) (l0 l1 l2 l3 l4 l5 l6 l7 l8 l9 l10 l11 l12 : Value) (x y : Int32), exec d mX7_skills 78 [l0, l1, l2, l3, l4, l5, l6, l7, l8, l9, l10, l11, l12] (.int y :: .int x :: S) σ = exec d mX7_skills 79 [l0, l1, l2, l3, l4, l5, l6, l7, l8, l9, l10, l11, l12] (.int (x * y) :: S) σ) ∧
  (∀ (d : Nat) (σ : Sg) (S : List Value) (l0 l1 l3 l4 l5 l6 l7 l8 l9 l10 l11 l12 : Value) (x : Int32), exec d mX7_skills 79 [l0, l1, .int x, l3, l4, l5, l6, l7, l8, l9, l10, l11, l12] S σ = exec d mX7_skills 80 [l0, l1, .int x, l3, l4, l5, l6, l7, l8, l9, l10, l11, l12] (.int x :: S) σ) ∧
  (∀ (d : Nat) (σ : Sg) (S : List Value) (l0 l1 l2 l3 l4 l5 l6 l7 l8 l9 l10 l11 l12 : Value) (x y : Int32), exec d mX7_skills 80 [l0, l1, l2, l3, l4, l5, l6, l7, l8, l9, l10, l11, l12] (.int y :: .int x :: S) σ = exec d mX7_skills 81 [l0, l1, l2, l3, l4, l5, l6, l7, l8, l9, l10, l11, l12] (.int (x + y) :: S) σ) ∧
  (∀ (d : Nat) (σ : Sg) (S : List Value) (l0 l1 l2 l3 l4 l5 l6 l7 l8 l9 l10 l11 l12 : Value), exec d mX7_skills 81 [l0, l1, l2, l3, l4, l5, l6, l7, l8, l9, l10, l11, l12] S σ = exec d mX7_skills 82 [l0, l1, l2, l3, l4, l5, l6, l7, l8, l9, l10, l11, l12] (.int (nI 2) :: S) σ) ∧
  (∀ (d : Nat) (σ : Sg) (S : List Value) (l0 l1 l2 l3 l4 l5 l6 l8 l9 l10 l11 l12 : Value) (x : Int32), exec d mX7_skills 82 [l0, l1, l2, l3, l4, l5, l6, .int x, l8, l9, l10, l11, l12] S σ = exec d mX7_skills 84 [l0, l1, l2, l3, l4, l5, l6, .int x, l8, l9, l10, l11, l12] (.int x :: S) σ) ∧
  (∀ (d : Nat) (σ : Sg) (S : List Value) (l0 l1 l2 l3 l4 l5 l6 l7 l8 l9 l10 l11 l12 : Value) (x y : Int32), exec d mX7_skills 84 [l0, l1, l2, l3, l4, l5, l6, l7, l8, l9, l10, l11, l12] (.int y :: .int x :: S) σ = exec d mX7_skills 85 [l0, l1, l2, l3, l4, l5, l6, l7, l8, l9, l10, l11, l12] (.int (x * y) :: S) σ) ∧
  (∀ (d : Nat) (σ : Sg) (S : List Value) (l0 l1 l2 l3 l4 l5 l6 l7 l8 l9 l10 l11 l12 : Value) (x y : Int32), exec d mX7_skills 85 [l0, l1, l2, l3, l4, l5, l6, l7, l8, l9, l10, l11, l12] (.int y :: .int x :: S) σ = exec d mX7_skills 86 [l0, l1, l2, l3, l4, l5, l6, l7, l8, l9, l10, l11, l12] (.int (x + y) :: S) σ) ∧
  (∀ (d : Nat) (σ : Sg) (S : List Value) (l0 l1 l2 l3 l4 l5 l6 l7 l8 l9 l10 l11 l12 : Value) (x : Int32), exec d mX7_skills 86 [l0, l1, l2, l3, l4, l5, l6, l7, l8, l9, l10, l11, l12] (.int x :: .ref 54 :: S) σ = if inb x 320 = true then exec d mX7_skills 87 [l0, l1, l2, l3, l4, l5, l6, l7, l8, l9, l10, l11, l12] (.int (σ 54 x.toNatClampNeg) :: S) σ else none) ∧
  (∀ (d : Nat) (σ : Sg) (S : List Value) (l0 l1 l2 l3 l4 l5 l6 l8 l9 l10 l11 l12 : Value) (x y : Int32), exec d mX7_skills 87 [l0, l1, l2, l3, l4, l5, l6, .int y, l8, l9, l10, l11, l12] (.int x :: S) σ = exec d mX7_skills 89 [l0, l1, l2, l3, l4, l5, l6, .int y, .int x, l9, l10, l11, l12] S σ) ∧
  (∀ (d : Nat) (σ : Sg) (S : List Value) (l1 l2 l3 l4 l5 l6 l7 l8 l9 l10 l11 l12 : Value) (k : Nat), exec d mX7_skills 89 [.ref k, l1, l2, l3, l4, l5, l6, l7, l8, l9, l10, l11, l12] S σ = exec d mX7_skills 90 [.ref k, l1, l2, l3, l4, l5, l6, l7, l8, l9, l10, l11, l12] (.ref k :: S) σ) ∧
  (∀ (d : Nat) (σ : Sg) (S : List Value) (l0 l1 l2 l3 l4 l5 l6 l7 l9 l10 l11 l12 : Value) (x : Int32), exec d mX7_skills 90 [l0, l1, l2, l3, l4, l5, l6, l7, .int x, l9, l10, l11, l12] S σ = exec d mX7_skills 92 [l0, l1, l2, l3, l4, l5, l6, l7, .int x, l9, l10, l11, l12] (.int x :: S) σ) ∧
  (∀ (d : Nat) (σ : Sg) (l0 l1 l2 l3 l4 l5 l6 l7 l8 l9 l10 l11 l12 : Value) (x0 : Int32), exec d mX7_skills 92 [l0, l1, l2, l3, l4, l5, l6, l7, l8, l9, l10, l11, l12] [.int x0, .ref 50] σ = kb (cal d mX7_isPart [.ref 50, .int x0] σ) (fun rs σ2 => exec d mX7_skills 95 [l0, l1, l2, l3, l4, l5, l6, l7, l8, l9, l10, l11, l12] (rs ++ []) σ2)) ∧
  (∀ (d : Nat) (σ : Sg) (S : List Value) (l0 l1 l2 l3 l4 l5 l6 l7 l8 l9 l10 l11 l12 : Value) (x : Int32), exec d mX7_skills 95 [l0, l1, l2, l3, l4, l5, l6, l7, l8, l9, l10, l11, l12] (.int x :: S) σ = if x = nI 0 then exec d mX7_skills 98 [l0, l1, l2, l3, l4, l5, l6, l7, l8, l9, l10, l11, l12] S σ else exec d mX7_skills 101 [l0, l1, l2, l3, l4, l5, l6, l7, l8, l9, l10, l11, l12] S σ) ∧
  (∀ (d : Nat) (σ : Sg) (S : List Value) (l0 l1 l2 l3 l4 l5 l6 l7 l8 l9 l10 l11 l12 : Value), exec d mX7_skills 98 [l0, l1, l2, l3, l4, l5, l6, l7, l8, l9, l10, l11, l12] S σ = exec d mX7_skills 100 [l0, l1, l2, l3, l4, l5, l6, l7, l8, l9, l10, l11, l12] (.int ((-1000001)) :: S) σ) ∧
  (∀ (d : Nat) (σ : Sg) (l0 l1 l2 l3 l4 l5 l6 l7 l8 l9 l10 l11 l12 : Value) (x : Int32), exec d mX7_skills 100 [l0, l1, l2, l3, l4, l5, l6, l7, l8, l9, l10, l11, l12] [.int x] σ = some (some (.int x), σ)) ∧
  (∀ (d : Nat) (σ : Sg) (S : List Value) (l0 l1 l2 l3 l4 l5 l7 l8 l9 l10 l11 l12 : Value) (x : Int32), exec d mX7_skills 101 [l0, l1, l2, l3, l4, l5, .int x, l7, l8, l9, l10, l11, l12] S σ = exec d mX7_skills 103 [l0, l1, l2, l3, l4, l5, .int x, l7, l8, l9, l10, l11, l12] (.int x :: S) σ) ∧
  (∀ (d : Nat) (σ : Sg) (S : List Value) (l0 l1 l2 l3 l4 l5 l6 l7 l8 l9 l10 l11 l12 : Value) (x : Int32), exec d mX7_skills 103 [l0, l1, l2, l3, l4, l5, l6, l7, l8, l9, l10, l11, l12] (.int x :: S) σ = if x = nI 0 then exec d mX7_skills 131 [l0, l1, l2, l3, l4, l5, l6, l7, l8, l9, l10, l11, l12] S σ else exec d mX7_skills 106 [l0, l1, l2, l3, l4, l5, l6, l7, l8, l9, l10, l11, l12] S σ) ∧
  (∀ (d : Nat) (σ : Sg) (S : List Value) (l0 l1 l2 l3 l4 l6 l7 l8 l9 l10 l11 l12 : Value) (x : Int32), exec d mX7_skills 106 [l0, l1, l2, l3, l4, .int x, l6, l7, l8, l9, l10, l11, l12] S σ = exec d mX7_skills 108 [l0, l1, l2, l3, l4, .int x, l6, l7, l8, l9, l10, l11, l12] (.int x :: S) σ) ∧
  (∀ (d : Nat) (σ : Sg) (S : List Value) (l0 l1 l2 l3 l4 l5 l6 l7 l9 l10 l11 l12 : Value) (x : Int32), exec d mX7_skills 108 [l0, l1, l2, l3, l4, l5, l6, l7, .int x, l9, l10, l11, l12] S σ = exec d mX7_skills 110 [l0, l1, l2, l3, l4, l5, l6, l7, .int x, l9, l10, l11, l12] (.int x :: S) σ) ∧
  (∀ (d : Nat) (σ : Sg) (l0 l1 l2 l3 l4 l5 l6 l7 l8 l9 l10 l11 l12 : Value) (x0 x1 : Int32), exec d mX7_skills 110 [l0, l1, l2, l3, l4, l5, l6, l7, l8, l9, l10, l11, l12] [.int x0, .int x1] σ = kb (cal d mX7_has [.int x1, .int x0] σ) (fun rs σ2 => exec d mX7_skills 113 [l0, l1, l2, l3, l4, l5, l6, l7, l8, l9, l10, l11, l12] (rs ++ []) σ2)) ∧
  (∀ (d : Nat) (σ : Sg) (S : List Value) (l0 l1 l2 l3 l4 l5 l6 l7 l8 l9 l10 l11 l12 : Value) (x : Int32), exec d mX7_skills 113 [l0, l1, l2, l3, l4, l5, l6, l7, l8, l9, l10, l11, l12] (.int x :: S) σ = if x = nI 0 then exec d mX7_skills 116 [l0, l1, l2, l3, l4, l5, l6, l7, l8, l9, l10, l11, l12] S σ else exec d mX7_skills 131 [l0, l1, l2, l3, l4, l5, l6, l7, l8, l9, l10, l11, l12] S σ) ∧
  (∀ (d : Nat) (σ : Sg) (S : List Value) (l1 l2 l3 l4 l5 l6 l7 l8 l9 l10 l11 l12 : Value) (k : Nat), exec d mX7_skills 116 [.ref k, l1, l2, l3, l4, l5, l6, l7, l8, l9, l10, l11, l12] S σ = exec d mX7_skills 117 [.ref k, l1, l2, l3, l4, l5, l6, l7, l8, l9, l10, l11, l12] (.ref k :: S) σ) ∧
  (∀ (d : Nat) (σ : Sg) (S : List Value) (l0 l1 l2 l3 l4 l5 l6 l7 l9 l10 l11 l12 : Value) (x : Int32), exec d mX7_skills 117 [l0, l1, l2, l3, l4, l5, l6, l7, .int x, l9, l10, l11, l12] S σ = exec d mX7_skills 119 [l0, l1, l2, l3, l4, l5, l6, l7, .int x, l9, l10, l11, l12] (.int x :: S) σ) ∧
  (∀ (d : Nat) (σ : Sg) (S : List Value) (l0 l1 l2 l3 l4 l6 l7 l8 l9 l10 l11 l12 : Value) (x : Int32), exec d mX7_skills 119 [l0, l1, l2, l3, l4, .int x, l6, l7, l8, l9, l10, l11, l12] S σ = exec d mX7_skills 121 [l0, l1, l2, l3, l4, .int x, l6, l7, l8, l9, l10, l11, l12] (.int x :: S) σ) ∧
  (∀ (d : Nat) (σ : Sg) (l0 l1 l2 l3 l4 l5 l6 l7 l8 l9 l10 l11 l12 : Value) (x0 x1 : Int32), exec d mX7_skills 121 [l0, l1, l2, l3, l4, l5, l6, l7, l8, l9, l10, l11, l12] [.int x0, .int x1, .ref 50] σ = kb (cal d mX7_isAheadMade [.ref 50, .int x1, .int x0] σ) (fun rs σ2 => exec d mX7_skills 124 [l0, l1, l2, l3, l4, l5, l6, l7, l8, l9, l10, l11, l12] (rs ++ []) σ2)) ∧
  (∀ (d : Nat) (σ : Sg) (S : List Value) (l0 l1 l2 l3 l4 l5 l6 l7 l8 l9 l10 l11 l12 : Value) (x : Int32), exec d mX7_skills 124 [l0, l1, l2, l3, l4, l5, l6, l7, l8, l9, l10, l11, l12] (.int x :: S) σ = if x = nI 0 then exec d mX7_skills 131 [l0, l1, l2, l3, l4, l5, l6, l7, l8, l9, l10, l11, l12] S σ else exec d mX7_skills 127 [l0, l1, l2, l3, l4, l5, l6, l7, l8, l9, l10, l11, l12] S σ) ∧
  (∀ (d : Nat) (σ : Sg) (S : List Value) (l0 l1 l2 l3 l4 l5 l6 l7 l8 l9 l10 l11 l12 : Value), exec d mX7_skills 127 [l0, l1, l2, l3, l4, l5, l6, l7, l8, l9, l10, l11, l12] S σ = exec d mX7_skills 128 [l0, l1, l2, l3, l4, l5, l6, l7, l8, l9, l10, l11, l12] (.int (nI 1) :: S) σ) ∧
  (∀ (d : Nat) (σ : Sg) (S : List Value) (l0 l1 l2 l3 l4 l5 l6 l7 l8 l9 l10 l11 l12 : Value), exec d mX7_skills 128 [l0, l1, l2, l3, l4, l5, l6, l7, l8, l9, l10, l11, l12] S σ = exec d mX7_skills 132 [l0, l1, l2, l3, l4, l5, l6, l7, l8, l9, l10, l11, l12] S σ) ∧
  (∀ (d : Nat) (σ : Sg) (S : List Value) (l0 l1 l2 l3 l4 l5 l6 l7 l8 l9 l10 l11 l12 : Value), exec d mX7_skills 131 [l0, l1, l2, l3, l4, l5, l6, l7, l8, l9, l10, l11, l12] S σ = exec d mX7_skills 132 [l0, l1, l2, l3, l4, l5, l6, l7, l8, l9, l10, l11, l12] (.int (nI 0) :: S) σ) ∧
  (∀ (d : Nat) (σ : Sg) (S : List Value) (l0 l1 l2 l3 l4 l6 l7 l8 l9 l10 l11 l12 : Value) (x y : Int32), exec d mX7_skills 132 [l0, l1, l2, l3, l4, .int y, l6, l7, l8, l9, l10, l11, l12] (.int x :: S) σ = exec d mX7_skills 134 [l0, l1, l2, l3, l4, .int y, .int x, l7, l8, l9, l10, l11, l12] S σ) ∧
  (∀ (d : Nat) (σ : Sg) (S : List Value) (l0 l1 l2 l3 l4 l6 l7 l8 l9 l10 l11 l12 : Value) (x : Int32), exec d mX7_skills 134 [l0, l1, l2, l3, l4, .int x, l6, l7, l8, l9, l10, l11, l12] S σ = exec d mX7_skills 136 [l0, l1, l2, l3, l4, .int x, l6, l7, l8, l9, l10, l11, l12] (.int x :: S) σ) ∧
  (∀ (d : Nat) (σ : Sg) (S : List Value) (l0 l1 l2 l3 l4 l5 l6 l7 l8 l9 l10 l11 l12 : Value), exec d mX7_skills 136 [l0, l1, l2, l3, l4, l5, l6, l7, l8, l9, l10, l11, l12] S σ = exec d mX7_skills 137 [l0, l1, l2, l3, l4, l5, l6, l7, l8, l9, l10, l11, l12] (.int (nI 1) :: S) σ) ∧
  (∀ (d : Nat) (σ : Sg) (S : List Value) (l0 l1 l2 l3 l4 l5 l6 l7 l9 l10 l11 l12 : Value) (x : Int32), exec d mX7_skills 137 [l0, l1, l2, l3, l4, l5, l6, l7, .int x, l9, l10, l11, l12] S σ = exec d mX7_skills 139 [l0, l1, l2, l3, l4, l5, l6, l7, .int x, l9, l10, l11, l12] (.int x :: S) σ) ∧
  (∀ (d : Nat) (σ : Sg) (S : List Value) (l0 l1 l2 l3 l4 l5 l6 l7 l8 l9 l10 l11 l12 : Value) (x y : Int32), exec d mX7_skills 139 [l0, l1, l2, l3, l4, l5, l6, l7, l8, l9, l10, l11, l12] (.int y :: .int x :: S) σ = exec d mX7_skills 140 [l0, l1, l2, l3, l4, l5, l6, l7, l8, l9, l10, l11, l12] (.int (x <<< (y &&& 31)) :: S) σ) ∧
  (∀ (d : Nat) (σ : Sg) (S : List Value) (l0 l1 l2 l3 l4 l5 l6 l7 l8 l9 l10 l11 l12 : Value) (x y : Int32), exec d mX7_skills 140 [l0, l1, l2, l3, l4, l5, l6, l7, l8, l9, l10, l11, l12] (.int y :: .int x :: S) σ = exec d mX7_skills 141 [l0, l1, l2, l3, l4, l5, l6, l7, l8, l9, l10, l11, l12] (.int (x ||| y) :: S) σ) ∧
  (∀ (d : Nat) (σ : Sg) (S : List Value) (l0 l1 l2 l3 l5 l6 l7 l8 l9 l10 l11 l12 : Value) (x y : Int32), exec d mX7_skills 141 [l0, l1, l2, l3, .int y, l5, l6, l7, l8, l9, l10, l11, l12] (.int x :: S) σ = exec d mX7_skills 143 [l0, l1, l2, l3, .int y, .int x, l6, l7, l8, l9, l10, l11, l12] S σ) ∧
  (∀ (d : Nat) (σ : Sg) (S : List Value) (l0 l1 l2 l3 l4 l5 l8 l9 l10 l11 l12 : Value) (x y : Int32), exec d mX7_skills 143 [l0, l1, l2, l3, l4, l5, .int y, .int x, l8, l9, l10, l11, l12] S σ = exec d mX7_skills 146 [l0, l1, l2, l3, l4, l5, .int y, .int (x + nI 1), l8, l9, l10, l11, l12] S σ) :=
  ⟨fun d σ S l0 l1 l2 l3 l4 l5 l6 l7 l8 l9 l10 l11 l12 => ex_getr (idx := 20) (ci := 7) (ff := 4) (n := 26) (hh := 837) (by decide +kernel),
  fun d σ S l0 l1 l2 l3 l4 l5 l6 l7 l8 l9 l10 l11 l12 => ex_bipush (show decode mX7_skills.2.1 75 = .ok (.bipush 40, 2) by decide +kernel) (by decide +kernel),
  fun d σ S l0 l2 l3 l4 l5 l6 l7 l8 l9 l10 l11 l12 x => ex_iload_n (show decode mX7_skills.2.1 77 = .ok (.iload_n 1, 1) by decide +kernel) rfl,
  fun d σ S l0 l1 l2 l3 l4 l5 l6 l7 l8 l9 l10 l11 l12 x y => ex_imul (show decode mX7_skills.2.1 78 = .ok (.imul, 1) by decide +kernel),
  fun d σ S l0 l1 l3 l4 l5 l6 l7 l8 l9 l10 l11 l12 x => ex_iload_n (show decode mX7_skills.2.1 79 = .ok (.iload_n 2, 1) by decide +kernel) rfl,
  fun d σ S l0 l1 l2 l3 l4 l5 l6 l7 l8 l9 l10 l11 l12 x y => ex_iadd (show decode mX7_skills.2.1 80 = .ok (.iadd, 1) by decide +kernel),
  fun d σ S l0 l1 l2 l3 l4 l5 l6 l7 l8 l9 l10 l11 l12 => ex_iconst (show decode mX7_skills.2.1 81 = .ok (.iconst 2, 1) by decide +kernel) (by decide +kernel),
  fun d σ S l0 l1 l2 l3 l4 l5 l6 l8 l9 l10 l11 l12 x => ex_iload (show decode mX7_skills.2.1 82 = .ok (.iload 7, 2) by decide +kernel) rfl,
  fun d σ S l0 l1 l2 l3 l4 l5 l6 l7 l8 l9 l10 l11 l12 x y => ex_imul (show decode mX7_skills.2.1 84 = .ok (.imul, 1) by decide +kernel),
  fun d σ S l0 l1 l2 l3 l4 l5 l6 l7 l8 l9 l10 l11 l12 x y => ex_iadd (show decode mX7_skills.2.1 85 = .ok (.iadd, 1) by decide +kernel),
  fun d σ S l0 l1 l2 l3 l4 l5 l6 l7 l8 l9 l10 l11 l12 x => ex_iald (by decide +kernel),
  fun d σ S l0 l1 l2 l3 l4 l5 l6 l8 l9 l10 l11 l12 x y => ex_istore (show decode mX7_skills.2.1 87 = .ok (.istore 8, 2) by decide +kernel) (Nat.le_of_ble_eq_true rfl) rfl,
  fun d σ S l1 l2 l3 l4 l5 l6 l7 l8 l9 l10 l11 l12 k => ex_aload_n (show decode mX7_skills.2.1 89 = .ok (.aload_n 0, 1) by decide +kernel) rfl,
  fun d σ S l0 l1 l2 l3 l4 l5 l6 l7 l9 l10 l11 l12 x => ex_iload (show decode mX7_skills.2.1 90 = .ok (.iload 8, 2) by decide +kernel) rfl,
  fun d σ l0 l1 l2 l3 l4 l5 l6 l7 l8 l9 l10 l11 l12 x0 => ex_iv (hs := [1014, 1016, 65, 1017, 101]) (show decode mX7_skills.2.1 92 = .ok (.invokevirtual 172, 3) by decide +kernel) lkV_7_172 ⟨rfl, Nat.le_of_ble_eq_true rfl, Nat.le_of_ble_eq_true rfl, fun _ => rfl⟩ rfl rfl,
  fun d σ S l0 l1 l2 l3 l4 l5 l6 l7 l8 l9 l10 l11 l12 x => ex_zne (show decode mX7_skills.2.1 95 = .ok (.ifCond .ne 6, 3) by decide +kernel) (by decide),
  fun d σ S l0 l1 l2 l3 l4 l5 l6 l7 l8 l9 l10 l11 l12 => ex_ldc (hh := 924) (show decode mX7_skills.2.1 98 = .ok (.ldc 73, 2) by decide +kernel) (by decide +kernel),
  fun d σ l0 l1 l2 l3 l4 l5 l6 l7 l8 l9 l10 l11 l12 x => ex_iret (show decode mX7_skills.2.1 100 = .ok (.ireturn, 1) by decide +kernel) rfl,
  fun d σ S l0 l1 l2 l3 l4 l5 l7 l8 l9 l10 l11 l12 x => ex_iload (show decode mX7_skills.2.1 101 = .ok (.iload 6, 2) by decide +kernel) rfl,
  fun d σ S l0 l1 l2 l3 l4 l5 l6 l7 l8 l9 l10 l11 l12 x => ex_zeq (show decode mX7_skills.2.1 103 = .ok (.ifCond .eq 28, 3) by decide +kernel) (by decide),
  fun d σ S l0 l1 l2 l3 l4 l6 l7 l8 l9 l10 l11 l12 x => ex_iload (show decode mX7_skills.2.1 106 = .ok (.iload 5, 2) by decide +kernel) rfl,
  fun d σ S l0 l1 l2 l3 l4 l5 l6 l7 l9 l10 l11 l12 x => ex_iload (show decode mX7_skills.2.1 108 = .ok (.iload 8, 2) by decide +kernel) rfl,
  fun d σ l0 l1 l2 l3 l4 l5 l6 l7 l8 l9 l10 l11 l12 x0 x1 => ex_is (hs := [1033, 1034, 1035, 101]) (show decode mX7_skills.2.1 110 = .ok (.invokestatic 151, 3) by decide +kernel) lkS_7_151 ⟨rfl, Nat.le_of_ble_eq_true rfl, Nat.le_of_ble_eq_true rfl, fun q => nomatch q⟩ rfl rfl,
  fun d σ S l0 l1 l2 l3 l4 l5 l6 l7 l8 l9 l10 l11 l12 x => ex_zne (show decode mX7_skills.2.1 113 = .ok (.ifCond .ne 18, 3) by decide +kernel) (by decide),
  fun d σ S l1 l2 l3 l4 l5 l6 l7 l8 l9 l10 l11 l12 k => ex_aload_n (show decode mX7_skills.2.1 116 = .ok (.aload_n 0, 1) by decide +kernel) rfl,
  fun d σ S l0 l1 l2 l3 l4 l5 l6 l7 l9 l10 l11 l12 x => ex_iload (show decode mX7_skills.2.1 117 = .ok (.iload 8, 2) by decide +kernel) rfl,
  fun d σ S l0 l1 l2 l3 l4 l6 l7 l8 l9 l10 l11 l12 x => ex_iload (show decode mX7_skills.2.1 119 = .ok (.iload 5, 2) by decide +kernel) rfl,
  fun d σ l0 l1 l2 l3 l4 l5 l6 l7 l8 l9 l10 l11 l12 x0 x1 => ex_iv (hs := [1036, 1038, 69, 1039, 101]) (show decode mX7_skills.2.1 121 = .ok (.invokevirtual 158, 3) by decide +kernel) lkV_7_158 ⟨rfl, Nat.le_of_ble_eq_true rfl, Nat.le_of_ble_eq_true rfl, fun _ => rfl⟩ rfl rfl,
  fun d σ S l0 l1 l2 l3 l4 l5 l6 l7 l8 l9 l10 l11 l12 x => ex_zeq (show decode mX7_skills.2.1 124 = .ok (.ifCond .eq 7, 3) by decide +kernel) (by decide),
  fun d σ S l0 l1 l2 l3 l4 l5 l6 l7 l8 l9 l10 l11 l12 => ex_iconst (show decode mX7_skills.2.1 127 = .ok (.iconst 1, 1) by decide +kernel) (by decide +kernel),
  fun d σ S l0 l1 l2 l3 l4 l5 l6 l7 l8 l9 l10 l11 l12 => ex_goto (show decode mX7_skills.2.1 128 = .ok (.goto 4, 3) by decide +kernel) (by decide),
  fun d σ S l0 l1 l2 l3 l4 l5 l6 l7 l8 l9 l10 l11 l12 => ex_iconst (show decode mX7_skills.2.1 131 = .ok (.iconst 0, 1) by decide +kernel) (by decide +kernel),
  fun d σ S l0 l1 l2 l3 l4 l6 l7 l8 l9 l10 l11 l12 x y => ex_istore (show decode mX7_skills.2.1 132 = .ok (.istore 6, 2) by decide +kernel) (Nat.le_of_ble_eq_true rfl) rfl,
  fun d σ S l0 l1 l2 l3 l4 l6 l7 l8 l9 l10 l11 l12 x => ex_iload (show decode mX7_skills.2.1 134 = .ok (.iload 5, 2) by decide +kernel) rfl,
  fun d σ S l0 l1 l2 l3 l4 l5 l6 l7 l8 l9 l10 l11 l12 => ex_iconst (show decode mX7_skills.2.1 136 = .ok (.iconst 1, 1) by decide +kernel) (by decide +kernel),
  fun d σ S l0 l1 l2 l3 l4 l5 l6 l7 l9 l10 l11 l12 x => ex_iload (show decode mX7_skills.2.1 137 = .ok (.iload 8, 2) by decide +kernel) rfl,
  fun d σ S l0 l1 l2 l3 l4 l5 l6 l7 l8 l9 l10 l11 l12 x y => ex_ishl (show decode mX7_skills.2.1 139 = .ok (.ishl, 1) by decide +kernel),
  fun d σ S l0 l1 l2 l3 l4 l5 l6 l7 l8 l9 l10 l11 l12 x y => ex_ior (show decode mX7_skills.2.1 140 = .ok (.ior, 1) by decide +kernel),
  fun d σ S l0 l1 l2 l3 l5 l6 l7 l8 l9 l10 l11 l12 x y => ex_istore (show decode mX7_skills.2.1 141 = .ok (.istore 5, 2) by decide +kernel) (Nat.le_of_ble_eq_true rfl) rfl,
  fun d σ S l0 l1 l2 l3 l4 l5 l8 l9 l10 l11 l12 x y => ex_iinc (show decode mX7_skills.2.1 143 = .ok (.iinc 7 1, 3) by decide +kernel) rfl (by decide +kernel) (Nat.le_of_ble_eq_true rfl) rfl⟩
theorem kX7_skills_2 : (∀ (d : Nat) (σ : Sg) (S : List Value) (l0 l1 l2 l3 l4 l5 l6 l7 l8 l9 l10 l11 l12 : Value), exec d mX7_skills 146 [l0, l1, l2, l3, l4, l5, l6, l7, l8, l9, l10, l11, l12] S σ = exec d mX7_skills 65 [l0, l1, l2, l3, l4, l5, l6, l7, l8, l9, l10, l11, l12] S σ) ∧
  (∀ (d : Nat) (σ : Sg) (S : List Value) (l0 l1 l2 l3 l4 l5 l6 l7 l8 l9 l10 l11 l12 : Value), exec d mX7_skills 149 [l0, l1, l2, l3, l4, l5, l6, l7, l8, l9, l10, l11, l12] S σ = exec d mX7_skills 150 [l0, l1, l2, l3, l4, l5, l6, l7, l8, l9, l10, l11, l12] (.int (nI 0) :: S) σ) ∧
  (∀ (d : Nat) (σ : Sg) (S : List Value) (l0 l1 l2 l3 l4 l5 l7 l8 l9 l10 l11 l12 : Value) (x y : Int32), exec d mX7_skills 150 [l0, l1, l2, l3, l4, l5, .int y, l7, l8, l9, l10, l11, l12] (.int x :: S) σ = exec d mX7_skills 152 [l0, l1, l2, l3, l4, l5, .int y, .int x, l8, l9, l10, l11, l12] S σ) ∧
  (∀ (d : Nat) (σ : Sg) (S : List Value) (l0 l1 l2 l3 l4 l5 l6 l7 l8 l9 l10 l11 l12 : Value), exec d mX7_skills 152 [l0, l1, l2, l3, l4, l5, l6, l7, l8, l9, l10, l11, l12] S σ = exec d mX7_skills 153 [l0, l1, l2, l3, l4, l5, l6, l7, l8, l9, l10, l11, l12] (.int (nI 0) :: S) σ) ∧
  (∀ (d : Nat) (σ : Sg) (S : List Value) (l0 l1 l2 l3 l4 l5 l6 l8 l9 l10 l11 l12 : Value) (x y : Int32), exec d mX7_skills 153 [l0, l1, l2, l3, l4, l5, l6, .int y, l8, l9, l10, l11, l12] (.int x :: S) σ = exec d mX7_skills 155 [l0, l1, l2, l3, l4, l5, l6, .int y, .int x, l9, l10, l11, l12] S σ) ∧
  (∀ (d : Nat) (σ : Sg) (S : List Value) (l0 l1 l2 l3 l4 l5 l6 l7 l8 l9 l10 l11 l12 : Value), exec d mX7_skills 157 [l0, l1, l2, l3, l4, l5, l6, l7, l8, l9, l10, l11, l12] S σ = exec d mX7_skills 159 [l0, l1, l2, l3, l4, l5, l6, l7, l8, l9, l10, l11, l12] (.int (nI 20) :: S) σ) ∧
  (∀ (d : Nat) (σ : Sg) (S : List Value) (l0 l1 l2 l3 l4 l5 l6 l7 l8 l9 l10 l11 l12 : Value) (x y : Int32), exec d mX7_skills 159 [l0, l1, l2, l3, l4, l5, l6, l7, l8, l9, l10, l11, l12] (.int y :: .int x :: S) σ = if y < x then exec d mX7_skills 302 [l0, l1, l2, l3, l4, l5, l6, l7, l8, l9, l10, l11, l12] S σ else exec d mX7_skills 162 [l0, l1, l2, l3, l4, l5, l6, l7, l8, l9, l10, l11, l12] S σ) ∧
  (∀ (d : Nat) (σ : Sg) (S : List Value) (l0 l1 l2 l3 l4 l5 l6 l7 l9 l10 l11 l12 : Value) (x : Int32), exec d mX7_skills 162 [l0, l1, l2, l3, l4, l5, l6, l7, .int x, l9, l10, l11, l12] S σ = exec d mX7_skills 164 [l0, l1, l2, l3, l4, l5, l6, l7, .int x, l9, l10, l11, l12] (.int x :: S) σ) ∧
  (∀ (d : Nat) (σ : Sg) (S : List Value) (l0 l1 l2 l3 l4 l5 l6 l7 l9 l10 l11 l12 : Value) (x y : Int32), exec d mX7_skills 164 [l0, l1, l2, l3, l4, l5, l6, l7, .int y, l9, l10, l11, l12] (.int x :: S) σ = exec d mX7_skills 166 [l0, l1, l2, l3, l4, l5, l6, l7, .int y, .int x, l10, l11, l12] S σ) ∧
  (∀ (d : Nat) (σ : Sg) (S : List Value) (l0 l1 l2 l3 l4 l5 l7 l8 l9 l10 l11 l12 : Value) (x : Int32), exec d mX7_skills 166 [l0, l1, l2, l3, l4, l5, .int x, l7, l8, l9, l10, l11, l12] S σ = exec d mX7_skills 168 [l0, l1, l2, l3, l4, l5, .int x, l7, l8, l9, l10, l11, l12] (.int x :: S) σ) ∧
  (∀ (d : Nat) (σ : Sg) (S : List Value) (l0 l1 l2 l3 l4 l5 l6 l7 l8 l10 l11 l12 : Value) (x y : Int32), exec d mX7_skills 168 [l0, l1, l2, l3, l4, l5, l6, l7, l8, .int y, l10, l11, l12] (.int x :: S) σ = exec d mX7_skills 170 [l0, l1, l2, l3, l4, l5, l6, l7, l8, .int y, .int x, l11, l12] S σ) ∧
  (∀ (d : Nat) (σ : Sg) (S : List Value) (l0 l1 l2 l3 l4 l5 l6 l7 l8 l9 l10 l11 l12 : Value), exec d mX7_skills 170 [l0, l1, l2, l3, l4, l5, l6, l7, l8, l9, l10, l11, l12] S σ = exec d mX7_skills 171 [l0, l1, l2, l3, l4, l5, l6, l7, l8, l9, l10, l11, l12] (.int (nI 0) :: S) σ) ∧
  (∀ (d : Nat) (σ : Sg) (S : List Value) (l0 l1 l2 l3 l4 l5 l6 l7 l8 l9 l11 l12 : Value) (x y : Int32), exec d mX7_skills 171 [l0, l1, l2, l3, l4, l5, l6, l7, l8, l9, .int y, l11, l12] (.int x :: S) σ = exec d mX7_skills 173 [l0, l1, l2, l3, l4, l5, l6, l7, l8, l9, .int y, .int x, l12] S σ) ∧
  (∀ (d : Nat) (σ : Sg) (S : List Value) (l0 l1 l2 l4 l5 l6 l7 l8 l9 l10 l11 l12 : Value) (x : Int32), exec d mX7_skills 175 [l0, l1, l2, .int x, l4, l5, l6, l7, l8, l9, l10, l11, l12] S σ = exec d mX7_skills 176 [l0, l1, l2, .int x, l4, l5, l6, l7, l8, l9, l10, l11, l12] (.int x :: S) σ) ∧
  (∀ (d : Nat) (σ : Sg) (S : List Value) (l0 l1 l2 l3 l4 l5 l6 l7 l8 l9 l10 l11 l12 : Value) (x y : Int32), exec d mX7_skills 176 [l0, l1, l2, l3, l4, l5, l6, l7, l8, l9, l10, l11, l12] (.int y :: .int x :: S) σ = if y ≤ x then exec d mX7_skills 278 [l0, l1, l2, l3, l4, l5, l6, l7, l8, l9, l10, l11, l12] S σ else exec d mX7_skills 179 [l0, l1, l2, l3, l4, l5, l6, l7, l8, l9, l10, l11, l12] S σ) ∧
  (∀ (d : Nat) (σ : Sg) (S : List Value) (l1 l2 l3 l4 l5 l6 l7 l8 l9 l10 l11 l12 : Value) (k : Nat), exec d mX7_skills 179 [.ref k, l1, l2, l3, l4, l5, l6, l7, l8, l9, l10, l11, l12] S σ = exec d mX7_skills 180 [.ref k, l1, l2, l3, l4, l5, l6, l7, l8, l9, l10, l11, l12] (.ref k :: S) σ) ∧
  (∀ (d : Nat) (σ : Sg) (S : List Value) (l0 l1 l2 l3 l4 l5 l6 l7 l8 l9 l10 l11 l12 : Value), exec d mX7_skills 180 [l0, l1, l2, l3, l4, l5, l6, l7, l8, l9, l10, l11, l12] (.ref 50 :: S) σ = exec d mX7_skills 183 [l0, l1, l2, l3, l4, l5, l6, l7, l8, l9, l10, l11, l12] (.ref 54 :: S) σ) ∧
  (∀ (d : Nat) (σ : Sg) (S : List Value) (l0 l1 l2 l3 l4 l5 l6 l7 l8 l9 l10 l11 l12 : Value), exec d mX7_skills 183 [l0, l1, l2, l3, l4, l5, l6, l7, l8, l9, l10, l11, l12] S σ = exec d mX7_skills 185 [l0, l1, l2, l3, l4, l5, l6, l7, l8, l9, l10, l11, l12] (.int (nI 40) :: S) σ) ∧
  (∀ (d : Nat) (σ : Sg) (S : List Value) (l0 l2 l3 l4 l5 l6 l7 l8 l9 l10 l11 l12 : Value) (x : Int32), exec d mX7_skills 185 [l0, .int x, l2, l3, l4, l5, l6, l7, l8, l9, l10, l11, l12] S σ = exec d mX7_skills 186 [l0, .int x, l2, l3, l4, l5, l6, l7, l8, l9, l10, l11, l12] (.int x :: S) σ) ∧
  (∀ (d : Nat) (σ : Sg) (S : List Value) (l0 l1 l2 l3 l4 l5 l6 l7 l8 l9 l10 l11 l12 : Value) (x y : Int32), exec d mX7_skills 186 [l0, l1, l2, l3, l4, l5, l6, l7, l8, l9, l10, l11, l12] (.int y :: .int x :: S) σ = exec d mX7_skills 187 [l0, l1, l2, l3, l4, l5, l6, l7, l8, l9, l10, l11, l12] (.int (x * y) :: S) σ) ∧
  (∀ (d : Nat) (σ : Sg) (S : List Value) (l0 l1 l3 l4 l5 l6 l7 l8 l9 l10 l11 l12 : Value) (x : Int32), exec d mX7_skills 187 [l0, l1, .int x, l3, l4, l5, l6, l7, l8, l9, l10, l11, l12] S σ = exec d mX7_skills 188 [l0, l1, .int x, l3, l4, l5, l6, l7, l8, l9, l10, l11, l12] (.int x :: S) σ) ∧
  (∀ (d : Nat) (σ : Sg) (S : List Value) (l0 l1 l2 l3 l4 l5 l6 l7 l8 l9 l10 l11 l12 : Value) (x y : Int32), exec d mX7_skills 188 [l0, l1, l2, l3, l4, l5, l6, l7, l8, l9, l10, l11, l12] (.int y :: .int x :: S) σ = exec d mX7_skills 189 [l0, l1, l2, l3, l4, l5, l6, l7, l8, l9, l10, l11, l12] (.int (x + y) :: S) σ) ∧
  (∀ (d : Nat) (σ : Sg) (S : List Value) (l0 l1 l2 l3 l4 l5 l6 l7 l8 l9 l10 l11 l12 : Value), exec d mX7_skills 189 [l0, l1, l2, l3, l4, l5, l6, l7, l8, l9, l10, l11, l12] S σ = exec d mX7_skills 190 [l0, l1, l2, l3, l4, l5, l6, l7, l8, l9, l10, l11, l12] (.int (nI 2) :: S) σ) ∧
  (∀ (d : Nat) (σ : Sg) (S : List Value) (l0 l1 l2 l3 l4 l5 l6 l7 l8 l9 l10 l12 : Value) (x : Int32), exec d mX7_skills 190 [l0, l1, l2, l3, l4, l5, l6, l7, l8, l9, l10, .int x, l12] S σ = exec d mX7_skills 192 [l0, l1, l2, l3, l4, l5, l6, l7, l8, l9, l10, .int x, l12] (.int x :: S) σ) ∧
  (∀ (d : Nat) (σ : Sg) (S : List Value) (l0 l1 l2 l3 l4 l5 l6 l7 l8 l9 l10 l11 l12 : Value) (x y : Int32), exec d mX7_skills 192 [l0, l1, l2, l3, l4, l5, l6, l7, l8, l9, l10, l11, l12] (.int y :: .int x :: S) σ = exec d mX7_skills 193 [l0, l1, l2, l3, l4, l5, l6, l7, l8, l9, l10, l11, l12] (.int (x * y) :: S) σ) ∧
  (∀ (d : Nat) (σ : Sg) (S : List Value) (l0 l1 l2 l3 l4 l5 l6 l7 l8 l9 l10 l11 l12 : Value) (x y : Int32), exec d mX7_skills 193 [l0, l1, l2, l3, l4, l5, l6, l7, l8, l9, l10, l11, l12] (.int y :: .int x :: S) σ = exec d mX7_skills 194 [l0, l1, l2, l3, l4, l5, l6, l7, l8, l9, l10, l11, l12] (.int (x + y) :: S) σ) ∧
  (∀ (d : Nat) (σ : Sg) (S : List Value) (l0 l1 l2 l3 l4 l5 l6 l7 l8 l9 l10 l11 l12 : Value) (x : Int32), exec d mX7_skills 194 [l0, l1, l2, l3, l4, l5, l6, l7, l8, l9, l10, l11, l12] (.int x :: .ref 54 :: S) σ = if inb x 320 = true then exec d mX7_skills 195 [l0, l1, l2, l3, l4, l5, l6, l7, l8, l9, l10, l11, l12] (.int (σ 54 x.toNatClampNeg) :: S) σ else none) ∧
  (∀ (d : Nat) (σ : Sg) (S : List Value) (l0 l1 l2 l3 l4 l5 l6 l7 l8 l9 l10 l12 : Value) (x y : Int32), exec d mX7_skills 195 [l0, l1, l2, l3, l4, l5, l6, l7, l8, l9, l10, .int y, l12] (.int x :: S) σ = exec d mX7_skills 197 [l0, l1, l2, l3, l4, l5, l6, l7, l8, l9, l10, .int y, .int x] S σ) ∧
  (∀ (d : Nat) (σ : Sg) (S : List Value) (l0 l1 l2 l3 l4 l5 l6 l7 l8 l9 l11 l12 : Value) (x : Int32), exec d mX7_skills 197 [l0, l1, l2, l3, l4, l5, l6, l7, l8, l9, .int x, l11, l12] S σ = exec d mX7_skills 199 [l0, l1, l2, l3, l4, l5, l6, l7, l8, l9, .int x, l11, l12] (.int x :: S) σ) ∧
  (∀ (d : Nat) (σ : Sg) (S : List Value) (l0 l1 l2 l3 l4 l5 l6 l7 l8 l9 l10 l11 l12 : Value) (x : Int32), exec d mX7_skills 199 [l0, l1, l2, l3, l4, l5, l6, l7, l8, l9, l10, l11, l12] (.int x :: S) σ = if x = nI 0 then exec d mX7_skills 243 [l0, l1, l2, l3, l4, l5, l6, l7, l8, l9, l10, l11, l12] S σ else exec d mX7_skills 202 [l0, l1, l2, l3, l4, l5, l6, l7, l8, l9, l10, l11, l12] S σ) ∧
  (∀ (d : Nat) (σ : Sg) (S : List Value) (l1 l2 l3 l4 l5 l6 l7 l8 l9 l10 l11 l12 : Value) (k : Nat), exec d mX7_skills 202 [.ref k, l1, l2, l3, l4, l5, l6, l7, l8, l9, l10, l11, l12] S σ = exec d mX7_skills 203 [.ref k, l1, l2, l3, l4, l5, l6, l7, l8, l9, l10, l11, l12] (.ref k :: S) σ) ∧
  (∀ (d : Nat) (σ : Sg) (S : List Value) (l0 l1 l2 l3 l4 l5 l6 l7 l8 l9 l10 l11 : Value) (x : Int32), exec d mX7_skills 203 [l0, l1, l2, l3, l4, l5, l6, l7, l8, l9, l10, l11, .int x] S σ = exec d mX7_skills 205 [l0, l1, l2, l3, l4, l5, l6, l7, l8, l9, l10, l11, .int x] (.int x :: S) σ) ∧
  (∀ (d : Nat) (σ : Sg) (S : List Value) (l0 l1 l2 l3 l4 l5 l6 l7 l8 l10 l11 l12 : Value) (x : Int32), exec d mX7_skills 205 [l0, l1, l2, l3, l4, l5, l6, l7, l8, .int x, l10, l11, l12] S σ = exec d mX7_skills 207 [l0, l1, l2, l3, l4, l5, l6, l7, l8, .int x, l10, l11, l12] (.int x :: S) σ) ∧
  (∀ (d : Nat) (σ : Sg) (l0 l1 l2 l3 l4 l5 l6 l7 l8 l9 l10 l11 l12 : Value) (x0 x1 : Int32), exec d mX7_skills 207 [l0, l1, l2, l3, l4, l5, l6, l7, l8, l9, l10, l11, l12] [.int x0, .int x1, .ref 50] σ = kb (cal d mX7_isFaultyNow [.ref 50, .int x1, .int x0] σ) (fun rs σ2 => exec d mX7_skills 210 [l0, l1, l2, l3, l4, l5, l6, l7, l8, l9, l10, l11, l12] (rs ++ []) σ2)) ∧
  (∀ (d : Nat) (σ : Sg) (S : List Value) (l0 l1 l2 l3 l4 l5 l6 l7 l8 l9 l10 l11 l12 : Value) (x : Int32), exec d mX7_skills 210 [l0, l1, l2, l3, l4, l5, l6, l7, l8, l9, l10, l11, l12] (.int x :: S) σ = if x = nI 0 then exec d mX7_skills 217 [l0, l1, l2, l3, l4, l5, l6, l7, l8, l9, l10, l11, l12] S σ else exec d mX7_skills 213 [l0, l1, l2, l3, l4, l5, l6, l7, l8, l9, l10, l11, l12] S σ) ∧
  (∀ (d : Nat) (σ : Sg) (S : List Value) (l0 l1 l2 l3 l4 l5 l6 l7 l8 l9 l10 l11 l12 : Value), exec d mX7_skills 213 [l0, l1, l2, l3, l4, l5, l6, l7, l8, l9, l10, l11, l12] S σ = exec d mX7_skills 214 [l0, l1, l2, l3, l4, l5, l6, l7, l8, l9, l10, l11, l12] (.int (nI 1) :: S) σ) ∧
  (∀ (d : Nat) (σ : Sg) (S : List Value) (l0 l1 l2 l3 l4 l5 l6 l7 l8 l9 l10 l11 l12 : Value), exec d mX7_skills 214 [l0, l1, l2, l3, l4, l5, l6, l7, l8, l9, l10, l11, l12] S σ = exec d mX7_skills 218 [l0, l1, l2, l3, l4, l5, l6, l7, l8, l9, l10, l11, l12] S σ) ∧
  (∀ (d : Nat) (σ : Sg) (S : List Value) (l0 l1 l2 l3 l4 l5 l6 l7 l8 l9 l10 l11 l12 : Value), exec d mX7_skills 217 [l0, l1, l2, l3, l4, l5, l6, l7, l8, l9, l10, l11, l12] S σ = exec d mX7_skills 218 [l0, l1, l2, l3, l4, l5, l6, l7, l8, l9, l10, l11, l12] (.int (nI 0) :: S) σ) ∧
  (∀ (d : Nat) (σ : Sg) (S : List Value) (l1 l2 l3 l4 l5 l6 l7 l8 l9 l10 l11 l12 : Value) (k : Nat), exec d mX7_skills 218 [.ref k, l1, l2, l3, l4, l5, l6, l7, l8, l9, l10, l11, l12] S σ = exec d mX7_skills 219 [.ref k, l1, l2, l3, l4, l5, l6, l7, l8, l9, l10, l11, l12] (.ref k :: S) σ) ∧
  (∀ (d : Nat) (σ : Sg) (S : List Value) (l0 l1 l2 l3 l4 l5 l6 l7 l8 l9 l10 l11 l12 : Value), exec d mX7_skills 219 [l0, l1, l2, l3, l4, l5, l6, l7, l8, l9, l10, l11, l12] (.ref 50 :: S) σ = exec d mX7_skills 222 [l0, l1, l2, l3, l4, l5, l6, l7, l8, l9, l10, l11, l12] (.ref 54 :: S) σ) :=
  ⟨fun d σ S l0 l1 l2 l3 l4 l5 l6 l7 l8 l9 l10 l11 l12 => ex_goto (show decode mX7_skills.2.1 146 = .ok (.goto (-81), 3) by decide +kernel) (by decide),
  fun d σ S l0 l1 l2 l3 l4 l5 l6 l7 l8 l9 l10 l11 l12 => ex_iconst (show decode mX7_skills.2.1 149 = .ok (.iconst 0, 1) by decide +kernel) (by decide +kernel),
  fun d σ S l0 l1 l2 l3 l4 l5 l7 l8 l9 l10 l11 l12 x y => ex_istore (show decode mX7_skills.2.1 150 = .ok (.istore 7, 2) by decide +kernel) (Nat.le_of_ble_eq_true rfl) rfl,
  fun d σ S l0 l1 l2 l3 l4 l5 l6 l7 l8 l9 l10 l11 l12 => ex_iconst (show decode mX7_skills.2.1 152 = .ok (.iconst 0, 1) by decide +kernel) (by decide +kernel),
  fun d σ S l0 l1 l2 l3 l4 l5 l6 l8 l9 l10 l11 l12 x y => ex_istore (show decode mX7_skills.2.1 153 = .ok (.istore 8, 2) by decide +kernel) (Nat.le_of_ble_eq_true rfl) rfl,
  fun d σ S l0 l1 l2 l3 l4 l5 l6 l7 l8 l9 l10 l11 l12 => ex_bipush (show decode mX7_skills.2.1 157 = .ok (.bipush 20, 2) by decide +kernel) (by decide +kernel),
  fun d σ S l0 l1 l2 l3 l4 l5 l6 l7 l8 l9 l10 l11 l12 x y => ex_cgt (show decode mX7_skills.2.1 159 = .ok (.if_icmp .gt 143, 3) by decide +kernel) (by decide),
  fun d σ S l0 l1 l2 l3 l4 l5 l6 l7 l9 l10 l11 l12 x => ex_iload (show decode mX7_skills.2.1 162 = .ok (.iload 8, 2) by decide +kernel) rfl,
  fun d σ S l0 l1 l2 l3 l4 l5 l6 l7 l9 l10 l11 l12 x y => ex_istore (show decode mX7_skills.2.1 164 = .ok (.istore 9, 2) by decide +kernel) (Nat.le_of_ble_eq_true rfl) rfl,
  fun d σ S l0 l1 l2 l3 l4 l5 l7 l8 l9 l10 l11 l12 x => ex_iload (show decode mX7_skills.2.1 166 = .ok (.iload 6, 2) by decide +kernel) rfl,
  fun d σ S l0 l1 l2 l3 l4 l5 l6 l7 l8 l10 l11 l12 x y => ex_istore (show decode mX7_skills.2.1 168 = .ok (.istore 10, 2) by decide +kernel) (Nat.le_of_ble_eq_true rfl) rfl,
  fun d σ S l0 l1 l2 l3 l4 l5 l6 l7 l8 l9 l10 l11 l12 => ex_iconst (show decode mX7_skills.2.1 170 = .ok (.iconst 0, 1) by decide +kernel) (by decide +kernel),
  fun d σ S l0 l1 l2 l3 l4 l5 l6 l7 l8 l9 l11 l12 x y => ex_istore (show decode mX7_skills.2.1 171 = .ok (.istore 11, 2) by decide +kernel) (Nat.le_of_ble_eq_true rfl) rfl,
  fun d σ S l0 l1 l2 l4 l5 l6 l7 l8 l9 l10 l11 l12 x => ex_iload_n (show decode mX7_skills.2.1 175 = .ok (.iload_n 3, 1) by decide +kernel) rfl,
  fun d σ S l0 l1 l2 l3 l4 l5 l6 l7 l8 l9 l10 l11 l12 x y => ex_cge (show decode mX7_skills.2.1 176 = .ok (.if_icmp .ge 102, 3) by decide +kernel) (by decide),
  fun d σ S l1 l2 l3 l4 l5 l6 l7 l8 l9 l10 l11 l12 k => ex_aload_n (show decode mX7_skills.2.1 179 = .ok (.aload_n 0, 1) by decide +kernel) rfl,
  fun d σ S l0 l1 l2 l3 l4 l5 l6 l7 l8 l9 l10 l11 l12 => ex_getr (idx := 20) (ci := 7) (ff := 4) (n := 26) (hh := 837) (by decide +kernel),
  fun d σ S l0 l1 l2 l3 l4 l5 l6 l7 l8 l9 l10 l11 l12 => ex_bipush (show decode mX7_skills.2.1 183 = .ok (.bipush 40, 2) by decide +kernel) (by decide +kernel),
  fun d σ S l0 l2 l3 l4 l5 l6 l7 l8 l9 l10 l11 l12 x => ex_iload_n (show decode mX7_skills.2.1 185 = .ok (.iload_n 1, 1) by decide +kernel) rfl,
  fun d σ S l0 l1 l2 l3 l4 l5 l6 l7 l8 l9 l10 l11 l12 x y => ex_imul (show decode mX7_skills.2.1 186 = .ok (.imul, 1) by decide +kernel),
  fun d σ S l0 l1 l3 l4 l5 l6 l7 l8 l9 l10 l11 l12 x => ex_iload_n (show decode mX7_skills.2.1 187 = .ok (.iload_n 2, 1) by decide +kernel) rfl,
  fun d σ S l0 l1 l2 l3 l4 l5 l6 l7 l8 l9 l10 l11 l12 x y => ex_iadd (show decode mX7_skills.2.1 188 = .ok (.iadd, 1) by decide +kernel),
  fun d σ S l0 l1 l2 l3 l4 l5 l6 l7 l8 l9 l10 l11 l12 => ex_iconst (show decode mX7_skills.2.1 189 = .ok (.iconst 2, 1) by decide +kernel) (by decide +kernel),
  fun d σ S l0 l1 l2 l3 l4 l5 l6 l7 l8 l9 l10 l12 x => ex_iload (show decode mX7_skills.2.1 190 = .ok (.iload 11, 2) by decide +kernel) rfl,
  fun d σ S l0 l1 l2 l3 l4 l5 l6 l7 l8 l9 l10 l11 l12 x y => ex_imul (show decode mX7_skills.2.1 192 = .ok (.imul, 1) by decide +kernel),
  fun d σ S l0 l1 l2 l3 l4 l5 l6 l7 l8 l9 l10 l11 l12 x y => ex_iadd (show decode mX7_skills.2.1 193 = .ok (.iadd, 1) by decide +kernel),
  fun d σ S l0 l1 l2 l3 l4 l5 l6 l7 l8 l9 l10 l11 l12 x => ex_iald (by decide +kernel),
  fun d σ S l0 l1 l2 l3 l4 l5 l6 l7 l8 l9 l10 l12 x y => ex_istore (show decode mX7_skills.2.1 195 = .ok (.istore 12, 2) by decide +kernel) (Nat.le_of_ble_eq_true rfl) rfl,
  fun d σ S l0 l1 l2 l3 l4 l5 l6 l7 l8 l9 l11 l12 x => ex_iload (show decode mX7_skills.2.1 197 = .ok (.iload 10, 2) by decide +kernel) rfl,
  fun d σ S l0 l1 l2 l3 l4 l5 l6 l7 l8 l9 l10 l11 l12 x => ex_zeq (show decode mX7_skills.2.1 199 = .ok (.ifCond .eq 44, 3) by decide +kernel) (by decide),
  fun d σ S l1 l2 l3 l4 l5 l6 l7 l8 l9 l10 l11 l12 k => ex_aload_n (show decode mX7_skills.2.1 202 = .ok (.aload_n 0, 1) by decide +kernel) rfl,
  fun d σ S l0 l1 l2 l3 l4 l5 l6 l7 l8 l9 l10 l11 x => ex_iload (show decode mX7_skills.2.1 203 = .ok (.iload 12, 2) by decide +kernel) rfl,
  fun d σ S l0 l1 l2 l3 l4 l5 l6 l7 l8 l10 l11 l12 x => ex_iload (show decode mX7_skills.2.1 205 = .ok (.iload 9, 2) by decide +kernel) rfl,
  fun d σ l0 l1 l2 l3 l4 l5 l6 l7 l8 l9 l10 l11 l12 x0 x1 => ex_iv (hs := [1048, 1050, 72, 1051, 101]) (show decode mX7_skills.2.1 207 = .ok (.invokevirtual 165, 3) by decide +kernel) lkV_7_165 ⟨rfl, Nat.le_of_ble_eq_true rfl, Nat.le_of_ble_eq_true rfl, fun _ => rfl⟩ rfl rfl,
  fun d σ S l0 l1 l2 l3 l4 l5 l6 l7 l8 l9 l10 l11 l12 x => ex_zeq (show decode mX7_skills.2.1 210 = .ok (.ifCond .eq 7, 3) by decide +kernel) (by decide),
  fun d σ S l0 l1 l2 l3 l4 l5 l6 l7 l8 l9 l10 l11 l12 => ex_iconst (show decode mX7_skills.2.1 213 = .ok (.iconst 1, 1) by decide +kernel) (by decide +kernel),
  fun d σ S l0 l1 l2 l3 l4 l5 l6 l7 l8 l9 l10 l11 l12 => ex_goto (show decode mX7_skills.2.1 214 = .ok (.goto 4, 3) by decide +kernel) (by decide),
  fun d σ S l0 l1 l2 l3 l4 l5 l6 l7 l8 l9 l10 l11 l12 => ex_iconst (show decode mX7_skills.2.1 217 = .ok (.iconst 0, 1) by decide +kernel) (by decide +kernel),
  fun d σ S l1 l2 l3 l4 l5 l6 l7 l8 l9 l10 l11 l12 k => ex_aload_n (show decode mX7_skills.2.1 218 = .ok (.aload_n 0, 1) by decide +kernel) rfl,
  fun d σ S l0 l1 l2 l3 l4 l5 l6 l7 l8 l9 l10 l11 l12 => ex_getr (idx := 20) (ci := 7) (ff := 4) (n := 26) (hh := 837) (by decide +kernel)⟩
theorem kX7_skills_3 : (∀ (d : Nat) (σ : Sg) (S : List Value) (l0 l1 l2 l3 l4 l5 l6 l7 l8 l9 l10 l11 l12 : Value), exec d mX7_skills 222 [l0, l1, l2, l3, l4, l5, l6, l7, l8, l9, l10, l11, l12] S σ = exec d mX7_skills 224 [l0, l1, l2, l3, l4, l5, l6, l7, l8, l9, l10, l11, l12] (.int (nI 40) :: S) σ) ∧
  (∀ (d : Nat) (σ : Sg) (S : List Value) (l0 l2 l3 l4 l5 l6 l7 l8 l9 l10 l11 l12 : Value) (x : Int32), exec d mX7_skills 224 [l0, .int x, l2, l3, l4, l5, l6, l7, l8, l9, l10, l11, l12] S σ = exec d mX7_skills 225 [l0, .int x, l2, l3, l4, l5, l6, l7, l8, l9, l10, l11, l12] (.int x :: S) σ) ∧
  (∀ (d : Nat) (σ : Sg) (S : List Value) (l0 l1 l2 l3 l4 l5 l6 l7 l8 l9 l10 l11 l12 : Value) (x y : Int32), exec d mX7_skills 225 [l0, l1, l2, l3, l4, l5, l6, l7, l8, l9, l10, l11, l12] (.int y :: .int x :: S) σ = exec d mX7_skills 226 [l0, l1, l2, l3, l4, l5, l6, l7, l8, l9, l10, l11, l12] (.int (x * y) :: S) σ) ∧
  (∀ (d : Nat) (σ : Sg) (S : List Value) (l0 l1 l3 l4 l5 l6 l7 l8 l9 l10 l11 l12 : Value) (x : Int32), exec d mX7_skills 226 [l0, l1, .int x, l3, l4, l5, l6, l7, l8, l9, l10, l11, l12] S σ = exec d mX7_skills 227 [l0, l1, .int x, l3, l4, l5, l6, l7, l8, l9, l10, l11, l12] (.int x :: S) σ) ∧
  (∀ (d : Nat) (σ : Sg) (S : List Value) (l0 l1 l2 l3 l4 l5 l6 l7 l8 l9 l10 l11 l12 : Value) (x y : Int32), exec d mX7_skills 227 [l0, l1, l2, l3, l4, l5, l6, l7, l8, l9, l10, l11, l12] (.int y :: .int x :: S) σ = exec d mX7_skills 228 [l0, l1, l2, l3, l4, l5, l6, l7, l8, l9, l10, l11, l12] (.int (x + y) :: S) σ) ∧
  (∀ (d : Nat) (σ : Sg) (S : List Value) (l0 l1 l2 l3 l4 l5 l6 l7 l8 l9 l10 l11 l12 : Value), exec d mX7_skills 228 [l0, l1, l2, l3, l4, l5, l6, l7, l8, l9, l10, l11, l12] S σ = exec d mX7_skills 229 [l0, l1, l2, l3, l4, l5, l6, l7, l8, l9, l10, l11, l12] (.int (nI 2) :: S) σ) ∧
  (∀ (d : Nat) (σ : Sg) (S : List Value) (l0 l1 l2 l3 l4 l5 l6 l7 l8 l9 l10 l12 : Value) (x : Int32), exec d mX7_skills 229 [l0, l1, l2, l3, l4, l5, l6, l7, l8, l9, l10, .int x, l12] S σ = exec d mX7_skills 231 [l0, l1, l2, l3, l4, l5, l6, l7, l8, l9, l10, .int x, l12] (.int x :: S) σ) ∧
  (∀ (d : Nat) (σ : Sg) (S : List Value) (l0 l1 l2 l3 l4 l5 l6 l7 l8 l9 l10 l11 l12 : Value) (x y : Int32), exec d mX7_skills 231 [l0, l1, l2, l3, l4, l5, l6, l7, l8, l9, l10, l11, l12] (.int y :: .int x :: S) σ = exec d mX7_skills 232 [l0, l1, l2, l3, l4, l5, l6, l7, l8, l9, l10, l11, l12] (.int (x * y) :: S) σ) ∧
  (∀ (d : Nat) (σ : Sg) (S : List Value) (l0 l1 l2 l3 l4 l5 l6 l7 l8 l9 l10 l11 l12 : Value) (x y : Int32), exec d mX7_skills 232 [l0, l1, l2, l3, l4, l5, l6, l7, l8, l9, l10, l11, l12] (.int y :: .int x :: S) σ = exec d mX7_skills 233 [l0, l1, l2, l3, l4, l5, l6, l7, l8, l9, l10, l11, l12] (.int (x + y) :: S) σ) ∧
  (∀ (d : Nat) (σ : Sg) (S : List Value) (l0 l1 l2 l3 l4 l5 l6 l7 l8 l9 l10 l11 l12 : Value), exec d mX7_skills 233 [l0, l1, l2, l3, l4, l5, l6, l7, l8, l9, l10, l11, l12] S σ = exec d mX7_skills 234 [l0, l1, l2, l3, l4, l5, l6, l7, l8, l9, l10, l11, l12] (.int (nI 1) :: S) σ) ∧
  (∀ (d : Nat) (σ : Sg) (S : List Value) (l0 l1 l2 l3 l4 l5 l6 l7 l8 l9 l10 l11 l12 : Value) (x y : Int32), exec d mX7_skills 234 [l0, l1, l2, l3, l4, l5, l6, l7, l8, l9, l10, l11, l12] (.int y :: .int x :: S) σ = exec d mX7_skills 235 [l0, l1, l2, l3, l4, l5, l6, l7, l8, l9, l10, l11, l12] (.int (x + y) :: S) σ) ∧
  (∀ (d : Nat) (σ : Sg) (S : List Value) (l0 l1 l2 l3 l4 l5 l6 l7 l8 l9 l10 l11 l12 : Value) (x : Int32), exec d mX7_skills 235 [l0, l1, l2, l3, l4, l5, l6, l7, l8, l9, l10, l11, l12] (.int x :: .ref 54 :: S) σ = if inb x 320 = true then exec d mX7_skills 236 [l0, l1, l2, l3, l4, l5, l6, l7, l8, l9, l10, l11, l12] (.int (σ 54 x.toNatClampNeg) :: S) σ else none) ∧
  (∀ (d : Nat) (σ : Sg) (S : List Value) (l0 l1 l2 l3 l4 l5 l6 l7 l8 l9 l10 l11 l12 : Value) (x y : Int32), exec d mX7_skills 236 [l0, l1, l2, l3, l4, l5, l6, l7, l8, l9, l10, l11, l12] (.int y :: .int x :: S) σ = if x = y then exec d mX7_skills 239 [l0, l1, l2, l3, l4, l5, l6, l7, l8, l9, l10, l11, l12] S σ else exec d mX7_skills 243 [l0, l1, l2, l3, l4, l5, l6, l7, l8, l9, l10, l11, l12] S σ) ∧
  (∀ (d : Nat) (σ : Sg) (S : List Value) (l0 l1 l2 l3 l4 l5 l6 l7 l8 l9 l10 l11 l12 : Value), exec d mX7_skills 239 [l0, l1, l2, l3, l4, l5, l6, l7, l8, l9, l10, l11, l12] S σ = exec d mX7_skills 240 [l0, l1, l2, l3, l4, l5, l6, l7, l8, l9, l10, l11, l12] (.int (nI 1) :: S) σ) ∧
  (∀ (d : Nat) (σ : Sg) (S : List Value) (l0 l1 l2 l3 l4 l5 l6 l7 l8 l9 l10 l11 l12 : Value), exec d mX7_skills 240 [l0, l1, l2, l3, l4, l5, l6, l7, l8, l9, l10, l11, l12] S σ = exec d mX7_skills 244 [l0, l1, l2, l3, l4, l5, l6, l7, l8, l9, l10, l11, l12] S σ) ∧
  (∀ (d : Nat) (σ : Sg) (S : List Value) (l0 l1 l2 l3 l4 l5 l6 l7 l8 l9 l10 l11 l12 : Value), exec d mX7_skills 243 [l0, l1, l2, l3, l4, l5, l6, l7, l8, l9, l10, l11, l12] S σ = exec d mX7_skills 244 [l0, l1, l2, l3, l4, l5, l6, l7, l8, l9, l10, l11, l12] (.int (nI 0) :: S) σ) ∧
  (∀ (d : Nat) (σ : Sg) (S : List Value) (l0 l1 l2 l3 l4 l5 l6 l7 l8 l10 l11 l12 : Value) (x y : Int32), exec d mX7_skills 244 [l0, l1, l2, l3, l4, l5, l6, l7, l8, .int y, l10, l11, l12] (.int x :: S) σ = exec d mX7_skills 246 [l0, l1, l2, l3, l4, l5, l6, l7, l8, .int y, .int x, l11, l12] S σ) ∧
  (∀ (d : Nat) (σ : Sg) (S : List Value) (l1 l2 l3 l4 l5 l6 l7 l8 l9 l10 l11 l12 : Value) (k : Nat), exec d mX7_skills 246 [.ref k, l1, l2, l3, l4, l5, l6, l7, l8, l9, l10, l11, l12] S σ = exec d mX7_skills 247 [.ref k, l1, l2, l3, l4, l5, l6, l7, l8, l9, l10, l11, l12] (.ref k :: S) σ) ∧
  (∀ (d : Nat) (σ : Sg) (S : List Value) (l0 l1 l2 l3 l4 l5 l6 l7 l8 l9 l10 l11 l12 : Value), exec d mX7_skills 247 [l0, l1, l2, l3, l4, l5, l6, l7, l8, l9, l10, l11, l12] (.ref 50 :: S) σ = exec d mX7_skills 250 [l0, l1, l2, l3, l4, l5, l6, l7, l8, l9, l10, l11, l12] (.ref 51 :: S) σ) ∧
  (∀ (d : Nat) (σ : Sg) (S : List Value) (l0 l1 l2 l3 l4 l5 l6 l7 l8 l9 l10 l11 l12 : Value), exec d mX7_skills 250 [l0, l1, l2, l3, l4, l5, l6, l7, l8, l9, l10, l11, l12] S σ = exec d mX7_skills 252 [l0, l1, l2, l3, l4, l5, l6, l7, l8, l9, l10, l11, l12] (.int (nI 9) :: S) σ) ∧
  (∀ (d : Nat) (σ : Sg) (S : List Value) (l0 l1 l2 l3 l4 l5 l6 l7 l8 l9 l10 l11 : Value) (x : Int32), exec d mX7_skills 252 [l0, l1, l2, l3, l4, l5, l6, l7, l8, l9, l10, l11, .int x] S σ = exec d mX7_skills 254 [l0, l1, l2, l3, l4, l5, l6, l7, l8, l9, l10, l11, .int x] (.int x :: S) σ) ∧
  (∀ (d : Nat) (σ : Sg) (S : List Value) (l0 l1 l2 l3 l4 l5 l6 l7 l8 l9 l10 l11 l12 : Value) (x y : Int32), exec d mX7_skills 254 [l0, l1, l2, l3, l4, l5, l6, l7, l8, l9, l10, l11, l12] (.int y :: .int x :: S) σ = exec d mX7_skills 255 [l0, l1, l2, l3, l4, l5, l6, l7, l8, l9, l10, l11, l12] (.int (x + y) :: S) σ) ∧
  (∀ (d : Nat) (σ : Sg) (S : List Value) (l0 l1 l2 l3 l4 l5 l6 l7 l8 l9 l10 l11 l12 : Value) (x : Int32), exec d mX7_skills 255 [l0, l1, l2, l3, l4, l5, l6, l7, l8, l9, l10, l11, l12] (.int x :: .ref 51 :: S) σ = if inb x 208 = true then exec d mX7_skills 256 [l0, l1, l2, l3, l4, l5, l6, l7, l8, l9, l10, l11, l12] (.int (σ 51 x.toNatClampNeg) :: S) σ else none) ∧
  (∀ (d : Nat) (σ : Sg) (S : List Value) (l0 l1 l2 l3 l4 l5 l6 l7 l8 l9 l10 l11 l12 : Value), exec d mX7_skills 256 [l0, l1, l2, l3, l4, l5, l6, l7, l8, l9, l10, l11, l12] S σ = exec d mX7_skills 257 [l0, l1, l2, l3, l4, l5, l6, l7, l8, l9, l10, l11, l12] (.int (nI 5) :: S) σ) ∧
  (∀ (d : Nat) (σ : Sg) (S : List Value) (l0 l1 l2 l3 l4 l5 l6 l7 l8 l9 l10 l11 l12 : Value) (x y : Int32), exec d mX7_skills 257 [l0, l1, l2, l3, l4, l5, l6, l7, l8, l9, l10, l11, l12] (.int y :: .int x :: S) σ = if x = y then exec d mX7_skills 260 [l0, l1, l2, l3, l4, l5, l6, l7, l8, l9, l10, l11, l12] S σ else exec d mX7_skills 265 [l0, l1, l2, l3, l4, l5, l6, l7, l8, l9, l10, l11, l12] S σ) ∧
  (∀ (d : Nat) (σ : Sg) (S : List Value) (l0 l1 l2 l3 l4 l5 l6 l7 l8 l10 l11 l12 : Value) (x : Int32), exec d mX7_skills 260 [l0, l1, l2, l3, l4, l5, l6, l7, l8, .int x, l10, l11, l12] S σ = exec d mX7_skills 262 [l0, l1, l2, l3, l4, l5, l6, l7, l8, .int x, l10, l11, l12] (.int x :: S) σ) ∧
  (∀ (d : Nat) (σ : Sg) (S : List Value) (l0 l1 l2 l3 l4 l5 l6 l7 l8 l9 l10 l11 l12 : Value), exec d mX7_skills 262 [l0, l1, l2, l3, l4, l5, l6, l7, l8, l9, l10, l11, l12] S σ = exec d mX7_skills 270 [l0, l1, l2, l3, l4, l5, l6, l7, l8, l9, l10, l11, l12] S σ) ∧
  (∀ (d : Nat) (σ : Sg) (S : List Value) (l0 l1 l2 l3 l4 l5 l6 l7 l8 l10 l11 l12 : Value) (x : Int32), exec d mX7_skills 265 [l0, l1, l2, l3, l4, l5, l6, l7, l8, .int x, l10, l11, l12] S σ = exec d mX7_skills 267 [l0, l1, l2, l3, l4, l5, l6, l7, l8, .int x, l10, l11, l12] (.int x :: S) σ) ∧
  (∀ (d : Nat) (σ : Sg) (l0 l1 l2 l3 l4 l5 l6 l7 l8 l9 l10 l11 l12 : Value) (x0 : Int32), exec d mX7_skills 267 [l0, l1, l2, l3, l4, l5, l6, l7, l8, l9, l10, l11, l12] [.int x0] σ = kb (cal d mX7_more [.int x0] σ) (fun rs σ2 => exec d mX7_skills 270 [l0, l1, l2, l3, l4, l5, l6, l7, l8, l9, l10, l11, l12] (rs ++ []) σ2)) ∧
  (∀ (d : Nat) (σ : Sg) (S : List Value) (l0 l1 l2 l3 l4 l5 l6 l7 l9 l10 l11 l12 : Value) (x y : Int32), exec d mX7_skills 270 [l0, l1, l2, l3, l4, l5, l6, l7, .int y, l9, l10, l11, l12] (.int x :: S) σ = exec d mX7_skills 272 [l0, l1, l2, l3, l4, l5, l6, l7, .int y, .int x, l10, l11, l12] S σ) ∧
  (∀ (d : Nat) (σ : Sg) (S : List Value) (l0 l1 l2 l3 l4 l5 l6 l7 l8 l9 l12 : Value) (x y : Int32), exec d mX7_skills 272 [l0, l1, l2, l3, l4, l5, l6, l7, l8, l9, .int y, .int x, l12] S σ = exec d mX7_skills 275 [l0, l1, l2, l3, l4, l5, l6, l7, l8, l9, .int y, .int (x + nI 1), l12] S σ) ∧
  (∀ (d : Nat) (σ : Sg) (S : List Value) (l0 l1 l2 l3 l4 l5 l6 l7 l8 l9 l10 l11 l12 : Value), exec d mX7_skills 275 [l0, l1, l2, l3, l4, l5, l6, l7, l8, l9, l10, l11, l12] S σ = exec d mX7_skills 173 [l0, l1, l2, l3, l4, l5, l6, l7, l8, l9, l10, l11, l12] S σ) ∧
  (∀ (d : Nat) (σ : Sg) (S : List Value) (l0 l1 l2 l3 l4 l5 l6 l8 l9 l10 l11 l12 : Value) (x : Int32), exec d mX7_skills 278 [l0, l1, l2, l3, l4, l5, l6, .int x, l8, l9, l10, l11, l12] S σ = exec d mX7_skills 280 [l0, l1, l2, l3, l4, l5, l6, .int x, l8, l9, l10, l11, l12] (.int x :: S) σ) ∧
  (∀ (d : Nat) (σ : Sg) (S : List Value) (l0 l1 l2 l3 l4 l5 l6 l7 l8 l9 l11 l12 : Value) (x : Int32), exec d mX7_skills 280 [l0, l1, l2, l3, l4, l5, l6, l7, l8, l9, .int x, l11, l12] S σ = exec d mX7_skills 282 [l0, l1, l2, l3, l4, l5, l6, l7, l8, l9, .int x, l11, l12] (.int x :: S) σ) ∧
  (∀ (d : Nat) (σ : Sg) (S : List Value) (l0 l1 l2 l3 l4 l5 l6 l7 l8 l9 l10 l11 l12 : Value) (x : Int32), exec d mX7_skills 282 [l0, l1, l2, l3, l4, l5, l6, l7, l8, l9, l10, l11, l12] (.int x :: S) σ = if x = nI 0 then exec d mX7_skills 292 [l0, l1, l2, l3, l4, l5, l6, l7, l8, l9, l10, l11, l12] S σ else exec d mX7_skills 285 [l0, l1, l2, l3, l4, l5, l6, l7, l8, l9, l10, l11, l12] S σ) ∧
  (∀ (d : Nat) (σ : Sg) (S : List Value) (l0 l1 l2 l3 l4 l5 l6 l7 l8 l9 l10 l11 l12 : Value), exec d mX7_skills 285 [l0, l1, l2, l3, l4, l5, l6, l7, l8, l9, l10, l11, l12] S σ = exec d mX7_skills 286 [l0, l1, l2, l3, l4, l5, l6, l7, l8, l9, l10, l11, l12] (.int (nI 1) :: S) σ) ∧
  (∀ (d : Nat) (σ : Sg) (S : List Value) (l0 l1 l2 l3 l4 l5 l6 l7 l9 l10 l11 l12 : Value) (x : Int32), exec d mX7_skills 286 [l0, l1, l2, l3, l4, l5, l6, l7, .int x, l9, l10, l11, l12] S σ = exec d mX7_skills 288 [l0, l1, l2, l3, l4, l5, l6, l7, .int x, l9, l10, l11, l12] (.int x :: S) σ) ∧
  (∀ (d : Nat) (σ : Sg) (S : List Value) (l0 l1 l2 l3 l4 l5 l6 l7 l8 l9 l10 l11 l12 : Value) (x y : Int32), exec d mX7_skills 288 [l0, l1, l2, l3, l4, l5, l6, l7, l8, l9, l10, l11, l12] (.int y :: .int x :: S) σ = exec d mX7_skills 289 [l0, l1, l2, l3, l4, l5, l6, l7, l8, l9, l10, l11, l12] (.int (x <<< (y &&& 31)) :: S) σ) ∧
  (∀ (d : Nat) (σ : Sg) (S : List Value) (l0 l1 l2 l3 l4 l5 l6 l7 l8 l9 l10 l11 l12 : Value), exec d mX7_skills 289 [l0, l1, l2, l3, l4, l5, l6, l7, l8, l9, l10, l11, l12] S σ = exec d mX7_skills 293 [l0, l1, l2, l3, l4, l5, l6, l7, l8, l9, l10, l11, l12] S σ) ∧
  (∀ (d : Nat) (σ : Sg) (S : List Value) (l0 l1 l2 l3 l4 l5 l6 l7 l8 l9 l10 l11 l12 : Value), exec d mX7_skills 292 [l0, l1, l2, l3, l4, l5, l6, l7, l8, l9, l10, l11, l12] S σ = exec d mX7_skills 293 [l0, l1, l2, l3, l4, l5, l6, l7, l8, l9, l10, l11, l12] (.int (nI 0) :: S) σ) :=
  ⟨fun d σ S l0 l1 l2 l3 l4 l5 l6 l7 l8 l9 l10 l11 l12 => ex_bipush (show decode mX7_skills.2.1 222 = .ok (.bipush 40, 2) by decide +kernel) (by decide +kernel),
  fun d σ S l0 l2 l3 l4 l5 l6 l7 l8 l9 l10 l11 l12 x => ex_iload_n (show decode mX7_skills.2.1 224 = .ok (.iload_n 1, 1) by decide +kernel) rfl,
  fun d σ S l0 l1 l2 l3 l4 l5 l6 l7 l8 l9 l10 l11 l12 x y => ex_imul (show decode mX7_skills.2.1 225 = .ok (.imul, 1) by decide +kernel),
  fun d σ S l0 l1 l3 l4 l5 l6 l7 l8 l9 l10 l11 l12 x => ex_iload_n (show decode mX7_skills.2.1 226 = .ok (.iload_n 2, 1) by decide +kernel) rfl,
  fun d σ S l0 l1 l2 l3 l4 l5 l6 l7 l8 l9 l10 l11 l12 x y => ex_iadd (show decode mX7_skills.2.1 227 = .ok (.iadd, 1) by decide +kernel),
  fun d σ S l0 l1 l2 l3 l4 l5 l6 l7 l8 l9 l10 l11 l12 => ex_iconst (show decode mX7_skills.2.1 228 = .ok (.iconst 2, 1) by decide +kernel) (by decide +kernel),
  fun d σ S l0 l1 l2 l3 l4 l5 l6 l7 l8 l9 l10 l12 x => ex_iload (show decode mX7_skills.2.1 229 = .ok (.iload 11, 2) by decide +kernel) rfl,
  fun d σ S l0 l1 l2 l3 l4 l5 l6 l7 l8 l9 l10 l11 l12 x y => ex_imul (show decode mX7_skills.2.1 231 = .ok (.imul, 1) by decide +kernel),
  fun d σ S l0 l1 l2 l3 l4 l5 l6 l7 l8 l9 l10 l11 l12 x y => ex_iadd (show decode mX7_skills.2.1 232 = .ok (.iadd, 1) by decide +kernel),
  fun d σ S l0 l1 l2 l3 l4 l5 l6 l7 l8 l9 l10 l11 l12 => ex_iconst (show decode mX7_skills.2.1 233 = .ok (.iconst 1, 1) by decide +kernel) (by decide +kernel),
  fun d σ S l0 l1 l2 l3 l4 l5 l6 l7 l8 l9 l10 l11 l12 x y => ex_iadd (show decode mX7_skills.2.1 234 = .ok (.iadd, 1) by decide +kernel),
  fun d σ S l0 l1 l2 l3 l4 l5 l6 l7 l8 l9 l10 l11 l12 x => ex_iald (by decide +kernel),
  fun d σ S l0 l1 l2 l3 l4 l5 l6 l7 l8 l9 l10 l11 l12 x y => ex_cne (show decode mX7_skills.2.1 236 = .ok (.if_icmp .ne 7, 3) by decide +kernel) (by decide),
  fun d σ S l0 l1 l2 l3 l4 l5 l6 l7 l8 l9 l10 l11 l12 => ex_iconst (show decode mX7_skills.2.1 239 = .ok (.iconst 1, 1) by decide +kernel) (by decide +kernel),
  fun d σ S l0 l1 l2 l3 l4 l5 l6 l7 l8 l9 l10 l11 l12 => ex_goto (show decode mX7_skills.2.1 240 = .ok (.goto 4, 3) by decide +kernel) (by decide),
  fun d σ S l0 l1 l2 l3 l4 l5 l6 l7 l8 l9 l10 l11 l12 => ex_iconst (show decode mX7_skills.2.1 243 = .ok (.iconst 0, 1) by decide +kernel) (by decide +kernel),
  fun d σ S l0 l1 l2 l3 l4 l5 l6 l7 l8 l10 l11 l12 x y => ex_istore (show decode mX7_skills.2.1 244 = .ok (.istore 10, 2) by decide +kernel) (Nat.le_of_ble_eq_true rfl) rfl,
  fun d σ S l1 l2 l3 l4 l5 l6 l7 l8 l9 l10 l11 l12 k => ex_aload_n (show decode mX7_skills.2.1 246 = .ok (.aload_n 0, 1) by decide +kernel) rfl,
  fun d σ S l0 l1 l2 l3 l4 l5 l6 l7 l8 l9 l10 l11 l12 => ex_getr (idx := 7) (ci := 7) (ff := 0) (n := 26) (hh := 833) (by decide +kernel),
  fun d σ S l0 l1 l2 l3 l4 l5 l6 l7 l8 l9 l10 l11 l12 => ex_bipush (show decode mX7_skills.2.1 250 = .ok (.bipush 9, 2) by decide +kernel) (by decide +kernel),
  fun d σ S l0 l1 l2 l3 l4 l5 l6 l7 l8 l9 l10 l11 x => ex_iload (show decode mX7_skills.2.1 252 = .ok (.iload 12, 2) by decide +kernel) rfl,
  fun d σ S l0 l1 l2 l3 l4 l5 l6 l7 l8 l9 l10 l11 l12 x y => ex_iadd (show decode mX7_skills.2.1 254 = .ok (.iadd, 1) by decide +kernel),
  fun d σ S l0 l1 l2 l3 l4 l5 l6 l7 l8 l9 l10 l11 l12 x => ex_iald (by decide +kernel),
  fun d σ S l0 l1 l2 l3 l4 l5 l6 l7 l8 l9 l10 l11 l12 => ex_iconst (show decode mX7_skills.2.1 256 = .ok (.iconst 5, 1) by decide +kernel) (by decide +kernel),
  fun d σ S l0 l1 l2 l3 l4 l5 l6 l7 l8 l9 l10 l11 l12 x y => ex_cne (show decode mX7_skills.2.1 257 = .ok (.if_icmp .ne 8, 3) by decide +kernel) (by decide),
  fun d σ S l0 l1 l2 l3 l4 l5 l6 l7 l8 l10 l11 l12 x => ex_iload (show decode mX7_skills.2.1 260 = .ok (.iload 9, 2) by decide +kernel) rfl,
  fun d σ S l0 l1 l2 l3 l4 l5 l6 l7 l8 l9 l10 l11 l12 => ex_goto (show decode mX7_skills.2.1 262 = .ok (.goto 8, 3) by decide +kernel) (by decide),
  fun d σ S l0 l1 l2 l3 l4 l5 l6 l7 l8 l10 l11 l12 x => ex_iload (show decode mX7_skills.2.1 265 = .ok (.iload 9, 2) by decide +kernel) rfl,
  fun d σ l0 l1 l2 l3 l4 l5 l6 l7 l8 l9 l10 l11 l12 x0 => ex_is (hs := [1055, 1056, 1057, 101]) (show decode mX7_skills.2.1 267 = .ok (.invokestatic 168, 3) by decide +kernel) lkS_7_168 ⟨rfl, Nat.le_of_ble_eq_true rfl, Nat.le_of_ble_eq_true rfl, fun q => nomatch q⟩ rfl rfl,
  fun d σ S l0 l1 l2 l3 l4 l5 l6 l7 l9 l10 l11 l12 x y => ex_istore (show decode mX7_skills.2.1 270 = .ok (.istore 9, 2) by decide +kernel) (Nat.le_of_ble_eq_true rfl) rfl,
  fun d σ S l0 l1 l2 l3 l4 l5 l6 l7 l8 l9 l12 x y => ex_iinc (show decode mX7_skills.2.1 272 = .ok (.iinc 11 1, 3) by decide +kernel) rfl (by decide +kernel) (Nat.le_of_ble_eq_true rfl) rfl,
  fun d σ S l0 l1 l2 l3 l4 l5 l6 l7 l8 l9 l10 l11 l12 => ex_goto (show decode mX7_skills.2.1 275 = .ok (.goto (-102), 3) by decide +kernel) (by decide),
  fun d σ S l0 l1 l2 l3 l4 l5 l6 l8 l9 l10 l11 l12 x => ex_iload (show decode mX7_skills.2.1 278 = .ok (.iload 7, 2) by decide +kernel) rfl,
  fun d σ S l0 l1 l2 l3 l4 l5 l6 l7 l8 l9 l11 l12 x => ex_iload (show decode mX7_skills.2.1 280 = .ok (.iload 10, 2) by decide +kernel) rfl,
  fun d σ S l0 l1 l2 l3 l4 l5 l6 l7 l8 l9 l10 l11 l12 x => ex_zeq (show decode mX7_skills.2.1 282 = .ok (.ifCond .eq 10, 3) by decide +kernel) (by decide),
  fun d σ S l0 l1 l2 l3 l4 l5 l6 l7 l8 l9 l10 l11 l12 => ex_iconst (show decode mX7_skills.2.1 285 = .ok (.iconst 1, 1) by decide +kernel) (by decide +kernel),
  fun d σ S l0 l1 l2 l3 l4 l5 l6 l7 l9 l10 l11 l12 x => ex_iload (show decode mX7_skills.2.1 286 = .ok (.iload 8, 2) by decide +kernel) rfl,
  fun d σ S l0 l1 l2 l3 l4 l5 l6 l7 l8 l9 l10 l11 l12 x y => ex_ishl (show decode mX7_skills.2.1 288 = .ok (.ishl, 1) by decide +kernel),
  fun d σ S l0 l1 l2 l3 l4 l5 l6 l7 l8 l9 l10 l11 l12 => ex_goto (show decode mX7_skills.2.1 289 = .ok (.goto 4, 3) by decide +kernel) (by decide),
  fun d σ S l0 l1 l2 l3 l4 l5 l6 l7 l8 l9 l10 l11 l12 => ex_iconst (show decode mX7_skills.2.1 292 = .ok (.iconst 0, 1) by decide +kernel) (by decide +kernel)⟩
theorem kX7_skills_4 : (∀ (d : Nat) (σ : Sg) (S : List Value) (l0 l1 l2 l3 l4 l5 l6 l7 l8 l9 l10 l11 l12 : Value) (x y : Int32), exec d mX7_skills 293 [l0, l1, l2, l3, l4, l5, l6, l7, l8, l9, l10, l11, l12] (.int y :: .int x :: S) σ = exec d mX7_skills 294 [l0, l1, l2, l3, l4, l5, l6, l7, l8, l9, l10, l11, l12] (.int (x ||| y) :: S) σ) ∧
  (∀ (d : Nat) (σ : Sg) (S : List Value) (l0 l1 l2 l3 l4 l5 l7 l8 l9 l10 l11 l12 : Value) (x y : Int32), exec d mX7_skills 294 [l0, l1, l2, l3, l4, l5, .int y, l7, l8, l9, l10, l11, l12] (.int x :: S) σ = exec d mX7_skills 296 [l0, l1, l2, l3, l4, l5, .int y, .int x, l8, l9, l10, l11, l12] S σ) ∧
  (∀ (d : Nat) (σ : Sg) (S : List Value) (l0 l1 l2 l3 l4 l5 l6 l9 l10 l11 l12 : Value) (x y : Int32), exec d mX7_skills 296 [l0, l1, l2, l3, l4, l5, l6, .int y, .int x, l9, l10, l11, l12] S σ = exec d mX7_skills 299 [l0, l1, l2, l3, l4, l5, l6, .int y, .int (x + nI 1), l9, l10, l11, l12] S σ) ∧
  (∀ (d : Nat) (σ : Sg) (S : List Value) (l0 l1 l2 l3 l4 l5 l6 l7 l8 l9 l10 l11 l12 : Value), exec d mX7_skills 299 [l0, l1, l2, l3, l4, l5, l6, l7, l8, l9, l10, l11, l12] S σ = exec d mX7_skills 155 [l0, l1, l2, l3, l4, l5, l6, l7, l8, l9, l10, l11, l12] S σ) ∧
  (∀ (d : Nat) (σ : Sg) (S : List Value) (l1 l2 l3 l4 l5 l6 l7 l8 l9 l10 l11 l12 : Value) (k : Nat), exec d mX7_skills 302 [.ref k, l1, l2, l3, l4, l5, l6, l7, l8, l9, l10, l11, l12] S σ = exec d mX7_skills 303 [.ref k, l1, l2, l3, l4, l5, l6, l7, l8, l9, l10, l11, l12] (.ref k :: S) σ) ∧
  (∀ (d : Nat) (σ : Sg) (S : List Value) (l0 l1 l2 l3 l4 l5 l6 l8 l9 l10 l11 l12 : Value) (x : Int32), exec d mX7_skills 303 [l0, l1, l2, l3, l4, l5, l6, .int x, l8, l9, l10, l11, l12] S σ = exec d mX7_skills 305 [l0, l1, l2, l3, l4, l5, l6, .int x, l8, l9, l10, l11, l12] (.int x :: S) σ) ∧
  (∀ (d : Nat) (σ : Sg) (l0 l1 l2 l3 l4 l5 l6 l7 l8 l9 l10 l11 l12 : Value) (x0 : Int32), exec d mX7_skills 305 [l0, l1, l2, l3, l4, l5, l6, l7, l8, l9, l10, l11, l12] [.int x0, .ref 50] σ = kb (cal d mX7_good [.ref 50, .int x0] σ) (fun rs σ2 => exec d mX7_skills 308 [l0, l1, l2, l3, l4, l5, l6, l7, l8, l9, l10, l11, l12] (rs ++ []) σ2)) ∧
  (∀ (d : Nat) (σ : Sg) (l0 l1 l2 l3 l4 l5 l6 l7 l8 l9 l10 l11 l12 : Value) (x : Int32), exec d mX7_skills 308 [l0, l1, l2, l3, l4, l5, l6, l7, l8, l9, l10, l11, l12] [.int x] σ = some (some (.int x), σ)) :=
  ⟨fun d σ S l0 l1 l2 l3 l4 l5 l6 l7 l8 l9 l10 l11 l12 x y => ex_ior (show decode mX7_skills.2.1 293 = .ok (.ior, 1) by decide +kernel),
  fun d σ S l0 l1 l2 l3 l4 l5 l7 l8 l9 l10 l11 l12 x y => ex_istore (show decode mX7_skills.2.1 294 = .ok (.istore 7, 2) by decide +kernel) (Nat.le_of_ble_eq_true rfl) rfl,
  fun d σ S l0 l1 l2 l3 l4 l5 l6 l9 l10 l11 l12 x y => ex_iinc (show decode mX7_skills.2.1 296 = .ok (.iinc 8 1, 3) by decide +kernel) rfl (by decide +kernel) (Nat.le_of_ble_eq_true rfl) rfl,
  fun d σ S l0 l1 l2 l3 l4 l5 l6 l7 l8 l9 l10 l11 l12 => ex_goto (show decode mX7_skills.2.1 299 = .ok (.goto (-144), 3) by decide +kernel) (by decide),
  fun d σ S l1 l2 l3 l4 l5 l6 l7 l8 l9 l10 l11 l12 k => ex_aload_n (show decode mX7_skills.2.1 302 = .ok (.aload_n 0, 1) by decide +kernel) rfl,
  fun d σ S l0 l1 l2 l3 l4 l5 l6 l8 l9 l10 l11 l12 x => ex_iload (show decode mX7_skills.2.1 303 = .ok (.iload 7, 2) by decide +kernel) rfl,
  fun d σ l0 l1 l2 l3 l4 l5 l6 l7 l8 l9 l10 l11 l12 x0 => ex_iv (hs := [930, 932, 55, 933, 101]) (show decode mX7_skills.2.1 305 = .ok (.invokevirtual 78, 3) by decide +kernel) lkV_7_78 ⟨rfl, Nat.le_of_ble_eq_true rfl, Nat.le_of_ble_eq_true rfl, fun _ => rfl⟩ rfl rfl,
  fun d σ l0 l1 l2 l3 l4 l5 l6 l7 l8 l9 l10 l11 l12 x => ex_iret (show decode mX7_skills.2.1 308 = .ok (.ireturn, 1) by decide +kernel) rfl⟩
theorem hX7_skills_65 : ∀ (d : Nat) (σ : Sg) (S : List Value) (l0 l1 l2 l3 l4 l5 l6 l8 l9 l10 l11 l12 : Value) (x : Int32), exec d mX7_skills 65 [l0, l1, l2, l3, l4, l5, l6, .int x, l8, l9, l10, l11, l12] S σ = exec d mX7_skills 67 [l0, l1, l2, l3, l4, l5, l6, .int x, l8, l9, l10, l11, l12] (.int x :: S) σ := fun d σ S l0 l1 l2 l3 l4 l5 l6 l8 l9 l10 l11 l12 x => ex_iload (show decode mX7_skills.2.1 65 = .ok (.iload 7, 2) by decide +kernel) rfl
theorem hX7_skills_155 : ∀ (d : Nat) (σ : Sg) (S : List Value) (l0 l1 l2 l3 l4 l5 l6 l7 l9 l10 l11 l12 : Value) (x : Int32), exec d mX7_skills 155 [l0, l1, l2, l3, l4, l5, l6, l7, .int x, l9, l10, l11, l12] S σ = exec d mX7_skills 157 [l0, l1, l2, l3, l4, l5, l6, l7, .int x, l9, l10, l11, l12] (.int x :: S) σ := fun d σ S l0 l1 l2 l3 l4 l5 l6 l7 l9 l10 l11 l12 x => ex_iload (show decode mX7_skills.2.1 155 = .ok (.iload 8, 2) by decide +kernel) rfl
theorem hX7_skills_173 : ∀ (d : Nat) (σ : Sg) (S : List Value) (l0 l1 l2 l3 l4 l5 l6 l7 l8 l9 l10 l12 : Value) (x : Int32), exec d mX7_skills 173 [l0, l1, l2, l3, l4, l5, l6, l7, l8, l9, l10, .int x, l12] S σ = exec d mX7_skills 175 [l0, l1, l2, l3, l4, l5, l6, l7, l8, l9, l10, .int x, l12] (.int x :: S) σ := fun d σ S l0 l1 l2 l3 l4 l5 l6 l7 l8 l9 l10 l12 x => ex_iload (show decode mX7_skills.2.1 173 = .ok (.iload 11, 2) by decide +kernel) rfl
theorem aX7_skills_50 : ∀ (d : Nat) (a1 : Int32) (a2 : Int32) (a3 : Int32) (σ : Sg), cal (d + 1) mX7_skills [.ref 50, .int a1, .int a2, .int a3] σ = exec d mX7_skills 0 [.ref 50, .int a1, .int a2, .int a3, uu, uu, uu, uu, uu, uu, uu, uu, uu] [] σ := fun _ _ _ _ _ => rfl
theorem kX7_who_0 : (∀ (d : Nat) (σ : Sg) (S : List Value) (l1 l2 l3 l4 l5 l6 l7 l8 l9 l10 l11 : Value) (k : Nat), exec d mX7_who 0 [.ref k, l1, l2, l3, l4, l5, l6, l7, l8, l9, l10, l11] S σ = exec d mX7_who 1 [.ref k, l1, l2, l3, l4, l5, l6, l7, l8, l9, l10, l11] (.ref k :: S) σ) ∧
  (∀ (d : Nat) (σ : Sg) (S : List Value) (l0 l2 l3 l4 l5 l6 l7 l8 l9 l10 l11 : Value) (x : Int32), exec d mX7_who 1 [l0, .int x, l2, l3, l4, l5, l6, l7, l8, l9, l10, l11] S σ = exec d mX7_who 2 [l0, .int x, l2, l3, l4, l5, l6, l7, l8, l9, l10, l11] (.int x :: S) σ) ∧
  (∀ (d : Nat) (σ : Sg) (l0 l1 l2 l3 l4 l5 l6 l7 l8 l9 l10 l11 : Value) (x0 : Int32), exec d mX7_who 2 [l0, l1, l2, l3, l4, l5, l6, l7, l8, l9, l10, l11] [.int x0, .ref 50] σ = kb (cal d mX7_isPart [.ref 50, .int x0] σ) (fun rs σ2 => exec d mX7_who 5 [l0, l1, l2, l3, l4, l5, l6, l7, l8, l9, l10, l11] (rs ++ []) σ2)) ∧
  (∀ (d : Nat) (σ : Sg) (S : List Value) (l0 l1 l2 l3 l4 l5 l6 l7 l8 l9 l10 l11 : Value) (x : Int32), exec d mX7_who 5 [l0, l1, l2, l3, l4, l5, l6, l7, l8, l9, l10, l11] (.int x :: S) σ = if x = nI 0 then exec d mX7_who 28 [l0, l1, l2, l3, l4, l5, l6, l7, l8, l9, l10, l11] S σ else exec d mX7_who 8 [l0, l1, l2, l3, l4, l5, l6, l7, l8, l9, l10, l11] S σ) ∧
  (∀ (d : Nat) (σ : Sg) (S : List Value) (l0 l1 l3 l4 l5 l6 l7 l8 l9 l10 l11 : Value) (x : Int32), exec d mX7_who 8 [l0, l1, .int x, l3, l4, l5, l6, l7, l8, l9, l10, l11] S σ = exec d mX7_who 9 [l0, l1, .int x, l3, l4, l5, l6, l7, l8, l9, l10, l11] (.int x :: S) σ) ∧
  (∀ (d : Nat) (σ : Sg) (l0 l1 l2 l3 l4 l5 l6 l7 l8 l9 l10 l11 : Value) (x0 : Int32), exec d mX7_who 9 [l0, l1, l2, l3, l4, l5, l6, l7, l8, l9, l10, l11] [.int x0] σ = kb (cal d mX7_isRow [.int x0] σ) (fun rs σ2 => exec d mX7_who 12 [l0, l1, l2, l3, l4, l5, l6, l7, l8, l9, l10, l11] (rs ++ []) σ2)) ∧
  (∀ (d : Nat) (σ : Sg) (S : List Value) (l0 l1 l2 l3 l4 l5 l6 l7 l8 l9 l10 l11 : Value) (x : Int32), exec d mX7_who 12 [l0, l1, l2, l3, l4, l5, l6, l7, l8, l9, l10, l11] (.int x :: S) σ = if x = nI 0 then exec d mX7_who 28 [l0, l1, l2, l3, l4, l5, l6, l7, l8, l9, l10, l11] S σ else exec d mX7_who 15 [l0, l1, l2, l3, l4, l5, l6, l7, l8, l9, l10, l11] S σ) ∧
  (∀ (d : Nat) (σ : Sg) (S : List Value) (l0 l1 l2 l3 l5 l6 l7 l8 l9 l10 l11 : Value) (x : Int32), exec d mX7_who 15 [l0, l1, l2, l3, .int x, l5, l6, l7, l8, l9, l10, l11] S σ = exec d mX7_who 17 [l0, l1, l2, l3, .int x, l5, l6, l7, l8, l9, l10, l11] (.int x :: S) σ) ∧
  (∀ (d : Nat) (σ : Sg) (S : List Value) (l0 l1 l2 l3 l4 l5 l6 l7 l8 l9 l10 l11 : Value) (x : Int32), exec d mX7_who 17 [l0, l1, l2, l3, l4, l5, l6, l7, l8, l9, l10, l11] (.int x :: S) σ = exec d mX7_who 18 [l0, l1, l2, l3, l4, l5, l6, l7, l8, l9, l10, l11] (.long x.toInt64 :: S) σ) ∧
  (∀ (d : Nat) (σ : Sg) (S : List Value) (l0 l1 l2 l3 l4 l5 l6 l7 l8 l9 l10 l11 : Value), exec d mX7_who 18 [l0, l1, l2, l3, l4, l5, l6, l7, l8, l9, l10, l11] S σ = exec d mX7_who 19 [l0, l1, l2, l3, l4, l5, l6, l7, l8, l9, l10, l11] (.long (lN 1) :: S) σ) ∧
  (∀ (d : Nat) (σ : Sg) (S : List Value) (l0 l1 l2 l3 l4 l5 l6 l7 l8 l9 l10 l11 : Value), exec d mX7_who 19 [l0, l1, l2, l3, l4, l5, l6, l7, l8, l9, l10, l11] S σ = exec d mX7_who 22 [l0, l1, l2, l3, l4, l5, l6, l7, l8, l9, l10, l11] (.long (lN 8) :: S) σ) ∧
  (∀ (d : Nat) (σ : Sg) (l0 l1 l2 l3 l4 l5 l6 l7 l8 l9 l10 l11 : Value) (x0 x1 x2 : Int64), exec d mX7_who 22 [l0, l1, l2, l3, l4, l5, l6, l7, l8, l9, l10, l11] [.long x0, .long x1, .long x2] σ = kb (cal d mX7_in [.long x2, .long x1, .long x0] σ) (fun rs σ2 => exec d mX7_who 25 [l0, l1, l2, l3, l4, l5, l6, l7, l8, l9, l10, l11] (rs ++ []) σ2)) ∧
  (∀ (d : Nat) (σ : Sg) (S : List Value) (l0 l1 l2 l3 l4 l5 l6 l7 l8 l9 l10 l11 : Value) (x : Int32), exec d mX7_who 25 [l0, l1, l2, l3, l4, l5, l6, l7, l8, l9, l10, l11] (.int x :: S) σ = if x = nI 0 then exec d mX7_who 28 [l0, l1, l2, l3, l4, l5, l6, l7, l8, l9, l10, l11] S σ else exec d mX7_who 31 [l0, l1, l2, l3, l4, l5, l6, l7, l8, l9, l10, l11] S σ) ∧
  (∀ (d : Nat) (σ : Sg) (S : List Value) (l0 l1 l2 l3 l4 l5 l6 l7 l8 l9 l10 l11 : Value), exec d mX7_who 28 [l0, l1, l2, l3, l4, l5, l6, l7, l8, l9, l10, l11] S σ = exec d mX7_who 30 [l0, l1, l2, l3, l4, l5, l6, l7, l8, l9, l10, l11] (.int ((-1000001)) :: S) σ) ∧
  (∀ (d : Nat) (σ : Sg) (l0 l1 l2 l3 l4 l5 l6 l7 l8 l9 l10 l11 : Value) (x : Int32), exec d mX7_who 30 [l0, l1, l2, l3, l4, l5, l6, l7, l8, l9, l10, l11] [.int x] σ = some (some (.int x), σ)) ∧
  (∀ (d : Nat) (σ : Sg) (S : List Value) (l1 l2 l3 l4 l5 l6 l7 l8 l9 l10 l11 : Value) (k : Nat), exec d mX7_who 31 [.ref k, l1, l2, l3, l4, l5, l6, l7, l8, l9, l10, l11] S σ = exec d mX7_who 32 [.ref k, l1, l2, l3, l4, l5, l6, l7, l8, l9, l10, l11] (.ref k :: S) σ) ∧
  (∀ (d : Nat) (σ : Sg) (S : List Value) (l0 l1 l3 l4 l5 l6 l7 l8 l9 l10 l11 : Value) (x : Int32), exec d mX7_who 32 [l0, l1, .int x, l3, l4, l5, l6, l7, l8, l9, l10, l11] S σ = exec d mX7_who 33 [l0, l1, .int x, l3, l4, l5, l6, l7, l8, l9, l10, l11] (.int x :: S) σ) ∧
  (∀ (d : Nat) (σ : Sg) (S : List Value) (l0 l1 l2 l4 l5 l6 l7 l8 l9 l10 l11 : Value) (x : Int32), exec d mX7_who 33 [l0, l1, l2, .int x, l4, l5, l6, l7, l8, l9, l10, l11] S σ = exec d mX7_who 34 [l0, l1, l2, .int x, l4, l5, l6, l7, l8, l9, l10, l11] (.int x :: S) σ) ∧
  (∀ (d : Nat) (σ : Sg) (S : List Value) (l0 l1 l2 l3 l4 l5 l6 l7 l8 l9 l10 l11 : Value), exec d mX7_who 34 [l0, l1, l2, l3, l4, l5, l6, l7, l8, l9, l10, l11] S σ = exec d mX7_who 35 [l0, l1, l2, l3, l4, l5, l6, l7, l8, l9, l10, l11] (.int (nI 3) :: S) σ) ∧
  (∀ (d : Nat) (σ : Sg) (S : List Value) (l0 l1 l2 l3 l5 l6 l7 l8 l9 l10 l11 : Value) (x : Int32), exec d mX7_who 35 [l0, l1, l2, l3, .int x, l5, l6, l7, l8, l9, l10, l11] S σ = exec d mX7_who 37 [l0, l1, l2, l3, .int x, l5, l6, l7, l8, l9, l10, l11] (.int x :: S) σ) ∧
  (∀ (d : Nat) (σ : Sg) (S : List Value) (l0 l1 l2 l3 l4 l5 l6 l7 l8 l9 l10 l11 : Value) (x y : Int32), exec d mX7_who 37 [l0, l1, l2, l3, l4, l5, l6, l7, l8, l9, l10, l11] (.int y :: .int x :: S) σ = exec d mX7_who 38 [l0, l1, l2, l3, l4, l5, l6, l7, l8, l9, l10, l11] (.int (x * y) :: S) σ) ∧
  (∀ (d : Nat) (σ : Sg) (l0 l1 l2 l3 l4 l5 l6 l7 l8 l9 l10 l11 : Value) (x0 x1 x2 : Int32), exec d mX7_who 38 [l0, l1, l2, l3, l4, l5, l6, l7, l8, l9, l10, l11] [.int x0, .int x1, .int x2, .ref 50] σ = kb (cal d mX7_against [.ref 50, .int x2, .int x1, .int x0] σ) (fun rs σ2 => exec d mX7_who 41 [l0, l1, l2, l3, l4, l5, l6, l7, l8, l9, l10, l11] (rs ++ []) σ2)) ∧
  (∀ (d : Nat) (σ : Sg) (S : List Value) (l0 l1 l2 l3 l5 l6 l7 l8 l9 l10 l11 : Value) (x y : Int32), exec d mX7_who 41 [l0, l1, l2, l3, .int y, l5, l6, l7, l8, l9, l10, l11] (.int x :: S) σ = exec d mX7_who 43 [l0, l1, l2, l3, .int y, .int x, l6, l7, l8, l9, l10, l11] S σ) ∧
  (∀ (d : Nat) (σ : Sg) (S : List Value) (l0 l1 l2 l3 l4 l6 l7 l8 l9 l10 l11 : Value) (x : Int32), exec d mX7_who 43 [l0, l1, l2, l3, l4, .int x, l6, l7, l8, l9, l10, l11] S σ = exec d mX7_who 45 [l0, l1, l2, l3, l4, .int x, l6, l7, l8, l9, l10, l11] (.int x :: S) σ) ∧
  (∀ (d : Nat) (σ : Sg) (S : List Value) (l0 l1 l2 l3 l4 l5 l6 l7 l8 l9 l10 l11 : Value) (x : Int32), exec d mX7_who 45 [l0, l1, l2, l3, l4, l5, l6, l7, l8, l9, l10, l11] (.int x :: S) σ = if nI 0 ≤ x then exec d mX7_who 51 [l0, l1, l2, l3, l4, l5, l6, l7, l8, l9, l10, l11] S σ else exec d mX7_who 48 [l0, l1, l2, l3, l4, l5, l6, l7, l8, l9, l10, l11] S σ) ∧
  (∀ (d : Nat) (σ : Sg) (S : List Value) (l0 l1 l2 l3 l4 l6 l7 l8 l9 l10 l11 : Value) (x : Int32), exec d mX7_who 48 [l0, l1, l2, l3, l4, .int x, l6, l7, l8, l9, l10, l11] S σ = exec d mX7_who 50 [l0, l1, l2, l3, l4, .int x, l6, l7, l8, l9, l10, l11] (.int x :: S) σ) ∧
  (∀ (d : Nat) (σ : Sg) (l0 l1 l2 l3 l4 l5 l6 l7 l8 l9 l10 l11 : Value) (x : Int32), exec d mX7_who 50 [l0, l1, l2, l3, l4, l5, l6, l7, l8, l9, l10, l11] [.int x] σ = some (some (.int x), σ)) ∧
  (∀ (d : Nat) (σ : Sg) (S : List Value) (l0 l1 l2 l3 l4 l5 l6 l7 l8 l9 l10 l11 : Value), exec d mX7_who 51 [l0, l1, l2, l3, l4, l5, l6, l7, l8, l9, l10, l11] S σ = exec d mX7_who 52 [l0, l1, l2, l3, l4, l5, l6, l7, l8, l9, l10, l11] (.int (nI 0) :: S) σ) ∧
  (∀ (d : Nat) (σ : Sg) (S : List Value) (l0 l1 l2 l3 l4 l6 l7 l8 l9 l10 l11 : Value) (x y : Int32), exec d mX7_who 52 [l0, l1, l2, l3, l4, .int y, l6, l7, l8, l9, l10, l11] (.int x :: S) σ = exec d mX7_who 54 [l0, l1, l2, l3, l4, .int y, .int x, l7, l8, l9, l10, l11] S σ) ∧
  (∀ (d : Nat) (σ : Sg) (S : List Value) (l0 l1 l2 l3 l5 l6 l7 l8 l9 l10 l11 : Value) (x : Int32), exec d mX7_who 56 [l0, l1, l2, l3, .int x, l5, l6, l7, l8, l9, l10, l11] S σ = exec d mX7_who 58 [l0, l1, l2, l3, .int x, l5, l6, l7, l8, l9, l10, l11] (.int x :: S) σ) ∧
  (∀ (d : Nat) (σ : Sg) (S : List Value) (l0 l1 l2 l3 l4 l5 l6 l7 l8 l9 l10 l11 : Value) (x y : Int32), exec d mX7_who 58 [l0, l1, l2, l3, l4, l5, l6, l7, l8, l9, l10, l11] (.int y :: .int x :: S) σ = if y ≤ x then exec d mX7_who 97 [l0, l1, l2, l3, l4, l5, l6, l7, l8, l9, l10, l11] S σ else exec d mX7_who 61 [l0, l1, l2, l3, l4, l5, l6, l7, l8, l9, l10, l11] S σ) ∧
  (∀ (d : Nat) (σ : Sg) (S : List Value) (l1 l2 l3 l4 l5 l6 l7 l8 l9 l10 l11 : Value) (k : Nat), exec d mX7_who 61 [.ref k, l1, l2, l3, l4, l5, l6, l7, l8, l9, l10, l11] S σ = exec d mX7_who 62 [.ref k, l1, l2, l3, l4, l5, l6, l7, l8, l9, l10, l11] (.ref k :: S) σ) ∧
  (∀ (d : Nat) (σ : Sg) (S : List Value) (l0 l1 l2 l3 l4 l5 l6 l7 l8 l9 l10 l11 : Value), exec d mX7_who 62 [l0, l1, l2, l3, l4, l5, l6, l7, l8, l9, l10, l11] (.ref 50 :: S) σ = exec d mX7_who 65 [l0, l1, l2, l3, l4, l5, l6, l7, l8, l9, l10, l11] (.ref 54 :: S) σ) ∧
  (∀ (d : Nat) (σ : Sg) (S : List Value) (l0 l1 l2 l3 l4 l5 l6 l7 l8 l9 l10 l11 : Value), exec d mX7_who 65 [l0, l1, l2, l3, l4, l5, l6, l7, l8, l9, l10, l11] S σ = exec d mX7_who 67 [l0, l1, l2, l3, l4, l5, l6, l7, l8, l9, l10, l11] (.int (nI 40) :: S) σ) ∧
  (∀ (d : Nat) (σ : Sg) (S : List Value) (l0 l1 l3 l4 l5 l6 l7 l8 l9 l10 l11 : Value) (x : Int32), exec d mX7_who 67 [l0, l1, .int x, l3, l4, l5, l6, l7, l8, l9, l10, l11] S σ = exec d mX7_who 68 [l0, l1, .int x, l3, l4, l5, l6, l7, l8, l9, l10, l11] (.int x :: S) σ) ∧
  (∀ (d : Nat) (σ : Sg) (S : List Value) (l0 l1 l2 l3 l4 l5 l6 l7 l8 l9 l10 l11 : Value) (x y : Int32), exec d mX7_who 68 [l0, l1, l2, l3, l4, l5, l6, l7, l8, l9, l10, l11] (.int y :: .int x :: S) σ = exec d mX7_who 69 [l0, l1, l2, l3, l4, l5, l6, l7, l8, l9, l10, l11] (.int (x * y) :: S) σ) ∧
  (∀ (d : Nat) (σ : Sg) (S : List Value) (l0 l1 l2 l4 l5 l6 l7 l8 l9 l10 l11 : Value) (x : Int32), exec d mX7_who 69 [l0, l1, l2, .int x, l4, l5, l6, l7, l8, l9, l10, l11] S σ = exec d mX7_who 70 [l0, l1, l2, .int x, l4, l5, l6, l7, l8, l9, l10, l11] (.int x :: S) σ) ∧
  (∀ (d : Nat) (σ : Sg) (S : List Value) (l0 l1 l2 l3 l4 l5 l6 l7 l8 l9 l10 l11 : Value) (x y : Int32), exec d mX7_who 70 [l0, l1, l2, l3, l4, l5, l6, l7, l8, l9, l10, l11] (.int y :: .int x :: S) σ = exec d mX7_who 71 [l0, l1, l2, l3, l4, l5, l6, l7, l8, l9, l10, l11] (.int (x + y) :: S) σ) ∧
  (∀ (d : Nat) (σ : Sg) (S : List Value) (l0 l1 l2 l3 l4 l5 l6 l7 l8 l9 l10 l11 : Value), exec d mX7_who 71 [l0, l1, l2, l3, l4, l5, l6, l7, l8, l9, l10, l11] S σ = exec d mX7_who 72 [l0, l1, l2, l3, l4, l5, l6, l7, l8, l9, l10, l11] (.int (nI 3) :: S) σ) ∧
  (∀ (d : Nat) (σ : Sg) (S : List Value) (l0 l1 l2 l3 l4 l5 l7 l8 l9 l10 l11 : Value) (x : Int32), exec d mX7_who 72 [l0, l1, l2, l3, l4, l5, .int x, l7, l8, l9, l10, l11] S σ = exec d mX7_who 74 [l0, l1, l2, l3, l4, l5, .int x, l7, l8, l9, l10, l11] (.int x :: S) σ) :=
  ⟨fun d σ S l1 l2 l3 l4 l5 l6 l7 l8 l9 l10 l11 k => ex_aload_n (show decode mX7_who.2.1 0 = .ok (.aload_n 0, 1) by decide +kernel) rfl,
  fun d σ S l0 l2 l3 l4 l5 l6 l7 l8 l9 l10 l11 x => ex_iload_n (show decode mX7_who.2.1 1 = .ok (.iload_n 1, 1) by decide +kernel) rfl,
  fun d σ l0 l1 l2 l3 l4 l5 l6 l7 l8 l9 l10 l11 x0 => ex_iv (hs := [1014, 1016, 65, 1017, 101]) (show decode mX7_who.2.1 2 = .ok (.invokevirtual 172, 3) by decide +kernel) lkV_7_172 ⟨rfl, Nat.le_of_ble_eq_true rfl, Nat.le_of_ble_eq_true rfl, fun _ => rfl⟩ rfl rfl,
  fun d σ S l0 l1 l2 l3 l4 l5 l6 l7 l8 l9 l10 l11 x => ex_zeq (show decode mX7_who.2.1 5 = .ok (.ifCond .eq 23, 3) by decide +kernel) (by decide),
  fun d σ S l0 l1 l3 l4 l5 l6 l7 l8 l9 l10 l11 x => ex_iload_n (show decode mX7_who.2.1 8 = .ok (.iload_n 2, 1) by decide +kernel) rfl,
  fun d σ l0 l1 l2 l3 l4 l5 l6 l7 l8 l9 l10 l11 x0 => ex_is (hs := [916, 917, 918, 101]) (show decode mX7_who.2.1 9 = .ok (.invokestatic 67, 3) by decide +kernel) lkS_7_67 ⟨rfl, Nat.le_of_ble_eq_true rfl, Nat.le_of_ble_eq_true rfl, fun q => nomatch q⟩ rfl rfl,
  fun d σ S l0 l1 l2 l3 l4 l5 l6 l7 l8 l9 l10 l11 x => ex_zeq (show decode mX7_who.2.1 12 = .ok (.ifCond .eq 16, 3) by decide +kernel) (by decide),
  fun d σ S l0 l1 l2 l3 l5 l6 l7 l8 l9 l10 l11 x => ex_iload (show decode mX7_who.2.1 15 = .ok (.iload 4, 2) by decide +kernel) rfl,
  fun d σ S l0 l1 l2 l3 l4 l5 l6 l7 l8 l9 l10 l11 x => ex_i2l (show decode mX7_who.2.1 17 = .ok (.i2l, 1) by decide +kernel),
  fun d σ S l0 l1 l2 l3 l4 l5 l6 l7 l8 l9 l10 l11 => ex_lconst (show decode mX7_who.2.1 18 = .ok (.lconst 1, 1) by decide +kernel) (by decide +kernel),
  fun d σ S l0 l1 l2 l3 l4 l5 l6 l7 l8 l9 l10 l11 => ex_ldc2 (hh := 1177) (show decode mX7_who.2.1 19 = .ok (.ldc2_w 244, 3) by decide +kernel) (by decide +kernel),
  fun d σ l0 l1 l2 l3 l4 l5 l6 l7 l8 l9 l10 l11 x0 x1 x2 => ex_is (hs := [920, 921, 922, 101]) (show decode mX7_who.2.1 22 = .ok (.invokestatic 63, 3) by decide +kernel) lkS_7_63 ⟨rfl, Nat.le_of_ble_eq_true rfl, Nat.le_of_ble_eq_true rfl, fun q => nomatch q⟩ rfl rfl,
  fun d σ S l0 l1 l2 l3 l4 l5 l6 l7 l8 l9 l10 l11 x => ex_zne (show decode mX7_who.2.1 25 = .ok (.ifCond .ne 6, 3) by decide +kernel) (by decide),
  fun d σ S l0 l1 l2 l3 l4 l5 l6 l7 l8 l9 l10 l11 => ex_ldc (hh := 924) (show decode mX7_who.2.1 28 = .ok (.ldc 73, 2) by decide +kernel) (by decide +kernel),
  fun d σ l0 l1 l2 l3 l4 l5 l6 l7 l8 l9 l10 l11 x => ex_iret (show decode mX7_who.2.1 30 = .ok (.ireturn, 1) by decide +kernel) rfl,
  fun d σ S l1 l2 l3 l4 l5 l6 l7 l8 l9 l10 l11 k => ex_aload_n (show decode mX7_who.2.1 31 = .ok (.aload_n 0, 1) by decide +kernel) rfl,
  fun d σ S l0 l1 l3 l4 l5 l6 l7 l8 l9 l10 l11 x => ex_iload_n (show decode mX7_who.2.1 32 = .ok (.iload_n 2, 1) by decide +kernel) rfl,
  fun d σ S l0 l1 l2 l4 l5 l6 l7 l8 l9 l10 l11 x => ex_iload_n (show decode mX7_who.2.1 33 = .ok (.iload_n 3, 1) by decide +kernel) rfl,
  fun d σ S l0 l1 l2 l3 l4 l5 l6 l7 l8 l9 l10 l11 => ex_iconst (show decode mX7_who.2.1 34 = .ok (.iconst 3, 1) by decide +kernel) (by decide +kernel),
  fun d σ S l0 l1 l2 l3 l5 l6 l7 l8 l9 l10 l11 x => ex_iload (show decode mX7_who.2.1 35 = .ok (.iload 4, 2) by decide +kernel) rfl,
  fun d σ S l0 l1 l2 l3 l4 l5 l6 l7 l8 l9 l10 l11 x y => ex_imul (show decode mX7_who.2.1 37 = .ok (.imul, 1) by decide +kernel),
  fun d σ l0 l1 l2 l3 l4 l5 l6 l7 l8 l9 l10 l11 x0 x1 x2 => ex_iv (hs := [1165, 1167, 85, 1168, 101]) (show decode mX7_who.2.1 38 = .ok (.invokevirtual 241, 3) by decide +kernel) lkV_7_241 ⟨rfl, Nat.le_of_ble_eq_true rfl, Nat.le_of_ble_eq_true rfl, fun _ => rfl⟩ rfl rfl,
  fun d σ S l0 l1 l2 l3 l5 l6 l7 l8 l9 l10 l11 x y => ex_istore (show decode mX7_who.2.1 41 = .ok (.istore 5, 2) by decide +kernel) (Nat.le_of_ble_eq_true rfl) rfl,
  fun d σ S l0 l1 l2 l3 l4 l6 l7 l8 l9 l10 l11 x => ex_iload (show decode mX7_who.2.1 43 = .ok (.iload 5, 2) by decide +kernel) rfl,
  fun d σ S l0 l1 l2 l3 l4 l5 l6 l7 l8 l9 l10 l11 x => ex_zge (show decode mX7_who.2.1 45 = .ok (.ifCond .ge 6, 3) by decide +kernel) (by decide),
  fun d σ S l0 l1 l2 l3 l4 l6 l7 l8 l9 l10 l11 x => ex_iload (show decode mX7_who.2.1 48 = .ok (.iload 5, 2) by decide +kernel) rfl,
  fun d σ l0 l1 l2 l3 l4 l5 l6 l7 l8 l9 l10 l11 x => ex_iret (show decode mX7_who.2.1 50 = .ok (.ireturn, 1) by decide +kernel) rfl,
  fun d σ S l0 l1 l2 l3 l4 l5 l6 l7 l8 l9 l10 l11 => ex_iconst (show decode mX7_who.2.1 51 = .ok (.iconst 0, 1) by decide +kernel) (by decide +kernel),
  fun d σ S l0 l1 l2 l3 l4 l6 l7 l8 l9 l10 l11 x y => ex_istore (show decode mX7_who.2.1 52 = .ok (.istore 6, 2) by decide +kernel) (Nat.le_of_ble_eq_true rfl) rfl,
  fun d σ S l0 l1 l2 l3 l5 l6 l7 l8 l9 l10 l11 x => ex_iload (show decode mX7_who.2.1 56 = .ok (.iload 4, 2) by decide +kernel) rfl,
  fun d σ S l0 l1 l2 l3 l4 l5 l6 l7 l8 l9 l10 l11 x y => ex_cge (show decode mX7_who.2.1 58 = .ok (.if_icmp .ge 39, 3) by decide +kernel) (by decide),
  fun d σ S l1 l2 l3 l4 l5 l6 l7 l8 l9 l10 l11 k => ex_aload_n (show decode mX7_who.2.1 61 = .ok (.aload_n 0, 1) by decide +kernel) rfl,
  fun d σ S l0 l1 l2 l3 l4 l5 l6 l7 l8 l9 l10 l11 => ex_getr (idx := 20) (ci := 7) (ff := 4) (n := 26) (hh := 837) (by decide +kernel),
  fun d σ S l0 l1 l2 l3 l4 l5 l6 l7 l8 l9 l10 l11 => ex_bipush (show decode mX7_who.2.1 65 = .ok (.bipush 40, 2) by decide +kernel) (by decide +kernel),
  fun d σ S l0 l1 l3 l4 l5 l6 l7 l8 l9 l10 l11 x => ex_iload_n (show decode mX7_who.2.1 67 = .ok (.iload_n 2, 1) by decide +kernel) rfl,
  fun d σ S l0 l1 l2 l3 l4 l5 l6 l7 l8 l9 l10 l11 x y => ex_imul (show decode mX7_who.2.1 68 = .ok (.imul, 1) by decide +kernel),
  fun d σ S l0 l1 l2 l4 l5 l6 l7 l8 l9 l10 l11 x => ex_iload_n (show decode mX7_who.2.1 69 = .ok (.iload_n 3, 1) by decide +kernel) rfl,
  fun d σ S l0 l1 l2 l3 l4 l5 l6 l7 l8 l9 l10 l11 x y => ex_iadd (show decode mX7_who.2.1 70 = .ok (.iadd, 1) by decide +kernel),
  fun d σ S l0 l1 l2 l3 l4 l5 l6 l7 l8 l9 l10 l11 => ex_iconst (show decode mX7_who.2.1 71 = .ok (.iconst 3, 1) by decide +kernel) (by decide +kernel),
  fun d σ S l0 l1 l2 l3 l4 l5 l7 l8 l9 l10 l11 x => ex_iload (show decode mX7_who.2.1 72 = .ok (.iload 6, 2) by decide +kernel) rfl⟩
theorem kX7_who_1 : (∀ (d : Nat) (σ : Sg) (S : List Value) (l0 l1 l2 l3 l4 l5 l6 l7 l8 l9 l10 l11 : Value) (x y : Int32), exec d mX7_who 74 [l0, l1, l2, l3, l4, l5, l6, l7, l8, l9, l10, l11] (.int y :: .int x :: S) σ = exec d mX7_who 75 [l0, l1, l2, l3, l4, l5, l6, l7, l8, l9, l10, l11] (.int (x * y) :: S) σ) ∧
  (∀ (d : Nat) (σ : Sg) (S : List Value) (l0 l1 l2 l3 l4 l5 l6 l7 l8 l9 l10 l11 : Value) (x y : Int32), exec d mX7_who 75 [l0, l1, l2, l3, l4, l5, l6, l7, l8, l9, l10, l11] (.int y :: .int x :: S) σ = exec d mX7_who 76 [l0, l1, l2, l3, l4, l5, l6, l7, l8, l9, l10, l11] (.int (x + y) :: S) σ) ∧
  (∀ (d : Nat) (σ : Sg) (S : List Value) (l0 l1 l2 l3 l4 l5 l6 l7 l8 l9 l10 l11 : Value) (x : Int32), exec d mX7_who 76 [l0, l1, l2, l3, l4, l5, l6, l7, l8, l9, l10, l11] (.int x :: .ref 54 :: S) σ = if inb x 320 = true then exec d mX7_who 77 [l0, l1, l2, l3, l4, l5, l6, l7, l8, l9, l10, l11] (.int (σ 54 x.toNatClampNeg) :: S) σ else none) ∧
  (∀ (d : Nat) (σ : Sg) (S : List Value) (l0 l1 l2 l3 l4 l5 l6 l7 l8 l9 l10 l11 : Value) (x : Int32), exec d mX7_who 77 [l0, l1, l2, l3, l4, l5, l6, l7, l8, l9, l10, l11] (.int x :: S) σ = exec d mX7_who 78 [l0, l1, l2, l3, l4, l5, l6, l7, l8, l9, l10, l11] (.long x.toInt64 :: S) σ) ∧
  (∀ (d : Nat) (σ : Sg) (S : List Value) (l0 l1 l2 l3 l4 l5 l6 l7 l8 l9 l10 l11 : Value), exec d mX7_who 78 [l0, l1, l2, l3, l4, l5, l6, l7, l8, l9, l10, l11] S σ = exec d mX7_who 79 [l0, l1, l2, l3, l4, l5, l6, l7, l8, l9, l10, l11] (.long (lN 0) :: S) σ) ∧
  (∀ (d : Nat) (σ : Sg) (S : List Value) (l0 l1 l2 l3 l4 l5 l6 l7 l8 l9 l10 l11 : Value), exec d mX7_who 79 [l0, l1, l2, l3, l4, l5, l6, l7, l8, l9, l10, l11] S σ = exec d mX7_who 82 [l0, l1, l2, l3, l4, l5, l6, l7, l8, l9, l10, l11] (.long (lN 20) :: S) σ) ∧
  (∀ (d : Nat) (σ : Sg) (l0 l1 l2 l3 l4 l5 l6 l7 l8 l9 l10 l11 : Value) (x0 x1 x2 : Int64), exec d mX7_who 82 [l0, l1, l2, l3, l4, l5, l6, l7, l8, l9, l10, l11] [.long x0, .long x1, .long x2] σ = kb (cal d mX7_in [.long x2, .long x1, .long x0] σ) (fun rs σ2 => exec d mX7_who 85 [l0, l1, l2, l3, l4, l5, l6, l7, l8, l9, l10, l11] (rs ++ []) σ2)) ∧
  (∀ (d : Nat) (σ : Sg) (S : List Value) (l0 l1 l2 l3 l4 l5 l6 l7 l8 l9 l10 l11 : Value) (x : Int32), exec d mX7_who 85 [l0, l1, l2, l3, l4, l5, l6, l7, l8, l9, l10, l11] (.int x :: S) σ = if x = nI 0 then exec d mX7_who 88 [l0, l1, l2, l3, l4, l5, l6, l7, l8, l9, l10, l11] S σ else exec d mX7_who 91 [l0, l1, l2, l3, l4, l5, l6, l7, l8, l9, l10, l11] S σ) ∧
  (∀ (d : Nat) (σ : Sg) (S : List Value) (l0 l1 l2 l3 l4 l5 l6 l7 l8 l9 l10 l11 : Value), exec d mX7_who 88 [l0, l1, l2, l3, l4, l5, l6, l7, l8, l9, l10, l11] S σ = exec d mX7_who 90 [l0, l1, l2, l3, l4, l5, l6, l7, l8, l9, l10, l11] (.int ((-1000001)) :: S) σ) ∧
  (∀ (d : Nat) (σ : Sg) (l0 l1 l2 l3 l4 l5 l6 l7 l8 l9 l10 l11 : Value) (x : Int32), exec d mX7_who 90 [l0, l1, l2, l3, l4, l5, l6, l7, l8, l9, l10, l11] [.int x] σ = some (some (.int x), σ)) ∧
  (∀ (d : Nat) (σ : Sg) (S : List Value) (l0 l1 l2 l3 l4 l7 l8 l9 l10 l11 : Value) (x y : Int32), exec d mX7_who 91 [l0, l1, l2, l3, l4, .int y, .int x, l7, l8, l9, l10, l11] S σ = exec d mX7_who 94 [l0, l1, l2, l3, l4, .int y, .int (x + nI 1), l7, l8, l9, l10, l11] S σ) ∧
  (∀ (d : Nat) (σ : Sg) (S : List Value) (l0 l1 l2 l3 l4 l5 l6 l7 l8 l9 l10 l11 : Value), exec d mX7_who 94 [l0, l1, l2, l3, l4, l5, l6, l7, l8, l9, l10, l11] S σ = exec d mX7_who 54 [l0, l1, l2, l3, l4, l5, l6, l7, l8, l9, l10, l11] S σ) ∧
  (∀ (d : Nat) (σ : Sg) (S : List Value) (l0 l1 l2 l3 l4 l5 l6 l7 l8 l9 l10 l11 : Value), exec d mX7_who 97 [l0, l1, l2, l3, l4, l5, l6, l7, l8, l9, l10, l11] S σ = exec d mX7_who 98 [l0, l1, l2, l3, l4, l5, l6, l7, l8, l9, l10, l11] (.int (nI 0) :: S) σ) ∧
  (∀ (d : Nat) (σ : Sg) (S : List Value) (l0 l1 l2 l3 l4 l6 l7 l8 l9 l10 l11 : Value) (x y : Int32), exec d mX7_who 98 [l0, l1, l2, l3, l4, .int y, l6, l7, l8, l9, l10, l11] (.int x :: S) σ = exec d mX7_who 100 [l0, l1, l2, l3, l4, .int y, .int x, l7, l8, l9, l10, l11] S σ) ∧
  (∀ (d : Nat) (σ : Sg) (S : List Value) (l0 l1 l2 l3 l4 l5 l6 l7 l8 l9 l10 l11 : Value), exec d mX7_who 100 [l0, l1, l2, l3, l4, l5, l6, l7, l8, l9, l10, l11] S σ = exec d mX7_who 101 [l0, l1, l2, l3, l4, l5, l6, l7, l8, l9, l10, l11] (.int (nI 1) :: S) σ) ∧
  (∀ (d : Nat) (σ : Sg) (S : List Value) (l0 l1 l2 l3 l4 l5 l7 l8 l9 l10 l11 : Value) (x y : Int32), exec d mX7_who 101 [l0, l1, l2, l3, l4, l5, .int y, l7, l8, l9, l10, l11] (.int x :: S) σ = exec d mX7_who 103 [l0, l1, l2, l3, l4, l5, .int y, .int x, l8, l9, l10, l11] S σ) ∧
  (∀ (d : Nat) (σ : Sg) (S : List Value) (l0 l1 l2 l3 l4 l5 l6 l7 l8 l9 l10 l11 : Value), exec d mX7_who 105 [l0, l1, l2, l3, l4, l5, l6, l7, l8, l9, l10, l11] S σ = exec d mX7_who 107 [l0, l1, l2, l3, l4, l5, l6, l7, l8, l9, l10, l11] (.int (nI 6) :: S) σ) ∧
  (∀ (d : Nat) (σ : Sg) (S : List Value) (l0 l1 l2 l3 l4 l5 l6 l7 l8 l9 l10 l11 : Value) (x y : Int32), exec d mX7_who 107 [l0, l1, l2, l3, l4, l5, l6, l7, l8, l9, l10, l11] (.int y :: .int x :: S) σ = if y ≤ x then exec d mX7_who 260 [l0, l1, l2, l3, l4, l5, l6, l7, l8, l9, l10, l11] S σ else exec d mX7_who 110 [l0, l1, l2, l3, l4, l5, l6, l7, l8, l9, l10, l11] S σ) ∧
  (∀ (d : Nat) (σ : Sg) (S : List Value) (l0 l1 l2 l3 l4 l5 l6 l7 l8 l9 l10 l11 : Value), exec d mX7_who 110 [l0, l1, l2, l3, l4, l5, l6, l7, l8, l9, l10, l11] S σ = exec d mX7_who 111 [l0, l1, l2, l3, l4, l5, l6, l7, l8, l9, l10, l11] (.int (nI 1) :: S) σ) ∧
  (∀ (d : Nat) (σ : Sg) (S : List Value) (l0 l1 l2 l3 l4 l5 l6 l8 l9 l10 l11 : Value) (x y : Int32), exec d mX7_who 111 [l0, l1, l2, l3, l4, l5, l6, .int y, l8, l9, l10, l11] (.int x :: S) σ = exec d mX7_who 113 [l0, l1, l2, l3, l4, l5, l6, .int y, .int x, l9, l10, l11] S σ) ∧
  (∀ (d : Nat) (σ : Sg) (S : List Value) (l0 l1 l2 l3 l4 l5 l6 l7 l8 l9 l10 l11 : Value), exec d mX7_who 113 [l0, l1, l2, l3, l4, l5, l6, l7, l8, l9, l10, l11] S σ = exec d mX7_who 114 [l0, l1, l2, l3, l4, l5, l6, l7, l8, l9, l10, l11] (.int (nI 0) :: S) σ) ∧
  (∀ (d : Nat) (σ : Sg) (S : List Value) (l0 l1 l2 l3 l4 l5 l6 l7 l9 l10 l11 : Value) (x y : Int32), exec d mX7_who 114 [l0, l1, l2, l3, l4, l5, l6, l7, .int y, l9, l10, l11] (.int x :: S) σ = exec d mX7_who 116 [l0, l1, l2, l3, l4, l5, l6, l7, .int y, .int x, l10, l11] S σ) ∧
  (∀ (d : Nat) (σ : Sg) (S : List Value) (l0 l1 l2 l3 l5 l6 l7 l8 l9 l10 l11 : Value) (x : Int32), exec d mX7_who 118 [l0, l1, l2, l3, .int x, l5, l6, l7, l8, l9, l10, l11] S σ = exec d mX7_who 120 [l0, l1, l2, l3, .int x, l5, l6, l7, l8, l9, l10, l11] (.int x :: S) σ) ∧
  (∀ (d : Nat) (σ : Sg) (S : List Value) (l0 l1 l2 l3 l4 l5 l6 l7 l8 l9 l10 l11 : Value) (x y : Int32), exec d mX7_who 120 [l0, l1, l2, l3, l4, l5, l6, l7, l8, l9, l10, l11] (.int y :: .int x :: S) σ = if y ≤ x then exec d mX7_who 236 [l0, l1, l2, l3, l4, l5, l6, l7, l8, l9, l10, l11] S σ else exec d mX7_who 123 [l0, l1, l2, l3, l4, l5, l6, l7, l8, l9, l10, l11] S σ) ∧
  (∀ (d : Nat) (σ : Sg) (S : List Value) (l0 l1 l2 l3 l4 l5 l6 l7 l8 l9 l10 l11 : Value), exec d mX7_who 123 [l0, l1, l2, l3, l4, l5, l6, l7, l8, l9, l10, l11] S σ = exec d mX7_who 125 [l0, l1, l2, l3, l4, l5, l6, l7, l8, l9, l10, l11] (.int (nI 40) :: S) σ) ∧
  (∀ (d : Nat) (σ : Sg) (S : List Value) (l0 l1 l3 l4 l5 l6 l7 l8 l9 l10 l11 : Value) (x : Int32), exec d mX7_who 125 [l0, l1, .int x, l3, l4, l5, l6, l7, l8, l9, l10, l11] S σ = exec d mX7_who 126 [l0, l1, .int x, l3, l4, l5, l6, l7, l8, l9, l10, l11] (.int x :: S) σ) ∧
  (∀ (d : Nat) (σ : Sg) (S : List Value) (l0 l1 l2 l3 l4 l5 l6 l7 l8 l9 l10 l11 : Value) (x y : Int32), exec d mX7_who 126 [l0, l1, l2, l3, l4, l5, l6, l7, l8, l9, l10, l11] (.int y :: .int x :: S) σ = exec d mX7_who 127 [l0, l1, l2, l3, l4, l5, l6, l7, l8, l9, l10, l11] (.int (x * y) :: S) σ) ∧
  (∀ (d : Nat) (σ : Sg) (S : List Value) (l0 l1 l2 l4 l5 l6 l7 l8 l9 l10 l11 : Value) (x : Int32), exec d mX7_who 127 [l0, l1, l2, .int x, l4, l5, l6, l7, l8, l9, l10, l11] S σ = exec d mX7_who 128 [l0, l1, l2, .int x, l4, l5, l6, l7, l8, l9, l10, l11] (.int x :: S) σ) ∧
  (∀ (d : Nat) (σ : Sg) (S : List Value) (l0 l1 l2 l3 l4 l5 l6 l7 l8 l9 l10 l11 : Value) (x y : Int32), exec d mX7_who 128 [l0, l1, l2, l3, l4, l5, l6, l7, l8, l9, l10, l11] (.int y :: .int x :: S) σ = exec d mX7_who 129 [l0, l1, l2, l3, l4, l5, l6, l7, l8, l9, l10, l11] (.int (x + y) :: S) σ) ∧
  (∀ (d : Nat) (σ : Sg) (S : List Value) (l0 l1 l2 l3 l4 l5 l6 l7 l8 l9 l10 l11 : Value), exec d mX7_who 129 [l0, l1, l2, l3, l4, l5, l6, l7, l8, l9, l10, l11] S σ = exec d mX7_who 130 [l0, l1, l2, l3, l4, l5, l6, l7, l8, l9, l10, l11] (.int (nI 3) :: S) σ) ∧
  (∀ (d : Nat) (σ : Sg) (S : List Value) (l0 l1 l2 l3 l4 l5 l6 l7 l8 l10 l11 : Value) (x : Int32), exec d mX7_who 130 [l0, l1, l2, l3, l4, l5, l6, l7, l8, .int x, l10, l11] S σ = exec d mX7_who 132 [l0, l1, l2, l3, l4, l5, l6, l7, l8, .int x, l10, l11] (.int x :: S) σ) ∧
  (∀ (d : Nat) (σ : Sg) (S : List Value) (l0 l1 l2 l3 l4 l5 l6 l7 l8 l9 l10 l11 : Value) (x y : Int32), exec d mX7_who 132 [l0, l1, l2, l3, l4, l5, l6, l7, l8, l9, l10, l11] (.int y :: .int x :: S) σ = exec d mX7_who 133 [l0, l1, l2, l3, l4, l5, l6, l7, l8, l9, l10, l11] (.int (x * y) :: S) σ) ∧
  (∀ (d : Nat) (σ : Sg) (S : List Value) (l0 l1 l2 l3 l4 l5 l6 l7 l8 l9 l10 l11 : Value) (x y : Int32), exec d mX7_who 133 [l0, l1, l2, l3, l4, l5, l6, l7, l8, l9, l10, l11] (.int y :: .int x :: S) σ = exec d mX7_who 134 [l0, l1, l2, l3, l4, l5, l6, l7, l8, l9, l10, l11] (.int (x + y) :: S) σ) ∧
  (∀ (d : Nat) (σ : Sg) (S : List Value) (l0 l1 l2 l3 l4 l5 l6 l7 l8 l10 l11 : Value) (x y : Int32), exec d mX7_who 134 [l0, l1, l2, l3, l4, l5, l6, l7, l8, .int y, l10, l11] (.int x :: S) σ = exec d mX7_who 136 [l0, l1, l2, l3, l4, l5, l6, l7, l8, .int y, .int x, l11] S σ) ∧
  (∀ (d : Nat) (σ : Sg) (S : List Value) (l1 l2 l3 l4 l5 l6 l7 l8 l9 l10 l11 : Value) (k : Nat), exec d mX7_who 136 [.ref k, l1, l2, l3, l4, l5, l6, l7, l8, l9, l10, l11] S σ = exec d mX7_who 137 [.ref k, l1, l2, l3, l4, l5, l6, l7, l8, l9, l10, l11] (.ref k :: S) σ) ∧
  (∀ (d : Nat) (σ : Sg) (S : List Value) (l0 l1 l2 l3 l4 l5 l6 l7 l8 l9 l10 l11 : Value), exec d mX7_who 137 [l0, l1, l2, l3, l4, l5, l6, l7, l8, l9, l10, l11] (.ref 50 :: S) σ = exec d mX7_who 140 [l0, l1, l2, l3, l4, l5, l6, l7, l8, l9, l10, l11] (.ref 54 :: S) σ) ∧
  (∀ (d : Nat) (σ : Sg) (S : List Value) (l0 l1 l2 l3 l4 l5 l6 l7 l8 l9 l11 : Value) (x : Int32), exec d mX7_who 140 [l0, l1, l2, l3, l4, l5, l6, l7, l8, l9, .int x, l11] S σ = exec d mX7_who 142 [l0, l1, l2, l3, l4, l5, l6, l7, l8, l9, .int x, l11] (.int x :: S) σ) ∧
  (∀ (d : Nat) (σ : Sg) (S : List Value) (l0 l1 l2 l3 l4 l5 l6 l7 l8 l9 l10 l11 : Value) (x : Int32), exec d mX7_who 142 [l0, l1, l2, l3, l4, l5, l6, l7, l8, l9, l10, l11] (.int x :: .ref 54 :: S) σ = if inb x 320 = true then exec d mX7_who 143 [l0, l1, l2, l3, l4, l5, l6, l7, l8, l9, l10, l11] (.int (σ 54 x.toNatClampNeg) :: S) σ else none) ∧
  (∀ (d : Nat) (σ : Sg) (S : List Value) (l0 l1 l2 l3 l4 l5 l6 l7 l8 l9 l11 : Value) (x y : Int32), exec d mX7_who 143 [l0, l1, l2, l3, l4, l5, l6, l7, l8, l9, .int y, l11] (.int x :: S) σ = exec d mX7_who 145 [l0, l1, l2, l3, l4, l5, l6, l7, l8, l9, .int y, .int x] S σ) ∧
  (∀ (d : Nat) (σ : Sg) (S : List Value) (l0 l1 l2 l3 l4 l5 l6 l7 l9 l10 l11 : Value) (x : Int32), exec d mX7_who 145 [l0, l1, l2, l3, l4, l5, l6, l7, .int x, l9, l10, l11] S σ = exec d mX7_who 147 [l0, l1, l2, l3, l4, l5, l6, l7, .int x, l9, l10, l11] (.int x :: S) σ) :=
  ⟨fun d σ S l0 l1 l2 l3 l4 l5 l6 l7 l8 l9 l10 l11 x y => ex_imul (show decode mX7_who.2.1 74 = .ok (.imul, 1) by decide +kernel),
  fun d σ S l0 l1 l2 l3 l4 l5 l6 l7 l8 l9 l10 l11 x y => ex_iadd (show decode mX7_who.2.1 75 = .ok (.iadd, 1) by decide +kernel),
  fun d σ S l0 l1 l2 l3 l4 l5 l6 l7 l8 l9 l10 l11 x => ex_iald (by decide +kernel),
  fun d σ S l0 l1 l2 l3 l4 l5 l6 l7 l8 l9 l10 l11 x => ex_i2l (show decode mX7_who.2.1 77 = .ok (.i2l, 1) by decide +kernel),
  fun d σ S l0 l1 l2 l3 l4 l5 l6 l7 l8 l9 l10 l11 => ex_lconst (show decode mX7_who.2.1 78 = .ok (.lconst 0, 1) by decide +kernel) (by decide +kernel),
  fun d σ S l0 l1 l2 l3 l4 l5 l6 l7 l8 l9 l10 l11 => ex_ldc2 (hh := 1078) (show decode mX7_who.2.1 79 = .ok (.ldc2_w 191, 3) by decide +kernel) (by decide +kernel),
  fun d σ l0 l1 l2 l3 l4 l5 l6 l7 l8 l9 l10 l11 x0 x1 x2 => ex_is (hs := [920, 921, 922, 101]) (show decode mX7_who.2.1 82 = .ok (.invokestatic 63, 3) by decide +kernel) lkS_7_63 ⟨rfl, Nat.le_of_ble_eq_true rfl, Nat.le_of_ble_eq_true rfl, fun q => nomatch q⟩ rfl rfl,
  fun d σ S l0 l1 l2 l3 l4 l5 l6 l7 l8 l9 l10 l11 x => ex_zne (show decode mX7_who.2.1 85 = .ok (.ifCond .ne 6, 3) by decide +kernel) (by decide),
  fun d σ S l0 l1 l2 l3 l4 l5 l6 l7 l8 l9 l10 l11 => ex_ldc (hh := 924) (show decode mX7_who.2.1 88 = .ok (.ldc 73, 2) by decide +kernel) (by decide +kernel),
  fun d σ l0 l1 l2 l3 l4 l5 l6 l7 l8 l9 l10 l11 x => ex_iret (show decode mX7_who.2.1 90 = .ok (.ireturn, 1) by decide +kernel) rfl,
  fun d σ S l0 l1 l2 l3 l4 l7 l8 l9 l10 l11 x y => ex_iinc (show decode mX7_who.2.1 91 = .ok (.iinc 6 1, 3) by decide +kernel) rfl (by decide +kernel) (Nat.le_of_ble_eq_true rfl) rfl,
  fun d σ S l0 l1 l2 l3 l4 l5 l6 l7 l8 l9 l10 l11 => ex_goto (show decode mX7_who.2.1 94 = .ok (.goto (-40), 3) by decide +kernel) (by decide),
  fun d σ S l0 l1 l2 l3 l4 l5 l6 l7 l8 l9 l10 l11 => ex_iconst (show decode mX7_who.2.1 97 = .ok (.iconst 0, 1) by decide +kernel) (by decide +kernel),
  fun d σ S l0 l1 l2 l3 l4 l6 l7 l8 l9 l10 l11 x y => ex_istore (show decode mX7_who.2.1 98 = .ok (.istore 6, 2) by decide +kernel) (Nat.le_of_ble_eq_true rfl) rfl,
  fun d σ S l0 l1 l2 l3 l4 l5 l6 l7 l8 l9 l10 l11 => ex_iconst (show decode mX7_who.2.1 100 = .ok (.iconst 1, 1) by decide +kernel) (by decide +kernel),
  fun d σ S l0 l1 l2 l3 l4 l5 l7 l8 l9 l10 l11 x y => ex_istore (show decode mX7_who.2.1 101 = .ok (.istore 7, 2) by decide +kernel) (Nat.le_of_ble_eq_true rfl) rfl,
  fun d σ S l0 l1 l2 l3 l4 l5 l6 l7 l8 l9 l10 l11 => ex_bipush (show decode mX7_who.2.1 105 = .ok (.bipush 6, 2) by decide +kernel) (by decide +kernel),
  fun d σ S l0 l1 l2 l3 l4 l5 l6 l7 l8 l9 l10 l11 x y => ex_cge (show decode mX7_who.2.1 107 = .ok (.if_icmp .ge 153, 3) by decide +kernel) (by decide),
  fun d σ S l0 l1 l2 l3 l4 l5 l6 l7 l8 l9 l10 l11 => ex_iconst (show decode mX7_who.2.1 110 = .ok (.iconst 1, 1) by decide +kernel) (by decide +kernel),
  fun d σ S l0 l1 l2 l3 l4 l5 l6 l8 l9 l10 l11 x y => ex_istore (show decode mX7_who.2.1 111 = .ok (.istore 8, 2) by decide +kernel) (Nat.le_of_ble_eq_true rfl) rfl,
  fun d σ S l0 l1 l2 l3 l4 l5 l6 l7 l8 l9 l10 l11 => ex_iconst (show decode mX7_who.2.1 113 = .ok (.iconst 0, 1) by decide +kernel) (by decide +kernel),
  fun d σ S l0 l1 l2 l3 l4 l5 l6 l7 l9 l10 l11 x y => ex_istore (show decode mX7_who.2.1 114 = .ok (.istore 9, 2) by decide +kernel) (Nat.le_of_ble_eq_true rfl) rfl,
  fun d σ S l0 l1 l2 l3 l5 l6 l7 l8 l9 l10 l11 x => ex_iload (show decode mX7_who.2.1 118 = .ok (.iload 4, 2) by decide +kernel) rfl,
  fun d σ S l0 l1 l2 l3 l4 l5 l6 l7 l8 l9 l10 l11 x y => ex_cge (show decode mX7_who.2.1 120 = .ok (.if_icmp .ge 116, 3) by decide +kernel) (by decide),
  fun d σ S l0 l1 l2 l3 l4 l5 l6 l7 l8 l9 l10 l11 => ex_bipush (show decode mX7_who.2.1 123 = .ok (.bipush 40, 2) by decide +kernel) (by decide +kernel),
  fun d σ S l0 l1 l3 l4 l5 l6 l7 l8 l9 l10 l11 x => ex_iload_n (show decode mX7_who.2.1 125 = .ok (.iload_n 2, 1) by decide +kernel) rfl,
  fun d σ S l0 l1 l2 l3 l4 l5 l6 l7 l8 l9 l10 l11 x y => ex_imul (show decode mX7_who.2.1 126 = .ok (.imul, 1) by decide +kernel),
  fun d σ S l0 l1 l2 l4 l5 l6 l7 l8 l9 l10 l11 x => ex_iload_n (show decode mX7_who.2.1 127 = .ok (.iload_n 3, 1) by decide +kernel) rfl,
  fun d σ S l0 l1 l2 l3 l4 l5 l6 l7 l8 l9 l10 l11 x y => ex_iadd (show decode mX7_who.2.1 128 = .ok (.iadd, 1) by decide +kernel),
  fun d σ S l0 l1 l2 l3 l4 l5 l6 l7 l8 l9 l10 l11 => ex_iconst (show decode mX7_who.2.1 129 = .ok (.iconst 3, 1) by decide +kernel) (by decide +kernel),
  fun d σ S l0 l1 l2 l3 l4 l5 l6 l7 l8 l10 l11 x => ex_iload (show decode mX7_who.2.1 130 = .ok (.iload 9, 2) by decide +kernel) rfl,
  fun d σ S l0 l1 l2 l3 l4 l5 l6 l7 l8 l9 l10 l11 x y => ex_imul (show decode mX7_who.2.1 132 = .ok (.imul, 1) by decide +kernel),
  fun d σ S l0 l1 l2 l3 l4 l5 l6 l7 l8 l9 l10 l11 x y => ex_iadd (show decode mX7_who.2.1 133 = .ok (.iadd, 1) by decide +kernel),
  fun d σ S l0 l1 l2 l3 l4 l5 l6 l7 l8 l10 l11 x y => ex_istore (show decode mX7_who.2.1 134 = .ok (.istore 10, 2) by decide +kernel) (Nat.le_of_ble_eq_true rfl) rfl,
  fun d σ S l1 l2 l3 l4 l5 l6 l7 l8 l9 l10 l11 k => ex_aload_n (show decode mX7_who.2.1 136 = .ok (.aload_n 0, 1) by decide +kernel) rfl,
  fun d σ S l0 l1 l2 l3 l4 l5 l6 l7 l8 l9 l10 l11 => ex_getr (idx := 20) (ci := 7) (ff := 4) (n := 26) (hh := 837) (by decide +kernel),
  fun d σ S l0 l1 l2 l3 l4 l5 l6 l7 l8 l9 l11 x => ex_iload (show decode mX7_who.2.1 140 = .ok (.iload 10, 2) by decide +kernel) rfl,
  fun d σ S l0 l1 l2 l3 l4 l5 l6 l7 l8 l9 l10 l11 x => ex_iald (by decide +kernel),
  fun d σ S l0 l1 l2 l3 l4 l5 l6 l7 l8 l9 l11 x y => ex_istore (show decode mX7_who.2.1 143 = .ok (.istore 11, 2) by decide +kernel) (Nat.le_of_ble_eq_true rfl) rfl,
  fun d σ S l0 l1 l2 l3 l4 l5 l6 l7 l9 l10 l11 x => ex_iload (show decode mX7_who.2.1 145 = .ok (.iload 8, 2) by decide +kernel) rfl⟩
theorem kX7_who_2 : (∀ (d : Nat) (σ : Sg) (S : List Value) (l0 l1 l2 l3 l4 l5 l6 l7 l8 l9 l10 l11 : Value) (x : Int32), exec d mX7_who 147 [l0, l1, l2, l3, l4, l5, l6, l7, l8, l9, l10, l11] (.int x :: S) σ = if x = nI 0 then exec d mX7_who 227 [l0, l1, l2, l3, l4, l5, l6, l7, l8, l9, l10, l11] S σ else exec d mX7_who 150 [l0, l1, l2, l3, l4, l5, l6, l7, l8, l9, l10, l11] S σ) ∧
  (∀ (d : Nat) (σ : Sg) (S : List Value) (l0 l1 l2 l3 l4 l5 l6 l8 l9 l10 l11 : Value) (x : Int32), exec d mX7_who 150 [l0, l1, l2, l3, l4, l5, l6, .int x, l8, l9, l10, l11] S σ = exec d mX7_who 152 [l0, l1, l2, l3, l4, l5, l6, .int x, l8, l9, l10, l11] (.int x :: S) σ) ∧
  (∀ (d : Nat) (σ : Sg) (S : List Value) (l1 l2 l3 l4 l5 l6 l7 l8 l9 l10 l11 : Value) (k : Nat), exec d mX7_who 152 [.ref k, l1, l2, l3, l4, l5, l6, l7, l8, l9, l10, l11] S σ = exec d mX7_who 153 [.ref k, l1, l2, l3, l4, l5, l6, l7, l8, l9, l10, l11] (.ref k :: S) σ) ∧
  (∀ (d : Nat) (σ : Sg) (S : List Value) (l0 l1 l2 l3 l4 l5 l6 l7 l8 l9 l10 l11 : Value), exec d mX7_who 153 [l0, l1, l2, l3, l4, l5, l6, l7, l8, l9, l10, l11] (.ref 50 :: S) σ = exec d mX7_who 156 [l0, l1, l2, l3, l4, l5, l6, l7, l8, l9, l10, l11] (.ref 51 :: S) σ) ∧
  (∀ (d : Nat) (σ : Sg) (S : List Value) (l0 l1 l2 l3 l4 l5 l6 l7 l8 l9 l10 l11 : Value), exec d mX7_who 156 [l0, l1, l2, l3, l4, l5, l6, l7, l8, l9, l10, l11] S σ = exec d mX7_who 158 [l0, l1, l2, l3, l4, l5, l6, l7, l8, l9, l10, l11] (.int (nI 16) :: S) σ) ∧
  (∀ (d : Nat) (σ : Sg) (S : List Value) (l0 l2 l3 l4 l5 l6 l7 l8 l9 l10 l11 : Value) (x : Int32), exec d mX7_who 158 [l0, .int x, l2, l3, l4, l5, l6, l7, l8, l9, l10, l11] S σ = exec d mX7_who 159 [l0, .int x, l2, l3, l4, l5, l6, l7, l8, l9, l10, l11] (.int x :: S) σ) ∧
  (∀ (d : Nat) (σ : Sg) (S : List Value) (l0 l1 l2 l3 l4 l5 l6 l7 l8 l9 l10 l11 : Value) (x y : Int32), exec d mX7_who 159 [l0, l1, l2, l3, l4, l5, l6, l7, l8, l9, l10, l11] (.int y :: .int x :: S) σ = exec d mX7_who 160 [l0, l1, l2, l3, l4, l5, l6, l7, l8, l9, l10, l11] (.int (x + y) :: S) σ) ∧
  (∀ (d : Nat) (σ : Sg) (S : List Value) (l0 l1 l2 l3 l4 l5 l6 l7 l8 l9 l10 l11 : Value) (x : Int32), exec d mX7_who 160 [l0, l1, l2, l3, l4, l5, l6, l7, l8, l9, l10, l11] (.int x :: .ref 51 :: S) σ = if inb x 208 = true then exec d mX7_who 161 [l0, l1, l2, l3, l4, l5, l6, l7, l8, l9, l10, l11] (.int (σ 51 x.toNatClampNeg) :: S) σ else none) ∧
  (∀ (d : Nat) (σ : Sg) (S : List Value) (l1 l2 l3 l4 l5 l6 l7 l8 l9 l10 l11 : Value) (k : Nat), exec d mX7_who 161 [.ref k, l1, l2, l3, l4, l5, l6, l7, l8, l9, l10, l11] S σ = exec d mX7_who 162 [.ref k, l1, l2, l3, l4, l5, l6, l7, l8, l9, l10, l11] (.ref k :: S) σ) ∧
  (∀ (d : Nat) (σ : Sg) (S : List Value) (l0 l1 l2 l3 l4 l5 l6 l7 l8 l9 l10 l11 : Value), exec d mX7_who 162 [l0, l1, l2, l3, l4, l5, l6, l7, l8, l9, l10, l11] (.ref 50 :: S) σ = exec d mX7_who 165 [l0, l1, l2, l3, l4, l5, l6, l7, l8, l9, l10, l11] (.ref 51 :: S) σ) ∧
  (∀ (d : Nat) (σ : Sg) (S : List Value) (l0 l1 l2 l3 l4 l5 l6 l7 l8 l9 l10 l11 : Value), exec d mX7_who 165 [l0, l1, l2, l3, l4, l5, l6, l7, l8, l9, l10, l11] S σ = exec d mX7_who 167 [l0, l1, l2, l3, l4, l5, l6, l7, l8, l9, l10, l11] (.int (nI 23) :: S) σ) ∧
  (∀ (d : Nat) (σ : Sg) (S : List Value) (l0 l2 l3 l4 l5 l6 l7 l8 l9 l10 l11 : Value) (x : Int32), exec d mX7_who 167 [l0, .int x, l2, l3, l4, l5, l6, l7, l8, l9, l10, l11] S σ = exec d mX7_who 168 [l0, .int x, l2, l3, l4, l5, l6, l7, l8, l9, l10, l11] (.int x :: S) σ) ∧
  (∀ (d : Nat) (σ : Sg) (S : List Value) (l0 l1 l2 l3 l4 l5 l6 l7 l8 l9 l10 l11 : Value) (x y : Int32), exec d mX7_who 168 [l0, l1, l2, l3, l4, l5, l6, l7, l8, l9, l10, l11] (.int y :: .int x :: S) σ = exec d mX7_who 169 [l0, l1, l2, l3, l4, l5, l6, l7, l8, l9, l10, l11] (.int (x + y) :: S) σ) ∧
  (∀ (d : Nat) (σ : Sg) (S : List Value) (l0 l1 l2 l3 l4 l5 l6 l7 l8 l9 l10 l11 : Value) (x : Int32), exec d mX7_who 169 [l0, l1, l2, l3, l4, l5, l6, l7, l8, l9, l10, l11] (.int x :: .ref 51 :: S) σ = if inb x 208 = true then exec d mX7_who 170 [l0, l1, l2, l3, l4, l5, l6, l7, l8, l9, l10, l11] (.int (σ 51 x.toNatClampNeg) :: S) σ else none) ∧
  (∀ (d : Nat) (σ : Sg) (S : List Value) (l0 l1 l2 l3 l4 l5 l6 l7 l8 l9 l10 : Value) (x : Int32), exec d mX7_who 170 [l0, l1, l2, l3, l4, l5, l6, l7, l8, l9, l10, .int x] S σ = exec d mX7_who 172 [l0, l1, l2, l3, l4, l5, l6, l7, l8, l9, l10, .int x] (.int x :: S) σ) ∧
  (∀ (d : Nat) (σ : Sg) (l0 l1 l2 l3 l4 l5 l6 l7 l8 l9 l10 l11 : Value) (x0 x1 x2 x3 : Int32), exec d mX7_who 172 [l0, l1, l2, l3, l4, l5, l6, l7, l8, l9, l10, l11] [.int x0, .int x1, .int x2, .int x3] σ = kb (cal d mX7_takesOf [.int x3, .int x2, .int x1, .int x0] σ) (fun rs σ2 => exec d mX7_who 175 [l0, l1, l2, l3, l4, l5, l6, l7, l8, l9, l10, l11] (rs ++ []) σ2)) ∧
  (∀ (d : Nat) (σ : Sg) (S : List Value) (l1 l2 l3 l4 l5 l6 l7 l8 l9 l10 l11 : Value) (k : Nat), exec d mX7_who 175 [.ref k, l1, l2, l3, l4, l5, l6, l7, l8, l9, l10, l11] S σ = exec d mX7_who 176 [.ref k, l1, l2, l3, l4, l5, l6, l7, l8, l9, l10, l11] (.ref k :: S) σ) ∧
  (∀ (d : Nat) (σ : Sg) (S : List Value) (l0 l1 l2 l3 l4 l5 l6 l7 l8 l9 l10 l11 : Value), exec d mX7_who 176 [l0, l1, l2, l3, l4, l5, l6, l7, l8, l9, l10, l11] (.ref 50 :: S) σ = exec d mX7_who 179 [l0, l1, l2, l3, l4, l5, l6, l7, l8, l9, l10, l11] (.ref 54 :: S) σ) ∧
  (∀ (d : Nat) (σ : Sg) (S : List Value) (l0 l1 l2 l3 l4 l5 l6 l7 l8 l9 l11 : Value) (x : Int32), exec d mX7_who 179 [l0, l1, l2, l3, l4, l5, l6, l7, l8, l9, .int x, l11] S σ = exec d mX7_who 181 [l0, l1, l2, l3, l4, l5, l6, l7, l8, l9, .int x, l11] (.int x :: S) σ) ∧
  (∀ (d : Nat) (σ : Sg) (S : List Value) (l0 l1 l2 l3 l4 l5 l6 l7 l8 l9 l10 l11 : Value), exec d mX7_who 181 [l0, l1, l2, l3, l4, l5, l6, l7, l8, l9, l10, l11] S σ = exec d mX7_who 182 [l0, l1, l2, l3, l4, l5, l6, l7, l8, l9, l10, l11] (.int (nI 1) :: S) σ) ∧
  (∀ (d : Nat) (σ : Sg) (S : List Value) (l0 l1 l2 l3 l4 l5 l6 l7 l8 l9 l10 l11 : Value) (x y : Int32), exec d mX7_who 182 [l0, l1, l2, l3, l4, l5, l6, l7, l8, l9, l10, l11] (.int y :: .int x :: S) σ = exec d mX7_who 183 [l0, l1, l2, l3, l4, l5, l6, l7, l8, l9, l10, l11] (.int (x + y) :: S) σ) ∧
  (∀ (d : Nat) (σ : Sg) (S : List Value) (l0 l1 l2 l3 l4 l5 l6 l7 l8 l9 l10 l11 : Value) (x : Int32), exec d mX7_who 183 [l0, l1, l2, l3, l4, l5, l6, l7, l8, l9, l10, l11] (.int x :: .ref 54 :: S) σ = if inb x 320 = true then exec d mX7_who 184 [l0, l1, l2, l3, l4, l5, l6, l7, l8, l9, l10, l11] (.int (σ 54 x.toNatClampNeg) :: S) σ else none) ∧
  (∀ (d : Nat) (σ : Sg) (S : List Value) (l0 l1 l2 l3 l4 l5 l6 l7 l8 l9 l10 l11 : Value) (x y : Int32), exec d mX7_who 184 [l0, l1, l2, l3, l4, l5, l6, l7, l8, l9, l10, l11] (.int y :: .int x :: S) σ = if x = y then exec d mX7_who 187 [l0, l1, l2, l3, l4, l5, l6, l7, l8, l9, l10, l11] S σ else exec d mX7_who 227 [l0, l1, l2, l3, l4, l5, l6, l7, l8, l9, l10, l11] S σ) ∧
  (∀ (d : Nat) (σ : Sg) (S : List Value) (l0 l1 l2 l3 l4 l5 l6 l8 l9 l10 l11 : Value) (x : Int32), exec d mX7_who 187 [l0, l1, l2, l3, l4, l5, l6, .int x, l8, l9, l10, l11] S σ = exec d mX7_who 189 [l0, l1, l2, l3, l4, l5, l6, .int x, l8, l9, l10, l11] (.int x :: S) σ) ∧
  (∀ (d : Nat) (σ : Sg) (S : List Value) (l1 l2 l3 l4 l5 l6 l7 l8 l9 l10 l11 : Value) (k : Nat), exec d mX7_who 189 [.ref k, l1, l2, l3, l4, l5, l6, l7, l8, l9, l10, l11] S σ = exec d mX7_who 190 [.ref k, l1, l2, l3, l4, l5, l6, l7, l8, l9, l10, l11] (.ref k :: S) σ) ∧
  (∀ (d : Nat) (σ : Sg) (S : List Value) (l0 l1 l2 l3 l4 l5 l6 l7 l8 l9 l10 l11 : Value), exec d mX7_who 190 [l0, l1, l2, l3, l4, l5, l6, l7, l8, l9, l10, l11] (.ref 50 :: S) σ = exec d mX7_who 193 [l0, l1, l2, l3, l4, l5, l6, l7, l8, l9, l10, l11] (.ref 51 :: S) σ) ∧
  (∀ (d : Nat) (σ : Sg) (S : List Value) (l0 l1 l2 l3 l4 l5 l6 l7 l8 l9 l10 l11 : Value), exec d mX7_who 193 [l0, l1, l2, l3, l4, l5, l6, l7, l8, l9, l10, l11] S σ = exec d mX7_who 195 [l0, l1, l2, l3, l4, l5, l6, l7, l8, l9, l10, l11] (.int (nI 16) :: S) σ) ∧
  (∀ (d : Nat) (σ : Sg) (S : List Value) (l0 l2 l3 l4 l5 l6 l7 l8 l9 l10 l11 : Value) (x : Int32), exec d mX7_who 195 [l0, .int x, l2, l3, l4, l5, l6, l7, l8, l9, l10, l11] S σ = exec d mX7_who 196 [l0, .int x, l2, l3, l4, l5, l6, l7, l8, l9, l10, l11] (.int x :: S) σ) ∧
  (∀ (d : Nat) (σ : Sg) (S : List Value) (l0 l1 l2 l3 l4 l5 l6 l7 l8 l9 l10 l11 : Value) (x y : Int32), exec d mX7_who 196 [l0, l1, l2, l3, l4, l5, l6, l7, l8, l9, l10, l11] (.int y :: .int x :: S) σ = exec d mX7_who 197 [l0, l1, l2, l3, l4, l5, l6, l7, l8, l9, l10, l11] (.int (x + y) :: S) σ) ∧
  (∀ (d : Nat) (σ : Sg) (S : List Value) (l0 l1 l2 l3 l4 l5 l6 l7 l8 l9 l10 l11 : Value) (x : Int32), exec d mX7_who 197 [l0, l1, l2, l3, l4, l5, l6, l7, l8, l9, l10, l11] (.int x :: .ref 51 :: S) σ = if inb x 208 = true then exec d mX7_who 198 [l0, l1, l2, l3, l4, l5, l6, l7, l8, l9, l10, l11] (.int (σ 51 x.toNatClampNeg) :: S) σ else none) ∧
  (∀ (d : Nat) (σ : Sg) (S : List Value) (l0 l1 l2 l3 l4 l5 l6 l7 l8 l9 l10 : Value) (x : Int32), exec d mX7_who 198 [l0, l1, l2, l3, l4, l5, l6, l7, l8, l9, l10, .int x] S σ = exec d mX7_who 200 [l0, l1, l2, l3, l4, l5, l6, l7, l8, l9, l10, .int x] (.int x :: S) σ) ∧
  (∀ (d : Nat) (σ : Sg) (l0 l1 l2 l3 l4 l5 l6 l7 l8 l9 l10 l11 : Value) (x0 x1 x2 : Int32), exec d mX7_who 200 [l0, l1, l2, l3, l4, l5, l6, l7, l8, l9, l10, l11] [.int x0, .int x1, .int x2] σ = kb (cal d mX7_isFaulty [.int x2, .int x1, .int x0] σ) (fun rs σ2 => exec d mX7_who 203 [l0, l1, l2, l3, l4, l5, l6, l7, l8, l9, l10, l11] (rs ++ []) σ2)) ∧
  (∀ (d : Nat) (σ : Sg) (S : List Value) (l0 l1 l2 l3 l4 l5 l6 l7 l8 l9 l10 l11 : Value) (x : Int32), exec d mX7_who 203 [l0, l1, l2, l3, l4, l5, l6, l7, l8, l9, l10, l11] (.int x :: S) σ = if x = nI 0 then exec d mX7_who 210 [l0, l1, l2, l3, l4, l5, l6, l7, l8, l9, l10, l11] S σ else exec d mX7_who 206 [l0, l1, l2, l3, l4, l5, l6, l7, l8, l9, l10, l11] S σ) ∧
  (∀ (d : Nat) (σ : Sg) (S : List Value) (l0 l1 l2 l3 l4 l5 l6 l7 l8 l9 l10 l11 : Value), exec d mX7_who 206 [l0, l1, l2, l3, l4, l5, l6, l7, l8, l9, l10, l11] S σ = exec d mX7_who 207 [l0, l1, l2, l3, l4, l5, l6, l7, l8, l9, l10, l11] (.int (nI 1) :: S) σ) ∧
  (∀ (d : Nat) (σ : Sg) (S : List Value) (l0 l1 l2 l3 l4 l5 l6 l7 l8 l9 l10 l11 : Value), exec d mX7_who 207 [l0, l1, l2, l3, l4, l5, l6, l7, l8, l9, l10, l11] S σ = exec d mX7_who 211 [l0, l1, l2, l3, l4, l5, l6, l7, l8, l9, l10, l11] S σ) ∧
  (∀ (d : Nat) (σ : Sg) (S : List Value) (l0 l1 l2 l3 l4 l5 l6 l7 l8 l9 l10 l11 : Value), exec d mX7_who 210 [l0, l1, l2, l3, l4, l5, l6, l7, l8, l9, l10, l11] S σ = exec d mX7_who 211 [l0, l1, l2, l3, l4, l5, l6, l7, l8, l9, l10, l11] (.int (nI 0) :: S) σ) ∧
  (∀ (d : Nat) (σ : Sg) (S : List Value) (l1 l2 l3 l4 l5 l6 l7 l8 l9 l10 l11 : Value) (k : Nat), exec d mX7_who 211 [.ref k, l1, l2, l3, l4, l5, l6, l7, l8, l9, l10, l11] S σ = exec d mX7_who 212 [.ref k, l1, l2, l3, l4, l5, l6, l7, l8, l9, l10, l11] (.ref k :: S) σ) ∧
  (∀ (d : Nat) (σ : Sg) (S : List Value) (l0 l1 l2 l3 l4 l5 l6 l7 l8 l9 l10 l11 : Value), exec d mX7_who 212 [l0, l1, l2, l3, l4, l5, l6, l7, l8, l9, l10, l11] (.ref 50 :: S) σ = exec d mX7_who 215 [l0, l1, l2, l3, l4, l5, l6, l7, l8, l9, l10, l11] (.ref 54 :: S) σ) ∧
  (∀ (d : Nat) (σ : Sg) (S : List Value) (l0 l1 l2 l3 l4 l5 l6 l7 l8 l9 l11 : Value) (x : Int32), exec d mX7_who 215 [l0, l1, l2, l3, l4, l5, l6, l7, l8, l9, .int x, l11] S σ = exec d mX7_who 217 [l0, l1, l2, l3, l4, l5, l6, l7, l8, l9, .int x, l11] (.int x :: S) σ) ∧
  (∀ (d : Nat) (σ : Sg) (S : List Value) (l0 l1 l2 l3 l4 l5 l6 l7 l8 l9 l10 l11 : Value), exec d mX7_who 217 [l0, l1, l2, l3, l4, l5, l6, l7, l8, l9, l10, l11] S σ = exec d mX7_who 218 [l0, l1, l2, l3, l4, l5, l6, l7, l8, l9, l10, l11] (.int (nI 2) :: S) σ) :=
  ⟨fun d σ S l0 l1 l2 l3 l4 l5 l6 l7 l8 l9 l10 l11 x => ex_zeq (show decode mX7_who.2.1 147 = .ok (.ifCond .eq 80, 3) by decide +kernel) (by decide),
  fun d σ S l0 l1 l2 l3 l4 l5 l6 l8 l9 l10 l11 x => ex_iload (show decode mX7_who.2.1 150 = .ok (.iload 7, 2) by decide +kernel) rfl,
  fun d σ S l1 l2 l3 l4 l5 l6 l7 l8 l9 l10 l11 k => ex_aload_n (show decode mX7_who.2.1 152 = .ok (.aload_n 0, 1) by decide +kernel) rfl,
  fun d σ S l0 l1 l2 l3 l4 l5 l6 l7 l8 l9 l10 l11 => ex_getr (idx := 7) (ci := 7) (ff := 0) (n := 26) (hh := 833) (by decide +kernel),
  fun d σ S l0 l1 l2 l3 l4 l5 l6 l7 l8 l9 l10 l11 => ex_bipush (show decode mX7_who.2.1 156 = .ok (.bipush 16, 2) by decide +kernel) (by decide +kernel),
  fun d σ S l0 l2 l3 l4 l5 l6 l7 l8 l9 l10 l11 x => ex_iload_n (show decode mX7_who.2.1 158 = .ok (.iload_n 1, 1) by decide +kernel) rfl,
  fun d σ S l0 l1 l2 l3 l4 l5 l6 l7 l8 l9 l10 l11 x y => ex_iadd (show decode mX7_who.2.1 159 = .ok (.iadd, 1) by decide +kernel),
  fun d σ S l0 l1 l2 l3 l4 l5 l6 l7 l8 l9 l10 l11 x => ex_iald (by decide +kernel),
  fun d σ S l1 l2 l3 l4 l5 l6 l7 l8 l9 l10 l11 k => ex_aload_n (show decode mX7_who.2.1 161 = .ok (.aload_n 0, 1) by decide +kernel) rfl,
  fun d σ S l0 l1 l2 l3 l4 l5 l6 l7 l8 l9 l10 l11 => ex_getr (idx := 7) (ci := 7) (ff := 0) (n := 26) (hh := 833) (by decide +kernel),
  fun d σ S l0 l1 l2 l3 l4 l5 l6 l7 l8 l9 l10 l11 => ex_bipush (show decode mX7_who.2.1 165 = .ok (.bipush 23, 2) by decide +kernel) (by decide +kernel),
  fun d σ S l0 l2 l3 l4 l5 l6 l7 l8 l9 l10 l11 x => ex_iload_n (show decode mX7_who.2.1 167 = .ok (.iload_n 1, 1) by decide +kernel) rfl,
  fun d σ S l0 l1 l2 l3 l4 l5 l6 l7 l8 l9 l10 l11 x y => ex_iadd (show decode mX7_who.2.1 168 = .ok (.iadd, 1) by decide +kernel),
  fun d σ S l0 l1 l2 l3 l4 l5 l6 l7 l8 l9 l10 l11 x => ex_iald (by decide +kernel),
  fun d σ S l0 l1 l2 l3 l4 l5 l6 l7 l8 l9 l10 x => ex_iload (show decode mX7_who.2.1 170 = .ok (.iload 11, 2) by decide +kernel) rfl,
  fun d σ l0 l1 l2 l3 l4 l5 l6 l7 l8 l9 l10 l11 x0 x1 x2 x3 => ex_is (hs := [1030, 1031, 1032, 101]) (show decode mX7_who.2.1 172 = .ok (.invokestatic 144, 3) by decide +kernel) lkS_7_144 ⟨rfl, Nat.le_of_ble_eq_true rfl, Nat.le_of_ble_eq_true rfl, fun q => nomatch q⟩ rfl rfl,
  fun d σ S l1 l2 l3 l4 l5 l6 l7 l8 l9 l10 l11 k => ex_aload_n (show decode mX7_who.2.1 175 = .ok (.aload_n 0, 1) by decide +kernel) rfl,
  fun d σ S l0 l1 l2 l3 l4 l5 l6 l7 l8 l9 l10 l11 => ex_getr (idx := 20) (ci := 7) (ff := 4) (n := 26) (hh := 837) (by decide +kernel),
  fun d σ S l0 l1 l2 l3 l4 l5 l6 l7 l8 l9 l11 x => ex_iload (show decode mX7_who.2.1 179 = .ok (.iload 10, 2) by decide +kernel) rfl,
  fun d σ S l0 l1 l2 l3 l4 l5 l6 l7 l8 l9 l10 l11 => ex_iconst (show decode mX7_who.2.1 181 = .ok (.iconst 1, 1) by decide +kernel) (by decide +kernel),
  fun d σ S l0 l1 l2 l3 l4 l5 l6 l7 l8 l9 l10 l11 x y => ex_iadd (show decode mX7_who.2.1 182 = .ok (.iadd, 1) by decide +kernel),
  fun d σ S l0 l1 l2 l3 l4 l5 l6 l7 l8 l9 l10 l11 x => ex_iald (by decide +kernel),
  fun d σ S l0 l1 l2 l3 l4 l5 l6 l7 l8 l9 l10 l11 x y => ex_cne (show decode mX7_who.2.1 184 = .ok (.if_icmp .ne 43, 3) by decide +kernel) (by decide),
  fun d σ S l0 l1 l2 l3 l4 l5 l6 l8 l9 l10 l11 x => ex_iload (show decode mX7_who.2.1 187 = .ok (.iload 7, 2) by decide +kernel) rfl,
  fun d σ S l1 l2 l3 l4 l5 l6 l7 l8 l9 l10 l11 k => ex_aload_n (show decode mX7_who.2.1 189 = .ok (.aload_n 0, 1) by decide +kernel) rfl,
  fun d σ S l0 l1 l2 l3 l4 l5 l6 l7 l8 l9 l10 l11 => ex_getr (idx := 7) (ci := 7) (ff := 0) (n := 26) (hh := 833) (by decide +kernel),
  fun d σ S l0 l1 l2 l3 l4 l5 l6 l7 l8 l9 l10 l11 => ex_bipush (show decode mX7_who.2.1 193 = .ok (.bipush 16, 2) by decide +kernel) (by decide +kernel),
  fun d σ S l0 l2 l3 l4 l5 l6 l7 l8 l9 l10 l11 x => ex_iload_n (show decode mX7_who.2.1 195 = .ok (.iload_n 1, 1) by decide +kernel) rfl,
  fun d σ S l0 l1 l2 l3 l4 l5 l6 l7 l8 l9 l10 l11 x y => ex_iadd (show decode mX7_who.2.1 196 = .ok (.iadd, 1) by decide +kernel),
  fun d σ S l0 l1 l2 l3 l4 l5 l6 l7 l8 l9 l10 l11 x => ex_iald (by decide +kernel),
  fun d σ S l0 l1 l2 l3 l4 l5 l6 l7 l8 l9 l10 x => ex_iload (show decode mX7_who.2.1 198 = .ok (.iload 11, 2) by decide +kernel) rfl,
  fun d σ l0 l1 l2 l3 l4 l5 l6 l7 l8 l9 l10 l11 x0 x1 x2 => ex_is (hs := [1052, 1053, 1054, 101]) (show decode mX7_who.2.1 200 = .ok (.invokestatic 148, 3) by decide +kernel) lkS_7_148 ⟨rfl, Nat.le_of_ble_eq_true rfl, Nat.le_of_ble_eq_true rfl, fun q => nomatch q⟩ rfl rfl,
  fun d σ S l0 l1 l2 l3 l4 l5 l6 l7 l8 l9 l10 l11 x => ex_zeq (show decode mX7_who.2.1 203 = .ok (.ifCond .eq 7, 3) by decide +kernel) (by decide),
  fun d σ S l0 l1 l2 l3 l4 l5 l6 l7 l8 l9 l10 l11 => ex_iconst (show decode mX7_who.2.1 206 = .ok (.iconst 1, 1) by decide +kernel) (by decide +kernel),
  fun d σ S l0 l1 l2 l3 l4 l5 l6 l7 l8 l9 l10 l11 => ex_goto (show decode mX7_who.2.1 207 = .ok (.goto 4, 3) by decide +kernel) (by decide),
  fun d σ S l0 l1 l2 l3 l4 l5 l6 l7 l8 l9 l10 l11 => ex_iconst (show decode mX7_who.2.1 210 = .ok (.iconst 0, 1) by decide +kernel) (by decide +kernel),
  fun d σ S l1 l2 l3 l4 l5 l6 l7 l8 l9 l10 l11 k => ex_aload_n (show decode mX7_who.2.1 211 = .ok (.aload_n 0, 1) by decide +kernel) rfl,
  fun d σ S l0 l1 l2 l3 l4 l5 l6 l7 l8 l9 l10 l11 => ex_getr (idx := 20) (ci := 7) (ff := 4) (n := 26) (hh := 837) (by decide +kernel),
  fun d σ S l0 l1 l2 l3 l4 l5 l6 l7 l8 l9 l11 x => ex_iload (show decode mX7_who.2.1 215 = .ok (.iload 10, 2) by decide +kernel) rfl,
  fun d σ S l0 l1 l2 l3 l4 l5 l6 l7 l8 l9 l10 l11 => ex_iconst (show decode mX7_who.2.1 217 = .ok (.iconst 2, 1) by decide +kernel) (by decide +kernel)⟩
theorem kX7_who_3 : (∀ (d : Nat) (σ : Sg) (S : List Value) (l0 l1 l2 l3 l4 l5 l6 l7 l8 l9 l10 l11 : Value) (x y : Int32), exec d mX7_who 218 [l0, l1, l2, l3, l4, l5, l6, l7, l8, l9, l10, l11] (.int y :: .int x :: S) σ = exec d mX7_who 219 [l0, l1, l2, l3, l4, l5, l6, l7, l8, l9, l10, l11] (.int (x + y) :: S) σ) ∧
  (∀ (d : Nat) (σ : Sg) (S : List Value) (l0 l1 l2 l3 l4 l5 l6 l7 l8 l9 l10 l11 : Value) (x : Int32), exec d mX7_who 219 [l0, l1, l2, l3, l4, l5, l6, l7, l8, l9, l10, l11] (.int x :: .ref 54 :: S) σ = if inb x 320 = true then exec d mX7_who 220 [l0, l1, l2, l3, l4, l5, l6, l7, l8, l9, l10, l11] (.int (σ 54 x.toNatClampNeg) :: S) σ else none) ∧
  (∀ (d : Nat) (σ : Sg) (S : List Value) (l0 l1 l2 l3 l4 l5 l6 l7 l8 l9 l10 l11 : Value) (x y : Int32), exec d mX7_who 220 [l0, l1, l2, l3, l4, l5, l6, l7, l8, l9, l10, l11] (.int y :: .int x :: S) σ = if x = y then exec d mX7_who 223 [l0, l1, l2, l3, l4, l5, l6, l7, l8, l9, l10, l11] S σ else exec d mX7_who 227 [l0, l1, l2, l3, l4, l5, l6, l7, l8, l9, l10, l11] S σ) ∧
  (∀ (d : Nat) (σ : Sg) (S : List Value) (l0 l1 l2 l3 l4 l5 l6 l7 l8 l9 l10 l11 : Value), exec d mX7_who 223 [l0, l1, l2, l3, l4, l5, l6, l7, l8, l9, l10, l11] S σ = exec d mX7_who 224 [l0, l1, l2, l3, l4, l5, l6, l7, l8, l9, l10, l11] (.int (nI 1) :: S) σ) ∧
  (∀ (d : Nat) (σ : Sg) (S : List Value) (l0 l1 l2 l3 l4 l5 l6 l7 l8 l9 l10 l11 : Value), exec d mX7_who 224 [l0, l1, l2, l3, l4, l5, l6, l7, l8, l9, l10, l11] S σ = exec d mX7_who 228 [l0, l1, l2, l3, l4, l5, l6, l7, l8, l9, l10, l11] S σ) ∧
  (∀ (d : Nat) (σ : Sg) (S : List Value) (l0 l1 l2 l3 l4 l5 l6 l7 l8 l9 l10 l11 : Value), exec d mX7_who 227 [l0, l1, l2, l3, l4, l5, l6, l7, l8, l9, l10, l11] S σ = exec d mX7_who 228 [l0, l1, l2, l3, l4, l5, l6, l7, l8, l9, l10, l11] (.int (nI 0) :: S) σ) ∧
  (∀ (d : Nat) (σ : Sg) (S : List Value) (l0 l1 l2 l3 l4 l5 l6 l8 l9 l10 l11 : Value) (x y : Int32), exec d mX7_who 228 [l0, l1, l2, l3, l4, l5, l6, .int y, l8, l9, l10, l11] (.int x :: S) σ = exec d mX7_who 230 [l0, l1, l2, l3, l4, l5, l6, .int y, .int x, l9, l10, l11] S σ) ∧
  (∀ (d : Nat) (σ : Sg) (S : List Value) (l0 l1 l2 l3 l4 l5 l6 l7 l10 l11 : Value) (x y : Int32), exec d mX7_who 230 [l0, l1, l2, l3, l4, l5, l6, l7, .int y, .int x, l10, l11] S σ = exec d mX7_who 233 [l0, l1, l2, l3, l4, l5, l6, l7, .int y, .int (x + nI 1), l10, l11] S σ) ∧
  (∀ (d : Nat) (σ : Sg) (S : List Value) (l0 l1 l2 l3 l4 l5 l6 l7 l8 l9 l10 l11 : Value), exec d mX7_who 233 [l0, l1, l2, l3, l4, l5, l6, l7, l8, l9, l10, l11] S σ = exec d mX7_who 116 [l0, l1, l2, l3, l4, l5, l6, l7, l8, l9, l10, l11] S σ) ∧
  (∀ (d : Nat) (σ : Sg) (S : List Value) (l0 l1 l2 l3 l4 l5 l7 l8 l9 l10 l11 : Value) (x : Int32), exec d mX7_who 236 [l0, l1, l2, l3, l4, l5, .int x, l7, l8, l9, l10, l11] S σ = exec d mX7_who 238 [l0, l1, l2, l3, l4, l5, .int x, l7, l8, l9, l10, l11] (.int x :: S) σ) ∧
  (∀ (d : Nat) (σ : Sg) (S : List Value) (l0 l1 l2 l3 l4 l5 l6 l7 l9 l10 l11 : Value) (x : Int32), exec d mX7_who 238 [l0, l1, l2, l3, l4, l5, l6, l7, .int x, l9, l10, l11] S σ = exec d mX7_who 240 [l0, l1, l2, l3, l4, l5, l6, l7, .int x, l9, l10, l11] (.int x :: S) σ) ∧
  (∀ (d : Nat) (σ : Sg) (S : List Value) (l0 l1 l2 l3 l4 l5 l6 l7 l8 l9 l10 l11 : Value) (x : Int32), exec d mX7_who 240 [l0, l1, l2, l3, l4, l5, l6, l7, l8, l9, l10, l11] (.int x :: S) σ = if x = nI 0 then exec d mX7_who 250 [l0, l1, l2, l3, l4, l5, l6, l7, l8, l9, l10, l11] S σ else exec d mX7_who 243 [l0, l1, l2, l3, l4, l5, l6, l7, l8, l9, l10, l11] S σ) ∧
  (∀ (d : Nat) (σ : Sg) (S : List Value) (l0 l1 l2 l3 l4 l5 l6 l7 l8 l9 l10 l11 : Value), exec d mX7_who 243 [l0, l1, l2, l3, l4, l5, l6, l7, l8, l9, l10, l11] S σ = exec d mX7_who 244 [l0, l1, l2, l3, l4, l5, l6, l7, l8, l9, l10, l11] (.int (nI 1) :: S) σ) ∧
  (∀ (d : Nat) (σ : Sg) (S : List Value) (l0 l1 l2 l3 l4 l5 l6 l8 l9 l10 l11 : Value) (x : Int32), exec d mX7_who 244 [l0, l1, l2, l3, l4, l5, l6, .int x, l8, l9, l10, l11] S σ = exec d mX7_who 246 [l0, l1, l2, l3, l4, l5, l6, .int x, l8, l9, l10, l11] (.int x :: S) σ) ∧
  (∀ (d : Nat) (σ : Sg) (S : List Value) (l0 l1 l2 l3 l4 l5 l6 l7 l8 l9 l10 l11 : Value) (x y : Int32), exec d mX7_who 246 [l0, l1, l2, l3, l4, l5, l6, l7, l8, l9, l10, l11] (.int y :: .int x :: S) σ = exec d mX7_who 247 [l0, l1, l2, l3, l4, l5, l6, l7, l8, l9, l10, l11] (.int (x <<< (y &&& 31)) :: S) σ) ∧
  (∀ (d : Nat) (σ : Sg) (S : List Value) (l0 l1 l2 l3 l4 l5 l6 l7 l8 l9 l10 l11 : Value), exec d mX7_who 247 [l0, l1, l2, l3, l4, l5, l6, l7, l8, l9, l10, l11] S σ = exec d mX7_who 251 [l0, l1, l2, l3, l4, l5, l6, l7, l8, l9, l10, l11] S σ) ∧
  (∀ (d : Nat) (σ : Sg) (S : List Value) (l0 l1 l2 l3 l4 l5 l6 l7 l8 l9 l10 l11 : Value), exec d mX7_who 250 [l0, l1, l2, l3, l4, l5, l6, l7, l8, l9, l10, l11] S σ = exec d mX7_who 251 [l0, l1, l2, l3, l4, l5, l6, l7, l8, l9, l10, l11] (.int (nI 0) :: S) σ) ∧
  (∀ (d : Nat) (σ : Sg) (S : List Value) (l0 l1 l2 l3 l4 l5 l6 l7 l8 l9 l10 l11 : Value) (x y : Int32), exec d mX7_who 251 [l0, l1, l2, l3, l4, l5, l6, l7, l8, l9, l10, l11] (.int y :: .int x :: S) σ = exec d mX7_who 252 [l0, l1, l2, l3, l4, l5, l6, l7, l8, l9, l10, l11] (.int (x ||| y) :: S) σ) ∧
  (∀ (d : Nat) (σ : Sg) (S : List Value) (l0 l1 l2 l3 l4 l6 l7 l8 l9 l10 l11 : Value) (x y : Int32), exec d mX7_who 252 [l0, l1, l2, l3, l4, .int y, l6, l7, l8, l9, l10, l11] (.int x :: S) σ = exec d mX7_who 254 [l0, l1, l2, l3, l4, .int y, .int x, l7, l8, l9, l10, l11] S σ) ∧
  (∀ (d : Nat) (σ : Sg) (S : List Value) (l0 l1 l2 l3 l4 l5 l8 l9 l10 l11 : Value) (x y : Int32), exec d mX7_who 254 [l0, l1, l2, l3, l4, l5, .int y, .int x, l8, l9, l10, l11] S σ = exec d mX7_who 257 [l0, l1, l2, l3, l4, l5, .int y, .int (x + nI 1), l8, l9, l10, l11] S σ) ∧
  (∀ (d : Nat) (σ : Sg) (S : List Value) (l0 l1 l2 l3 l4 l5 l6 l7 l8 l9 l10 l11 : Value), exec d mX7_who 257 [l0, l1, l2, l3, l4, l5, l6, l7, l8, l9, l10, l11] S σ = exec d mX7_who 103 [l0, l1, l2, l3, l4, l5, l6, l7, l8, l9, l10, l11] S σ) ∧
  (∀ (d : Nat) (σ : Sg) (S : List Value) (l1 l2 l3 l4 l5 l6 l7 l8 l9 l10 l11 : Value) (k : Nat), exec d mX7_who 260 [.ref k, l1, l2, l3, l4, l5, l6, l7, l8, l9, l10, l11] S σ = exec d mX7_who 261 [.ref k, l1, l2, l3, l4, l5, l6, l7, l8, l9, l10, l11] (.ref k :: S) σ) ∧
  (∀ (d : Nat) (σ : Sg) (S : List Value) (l0 l1 l2 l3 l4 l5 l7 l8 l9 l10 l11 : Value) (x : Int32), exec d mX7_who 261 [l0, l1, l2, l3, l4, l5, .int x, l7, l8, l9, l10, l11] S σ = exec d mX7_who 263 [l0, l1, l2, l3, l4, l5, .int x, l7, l8, l9, l10, l11] (.int x :: S) σ) ∧
  (∀ (d : Nat) (σ : Sg) (l0 l1 l2 l3 l4 l5 l6 l7 l8 l9 l10 l11 : Value) (x0 : Int32), exec d mX7_who 263 [l0, l1, l2, l3, l4, l5, l6, l7, l8, l9, l10, l11] [.int x0, .ref 50] σ = kb (cal d mX7_good [.ref 50, .int x0] σ) (fun rs σ2 => exec d mX7_who 266 [l0, l1, l2, l3, l4, l5, l6, l7, l8, l9, l10, l11] (rs ++ []) σ2)) ∧
  (∀ (d : Nat) (σ : Sg) (l0 l1 l2 l3 l4 l5 l6 l7 l8 l9 l10 l11 : Value) (x : Int32), exec d mX7_who 266 [l0, l1, l2, l3, l4, l5, l6, l7, l8, l9, l10, l11] [.int x] σ = some (some (.int x), σ)) :=
  ⟨fun d σ S l0 l1 l2 l3 l4 l5 l6 l7 l8 l9 l10 l11 x y => ex_iadd (show decode mX7_who.2.1 218 = .ok (.iadd, 1) by decide +kernel),
  fun d σ S l0 l1 l2 l3 l4 l5 l6 l7 l8 l9 l10 l11 x => ex_iald (by decide +kernel),
  fun d σ S l0 l1 l2 l3 l4 l5 l6 l7 l8 l9 l10 l11 x y => ex_cne (show decode mX7_who.2.1 220 = .ok (.if_icmp .ne 7, 3) by decide +kernel) (by decide),
  fun d σ S l0 l1 l2 l3 l4 l5 l6 l7 l8 l9 l10 l11 => ex_iconst (show decode mX7_who.2.1 223 = .ok (.iconst 1, 1) by decide +kernel) (by decide +kernel),
  fun d σ S l0 l1 l2 l3 l4 l5 l6 l7 l8 l9 l10 l11 => ex_goto (show decode mX7_who.2.1 224 = .ok (.goto 4, 3) by decide +kernel) (by decide),
  fun d σ S l0 l1 l2 l3 l4 l5 l6 l7 l8 l9 l10 l11 => ex_iconst (show decode mX7_who.2.1 227 = .ok (.iconst 0, 1) by decide +kernel) (by decide +kernel),
  fun d σ S l0 l1 l2 l3 l4 l5 l6 l8 l9 l10 l11 x y => ex_istore (show decode mX7_who.2.1 228 = .ok (.istore 8, 2) by decide +kernel) (Nat.le_of_ble_eq_true rfl) rfl,
  fun d σ S l0 l1 l2 l3 l4 l5 l6 l7 l10 l11 x y => ex_iinc (show decode mX7_who.2.1 230 = .ok (.iinc 9 1, 3) by decide +kernel) rfl (by decide +kernel) (Nat.le_of_ble_eq_true rfl) rfl,
  fun d σ S l0 l1 l2 l3 l4 l5 l6 l7 l8 l9 l10 l11 => ex_goto (show decode mX7_who.2.1 233 = .ok (.goto (-117), 3) by decide +kernel) (by decide),
  fun d σ S l0 l1 l2 l3 l4 l5 l7 l8 l9 l10 l11 x => ex_iload (show decode mX7_who.2.1 236 = .ok (.iload 6, 2) by decide +kernel) rfl,
  fun d σ S l0 l1 l2 l3 l4 l5 l6 l7 l9 l10 l11 x => ex_iload (show decode mX7_who.2.1 238 = .ok (.iload 8, 2) by decide +kernel) rfl,
  fun d σ S l0 l1 l2 l3 l4 l5 l6 l7 l8 l9 l10 l11 x => ex_zeq (show decode mX7_who.2.1 240 = .ok (.ifCond .eq 10, 3) by decide +kernel) (by decide),
  fun d σ S l0 l1 l2 l3 l4 l5 l6 l7 l8 l9 l10 l11 => ex_iconst (show decode mX7_who.2.1 243 = .ok (.iconst 1, 1) by decide +kernel) (by decide +kernel),
  fun d σ S l0 l1 l2 l3 l4 l5 l6 l8 l9 l10 l11 x => ex_iload (show decode mX7_who.2.1 244 = .ok (.iload 7, 2) by decide +kernel) rfl,
  fun d σ S l0 l1 l2 l3 l4 l5 l6 l7 l8 l9 l10 l11 x y => ex_ishl (show decode mX7_who.2.1 246 = .ok (.ishl, 1) by decide +kernel),
  fun d σ S l0 l1 l2 l3 l4 l5 l6 l7 l8 l9 l10 l11 => ex_goto (show decode mX7_who.2.1 247 = .ok (.goto 4, 3) by decide +kernel) (by decide),
  fun d σ S l0 l1 l2 l3 l4 l5 l6 l7 l8 l9 l10 l11 => ex_iconst (show decode mX7_who.2.1 250 = .ok (.iconst 0, 1) by decide +kernel) (by decide +kernel),
  fun d σ S l0 l1 l2 l3 l4 l5 l6 l7 l8 l9 l10 l11 x y => ex_ior (show decode mX7_who.2.1 251 = .ok (.ior, 1) by decide +kernel),
  fun d σ S l0 l1 l2 l3 l4 l6 l7 l8 l9 l10 l11 x y => ex_istore (show decode mX7_who.2.1 252 = .ok (.istore 6, 2) by decide +kernel) (Nat.le_of_ble_eq_true rfl) rfl,
  fun d σ S l0 l1 l2 l3 l4 l5 l8 l9 l10 l11 x y => ex_iinc (show decode mX7_who.2.1 254 = .ok (.iinc 7 1, 3) by decide +kernel) rfl (by decide +kernel) (Nat.le_of_ble_eq_true rfl) rfl,
  fun d σ S l0 l1 l2 l3 l4 l5 l6 l7 l8 l9 l10 l11 => ex_goto (show decode mX7_who.2.1 257 = .ok (.goto (-154), 3) by decide +kernel) (by decide),
  fun d σ S l1 l2 l3 l4 l5 l6 l7 l8 l9 l10 l11 k => ex_aload_n (show decode mX7_who.2.1 260 = .ok (.aload_n 0, 1) by decide +kernel) rfl,
  fun d σ S l0 l1 l2 l3 l4 l5 l7 l8 l9 l10 l11 x => ex_iload (show decode mX7_who.2.1 261 = .ok (.iload 6, 2) by decide +kernel) rfl,
  fun d σ l0 l1 l2 l3 l4 l5 l6 l7 l8 l9 l10 l11 x0 => ex_iv (hs := [930, 932, 55, 933, 101]) (show decode mX7_who.2.1 263 = .ok (.invokevirtual 78, 3) by decide +kernel) lkV_7_78 ⟨rfl, Nat.le_of_ble_eq_true rfl, Nat.le_of_ble_eq_true rfl, fun _ => rfl⟩ rfl rfl,
  fun d σ l0 l1 l2 l3 l4 l5 l6 l7 l8 l9 l10 l11 x => ex_iret (show decode mX7_who.2.1 266 = .ok (.ireturn, 1) by decide +kernel) rfl⟩
theorem hX7_who_54 : ∀ (d : Nat) (σ : Sg) (S : List Value) (l0 l1 l2 l3 l4 l5 l7 l8 l9 l10 l11 : Value) (x : Int32), exec d mX7_who 54 [l0, l1, l2, l3, l4, l5, .int x, l7, l8, l9, l10, l11] S σ = exec d mX7_who 56 [l0, l1, l2, l3, l4, l5, .int x, l7, l8, l9, l10, l11] (.int x :: S) σ := fun d σ S l0 l1 l2 l3 l4 l5 l7 l8 l9 l10 l11 x => ex_iload (show decode mX7_who.2.1 54 = .ok (.iload 6, 2) by decide +kernel) rfl
theorem hX7_who_103 : ∀ (d : Nat) (σ : Sg) (S : List Value) (l0 l1 l2 l3 l4 l5 l6 l8 l9 l10 l11 : Value) (x : Int32), exec d mX7_who 103 [l0, l1, l2, l3, l4, l5, l6, .int x, l8, l9, l10, l11] S σ = exec d mX7_who 105 [l0, l1, l2, l3, l4, l5, l6, .int x, l8, l9, l10, l11] (.int x :: S) σ := fun d σ S l0 l1 l2 l3 l4 l5 l6 l8 l9 l10 l11 x => ex_iload (show decode mX7_who.2.1 103 = .ok (.iload 7, 2) by decide +kernel) rfl
theorem hX7_who_116 : ∀ (d : Nat) (σ : Sg) (S : List Value) (l0 l1 l2 l3 l4 l5 l6 l7 l8 l10 l11 : Value) (x : Int32), exec d mX7_who 116 [l0, l1, l2, l3, l4, l5, l6, l7, l8, .int x, l10, l11] S σ = exec d mX7_who 118 [l0, l1, l2, l3, l4, l5, l6, l7, l8, .int x, l10, l11] (.int x :: S) σ := fun d σ S l0 l1 l2 l3 l4 l5 l6 l7 l8 l10 l11 x => ex_iload (show decode mX7_who.2.1 116 = .ok (.iload 9, 2) by decide +kernel) rfl
theorem aX7_who_50 : ∀ (d : Nat) (a1 : Int32) (a2 : Int32) (a3 : Int32) (a4 : Int32) (σ : Sg), cal (d + 1) mX7_who [.ref 50, .int a1, .int a2, .int a3, .int a4] σ = exec d mX7_who 0 [.ref 50, .int a1, .int a2, .int a3, .int a4, uu, uu, uu, uu, uu, uu, uu] [] σ := fun _ _ _ _ _ _ => rfl
theorem kX7_err_0 : (∀ (d : Nat) (σ : Sg) (S : List Value) (l1 l2 l3 l4 l5 l6 l7 l8 l9 l10 l11 l12 : Value) (k : Nat), exec d mX7_err 0 [.ref k, l1, l2, l3, l4, l5, l6, l7, l8, l9, l10, l11, l12] S σ = exec d mX7_err 1 [.ref k, l1, l2, l3, l4, l5, l6, l7, l8, l9, l10, l11, l12] (.ref k :: S) σ) ∧
  (∀ (d : Nat) (σ : Sg) (l0 l1 l2 l3 l4 l5 l6 l7 l8 l9 l10 l11 l12 : Value), exec d mX7_err 1 [l0, l1, l2, l3, l4, l5, l6, l7, l8, l9, l10, l11, l12] [.ref 50] σ = kb (cal d mX7_isTrial [.ref 50] σ) (fun rs σ2 => exec d mX7_err 4 [l0, l1, l2, l3, l4, l5, l6, l7, l8, l9, l10, l11, l12] (rs ++ []) σ2)) ∧
  (∀ (d : Nat) (σ : Sg) (S : List Value) (l0 l1 l2 l3 l4 l5 l6 l7 l8 l9 l10 l11 l12 : Value) (x : Int32), exec d mX7_err 4 [l0, l1, l2, l3, l4, l5, l6, l7, l8, l9, l10, l11, l12] (.int x :: S) σ = if x = nI 0 then exec d mX7_err 7 [l0, l1, l2, l3, l4, l5, l6, l7, l8, l9, l10, l11, l12] S σ else exec d mX7_err 11 [l0, l1, l2, l3, l4, l5, l6, l7, l8, l9, l10, l11, l12] S σ) ∧
  (∀ (d : Nat) (σ : Sg) (S : List Value) (l0 l1 l2 l3 l4 l5 l6 l7 l8 l9 l10 l11 l12 : Value), exec d mX7_err 7 [l0, l1, l2, l3, l4, l5, l6, l7, l8, l9, l10, l11, l12] S σ = exec d mX7_err 10 [l0, l1, l2, l3, l4, l5, l6, l7, l8, l9, l10, l11, l12] (.long ((-1000002)) :: S) σ) ∧
  (∀ (d : Nat) (σ : Sg) (l0 l1 l2 l3 l4 l5 l6 l7 l8 l9 l10 l11 l12 : Value) (x : Int64), exec d mX7_err 10 [l0, l1, l2, l3, l4, l5, l6, l7, l8, l9, l10, l11, l12] [.long x] σ = some (some (.long x), σ)) ∧
  (∀ (d : Nat) (σ : Sg) (S : List Value) (l0 l2 l3 l4 l5 l6 l7 l8 l9 l10 l11 l12 : Value) (x : Int32), exec d mX7_err 11 [l0, .int x, l2, l3, l4, l5, l6, l7, l8, l9, l10, l11, l12] S σ = exec d mX7_err 12 [l0, .int x, l2, l3, l4, l5, l6, l7, l8, l9, l10, l11, l12] (.int x :: S) σ) ∧
  (∀ (d : Nat) (σ : Sg) (S : List Value) (l0 l1 l2 l3 l4 l5 l6 l7 l8 l9 l10 l11 l12 : Value) (x : Int32), exec d mX7_err 12 [l0, l1, l2, l3, l4, l5, l6, l7, l8, l9, l10, l11, l12] (.int x :: S) σ = exec d mX7_err 13 [l0, l1, l2, l3, l4, l5, l6, l7, l8, l9, l10, l11, l12] (.long x.toInt64 :: S) σ) ∧
  (∀ (d : Nat) (σ : Sg) (S : List Value) (l0 l1 l2 l3 l4 l5 l6 l7 l8 l9 l10 l11 l12 : Value), exec d mX7_err 13 [l0, l1, l2, l3, l4, l5, l6, l7, l8, l9, l10, l11, l12] S σ = exec d mX7_err 14 [l0, l1, l2, l3, l4, l5, l6, l7, l8, l9, l10, l11, l12] (.long (lN 0) :: S) σ) ∧
  (∀ (d : Nat) (σ : Sg) (S : List Value) (l0 l1 l2 l3 l4 l5 l6 l7 l8 l9 l10 l11 l12 : Value), exec d mX7_err 14 [l0, l1, l2, l3, l4, l5, l6, l7, l8, l9, l10, l11, l12] S σ = exec d mX7_err 17 [l0, l1, l2, l3, l4, l5, l6, l7, l8, l9, l10, l11, l12] (.long (lN 10) :: S) σ) ∧
  (∀ (d : Nat) (σ : Sg) (l0 l1 l2 l3 l4 l5 l6 l7 l8 l9 l10 l11 l12 : Value) (x0 x1 x2 : Int64), exec d mX7_err 17 [l0, l1, l2, l3, l4, l5, l6, l7, l8, l9, l10, l11, l12] [.long x0, .long x1, .long x2] σ = kb (cal d mX7_in [.long x2, .long x1, .long x0] σ) (fun rs σ2 => exec d mX7_err 20 [l0, l1, l2, l3, l4, l5, l6, l7, l8, l9, l10, l11, l12] (rs ++ []) σ2)) ∧
  (∀ (d : Nat) (σ : Sg) (S : List Value) (l0 l1 l2 l3 l4 l5 l6 l7 l8 l9 l10 l11 l12 : Value) (x : Int32), exec d mX7_err 20 [l0, l1, l2, l3, l4, l5, l6, l7, l8, l9, l10, l11, l12] (.int x :: S) σ = if x = nI 0 then exec d mX7_err 33 [l0, l1, l2, l3, l4, l5, l6, l7, l8, l9, l10, l11, l12] S σ else exec d mX7_err 23 [l0, l1, l2, l3, l4, l5, l6, l7, l8, l9, l10, l11, l12] S σ) ∧
  (∀ (d : Nat) (σ : Sg) (S : List Value) (l0 l1 l3 l4 l5 l6 l7 l8 l9 l10 l11 l12 : Value) (x : Int32), exec d mX7_err 23 [l0, l1, .int x, l3, l4, l5, l6, l7, l8, l9, l10, l11, l12] S σ = exec d mX7_err 24 [l0, l1, .int x, l3, l4, l5, l6, l7, l8, l9, l10, l11, l12] (.int x :: S) σ) ∧
  (∀ (d : Nat) (σ : Sg) (S : List Value) (l0 l1 l2 l3 l4 l5 l6 l7 l8 l9 l10 l11 l12 : Value) (x : Int32), exec d mX7_err 24 [l0, l1, l2, l3, l4, l5, l6, l7, l8, l9, l10, l11, l12] (.int x :: S) σ = exec d mX7_err 25 [l0, l1, l2, l3, l4, l5, l6, l7, l8, l9, l10, l11, l12] (.long x.toInt64 :: S) σ) ∧
  (∀ (d : Nat) (σ : Sg) (S : List Value) (l0 l1 l2 l3 l4 l5 l6 l7 l8 l9 l10 l11 l12 : Value), exec d mX7_err 25 [l0, l1, l2, l3, l4, l5, l6, l7, l8, l9, l10, l11, l12] S σ = exec d mX7_err 26 [l0, l1, l2, l3, l4, l5, l6, l7, l8, l9, l10, l11, l12] (.long (lN 0) :: S) σ) ∧
  (∀ (d : Nat) (σ : Sg) (S : List Value) (l0 l1 l2 l3 l4 l5 l6 l7 l8 l9 l10 l11 l12 : Value), exec d mX7_err 26 [l0, l1, l2, l3, l4, l5, l6, l7, l8, l9, l10, l11, l12] S σ = exec d mX7_err 27 [l0, l1, l2, l3, l4, l5, l6, l7, l8, l9, l10, l11, l12] (.long (lN 1) :: S) σ) ∧
  (∀ (d : Nat) (σ : Sg) (l0 l1 l2 l3 l4 l5 l6 l7 l8 l9 l10 l11 l12 : Value) (x0 x1 x2 : Int64), exec d mX7_err 27 [l0, l1, l2, l3, l4, l5, l6, l7, l8, l9, l10, l11, l12] [.long x0, .long x1, .long x2] σ = kb (cal d mX7_in [.long x2, .long x1, .long x0] σ) (fun rs σ2 => exec d mX7_err 30 [l0, l1, l2, l3, l4, l5, l6, l7, l8, l9, l10, l11, l12] (rs ++ []) σ2)) ∧
  (∀ (d : Nat) (σ : Sg) (S : List Value) (l0 l1 l2 l3 l4 l5 l6 l7 l8 l9 l10 l11 l12 : Value) (x : Int32), exec d mX7_err 30 [l0, l1, l2, l3, l4, l5, l6, l7, l8, l9, l10, l11, l12] (.int x :: S) σ = if x = nI 0 then exec d mX7_err 33 [l0, l1, l2, l3, l4, l5, l6, l7, l8, l9, l10, l11, l12] S σ else exec d mX7_err 37 [l0, l1, l2, l3, l4, l5, l6, l7, l8, l9, l10, l11, l12] S σ) ∧
  (∀ (d : Nat) (σ : Sg) (S : List Value) (l0 l1 l2 l3 l4 l5 l6 l7 l8 l9 l10 l11 l12 : Value), exec d mX7_err 33 [l0, l1, l2, l3, l4, l5, l6, l7, l8, l9, l10, l11, l12] S σ = exec d mX7_err 36 [l0, l1, l2, l3, l4, l5, l6, l7, l8, l9, l10, l11, l12] (.long ((-1000001)) :: S) σ) ∧
  (∀ (d : Nat) (σ : Sg) (l0 l1 l2 l3 l4 l5 l6 l7 l8 l9 l10 l11 l12 : Value) (x : Int64), exec d mX7_err 36 [l0, l1, l2, l3, l4, l5, l6, l7, l8, l9, l10, l11, l12] [.long x] σ = some (some (.long x), σ)) ∧
  (∀ (d : Nat) (σ : Sg) (S : List Value) (l0 l1 l2 l3 l4 l5 l6 l7 l8 l9 l10 l11 l12 : Value), exec d mX7_err 37 [l0, l1, l2, l3, l4, l5, l6, l7, l8, l9, l10, l11, l12] S σ = exec d mX7_err 38 [l0, l1, l2, l3, l4, l5, l6, l7, l8, l9, l10, l11, l12] (.long (lN 0) :: S) σ) ∧
  (∀ (d : Nat) (σ : Sg) (S : List Value) (l0 l1 l3 l4 l5 l6 l7 l8 l9 l10 l11 l12 : Value) (y : Int32) (x : Int64), exec d mX7_err 38 [l0, l1, .int y, l3, l4, l5, l6, l7, l8, l9, l10, l11, l12] (.long x :: S) σ = exec d mX7_err 39 [l0, l1, .int y, .long x, uu, l5, l6, l7, l8, l9, l10, l11, l12] S σ) ∧
  (∀ (d : Nat) (σ : Sg) (S : List Value) (l0 l1 l2 l3 l4 l5 l6 l7 l8 l9 l10 l11 l12 : Value), exec d mX7_err 39 [l0, l1, l2, l3, l4, l5, l6, l7, l8, l9, l10, l11, l12] S σ = exec d mX7_err 40 [l0, l1, l2, l3, l4, l5, l6, l7, l8, l9, l10, l11, l12] (.long (lN 1) :: S) σ) ∧
  (∀ (d : Nat) (σ : Sg) (S : List Value) (l0 l1 l2 l3 l5 l6 l7 l8 l9 l10 l11 l12 : Value) (x : Int64), exec d mX7_err 40 [l0, l1, l2, l3, uu, l5, l6, l7, l8, l9, l10, l11, l12] (.long x :: S) σ = exec d mX7_err 42 [l0, l1, l2, l3, uu, .long x, uu, l7, l8, l9, l10, l11, l12] S σ) ∧
  (∀ (d : Nat) (σ : Sg) (S : List Value) (l0 l1 l2 l3 l4 l5 l6 l7 l8 l9 l10 l11 l12 : Value), exec d mX7_err 42 [l0, l1, l2, l3, l4, l5, l6, l7, l8, l9, l10, l11, l12] S σ = exec d mX7_err 43 [l0, l1, l2, l3, l4, l5, l6, l7, l8, l9, l10, l11, l12] (.int (nI 0) :: S) σ) ∧
  (∀ (d : Nat) (σ : Sg) (S : List Value) (l0 l1 l2 l3 l4 l5 l7 l8 l9 l10 l11 l12 : Value) (x : Int32), exec d mX7_err 43 [l0, l1, l2, l3, l4, l5, uu, l7, l8, l9, l10, l11, l12] (.int x :: S) σ = exec d mX7_err 45 [l0, l1, l2, l3, l4, l5, uu, .int x, l8, l9, l10, l11, l12] S σ) ∧
  (∀ (d : Nat) (σ : Sg) (S : List Value) (l1 l2 l3 l4 l5 l6 l7 l8 l9 l10 l11 l12 : Value) (k : Nat), exec d mX7_err 47 [.ref k, l1, l2, l3, l4, l5, l6, l7, l8, l9, l10, l11, l12] S σ = exec d mX7_err 48 [.ref k, l1, l2, l3, l4, l5, l6, l7, l8, l9, l10, l11, l12] (.ref k :: S) σ) ∧
  (∀ (d : Nat) (σ : Sg) (S : List Value) (l0 l1 l2 l3 l4 l5 l6 l7 l8 l9 l10 l11 l12 : Value), exec d mX7_err 48 [l0, l1, l2, l3, l4, l5, l6, l7, l8, l9, l10, l11, l12] (.ref 50 :: S) σ = exec d mX7_err 51 [l0, l1, l2, l3, l4, l5, l6, l7, l8, l9, l10, l11, l12] (.ref 51 :: S) σ) ∧
  (∀ (d : Nat) (σ : Sg) (S : List Value) (l0 l1 l2 l3 l4 l5 l6 l7 l8 l9 l10 l11 l12 : Value), exec d mX7_err 51 [l0, l1, l2, l3, l4, l5, l6, l7, l8, l9, l10, l11, l12] S σ = exec d mX7_err 53 [l0, l1, l2, l3, l4, l5, l6, l7, l8, l9, l10, l11, l12] (.int (nI 8) :: S) σ) ∧
  (∀ (d : Nat) (σ : Sg) (S : List Value) (l0 l1 l2 l3 l4 l5 l6 l7 l8 l9 l10 l11 l12 : Value) (x : Int32), exec d mX7_err 53 [l0, l1, l2, l3, l4, l5, l6, l7, l8, l9, l10, l11, l12] (.int x :: .ref 51 :: S) σ = if inb x 208 = true then exec d mX7_err 54 [l0, l1, l2, l3, l4, l5, l6, l7, l8, l9, l10, l11, l12] (.int (σ 51 x.toNatClampNeg) :: S) σ else none) ∧
  (∀ (d : Nat) (σ : Sg) (S : List Value) (l0 l1 l2 l3 l4 l5 l6 l7 l8 l9 l10 l11 l12 : Value) (x y : Int32), exec d mX7_err 54 [l0, l1, l2, l3, l4, l5, l6, l7, l8, l9, l10, l11, l12] (.int y :: .int x :: S) σ = if y ≤ x then exec d mX7_err 71 [l0, l1, l2, l3, l4, l5, l6, l7, l8, l9, l10, l11, l12] S σ else exec d mX7_err 57 [l0, l1, l2, l3, l4, l5, l6, l7, l8, l9, l10, l11, l12] S σ) ∧
  (∀ (d : Nat) (σ : Sg) (S : List Value) (l0 l1 l2 l3 l4 l6 l7 l8 l9 l10 l11 l12 : Value) (x : Int64), exec d mX7_err 57 [l0, l1, l2, l3, l4, .long x, l6, l7, l8, l9, l10, l11, l12] S σ = exec d mX7_err 59 [l0, l1, l2, l3, l4, .long x, l6, l7, l8, l9, l10, l11, l12] (.long x :: S) σ) ∧
  (∀ (d : Nat) (σ : Sg) (S : List Value) (l0 l1 l2 l3 l4 l5 l6 l7 l8 l9 l10 l11 l12 : Value), exec d mX7_err 59 [l0, l1, l2, l3, l4, l5, l6, l7, l8, l9, l10, l11, l12] S σ = exec d mX7_err 62 [l0, l1, l2, l3, l4, l5, l6, l7, l8, l9, l10, l11, l12] (.long (lN 10) :: S) σ) ∧
  (∀ (d : Nat) (σ : Sg) (S : List Value) (l0 l1 l2 l3 l4 l5 l6 l7 l8 l9 l10 l11 l12 : Value) (x y : Int64), exec d mX7_err 62 [l0, l1, l2, l3, l4, l5, l6, l7, l8, l9, l10, l11, l12] (.long y :: .long x :: S) σ = exec d mX7_err 63 [l0, l1, l2, l3, l4, l5, l6, l7, l8, l9, l10, l11, l12] (.long (x * y) :: S) σ) ∧
  (∀ (d : Nat) (σ : Sg) (S : List Value) (l0 l1 l2 l3 l5 l6 l7 l8 l9 l10 l11 l12 : Value) (x : Int64), exec d mX7_err 63 [l0, l1, l2, l3, uu, l5, l6, l7, l8, l9, l10, l11, l12] (.long x :: S) σ = exec d mX7_err 65 [l0, l1, l2, l3, uu, .long x, uu, l7, l8, l9, l10, l11, l12] S σ) ∧
  (∀ (d : Nat) (σ : Sg) (S : List Value) (l0 l1 l2 l3 l4 l5 l8 l9 l10 l11 l12 : Value) (x : Int32), exec d mX7_err 65 [l0, l1, l2, l3, l4, l5, uu, .int x, l8, l9, l10, l11, l12] S σ = exec d mX7_err 68 [l0, l1, l2, l3, l4, l5, uu, .int (x + nI 1), l8, l9, l10, l11, l12] S σ) ∧
  (∀ (d : Nat) (σ : Sg) (S : List Value) (l0 l1 l2 l3 l4 l5 l6 l7 l8 l9 l10 l11 l12 : Value), exec d mX7_err 68 [l0, l1, l2, l3, l4, l5, l6, l7, l8, l9, l10, l11, l12] S σ = exec d mX7_err 45 [l0, l1, l2, l3, l4, l5, l6, l7, l8, l9, l10, l11, l12] S σ) ∧
  (∀ (d : Nat) (σ : Sg) (S : List Value) (l0 l1 l2 l3 l4 l5 l6 l7 l8 l9 l10 l11 l12 : Value), exec d mX7_err 71 [l0, l1, l2, l3, l4, l5, l6, l7, l8, l9, l10, l11, l12] S σ = exec d mX7_err 72 [l0, l1, l2, l3, l4, l5, l6, l7, l8, l9, l10, l11, l12] (.int (nI 0) :: S) σ) ∧
  (∀ (d : Nat) (σ : Sg) (S : List Value) (l0 l1 l2 l3 l4 l5 l7 l8 l9 l10 l11 l12 : Value) (x : Int32), exec d mX7_err 72 [l0, l1, l2, l3, l4, l5, uu, l7, l8, l9, l10, l11, l12] (.int x :: S) σ = exec d mX7_err 74 [l0, l1, l2, l3, l4, l5, uu, .int x, l8, l9, l10, l11, l12] S σ) ∧
  (∀ (d : Nat) (σ : Sg) (S : List Value) (l0 l1 l2 l3 l4 l5 l6 l7 l8 l9 l10 l11 l12 : Value), exec d mX7_err 76 [l0, l1, l2, l3, l4, l5, l6, l7, l8, l9, l10, l11, l12] S σ = exec d mX7_err 77 [l0, l1, l2, l3, l4, l5, l6, l7, l8, l9, l10, l11, l12] (.int (nI 1) :: S) σ) ∧
  (∀ (d : Nat) (σ : Sg) (S : List Value) (l1 l2 l3 l4 l5 l6 l7 l8 l9 l10 l11 l12 : Value) (k : Nat), exec d mX7_err 77 [.ref k, l1, l2, l3, l4, l5, l6, l7, l8, l9, l10, l11, l12] S σ = exec d mX7_err 78 [.ref k, l1, l2, l3, l4, l5, l6, l7, l8, l9, l10, l11, l12] (.ref k :: S) σ) :=
  ⟨fun d σ S l1 l2 l3 l4 l5 l6 l7 l8 l9 l10 l11 l12 k => ex_aload_n (show decode mX7_err.2.1 0 = .ok (.aload_n 0, 1) by decide +kernel) rfl,
  fun d σ l0 l1 l2 l3 l4 l5 l6 l7 l8 l9 l10 l11 l12 => ex_iv (hs := [1074, 1076, 74, 1077, 101]) (show decode mX7_err.2.1 1 = .ok (.invokevirtual 188, 3) by decide +kernel) lkV_7_188 ⟨rfl, Nat.le_of_ble_eq_true rfl, Nat.le_of_ble_eq_true rfl, fun _ => rfl⟩ rfl rfl,
  fun d σ S l0 l1 l2 l3 l4 l5 l6 l7 l8 l9 l10 l11 l12 x => ex_zne (show decode mX7_err.2.1 4 = .ok (.ifCond .ne 7, 3) by decide +kernel) (by decide),
  fun d σ S l0 l1 l2 l3 l4 l5 l6 l7 l8 l9 l10 l11 l12 => ex_ldc2 (hh := 1182) (show decode mX7_err.2.1 7 = .ok (.ldc2_w 246, 3) by decide +kernel) (by decide +kernel),
  fun d σ l0 l1 l2 l3 l4 l5 l6 l7 l8 l9 l10 l11 l12 x => ex_lret (show decode mX7_err.2.1 10 = .ok (.lreturn, 1) by decide +kernel) rfl,
  fun d σ S l0 l2 l3 l4 l5 l6 l7 l8 l9 l10 l11 l12 x => ex_iload_n (show decode mX7_err.2.1 11 = .ok (.iload_n 1, 1) by decide +kernel) rfl,
  fun d σ S l0 l1 l2 l3 l4 l5 l6 l7 l8 l9 l10 l11 l12 x => ex_i2l (show decode mX7_err.2.1 12 = .ok (.i2l, 1) by decide +kernel),
  fun d σ S l0 l1 l2 l3 l4 l5 l6 l7 l8 l9 l10 l11 l12 => ex_lconst (show decode mX7_err.2.1 13 = .ok (.lconst 0, 1) by decide +kernel) (by decide +kernel),
  fun d σ S l0 l1 l2 l3 l4 l5 l6 l7 l8 l9 l10 l11 l12 => ex_ldc2 (hh := 1183) (show decode mX7_err.2.1 14 = .ok (.ldc2_w 248, 3) by decide +kernel) (by decide +kernel),
  fun d σ l0 l1 l2 l3 l4 l5 l6 l7 l8 l9 l10 l11 l12 x0 x1 x2 => ex_is (hs := [920, 921, 922, 101]) (show decode mX7_err.2.1 17 = .ok (.invokestatic 63, 3) by decide +kernel) lkS_7_63 ⟨rfl, Nat.le_of_ble_eq_true rfl, Nat.le_of_ble_eq_true rfl, fun q => nomatch q⟩ rfl rfl,
  fun d σ S l0 l1 l2 l3 l4 l5 l6 l7 l8 l9 l10 l11 l12 x => ex_zeq (show decode mX7_err.2.1 20 = .ok (.ifCond .eq 13, 3) by decide +kernel) (by decide),
  fun d σ S l0 l1 l3 l4 l5 l6 l7 l8 l9 l10 l11 l12 x => ex_iload_n (show decode mX7_err.2.1 23 = .ok (.iload_n 2, 1) by decide +kernel) rfl,
  fun d σ S l0 l1 l2 l3 l4 l5 l6 l7 l8 l9 l10 l11 l12 x => ex_i2l (show decode mX7_err.2.1 24 = .ok (.i2l, 1) by decide +kernel),
  fun d σ S l0 l1 l2 l3 l4 l5 l6 l7 l8 l9 l10 l11 l12 => ex_lconst (show decode mX7_err.2.1 25 = .ok (.lconst 0, 1) by decide +kernel) (by decide +kernel),
  fun d σ S l0 l1 l2 l3 l4 l5 l6 l7 l8 l9 l10 l11 l12 => ex_lconst (show decode mX7_err.2.1 26 = .ok (.lconst 1, 1) by decide +kernel) (by decide +kernel),
  fun d σ l0 l1 l2 l3 l4 l5 l6 l7 l8 l9 l10 l11 l12 x0 x1 x2 => ex_is (hs := [920, 921, 922, 101]) (show decode mX7_err.2.1 27 = .ok (.invokestatic 63, 3) by decide +kernel) lkS_7_63 ⟨rfl, Nat.le_of_ble_eq_true rfl, Nat.le_of_ble_eq_true rfl, fun q => nomatch q⟩ rfl rfl,
  fun d σ S l0 l1 l2 l3 l4 l5 l6 l7 l8 l9 l10 l11 l12 x => ex_zne (show decode mX7_err.2.1 30 = .ok (.ifCond .ne 7, 3) by decide +kernel) (by decide),
  fun d σ S l0 l1 l2 l3 l4 l5 l6 l7 l8 l9 l10 l11 l12 => ex_ldc2 (hh := 1184) (show decode mX7_err.2.1 33 = .ok (.ldc2_w 250, 3) by decide +kernel) (by decide +kernel),
  fun d σ l0 l1 l2 l3 l4 l5 l6 l7 l8 l9 l10 l11 l12 x => ex_lret (show decode mX7_err.2.1 36 = .ok (.lreturn, 1) by decide +kernel) rfl,
  fun d σ S l0 l1 l2 l3 l4 l5 l6 l7 l8 l9 l10 l11 l12 => ex_lconst (show decode mX7_err.2.1 37 = .ok (.lconst 0, 1) by decide +kernel) (by decide +kernel),
  fun d σ S l0 l1 l3 l4 l5 l6 l7 l8 l9 l10 l11 l12 y x => ex_lstore_n (show decode mX7_err.2.1 38 = .ok (.lstore_n 3, 1) by decide +kernel) (Nat.le_of_ble_eq_true rfl) rfl,
  fun d σ S l0 l1 l2 l3 l4 l5 l6 l7 l8 l9 l10 l11 l12 => ex_lconst (show decode mX7_err.2.1 39 = .ok (.lconst 1, 1) by decide +kernel) (by decide +kernel),
  fun d σ S l0 l1 l2 l3 l5 l6 l7 l8 l9 l10 l11 l12 x => ex_lstore (show decode mX7_err.2.1 40 = .ok (.lstore 5, 2) by decide +kernel) (Nat.le_of_ble_eq_true rfl) rfl,
  fun d σ S l0 l1 l2 l3 l4 l5 l6 l7 l8 l9 l10 l11 l12 => ex_iconst (show decode mX7_err.2.1 42 = .ok (.iconst 0, 1) by decide +kernel) (by decide +kernel),
  fun d σ S l0 l1 l2 l3 l4 l5 l7 l8 l9 l10 l11 l12 x => ex_istore (show decode mX7_err.2.1 43 = .ok (.istore 7, 2) by decide +kernel) (Nat.le_of_ble_eq_true rfl) rfl,
  fun d σ S l1 l2 l3 l4 l5 l6 l7 l8 l9 l10 l11 l12 k => ex_aload_n (show decode mX7_err.2.1 47 = .ok (.aload_n 0, 1) by decide +kernel) rfl,
  fun d σ S l0 l1 l2 l3 l4 l5 l6 l7 l8 l9 l10 l11 l12 => ex_getr (idx := 7) (ci := 7) (ff := 0) (n := 26) (hh := 833) (by decide +kernel),
  fun d σ S l0 l1 l2 l3 l4 l5 l6 l7 l8 l9 l10 l11 l12 => ex_bipush (show decode mX7_err.2.1 51 = .ok (.bipush 8, 2) by decide +kernel) (by decide +kernel),
  fun d σ S l0 l1 l2 l3 l4 l5 l6 l7 l8 l9 l10 l11 l12 x => ex_iald (by decide +kernel),
  fun d σ S l0 l1 l2 l3 l4 l5 l6 l7 l8 l9 l10 l11 l12 x y => ex_cge (show decode mX7_err.2.1 54 = .ok (.if_icmp .ge 17, 3) by decide +kernel) (by decide),
  fun d σ S l0 l1 l2 l3 l4 l6 l7 l8 l9 l10 l11 l12 x => ex_lload (show decode mX7_err.2.1 57 = .ok (.lload 5, 2) by decide +kernel) rfl,
  fun d σ S l0 l1 l2 l3 l4 l5 l6 l7 l8 l9 l10 l11 l12 => ex_ldc2 (hh := 1183) (show decode mX7_err.2.1 59 = .ok (.ldc2_w 248, 3) by decide +kernel) (by decide +kernel),
  fun d σ S l0 l1 l2 l3 l4 l5 l6 l7 l8 l9 l10 l11 l12 x y => ex_lmul (show decode mX7_err.2.1 62 = .ok (.lmul, 1) by decide +kernel),
  fun d σ S l0 l1 l2 l3 l5 l6 l7 l8 l9 l10 l11 l12 x => ex_lstore (show decode mX7_err.2.1 63 = .ok (.lstore 5, 2) by decide +kernel) (Nat.le_of_ble_eq_true rfl) rfl,
  fun d σ S l0 l1 l2 l3 l4 l5 l8 l9 l10 l11 l12 x => ex_iinc (show decode mX7_err.2.1 65 = .ok (.iinc 7 1, 3) by decide +kernel) rfl (by decide +kernel) (Nat.le_of_ble_eq_true rfl) rfl,
  fun d σ S l0 l1 l2 l3 l4 l5 l6 l7 l8 l9 l10 l11 l12 => ex_goto (show decode mX7_err.2.1 68 = .ok (.goto (-23), 3) by decide +kernel) (by decide),
  fun d σ S l0 l1 l2 l3 l4 l5 l6 l7 l8 l9 l10 l11 l12 => ex_iconst (show decode mX7_err.2.1 71 = .ok (.iconst 0, 1) by decide +kernel) (by decide +kernel),
  fun d σ S l0 l1 l2 l3 l4 l5 l7 l8 l9 l10 l11 l12 x => ex_istore (show decode mX7_err.2.1 72 = .ok (.istore 7, 2) by decide +kernel) (Nat.le_of_ble_eq_true rfl) rfl,
  fun d σ S l0 l1 l2 l3 l4 l5 l6 l7 l8 l9 l10 l11 l12 => ex_iconst (show decode mX7_err.2.1 76 = .ok (.iconst 1, 1) by decide +kernel) (by decide +kernel),
  fun d σ S l1 l2 l3 l4 l5 l6 l7 l8 l9 l10 l11 l12 k => ex_aload_n (show decode mX7_err.2.1 77 = .ok (.aload_n 0, 1) by decide +kernel) rfl⟩
theorem kX7_err_1 : (∀ (d : Nat) (σ : Sg) (S : List Value) (l0 l1 l2 l3 l4 l5 l6 l7 l8 l9 l10 l11 l12 : Value), exec d mX7_err 78 [l0, l1, l2, l3, l4, l5, l6, l7, l8, l9, l10, l11, l12] (.ref 50 :: S) σ = exec d mX7_err 81 [l0, l1, l2, l3, l4, l5, l6, l7, l8, l9, l10, l11, l12] (.ref 51 :: S) σ) ∧
  (∀ (d : Nat) (σ : Sg) (S : List Value) (l0 l1 l2 l3 l4 l5 l6 l7 l8 l9 l10 l11 l12 : Value), exec d mX7_err 81 [l0, l1, l2, l3, l4, l5, l6, l7, l8, l9, l10, l11, l12] S σ = exec d mX7_err 83 [l0, l1, l2, l3, l4, l5, l6, l7, l8, l9, l10, l11, l12] (.int (nI 8) :: S) σ) ∧
  (∀ (d : Nat) (σ : Sg) (S : List Value) (l0 l1 l2 l3 l4 l5 l6 l7 l8 l9 l10 l11 l12 : Value) (x : Int32), exec d mX7_err 83 [l0, l1, l2, l3, l4, l5, l6, l7, l8, l9, l10, l11, l12] (.int x :: .ref 51 :: S) σ = if inb x 208 = true then exec d mX7_err 84 [l0, l1, l2, l3, l4, l5, l6, l7, l8, l9, l10, l11, l12] (.int (σ 51 x.toNatClampNeg) :: S) σ else none) ∧
  (∀ (d : Nat) (σ : Sg) (S : List Value) (l0 l1 l2 l3 l4 l5 l6 l7 l8 l9 l10 l11 l12 : Value) (x y : Int32), exec d mX7_err 84 [l0, l1, l2, l3, l4, l5, l6, l7, l8, l9, l10, l11, l12] (.int y :: .int x :: S) σ = exec d mX7_err 85 [l0, l1, l2, l3, l4, l5, l6, l7, l8, l9, l10, l11, l12] (.int (x <<< (y &&& 31)) :: S) σ) ∧
  (∀ (d : Nat) (σ : Sg) (S : List Value) (l0 l1 l2 l3 l4 l5 l6 l7 l8 l9 l10 l11 l12 : Value) (x y : Int32), exec d mX7_err 85 [l0, l1, l2, l3, l4, l5, l6, l7, l8, l9, l10, l11, l12] (.int y :: .int x :: S) σ = if y ≤ x then exec d mX7_err 166 [l0, l1, l2, l3, l4, l5, l6, l7, l8, l9, l10, l11, l12] S σ else exec d mX7_err 88 [l0, l1, l2, l3, l4, l5, l6, l7, l8, l9, l10, l11, l12] S σ) ∧
  (∀ (d : Nat) (σ : Sg) (S : List Value) (l0 l1 l2 l3 l4 l5 l6 l7 l8 l9 l10 l11 l12 : Value), exec d mX7_err 88 [l0, l1, l2, l3, l4, l5, l6, l7, l8, l9, l10, l11, l12] S σ = exec d mX7_err 89 [l0, l1, l2, l3, l4, l5, l6, l7, l8, l9, l10, l11, l12] (.long (lN 1) :: S) σ) ∧
  (∀ (d : Nat) (σ : Sg) (S : List Value) (l0 l1 l2 l3 l4 l5 l6 l8 l9 l10 l11 l12 : Value) (y : Int32) (x : Int64), exec d mX7_err 89 [l0, l1, l2, l3, l4, l5, l6, .int y, l8, l9, l10, l11, l12] (.long x :: S) σ = exec d mX7_err 91 [l0, l1, l2, l3, l4, l5, l6, .int y, .long x, uu, l10, l11, l12] S σ) ∧
  (∀ (d : Nat) (σ : Sg) (S : List Value) (l0 l1 l2 l3 l4 l5 l6 l7 l8 l9 l10 l11 l12 : Value), exec d mX7_err 91 [l0, l1, l2, l3, l4, l5, l6, l7, l8, l9, l10, l11, l12] S σ = exec d mX7_err 92 [l0, l1, l2, l3, l4, l5, l6, l7, l8, l9, l10, l11, l12] (.int (nI 0) :: S) σ) ∧
  (∀ (d : Nat) (σ : Sg) (S : List Value) (l0 l1 l2 l3 l4 l5 l6 l7 l8 l10 l11 l12 : Value) (x : Int32), exec d mX7_err 92 [l0, l1, l2, l3, l4, l5, l6, l7, l8, uu, l10, l11, l12] (.int x :: S) σ = exec d mX7_err 94 [l0, l1, l2, l3, l4, l5, l6, l7, l8, uu, .int x, l11, l12] S σ) ∧
  (∀ (d : Nat) (σ : Sg) (S : List Value) (l1 l2 l3 l4 l5 l6 l7 l8 l9 l10 l11 l12 : Value) (k : Nat), exec d mX7_err 96 [.ref k, l1, l2, l3, l4, l5, l6, l7, l8, l9, l10, l11, l12] S σ = exec d mX7_err 97 [.ref k, l1, l2, l3, l4, l5, l6, l7, l8, l9, l10, l11, l12] (.ref k :: S) σ) ∧
  (∀ (d : Nat) (σ : Sg) (S : List Value) (l0 l1 l2 l3 l4 l5 l6 l7 l8 l9 l10 l11 l12 : Value), exec d mX7_err 97 [l0, l1, l2, l3, l4, l5, l6, l7, l8, l9, l10, l11, l12] (.ref 50 :: S) σ = exec d mX7_err 100 [l0, l1, l2, l3, l4, l5, l6, l7, l8, l9, l10, l11, l12] (.ref 51 :: S) σ) ∧
  (∀ (d : Nat) (σ : Sg) (S : List Value) (l0 l1 l2 l3 l4 l5 l6 l7 l8 l9 l10 l11 l12 : Value), exec d mX7_err 100 [l0, l1, l2, l3, l4, l5, l6, l7, l8, l9, l10, l11, l12] S σ = exec d mX7_err 102 [l0, l1, l2, l3, l4, l5, l6, l7, l8, l9, l10, l11, l12] (.int (nI 8) :: S) σ) ∧
  (∀ (d : Nat) (σ : Sg) (S : List Value) (l0 l1 l2 l3 l4 l5 l6 l7 l8 l9 l10 l11 l12 : Value) (x : Int32), exec d mX7_err 102 [l0, l1, l2, l3, l4, l5, l6, l7, l8, l9, l10, l11, l12] (.int x :: .ref 51 :: S) σ = if inb x 208 = true then exec d mX7_err 103 [l0, l1, l2, l3, l4, l5, l6, l7, l8, l9, l10, l11, l12] (.int (σ 51 x.toNatClampNeg) :: S) σ else none) ∧
  (∀ (d : Nat) (σ : Sg) (S : List Value) (l0 l1 l2 l3 l4 l5 l6 l7 l8 l9 l10 l11 l12 : Value) (x y : Int32), exec d mX7_err 103 [l0, l1, l2, l3, l4, l5, l6, l7, l8, l9, l10, l11, l12] (.int y :: .int x :: S) σ = if y ≤ x then exec d mX7_err 137 [l0, l1, l2, l3, l4, l5, l6, l7, l8, l9, l10, l11, l12] S σ else exec d mX7_err 106 [l0, l1, l2, l3, l4, l5, l6, l7, l8, l9, l10, l11, l12] S σ) ∧
  (∀ (d : Nat) (σ : Sg) (S : List Value) (l0 l1 l2 l3 l4 l5 l6 l7 l9 l10 l11 l12 : Value) (x : Int64), exec d mX7_err 106 [l0, l1, l2, l3, l4, l5, l6, l7, .long x, l9, l10, l11, l12] S σ = exec d mX7_err 108 [l0, l1, l2, l3, l4, l5, l6, l7, .long x, l9, l10, l11, l12] (.long x :: S) σ) ∧
  (∀ (d : Nat) (σ : Sg) (S : List Value) (l0 l1 l2 l3 l4 l5 l6 l8 l9 l10 l11 l12 : Value) (x : Int32), exec d mX7_err 108 [l0, l1, l2, l3, l4, l5, l6, .int x, l8, l9, l10, l11, l12] S σ = exec d mX7_err 110 [l0, l1, l2, l3, l4, l5, l6, .int x, l8, l9, l10, l11, l12] (.int x :: S) σ) ∧
  (∀ (d : Nat) (σ : Sg) (S : List Value) (l0 l1 l2 l3 l4 l5 l6 l7 l8 l9 l11 l12 : Value) (x : Int32), exec d mX7_err 110 [l0, l1, l2, l3, l4, l5, l6, l7, l8, l9, .int x, l11, l12] S σ = exec d mX7_err 112 [l0, l1, l2, l3, l4, l5, l6, l7, l8, l9, .int x, l11, l12] (.int x :: S) σ) ∧
  (∀ (d : Nat) (σ : Sg) (l0 l1 l2 l3 l4 l5 l6 l7 l8 l9 l10 l11 l12 : Value) (x0 x1 : Int32) (x2 : Int64), exec d mX7_err 112 [l0, l1, l2, l3, l4, l5, l6, l7, l8, l9, l10, l11, l12] [.int x0, .int x1, .long x2] σ = kb (cal d mX7_has [.int x1, .int x0] σ) (fun rs σ2 => exec d mX7_err 115 [l0, l1, l2, l3, l4, l5, l6, l7, l8, l9, l10, l11, l12] (rs ++ [.long x2]) σ2)) ∧
  (∀ (d : Nat) (σ : Sg) (S : List Value) (l0 l1 l2 l3 l4 l5 l6 l7 l8 l9 l10 l11 l12 : Value) (x : Int32), exec d mX7_err 115 [l0, l1, l2, l3, l4, l5, l6, l7, l8, l9, l10, l11, l12] (.int x :: S) σ = if x = nI 0 then exec d mX7_err 123 [l0, l1, l2, l3, l4, l5, l6, l7, l8, l9, l10, l11, l12] S σ else exec d mX7_err 118 [l0, l1, l2, l3, l4, l5, l6, l7, l8, l9, l10, l11, l12] S σ) ∧
  (∀ (d : Nat) (σ : Sg) (S : List Value) (l0 l2 l3 l4 l5 l6 l7 l8 l9 l10 l11 l12 : Value) (x : Int32), exec d mX7_err 118 [l0, .int x, l2, l3, l4, l5, l6, l7, l8, l9, l10, l11, l12] S σ = exec d mX7_err 119 [l0, .int x, l2, l3, l4, l5, l6, l7, l8, l9, l10, l11, l12] (.int x :: S) σ) ∧
  (∀ (d : Nat) (σ : Sg) (S : List Value) (l0 l1 l2 l3 l4 l5 l6 l7 l8 l9 l10 l11 l12 : Value) (x : Int32), exec d mX7_err 119 [l0, l1, l2, l3, l4, l5, l6, l7, l8, l9, l10, l11, l12] (.int x :: S) σ = exec d mX7_err 120 [l0, l1, l2, l3, l4, l5, l6, l7, l8, l9, l10, l11, l12] (.long x.toInt64 :: S) σ) ∧
  (∀ (d : Nat) (σ : Sg) (S : List Value) (l0 l1 l2 l3 l4 l5 l6 l7 l8 l9 l10 l11 l12 : Value), exec d mX7_err 120 [l0, l1, l2, l3, l4, l5, l6, l7, l8, l9, l10, l11, l12] S σ = exec d mX7_err 128 [l0, l1, l2, l3, l4, l5, l6, l7, l8, l9, l10, l11, l12] S σ) ∧
  (∀ (d : Nat) (σ : Sg) (S : List Value) (l0 l1 l2 l3 l4 l5 l6 l7 l8 l9 l10 l11 l12 : Value), exec d mX7_err 123 [l0, l1, l2, l3, l4, l5, l6, l7, l8, l9, l10, l11, l12] S σ = exec d mX7_err 125 [l0, l1, l2, l3, l4, l5, l6, l7, l8, l9, l10, l11, l12] (.int (nI 10) :: S) σ) ∧
  (∀ (d : Nat) (σ : Sg) (S : List Value) (l0 l2 l3 l4 l5 l6 l7 l8 l9 l10 l11 l12 : Value) (x : Int32), exec d mX7_err 125 [l0, .int x, l2, l3, l4, l5, l6, l7, l8, l9, l10, l11, l12] S σ = exec d mX7_err 126 [l0, .int x, l2, l3, l4, l5, l6, l7, l8, l9, l10, l11, l12] (.int x :: S) σ) ∧
  (∀ (d : Nat) (σ : Sg) (S : List Value) (l0 l1 l2 l3 l4 l5 l6 l7 l8 l9 l10 l11 l12 : Value) (x y : Int32), exec d mX7_err 126 [l0, l1, l2, l3, l4, l5, l6, l7, l8, l9, l10, l11, l12] (.int y :: .int x :: S) σ = exec d mX7_err 127 [l0, l1, l2, l3, l4, l5, l6, l7, l8, l9, l10, l11, l12] (.int (x - y) :: S) σ) ∧
  (∀ (d : Nat) (σ : Sg) (S : List Value) (l0 l1 l2 l3 l4 l5 l6 l7 l8 l9 l10 l11 l12 : Value) (x : Int32), exec d mX7_err 127 [l0, l1, l2, l3, l4, l5, l6, l7, l8, l9, l10, l11, l12] (.int x :: S) σ = exec d mX7_err 128 [l0, l1, l2, l3, l4, l5, l6, l7, l8, l9, l10, l11, l12] (.long x.toInt64 :: S) σ) ∧
  (∀ (d : Nat) (σ : Sg) (S : List Value) (l0 l1 l2 l3 l4 l5 l6 l7 l8 l9 l10 l11 l12 : Value) (x y : Int64), exec d mX7_err 128 [l0, l1, l2, l3, l4, l5, l6, l7, l8, l9, l10, l11, l12] (.long y :: .long x :: S) σ = exec d mX7_err 129 [l0, l1, l2, l3, l4, l5, l6, l7, l8, l9, l10, l11, l12] (.long (x * y) :: S) σ) ∧
  (∀ (d : Nat) (σ : Sg) (S : List Value) (l0 l1 l2 l3 l4 l5 l6 l8 l9 l10 l11 l12 : Value) (y : Int32) (x : Int64), exec d mX7_err 129 [l0, l1, l2, l3, l4, l5, l6, .int y, l8, l9, l10, l11, l12] (.long x :: S) σ = exec d mX7_err 131 [l0, l1, l2, l3, l4, l5, l6, .int y, .long x, uu, l10, l11, l12] S σ) ∧
  (∀ (d : Nat) (σ : Sg) (S : List Value) (l0 l1 l2 l3 l4 l5 l6 l7 l8 l11 l12 : Value) (x : Int32), exec d mX7_err 131 [l0, l1, l2, l3, l4, l5, l6, l7, l8, uu, .int x, l11, l12] S σ = exec d mX7_err 134 [l0, l1, l2, l3, l4, l5, l6, l7, l8, uu, .int (x + nI 1), l11, l12] S σ) ∧
  (∀ (d : Nat) (σ : Sg) (S : List Value) (l0 l1 l2 l3 l4 l5 l6 l7 l8 l9 l10 l11 l12 : Value), exec d mX7_err 134 [l0, l1, l2, l3, l4, l5, l6, l7, l8, l9, l10, l11, l12] S σ = exec d mX7_err 94 [l0, l1, l2, l3, l4, l5, l6, l7, l8, l9, l10, l11, l12] S σ) ∧
  (∀ (d : Nat) (σ : Sg) (S : List Value) (l0 l1 l2 l4 l5 l6 l7 l8 l9 l10 l11 l12 : Value) (x : Int64), exec d mX7_err 137 [l0, l1, l2, .long x, l4, l5, l6, l7, l8, l9, l10, l11, l12] S σ = exec d mX7_err 138 [l0, l1, l2, .long x, l4, l5, l6, l7, l8, l9, l10, l11, l12] (.long x :: S) σ) ∧
  (∀ (d : Nat) (σ : Sg) (S : List Value) (l1 l2 l3 l4 l5 l6 l7 l8 l9 l10 l11 l12 : Value) (k : Nat), exec d mX7_err 138 [.ref k, l1, l2, l3, l4, l5, l6, l7, l8, l9, l10, l11, l12] S σ = exec d mX7_err 139 [.ref k, l1, l2, l3, l4, l5, l6, l7, l8, l9, l10, l11, l12] (.ref k :: S) σ) ∧
  (∀ (d : Nat) (σ : Sg) (S : List Value) (l1 l2 l3 l4 l5 l6 l7 l8 l9 l10 l11 l12 : Value) (k : Nat), exec d mX7_err 139 [.ref k, l1, l2, l3, l4, l5, l6, l7, l8, l9, l10, l11, l12] S σ = exec d mX7_err 140 [.ref k, l1, l2, l3, l4, l5, l6, l7, l8, l9, l10, l11, l12] (.ref k :: S) σ) ∧
  (∀ (d : Nat) (σ : Sg) (l0 l1 l2 l3 l4 l5 l6 l7 l8 l9 l10 l11 l12 : Value) (x2 : Int64), exec d mX7_err 140 [l0, l1, l2, l3, l4, l5, l6, l7, l8, l9, l10, l11, l12] [.ref 50, .ref 50, .long x2] σ = kb (cal d mX7_votesNow [.ref 50] σ) (fun rs σ2 => exec d mX7_err 143 [l0, l1, l2, l3, l4, l5, l6, l7, l8, l9, l10, l11, l12] (rs ++ [.ref 50, .long x2]) σ2)) ∧
  (∀ (d : Nat) (σ : Sg) (S : List Value) (l0 l1 l2 l3 l4 l5 l6 l8 l9 l10 l11 l12 : Value) (x : Int32), exec d mX7_err 143 [l0, l1, l2, l3, l4, l5, l6, .int x, l8, l9, l10, l11, l12] S σ = exec d mX7_err 145 [l0, l1, l2, l3, l4, l5, l6, .int x, l8, l9, l10, l11, l12] (.int x :: S) σ) ∧
  (∀ (d : Nat) (σ : Sg) (S : List Value) (l0 l1 l2 l3 l4 l5 l6 l7 l8 l9 l10 l11 l12 : Value) (x y : Int32), exec d mX7_err 145 [l0, l1, l2, l3, l4, l5, l6, l7, l8, l9, l10, l11, l12] (.int y :: .int x :: S) σ = exec d mX7_err 146 [l0, l1, l2, l3, l4, l5, l6, l7, l8, l9, l10, l11, l12] (.int (x ^^^ y) :: S) σ) ∧
  (∀ (d : Nat) (σ : Sg) (l0 l1 l2 l3 l4 l5 l6 l7 l8 l9 l10 l11 l12 : Value) (x0 : Int32) (x2 : Int64), exec d mX7_err 146 [l0, l1, l2, l3, l4, l5, l6, l7, l8, l9, l10, l11, l12] [.int x0, .ref 50, .long x2] σ = kb (cal d mX7_isMost [.ref 50, .int x0] σ) (fun rs σ2 => exec d mX7_err 149 [l0, l1, l2, l3, l4, l5, l6, l7, l8, l9, l10, l11, l12] (rs ++ [.long x2]) σ2)) ∧
  (∀ (d : Nat) (σ : Sg) (S : List Value) (l0 l1 l2 l3 l4 l5 l6 l7 l8 l9 l10 l11 l12 : Value) (x : Int32), exec d mX7_err 149 [l0, l1, l2, l3, l4, l5, l6, l7, l8, l9, l10, l11, l12] (.int x :: S) σ = if x = nI 0 then exec d mX7_err 157 [l0, l1, l2, l3, l4, l5, l6, l7, l8, l9, l10, l11, l12] S σ else exec d mX7_err 152 [l0, l1, l2, l3, l4, l5, l6, l7, l8, l9, l10, l11, l12] S σ) ∧
  (∀ (d : Nat) (σ : Sg) (S : List Value) (l0 l1 l2 l3 l4 l5 l6 l7 l9 l10 l11 l12 : Value) (x : Int64), exec d mX7_err 152 [l0, l1, l2, l3, l4, l5, l6, l7, .long x, l9, l10, l11, l12] S σ = exec d mX7_err 154 [l0, l1, l2, l3, l4, l5, l6, l7, .long x, l9, l10, l11, l12] (.long x :: S) σ) ∧
  (∀ (d : Nat) (σ : Sg) (S : List Value) (l0 l1 l2 l3 l4 l5 l6 l7 l8 l9 l10 l11 l12 : Value), exec d mX7_err 154 [l0, l1, l2, l3, l4, l5, l6, l7, l8, l9, l10, l11, l12] S σ = exec d mX7_err 158 [l0, l1, l2, l3, l4, l5, l6, l7, l8, l9, l10, l11, l12] S σ) :=
  ⟨fun d σ S l0 l1 l2 l3 l4 l5 l6 l7 l8 l9 l10 l11 l12 => ex_getr (idx := 7) (ci := 7) (ff := 0) (n := 26) (hh := 833) (by decide +kernel),
  fun d σ S l0 l1 l2 l3 l4 l5 l6 l7 l8 l9 l10 l11 l12 => ex_bipush (show decode mX7_err.2.1 81 = .ok (.bipush 8, 2) by decide +kernel) (by decide +kernel),
  fun d σ S l0 l1 l2 l3 l4 l5 l6 l7 l8 l9 l10 l11 l12 x => ex_iald (by decide +kernel),
  fun d σ S l0 l1 l2 l3 l4 l5 l6 l7 l8 l9 l10 l11 l12 x y => ex_ishl (show decode mX7_err.2.1 84 = .ok (.ishl, 1) by decide +kernel),
  fun d σ S l0 l1 l2 l3 l4 l5 l6 l7 l8 l9 l10 l11 l12 x y => ex_cge (show decode mX7_err.2.1 85 = .ok (.if_icmp .ge 81, 3) by decide +kernel) (by decide),
  fun d σ S l0 l1 l2 l3 l4 l5 l6 l7 l8 l9 l10 l11 l12 => ex_lconst (show decode mX7_err.2.1 88 = .ok (.lconst 1, 1) by decide +kernel) (by decide +kernel),
  fun d σ S l0 l1 l2 l3 l4 l5 l6 l8 l9 l10 l11 l12 y x => ex_lstore (show decode mX7_err.2.1 89 = .ok (.lstore 8, 2) by decide +kernel) (Nat.le_of_ble_eq_true rfl) rfl,
  fun d σ S l0 l1 l2 l3 l4 l5 l6 l7 l8 l9 l10 l11 l12 => ex_iconst (show decode mX7_err.2.1 91 = .ok (.iconst 0, 1) by decide +kernel) (by decide +kernel),
  fun d σ S l0 l1 l2 l3 l4 l5 l6 l7 l8 l10 l11 l12 x => ex_istore (show decode mX7_err.2.1 92 = .ok (.istore 10, 2) by decide +kernel) (Nat.le_of_ble_eq_true rfl) rfl,
  fun d σ S l1 l2 l3 l4 l5 l6 l7 l8 l9 l10 l11 l12 k => ex_aload_n (show decode mX7_err.2.1 96 = .ok (.aload_n 0, 1) by decide +kernel) rfl,
  fun d σ S l0 l1 l2 l3 l4 l5 l6 l7 l8 l9 l10 l11 l12 => ex_getr (idx := 7) (ci := 7) (ff := 0) (n := 26) (hh := 833) (by decide +kernel),
  fun d σ S l0 l1 l2 l3 l4 l5 l6 l7 l8 l9 l10 l11 l12 => ex_bipush (show decode mX7_err.2.1 100 = .ok (.bipush 8, 2) by decide +kernel) (by decide +kernel),
  fun d σ S l0 l1 l2 l3 l4 l5 l6 l7 l8 l9 l10 l11 l12 x => ex_iald (by decide +kernel),
  fun d σ S l0 l1 l2 l3 l4 l5 l6 l7 l8 l9 l10 l11 l12 x y => ex_cge (show decode mX7_err.2.1 103 = .ok (.if_icmp .ge 34, 3) by decide +kernel) (by decide),
  fun d σ S l0 l1 l2 l3 l4 l5 l6 l7 l9 l10 l11 l12 x => ex_lload (show decode mX7_err.2.1 106 = .ok (.lload 8, 2) by decide +kernel) rfl,
  fun d σ S l0 l1 l2 l3 l4 l5 l6 l8 l9 l10 l11 l12 x => ex_iload (show decode mX7_err.2.1 108 = .ok (.iload 7, 2) by decide +kernel) rfl,
  fun d σ S l0 l1 l2 l3 l4 l5 l6 l7 l8 l9 l11 l12 x => ex_iload (show decode mX7_err.2.1 110 = .ok (.iload 10, 2) by decide +kernel) rfl,
  fun d σ l0 l1 l2 l3 l4 l5 l6 l7 l8 l9 l10 l11 l12 x0 x1 x2 => ex_is (hs := [1033, 1034, 1035, 101]) (show decode mX7_err.2.1 112 = .ok (.invokestatic 151, 3) by decide +kernel) lkS_7_151 ⟨rfl, Nat.le_of_ble_eq_true rfl, Nat.le_of_ble_eq_true rfl, fun q => nomatch q⟩ rfl rfl,
  fun d σ S l0 l1 l2 l3 l4 l5 l6 l7 l8 l9 l10 l11 l12 x => ex_zeq (show decode mX7_err.2.1 115 = .ok (.ifCond .eq 8, 3) by decide +kernel) (by decide),
  fun d σ S l0 l2 l3 l4 l5 l6 l7 l8 l9 l10 l11 l12 x => ex_iload_n (show decode mX7_err.2.1 118 = .ok (.iload_n 1, 1) by decide +kernel) rfl,
  fun d σ S l0 l1 l2 l3 l4 l5 l6 l7 l8 l9 l10 l11 l12 x => ex_i2l (show decode mX7_err.2.1 119 = .ok (.i2l, 1) by decide +kernel),
  fun d σ S l0 l1 l2 l3 l4 l5 l6 l7 l8 l9 l10 l11 l12 => ex_goto (show decode mX7_err.2.1 120 = .ok (.goto 8, 3) by decide +kernel) (by decide),
  fun d σ S l0 l1 l2 l3 l4 l5 l6 l7 l8 l9 l10 l11 l12 => ex_bipush (show decode mX7_err.2.1 123 = .ok (.bipush 10, 2) by decide +kernel) (by decide +kernel),
  fun d σ S l0 l2 l3 l4 l5 l6 l7 l8 l9 l10 l11 l12 x => ex_iload_n (show decode mX7_err.2.1 125 = .ok (.iload_n 1, 1) by decide +kernel) rfl,
  fun d σ S l0 l1 l2 l3 l4 l5 l6 l7 l8 l9 l10 l11 l12 x y => ex_isub (show decode mX7_err.2.1 126 = .ok (.isub, 1) by decide +kernel),
  fun d σ S l0 l1 l2 l3 l4 l5 l6 l7 l8 l9 l10 l11 l12 x => ex_i2l (show decode mX7_err.2.1 127 = .ok (.i2l, 1) by decide +kernel),
  fun d σ S l0 l1 l2 l3 l4 l5 l6 l7 l8 l9 l10 l11 l12 x y => ex_lmul (show decode mX7_err.2.1 128 = .ok (.lmul, 1) by decide +kernel),
  fun d σ S l0 l1 l2 l3 l4 l5 l6 l8 l9 l10 l11 l12 y x => ex_lstore (show decode mX7_err.2.1 129 = .ok (.lstore 8, 2) by decide +kernel) (Nat.le_of_ble_eq_true rfl) rfl,
  fun d σ S l0 l1 l2 l3 l4 l5 l6 l7 l8 l11 l12 x => ex_iinc (show decode mX7_err.2.1 131 = .ok (.iinc 10 1, 3) by decide +kernel) rfl (by decide +kernel) (Nat.le_of_ble_eq_true rfl) rfl,
  fun d σ S l0 l1 l2 l3 l4 l5 l6 l7 l8 l9 l10 l11 l12 => ex_goto (show decode mX7_err.2.1 134 = .ok (.goto (-40), 3) by decide +kernel) (by decide),
  fun d σ S l0 l1 l2 l4 l5 l6 l7 l8 l9 l10 l11 l12 x => ex_lload_n (show decode mX7_err.2.1 137 = .ok (.lload_n 3, 1) by decide +kernel) rfl,
  fun d σ S l1 l2 l3 l4 l5 l6 l7 l8 l9 l10 l11 l12 k => ex_aload_n (show decode mX7_err.2.1 138 = .ok (.aload_n 0, 1) by decide +kernel) rfl,
  fun d σ S l1 l2 l3 l4 l5 l6 l7 l8 l9 l10 l11 l12 k => ex_aload_n (show decode mX7_err.2.1 139 = .ok (.aload_n 0, 1) by decide +kernel) rfl,
  fun d σ l0 l1 l2 l3 l4 l5 l6 l7 l8 l9 l10 l11 l12 x2 => ex_iv (hs := [1100, 1102, 77, 1103, 101]) (show decode mX7_err.2.1 140 = .ok (.invokevirtual 206, 3) by decide +kernel) lkV_7_206 ⟨rfl, Nat.le_of_ble_eq_true rfl, Nat.le_of_ble_eq_true rfl, fun _ => rfl⟩ rfl rfl,
  fun d σ S l0 l1 l2 l3 l4 l5 l6 l8 l9 l10 l11 l12 x => ex_iload (show decode mX7_err.2.1 143 = .ok (.iload 7, 2) by decide +kernel) rfl,
  fun d σ S l0 l1 l2 l3 l4 l5 l6 l7 l8 l9 l10 l11 l12 x y => ex_ixor (show decode mX7_err.2.1 145 = .ok (.ixor, 1) by decide +kernel),
  fun d σ l0 l1 l2 l3 l4 l5 l6 l7 l8 l9 l10 l11 l12 x0 x2 => ex_iv (hs := [1117, 1119, 80, 1120, 101]) (show decode mX7_err.2.1 146 = .ok (.invokevirtual 215, 3) by decide +kernel) lkV_7_215 ⟨rfl, Nat.le_of_ble_eq_true rfl, Nat.le_of_ble_eq_true rfl, fun _ => rfl⟩ rfl rfl,
  fun d σ S l0 l1 l2 l3 l4 l5 l6 l7 l8 l9 l10 l11 l12 x => ex_zeq (show decode mX7_err.2.1 149 = .ok (.ifCond .eq 8, 3) by decide +kernel) (by decide),
  fun d σ S l0 l1 l2 l3 l4 l5 l6 l7 l9 l10 l11 l12 x => ex_lload (show decode mX7_err.2.1 152 = .ok (.lload 8, 2) by decide +kernel) rfl,
  fun d σ S l0 l1 l2 l3 l4 l5 l6 l7 l8 l9 l10 l11 l12 => ex_goto (show decode mX7_err.2.1 154 = .ok (.goto 4, 3) by decide +kernel) (by decide)⟩
theorem kX7_err_2 : (∀ (d : Nat) (σ : Sg) (S : List Value) (l0 l1 l2 l3 l4 l5 l6 l7 l8 l9 l10 l11 l12 : Value), exec d mX7_err 157 [l0, l1, l2, l3, l4, l5, l6, l7, l8, l9, l10, l11, l12] S σ = exec d mX7_err 158 [l0, l1, l2, l3, l4, l5, l6, l7, l8, l9, l10, l11, l12] (.long (lN 0) :: S) σ) ∧
  (∀ (d : Nat) (σ : Sg) (S : List Value) (l0 l1 l2 l3 l4 l5 l6 l7 l8 l9 l10 l11 l12 : Value) (x y : Int64), exec d mX7_err 158 [l0, l1, l2, l3, l4, l5, l6, l7, l8, l9, l10, l11, l12] (.long y :: .long x :: S) σ = exec d mX7_err 159 [l0, l1, l2, l3, l4, l5, l6, l7, l8, l9, l10, l11, l12] (.long (x + y) :: S) σ) ∧
  (∀ (d : Nat) (σ : Sg) (S : List Value) (l0 l1 l3 l4 l5 l6 l7 l8 l9 l10 l11 l12 : Value) (y : Int32) (x : Int64), exec d mX7_err 159 [l0, l1, .int y, l3, l4, l5, l6, l7, l8, l9, l10, l11, l12] (.long x :: S) σ = exec d mX7_err 160 [l0, l1, .int y, .long x, uu, l5, l6, l7, l8, l9, l10, l11, l12] S σ) ∧
  (∀ (d : Nat) (σ : Sg) (S : List Value) (l0 l1 l2 l3 l4 l5 l8 l9 l10 l11 l12 : Value) (x : Int32), exec d mX7_err 160 [l0, l1, l2, l3, l4, l5, uu, .int x, l8, l9, l10, l11, l12] S σ = exec d mX7_err 163 [l0, l1, l2, l3, l4, l5, uu, .int (x + nI 1), l8, l9, l10, l11, l12] S σ) ∧
  (∀ (d : Nat) (σ : Sg) (S : List Value) (l0 l1 l2 l3 l4 l5 l6 l7 l8 l9 l10 l11 l12 : Value), exec d mX7_err 163 [l0, l1, l2, l3, l4, l5, l6, l7, l8, l9, l10, l11, l12] S σ = exec d mX7_err 74 [l0, l1, l2, l3, l4, l5, l6, l7, l8, l9, l10, l11, l12] S σ) ∧
  (∀ (d : Nat) (σ : Sg) (S : List Value) (l0 l1 l2 l4 l5 l6 l7 l8 l9 l10 l11 l12 : Value) (x : Int64), exec d mX7_err 166 [l0, l1, l2, .long x, l4, l5, l6, l7, l8, l9, l10, l11, l12] S σ = exec d mX7_err 167 [l0, l1, l2, .long x, l4, l5, l6, l7, l8, l9, l10, l11, l12] (.long x :: S) σ) ∧
  (∀ (d : Nat) (σ : Sg) (S : List Value) (l0 l1 l2 l3 l4 l5 l7 l8 l9 l10 l11 l12 : Value) (x : Int64), exec d mX7_err 167 [l0, l1, l2, l3, l4, l5, uu, l7, l8, l9, l10, l11, l12] (.long x :: S) σ = exec d mX7_err 169 [l0, l1, l2, l3, l4, l5, uu, .long x, uu, l9, l10, l11, l12] S σ) ∧
  (∀ (d : Nat) (σ : Sg) (S : List Value) (l0 l1 l2 l3 l4 l6 l7 l8 l9 l10 l11 l12 : Value) (x : Int64), exec d mX7_err 169 [l0, l1, l2, l3, l4, .long x, l6, l7, l8, l9, l10, l11, l12] S σ = exec d mX7_err 171 [l0, l1, l2, l3, l4, .long x, l6, l7, l8, l9, l10, l11, l12] (.long x :: S) σ) ∧
  (∀ (d : Nat) (σ : Sg) (S : List Value) (l0 l1 l2 l3 l4 l5 l6 l7 l9 l10 l11 l12 : Value) (x : Int64), exec d mX7_err 171 [l0, l1, l2, l3, l4, l5, l6, l7, uu, l9, l10, l11, l12] (.long x :: S) σ = exec d mX7_err 173 [l0, l1, l2, l3, l4, l5, l6, l7, uu, .long x, uu, l11, l12] S σ) ∧
  (∀ (d : Nat) (σ : Sg) (S : List Value) (l0 l1 l2 l3 l4 l5 l6 l7 l8 l9 l10 l11 l12 : Value), exec d mX7_err 175 [l0, l1, l2, l3, l4, l5, l6, l7, l8, l9, l10, l11, l12] S σ = exec d mX7_err 176 [l0, l1, l2, l3, l4, l5, l6, l7, l8, l9, l10, l11, l12] (.long (lN 0) :: S) σ) ∧
  (∀ (d : Nat) (σ : Sg) (S : List Value) (l0 l1 l2 l3 l4 l5 l6 l7 l8 l9 l10 l11 l12 : Value) (x y : Int64), exec d mX7_err 176 [l0, l1, l2, l3, l4, l5, l6, l7, l8, l9, l10, l11, l12] (.long y :: .long x :: S) σ = exec d mX7_err 177 [l0, l1, l2, l3, l4, l5, l6, l7, l8, l9, l10, l11, l12] (.int (lg_cmp x y) :: S) σ) ∧
  (∀ (d : Nat) (σ : Sg) (S : List Value) (l0 l1 l2 l3 l4 l5 l6 l7 l8 l9 l10 l11 l12 : Value) (x : Int32), exec d mX7_err 177 [l0, l1, l2, l3, l4, l5, l6, l7, l8, l9, l10, l11, l12] (.int x :: S) σ = if x = nI 0 then exec d mX7_err 198 [l0, l1, l2, l3, l4, l5, l6, l7, l8, l9, l10, l11, l12] S σ else exec d mX7_err 180 [l0, l1, l2, l3, l4, l5, l6, l7, l8, l9, l10, l11, l12] S σ) ∧
  (∀ (d : Nat) (σ : Sg) (S : List Value) (l0 l1 l2 l3 l4 l5 l6 l8 l9 l10 l11 l12 : Value) (x : Int64), exec d mX7_err 180 [l0, l1, l2, l3, l4, l5, l6, .long x, l8, l9, l10, l11, l12] S σ = exec d mX7_err 182 [l0, l1, l2, l3, l4, l5, l6, .long x, l8, l9, l10, l11, l12] (.long x :: S) σ) ∧
  (∀ (d : Nat) (σ : Sg) (S : List Value) (l0 l1 l2 l3 l4 l5 l6 l7 l8 l10 l11 l12 : Value) (x : Int64), exec d mX7_err 182 [l0, l1, l2, l3, l4, l5, l6, l7, l8, .long x, l10, l11, l12] S σ = exec d mX7_err 184 [l0, l1, l2, l3, l4, l5, l6, l7, l8, .long x, l10, l11, l12] (.long x :: S) σ) ∧
  (∀ (d : Nat) (σ : Sg) (S : List Value) (l0 l1 l2 l3 l4 l5 l6 l7 l8 l9 l10 l11 l12 : Value) (x y : Int64), exec d mX7_err 184 [l0, l1, l2, l3, l4, l5, l6, l7, l8, l9, l10, l11, l12] (.long y :: .long x :: S) σ = if y = 0 then none else exec d mX7_err 185 [l0, l1, l2, l3, l4, l5, l6, l7, l8, l9, l10, l11, l12] (.long (x - x / y * y) :: S) σ) ∧
  (∀ (d : Nat) (σ : Sg) (S : List Value) (l0 l1 l2 l3 l4 l5 l6 l7 l8 l9 l11 l12 : Value) (x : Int64), exec d mX7_err 185 [l0, l1, l2, l3, l4, l5, l6, l7, l8, l9, uu, l11, l12] (.long x :: S) σ = exec d mX7_err 187 [l0, l1, l2, l3, l4, l5, l6, l7, l8, l9, uu, .long x, uu] S σ) ∧
  (∀ (d : Nat) (σ : Sg) (S : List Value) (l0 l1 l2 l3 l4 l5 l6 l7 l8 l10 l11 l12 : Value) (x : Int64), exec d mX7_err 187 [l0, l1, l2, l3, l4, l5, l6, l7, l8, .long x, l10, l11, l12] S σ = exec d mX7_err 189 [l0, l1, l2, l3, l4, l5, l6, l7, l8, .long x, l10, l11, l12] (.long x :: S) σ) ∧
  (∀ (d : Nat) (σ : Sg) (S : List Value) (l0 l1 l2 l3 l4 l5 l7 l8 l9 l10 l11 l12 : Value) (x : Int64), exec d mX7_err 189 [l0, l1, l2, l3, l4, l5, uu, l7, l8, l9, l10, l11, l12] (.long x :: S) σ = exec d mX7_err 191 [l0, l1, l2, l3, l4, l5, uu, .long x, uu, l9, l10, l11, l12] S σ) ∧
  (∀ (d : Nat) (σ : Sg) (S : List Value) (l0 l1 l2 l3 l4 l5 l6 l7 l8 l9 l10 l12 : Value) (x : Int64), exec d mX7_err 191 [l0, l1, l2, l3, l4, l5, l6, l7, l8, l9, l10, .long x, l12] S σ = exec d mX7_err 193 [l0, l1, l2, l3, l4, l5, l6, l7, l8, l9, l10, .long x, l12] (.long x :: S) σ) ∧
  (∀ (d : Nat) (σ : Sg) (S : List Value) (l0 l1 l2 l3 l4 l5 l6 l7 l9 l10 l11 l12 : Value) (x : Int64), exec d mX7_err 193 [l0, l1, l2, l3, l4, l5, l6, l7, uu, l9, l10, l11, l12] (.long x :: S) σ = exec d mX7_err 195 [l0, l1, l2, l3, l4, l5, l6, l7, uu, .long x, uu, l11, l12] S σ) ∧
  (∀ (d : Nat) (σ : Sg) (S : List Value) (l0 l1 l2 l3 l4 l5 l6 l7 l8 l9 l10 l11 l12 : Value), exec d mX7_err 195 [l0, l1, l2, l3, l4, l5, l6, l7, l8, l9, l10, l11, l12] S σ = exec d mX7_err 173 [l0, l1, l2, l3, l4, l5, l6, l7, l8, l9, l10, l11, l12] S σ) ∧
  (∀ (d : Nat) (σ : Sg) (S : List Value) (l0 l1 l3 l4 l5 l6 l7 l8 l9 l10 l11 l12 : Value) (x : Int32), exec d mX7_err 198 [l0, l1, .int x, l3, l4, l5, l6, l7, l8, l9, l10, l11, l12] S σ = exec d mX7_err 199 [l0, l1, .int x, l3, l4, l5, l6, l7, l8, l9, l10, l11, l12] (.int x :: S) σ) ∧
  (∀ (d : Nat) (σ : Sg) (S : List Value) (l0 l1 l2 l3 l4 l5 l6 l7 l8 l9 l10 l11 l12 : Value) (x : Int32), exec d mX7_err 199 [l0, l1, l2, l3, l4, l5, l6, l7, l8, l9, l10, l11, l12] (.int x :: S) σ = if x = nI 0 then exec d mX7_err 202 [l0, l1, l2, l3, l4, l5, l6, l7, l8, l9, l10, l11, l12] S σ else exec d mX7_err 209 [l0, l1, l2, l3, l4, l5, l6, l7, l8, l9, l10, l11, l12] S σ) ∧
  (∀ (d : Nat) (σ : Sg) (S : List Value) (l0 l1 l2 l4 l5 l6 l7 l8 l9 l10 l11 l12 : Value) (x : Int64), exec d mX7_err 202 [l0, l1, l2, .long x, l4, l5, l6, l7, l8, l9, l10, l11, l12] S σ = exec d mX7_err 203 [l0, l1, l2, .long x, l4, l5, l6, l7, l8, l9, l10, l11, l12] (.long x :: S) σ) ∧
  (∀ (d : Nat) (σ : Sg) (S : List Value) (l0 l1 l2 l3 l4 l5 l6 l8 l9 l10 l11 l12 : Value) (x : Int64), exec d mX7_err 203 [l0, l1, l2, l3, l4, l5, l6, .long x, l8, l9, l10, l11, l12] S σ = exec d mX7_err 205 [l0, l1, l2, l3, l4, l5, l6, .long x, l8, l9, l10, l11, l12] (.long x :: S) σ) ∧
  (∀ (d : Nat) (σ : Sg) (S : List Value) (l0 l1 l2 l3 l4 l5 l6 l7 l8 l9 l10 l11 l12 : Value) (x y : Int64), exec d mX7_err 205 [l0, l1, l2, l3, l4, l5, l6, l7, l8, l9, l10, l11, l12] (.long y :: .long x :: S) σ = if y = 0 then none else exec d mX7_err 206 [l0, l1, l2, l3, l4, l5, l6, l7, l8, l9, l10, l11, l12] (.long (x / y) :: S) σ) ∧
  (∀ (d : Nat) (σ : Sg) (S : List Value) (l0 l1 l2 l3 l4 l5 l6 l7 l8 l9 l10 l11 l12 : Value), exec d mX7_err 206 [l0, l1, l2, l3, l4, l5, l6, l7, l8, l9, l10, l11, l12] S σ = exec d mX7_err 214 [l0, l1, l2, l3, l4, l5, l6, l7, l8, l9, l10, l11, l12] S σ) ∧
  (∀ (d : Nat) (σ : Sg) (S : List Value) (l0 l1 l2 l3 l4 l6 l7 l8 l9 l10 l11 l12 : Value) (x : Int64), exec d mX7_err 209 [l0, l1, l2, l3, l4, .long x, l6, l7, l8, l9, l10, l11, l12] S σ = exec d mX7_err 211 [l0, l1, l2, l3, l4, .long x, l6, l7, l8, l9, l10, l11, l12] (.long x :: S) σ) ∧
  (∀ (d : Nat) (σ : Sg) (S : List Value) (l0 l1 l2 l3 l4 l5 l6 l8 l9 l10 l11 l12 : Value) (x : Int64), exec d mX7_err 211 [l0, l1, l2, l3, l4, l5, l6, .long x, l8, l9, l10, l11, l12] S σ = exec d mX7_err 213 [l0, l1, l2, l3, l4, l5, l6, .long x, l8, l9, l10, l11, l12] (.long x :: S) σ) ∧
  (∀ (d : Nat) (σ : Sg) (S : List Value) (l0 l1 l2 l3 l4 l5 l6 l7 l8 l9 l10 l11 l12 : Value) (x y : Int64), exec d mX7_err 213 [l0, l1, l2, l3, l4, l5, l6, l7, l8, l9, l10, l11, l12] (.long y :: .long x :: S) σ = if y = 0 then none else exec d mX7_err 214 [l0, l1, l2, l3, l4, l5, l6, l7, l8, l9, l10, l11, l12] (.long (x / y) :: S) σ) ∧
  (∀ (d : Nat) (σ : Sg) (l0 l1 l2 l3 l4 l5 l6 l7 l8 l9 l10 l11 l12 : Value) (x : Int64), exec d mX7_err 214 [l0, l1, l2, l3, l4, l5, l6, l7, l8, l9, l10, l11, l12] [.long x] σ = some (some (.long x), σ)) :=
  ⟨fun d σ S l0 l1 l2 l3 l4 l5 l6 l7 l8 l9 l10 l11 l12 => ex_lconst (show decode mX7_err.2.1 157 = .ok (.lconst 0, 1) by decide +kernel) (by decide +kernel),
  fun d σ S l0 l1 l2 l3 l4 l5 l6 l7 l8 l9 l10 l11 l12 x y => ex_ladd (show decode mX7_err.2.1 158 = .ok (.ladd, 1) by decide +kernel),
  fun d σ S l0 l1 l3 l4 l5 l6 l7 l8 l9 l10 l11 l12 y x => ex_lstore_n (show decode mX7_err.2.1 159 = .ok (.lstore_n 3, 1) by decide +kernel) (Nat.le_of_ble_eq_true rfl) rfl,
  fun d σ S l0 l1 l2 l3 l4 l5 l8 l9 l10 l11 l12 x => ex_iinc (show decode mX7_err.2.1 160 = .ok (.iinc 7 1, 3) by decide +kernel) rfl (by decide +kernel) (Nat.le_of_ble_eq_true rfl) rfl,
  fun d σ S l0 l1 l2 l3 l4 l5 l6 l7 l8 l9 l10 l11 l12 => ex_goto (show decode mX7_err.2.1 163 = .ok (.goto (-89), 3) by decide +kernel) (by decide),
  fun d σ S l0 l1 l2 l4 l5 l6 l7 l8 l9 l10 l11 l12 x => ex_lload_n (show decode mX7_err.2.1 166 = .ok (.lload_n 3, 1) by decide +kernel) rfl,
  fun d σ S l0 l1 l2 l3 l4 l5 l7 l8 l9 l10 l11 l12 x => ex_lstore (show decode mX7_err.2.1 167 = .ok (.lstore 7, 2) by decide +kernel) (Nat.le_of_ble_eq_true rfl) rfl,
  fun d σ S l0 l1 l2 l3 l4 l6 l7 l8 l9 l10 l11 l12 x => ex_lload (show decode mX7_err.2.1 169 = .ok (.lload 5, 2) by decide +kernel) rfl,
  fun d σ S l0 l1 l2 l3 l4 l5 l6 l7 l9 l10 l11 l12 x => ex_lstore (show decode mX7_err.2.1 171 = .ok (.lstore 9, 2) by decide +kernel) (Nat.le_of_ble_eq_true rfl) rfl,
  fun d σ S l0 l1 l2 l3 l4 l5 l6 l7 l8 l9 l10 l11 l12 => ex_lconst (show decode mX7_err.2.1 175 = .ok (.lconst 0, 1) by decide +kernel) (by decide +kernel),
  fun d σ S l0 l1 l2 l3 l4 l5 l6 l7 l8 l9 l10 l11 l12 x y => ex_lcmp (show decode mX7_err.2.1 176 = .ok (.lcmp, 1) by decide +kernel),
  fun d σ S l0 l1 l2 l3 l4 l5 l6 l7 l8 l9 l10 l11 l12 x => ex_zeq (show decode mX7_err.2.1 177 = .ok (.ifCond .eq 21, 3) by decide +kernel) (by decide),
  fun d σ S l0 l1 l2 l3 l4 l5 l6 l8 l9 l10 l11 l12 x => ex_lload (show decode mX7_err.2.1 180 = .ok (.lload 7, 2) by decide +kernel) rfl,
  fun d σ S l0 l1 l2 l3 l4 l5 l6 l7 l8 l10 l11 l12 x => ex_lload (show decode mX7_err.2.1 182 = .ok (.lload 9, 2) by decide +kernel) rfl,
  fun d σ S l0 l1 l2 l3 l4 l5 l6 l7 l8 l9 l10 l11 l12 x y => ex_lrem (show decode mX7_err.2.1 184 = .ok (.lrem, 1) by decide +kernel),
  fun d σ S l0 l1 l2 l3 l4 l5 l6 l7 l8 l9 l11 l12 x => ex_lstore (show decode mX7_err.2.1 185 = .ok (.lstore 11, 2) by decide +kernel) (Nat.le_of_ble_eq_true rfl) rfl,
  fun d σ S l0 l1 l2 l3 l4 l5 l6 l7 l8 l10 l11 l12 x => ex_lload (show decode mX7_err.2.1 187 = .ok (.lload 9, 2) by decide +kernel) rfl,
  fun d σ S l0 l1 l2 l3 l4 l5 l7 l8 l9 l10 l11 l12 x => ex_lstore (show decode mX7_err.2.1 189 = .ok (.lstore 7, 2) by decide +kernel) (Nat.le_of_ble_eq_true rfl) rfl,
  fun d σ S l0 l1 l2 l3 l4 l5 l6 l7 l8 l9 l10 l12 x => ex_lload (show decode mX7_err.2.1 191 = .ok (.lload 11, 2) by decide +kernel) rfl,
  fun d σ S l0 l1 l2 l3 l4 l5 l6 l7 l9 l10 l11 l12 x => ex_lstore (show decode mX7_err.2.1 193 = .ok (.lstore 9, 2) by decide +kernel) (Nat.le_of_ble_eq_true rfl) rfl,
  fun d σ S l0 l1 l2 l3 l4 l5 l6 l7 l8 l9 l10 l11 l12 => ex_goto (show decode mX7_err.2.1 195 = .ok (.goto (-22), 3) by decide +kernel) (by decide),
  fun d σ S l0 l1 l3 l4 l5 l6 l7 l8 l9 l10 l11 l12 x => ex_iload_n (show decode mX7_err.2.1 198 = .ok (.iload_n 2, 1) by decide +kernel) rfl,
  fun d σ S l0 l1 l2 l3 l4 l5 l6 l7 l8 l9 l10 l11 l12 x => ex_zne (show decode mX7_err.2.1 199 = .ok (.ifCond .ne 10, 3) by decide +kernel) (by decide),
  fun d σ S l0 l1 l2 l4 l5 l6 l7 l8 l9 l10 l11 l12 x => ex_lload_n (show decode mX7_err.2.1 202 = .ok (.lload_n 3, 1) by decide +kernel) rfl,
  fun d σ S l0 l1 l2 l3 l4 l5 l6 l8 l9 l10 l11 l12 x => ex_lload (show decode mX7_err.2.1 203 = .ok (.lload 7, 2) by decide +kernel) rfl,
  fun d σ S l0 l1 l2 l3 l4 l5 l6 l7 l8 l9 l10 l11 l12 x y => ex_ldiv (show decode mX7_err.2.1 205 = .ok (.ldiv, 1) by decide +kernel),
  fun d σ S l0 l1 l2 l3 l4 l5 l6 l7 l8 l9 l10 l11 l12 => ex_goto (show decode mX7_err.2.1 206 = .ok (.goto 8, 3) by decide +kernel) (by decide),
  fun d σ S l0 l1 l2 l3 l4 l6 l7 l8 l9 l10 l11 l12 x => ex_lload (show decode mX7_err.2.1 209 = .ok (.lload 5, 2) by decide +kernel) rfl,
  fun d σ S l0 l1 l2 l3 l4 l5 l6 l8 l9 l10 l11 l12 x => ex_lload (show decode mX7_err.2.1 211 = .ok (.lload 7, 2) by decide +kernel) rfl,
  fun d σ S l0 l1 l2 l3 l4 l5 l6 l7 l8 l9 l10 l11 l12 x y => ex_ldiv (show decode mX7_err.2.1 213 = .ok (.ldiv, 1) by decide +kernel),
  fun d σ l0 l1 l2 l3 l4 l5 l6 l7 l8 l9 l10 l11 l12 x => ex_lret (show decode mX7_err.2.1 214 = .ok (.lreturn, 1) by decide +kernel) rfl⟩
theorem hX7_err_45 : ∀ (d : Nat) (σ : Sg) (S : List Value) (l0 l1 l2 l3 l4 l5 l6 l8 l9 l10 l11 l12 : Value) (x : Int32), exec d mX7_err 45 [l0, l1, l2, l3, l4, l5, l6, .int x, l8, l9, l10, l11, l12] S σ = exec d mX7_err 47 [l0, l1, l2, l3, l4, l5, l6, .int x, l8, l9, l10, l11, l12] (.int x :: S) σ := fun d σ S l0 l1 l2 l3 l4 l5 l6 l8 l9 l10 l11 l12 x => ex_iload (show decode mX7_err.2.1 45 = .ok (.iload 7, 2) by decide +kernel) rfl
theorem hX7_err_74 : ∀ (d : Nat) (σ : Sg) (S : List Value) (l0 l1 l2 l3 l4 l5 l6 l8 l9 l10 l11 l12 : Value) (x : Int32), exec d mX7_err 74 [l0, l1, l2, l3, l4, l5, l6, .int x, l8, l9, l10, l11, l12] S σ = exec d mX7_err 76 [l0, l1, l2, l3, l4, l5, l6, .int x, l8, l9, l10, l11, l12] (.int x :: S) σ := fun d σ S l0 l1 l2 l3 l4 l5 l6 l8 l9 l10 l11 l12 x => ex_iload (show decode mX7_err.2.1 74 = .ok (.iload 7, 2) by decide +kernel) rfl
theorem hX7_err_94 : ∀ (d : Nat) (σ : Sg) (S : List Value) (l0 l1 l2 l3 l4 l5 l6 l7 l8 l9 l11 l12 : Value) (x : Int32), exec d mX7_err 94 [l0, l1, l2, l3, l4, l5, l6, l7, l8, l9, .int x, l11, l12] S σ = exec d mX7_err 96 [l0, l1, l2, l3, l4, l5, l6, l7, l8, l9, .int x, l11, l12] (.int x :: S) σ := fun d σ S l0 l1 l2 l3 l4 l5 l6 l7 l8 l9 l11 l12 x => ex_iload (show decode mX7_err.2.1 94 = .ok (.iload 10, 2) by decide +kernel) rfl
theorem hX7_err_173 : ∀ (d : Nat) (σ : Sg) (S : List Value) (l0 l1 l2 l3 l4 l5 l6 l7 l8 l10 l11 l12 : Value) (x : Int64), exec d mX7_err 173 [l0, l1, l2, l3, l4, l5, l6, l7, l8, .long x, l10, l11, l12] S σ = exec d mX7_err 175 [l0, l1, l2, l3, l4, l5, l6, l7, l8, .long x, l10, l11, l12] (.long x :: S) σ := fun d σ S l0 l1 l2 l3 l4 l5 l6 l7 l8 l10 l11 l12 x => ex_lload (show decode mX7_err.2.1 173 = .ok (.lload 9, 2) by decide +kernel) rfl
theorem aX7_err_50 : ∀ (d : Nat) (a1 : Int32) (a2 : Int32) (σ : Sg), cal (d + 1) mX7_err [.ref 50, .int a1, .int a2] σ = exec d mX7_err 0 [.ref 50, .int a1, .int a2, uu, uu, uu, uu, uu, uu, uu, uu, uu, uu] [] σ := fun _ _ _ _ => rfl
theorem kX7_worth : (∀ (d : Nat) (σ : Sg) (S : List Value) (l1 : Value) (k : Nat), exec d mX7_worth 0 [.ref k, l1] S σ = exec d mX7_worth 1 [.ref k, l1] (.ref k :: S) σ) ∧
  (∀ (d : Nat) (σ : Sg) (l0 l1 : Value), exec d mX7_worth 1 [l0, l1] [.ref 50] σ = kb (cal d mX7_isTrial [.ref 50] σ) (fun rs σ2 => exec d mX7_worth 4 [l0, l1] (rs ++ []) σ2)) ∧
  (∀ (d : Nat) (σ : Sg) (S : List Value) (l0 l1 : Value) (x : Int32), exec d mX7_worth 4 [l0, l1] (.int x :: S) σ = if x = nI 0 then exec d mX7_worth 7 [l0, l1] S σ else exec d mX7_worth 10 [l0, l1] S σ) ∧
  (∀ (d : Nat) (σ : Sg) (S : List Value) (l0 l1 : Value), exec d mX7_worth 7 [l0, l1] S σ = exec d mX7_worth 9 [l0, l1] (.int ((-1000002)) :: S) σ) ∧
  (∀ (d : Nat) (σ : Sg) (l0 l1 : Value) (x : Int32), exec d mX7_worth 9 [l0, l1] [.int x] σ = some (some (.int x), σ)) ∧
  (∀ (d : Nat) (σ : Sg) (S : List Value) (l0 : Value) (x : Int32), exec d mX7_worth 10 [l0, .int x] S σ = exec d mX7_worth 11 [l0, .int x] (.int x :: S) σ) ∧
  (∀ (d : Nat) (σ : Sg) (S : List Value) (l0 l1 : Value) (x : Int32), exec d mX7_worth 11 [l0, l1] (.int x :: S) σ = exec d mX7_worth 12 [l0, l1] (.long x.toInt64 :: S) σ) ∧
  (∀ (d : Nat) (σ : Sg) (S : List Value) (l0 l1 : Value), exec d mX7_worth 12 [l0, l1] S σ = exec d mX7_worth 13 [l0, l1] (.long (lN 0) :: S) σ) ∧
  (∀ (d : Nat) (σ : Sg) (S : List Value) (l0 l1 : Value), exec d mX7_worth 13 [l0, l1] S σ = exec d mX7_worth 16 [l0, l1] (.long (lN 20) :: S) σ) ∧
  (∀ (d : Nat) (σ : Sg) (l0 l1 : Value) (x0 x1 x2 : Int64), exec d mX7_worth 16 [l0, l1] [.long x0, .long x1, .long x2] σ = kb (cal d mX7_in [.long x2, .long x1, .long x0] σ) (fun rs σ2 => exec d mX7_worth 19 [l0, l1] (rs ++ []) σ2)) ∧
  (∀ (d : Nat) (σ : Sg) (S : List Value) (l0 l1 : Value) (x : Int32), exec d mX7_worth 19 [l0, l1] (.int x :: S) σ = if x = nI 0 then exec d mX7_worth 22 [l0, l1] S σ else exec d mX7_worth 25 [l0, l1] S σ) ∧
  (∀ (d : Nat) (σ : Sg) (S : List Value) (l0 l1 : Value), exec d mX7_worth 22 [l0, l1] S σ = exec d mX7_worth 24 [l0, l1] (.int ((-1000001)) :: S) σ) ∧
  (∀ (d : Nat) (σ : Sg) (l0 l1 : Value) (x : Int32), exec d mX7_worth 24 [l0, l1] [.int x] σ = some (some (.int x), σ)) ∧
  (∀ (d : Nat) (σ : Sg) (S : List Value) (l1 : Value) (k : Nat), exec d mX7_worth 25 [.ref k, l1] S σ = exec d mX7_worth 26 [.ref k, l1] (.ref k :: S) σ) ∧
  (∀ (d : Nat) (σ : Sg) (S : List Value) (l0 : Value) (x : Int32), exec d mX7_worth 26 [l0, .int x] S σ = exec d mX7_worth 27 [l0, .int x] (.int x :: S) σ) ∧
  (∀ (d : Nat) (σ : Sg) (l0 l1 : Value) (x0 : Int32), exec d mX7_worth 27 [l0, l1] [.int x0, .ref 50] σ = kb (cal d mX7_findFewest [.ref 50, .int x0] σ) (fun rs σ2 => exec d mX7_worth 30 [l0, l1] (rs ++ []) σ2)) ∧
  (∀ (d : Nat) (σ : Sg) (S : List Value) (l1 : Value) (k : Nat), exec d mX7_worth 30 [.ref k, l1] S σ = exec d mX7_worth 31 [.ref k, l1] (.ref k :: S) σ) ∧
  (∀ (d : Nat) (σ : Sg) (S : List Value) (l0 l1 : Value), exec d mX7_worth 31 [l0, l1] (.ref 50 :: S) σ = exec d mX7_worth 34 [l0, l1] (.int (σ 50 22) :: S) σ) ∧
  (∀ (d : Nat) (σ : Sg) (S : List Value) (l0 l1 : Value), exec d mX7_worth 34 [l0, l1] S σ = exec d mX7_worth 36 [l0, l1] (.int (nI 1000000) :: S) σ) ∧
  (∀ (d : Nat) (σ : Sg) (S : List Value) (l0 l1 : Value) (x y : Int32), exec d mX7_worth 36 [l0, l1] (.int y :: .int x :: S) σ = if x = y then exec d mX7_worth 39 [l0, l1] S σ else exec d mX7_worth 44 [l0, l1] S σ) ∧
  (∀ (d : Nat) (σ : Sg) (S : List Value) (l0 l1 : Value), exec d mX7_worth 39 [l0, l1] S σ = exec d mX7_worth 41 [l0, l1] (.int ((-1000000)) :: S) σ) ∧
  (∀ (d : Nat) (σ : Sg) (S : List Value) (l0 l1 : Value), exec d mX7_worth 41 [l0, l1] S σ = exec d mX7_worth 48 [l0, l1] S σ) ∧
  (∀ (d : Nat) (σ : Sg) (S : List Value) (l1 : Value) (k : Nat), exec d mX7_worth 44 [.ref k, l1] S σ = exec d mX7_worth 45 [.ref k, l1] (.ref k :: S) σ) ∧
  (∀ (d : Nat) (σ : Sg) (S : List Value) (l0 l1 : Value), exec d mX7_worth 45 [l0, l1] (.ref 50 :: S) σ = exec d mX7_worth 48 [l0, l1] (.int (σ 50 22) :: S) σ) ∧
  (∀ (d : Nat) (σ : Sg) (l0 l1 : Value) (x : Int32), exec d mX7_worth 48 [l0, l1] [.int x] σ = some (some (.int x), σ)) :=
  ⟨fun d σ S l1 k => ex_aload_n (show decode mX7_worth.2.1 0 = .ok (.aload_n 0, 1) by decide +kernel) rfl,
  fun d σ l0 l1 => ex_iv (hs := [1074, 1076, 74, 1077, 101]) (show decode mX7_worth.2.1 1 = .ok (.invokevirtual 188, 3) by decide +kernel) lkV_7_188 ⟨rfl, Nat.le_of_ble_eq_true rfl, Nat.le_of_ble_eq_true rfl, fun _ => rfl⟩ rfl rfl,
  fun d σ S l0 l1 x => ex_zne (show decode mX7_worth.2.1 4 = .ok (.ifCond .ne 6, 3) by decide +kernel) (by decide),
  fun d σ S l0 l1 => ex_ldc (hh := 1009) (show decode mX7_worth.2.1 7 = .ok (.ldc 171, 2) by decide +kernel) (by decide +kernel),
  fun d σ l0 l1 x => ex_iret (show decode mX7_worth.2.1 9 = .ok (.ireturn, 1) by decide +kernel) rfl,
  fun d σ S l0 x => ex_iload_n (show decode mX7_worth.2.1 10 = .ok (.iload_n 1, 1) by decide +kernel) rfl,
  fun d σ S l0 l1 x => ex_i2l (show decode mX7_worth.2.1 11 = .ok (.i2l, 1) by decide +kernel),
  fun d σ S l0 l1 => ex_lconst (show decode mX7_worth.2.1 12 = .ok (.lconst 0, 1) by decide +kernel) (by decide +kernel),
  fun d σ S l0 l1 => ex_ldc2 (hh := 1078) (show decode mX7_worth.2.1 13 = .ok (.ldc2_w 191, 3) by decide +kernel) (by decide +kernel),
  fun d σ l0 l1 x0 x1 x2 => ex_is (hs := [920, 921, 922, 101]) (show decode mX7_worth.2.1 16 = .ok (.invokestatic 63, 3) by decide +kernel) lkS_7_63 ⟨rfl, Nat.le_of_ble_eq_true rfl, Nat.le_of_ble_eq_true rfl, fun q => nomatch q⟩ rfl rfl,
  fun d σ S l0 l1 x => ex_zne (show decode mX7_worth.2.1 19 = .ok (.ifCond .ne 6, 3) by decide +kernel) (by decide),
  fun d σ S l0 l1 => ex_ldc (hh := 924) (show decode mX7_worth.2.1 22 = .ok (.ldc 73, 2) by decide +kernel) (by decide +kernel),
  fun d σ l0 l1 x => ex_iret (show decode mX7_worth.2.1 24 = .ok (.ireturn, 1) by decide +kernel) rfl,
  fun d σ S l1 k => ex_aload_n (show decode mX7_worth.2.1 25 = .ok (.aload_n 0, 1) by decide +kernel) rfl,
  fun d σ S l0 x => ex_iload_n (show decode mX7_worth.2.1 26 = .ok (.iload_n 1, 1) by decide +kernel) rfl,
  fun d σ l0 l1 x0 => ex_iv (hs := [1128, 1130, 81, 1131, 101]) (show decode mX7_worth.2.1 27 = .ok (.invokevirtual 235, 3) by decide +kernel) lkV_7_235 ⟨rfl, Nat.le_of_ble_eq_true rfl, Nat.le_of_ble_eq_true rfl, fun _ => rfl⟩ rfl rfl,
  fun d σ S l1 k => ex_aload_n (show decode mX7_worth.2.1 30 = .ok (.aload_n 0, 1) by decide +kernel) rfl,
  fun d σ S l0 l1 => ex_get (idx := 219) (ci := 7) (ff := 22) (n := 26) (hh := 855) (by decide +kernel),
  fun d σ S l0 l1 => ex_ldc (hh := 1132) (show decode mX7_worth.2.1 34 = .ok (.ldc 218, 2) by decide +kernel) (by decide +kernel),
  fun d σ S l0 l1 x y => ex_cne (show decode mX7_worth.2.1 36 = .ok (.if_icmp .ne 8, 3) by decide +kernel) (by decide),
  fun d σ S l0 l1 => ex_ldc (hh := 1087) (show decode mX7_worth.2.1 39 = .ok (.ldc 205, 2) by decide +kernel) (by decide +kernel),
  fun d σ S l0 l1 => ex_goto (show decode mX7_worth.2.1 41 = .ok (.goto 7, 3) by decide +kernel) (by decide),
  fun d σ S l1 k => ex_aload_n (show decode mX7_worth.2.1 44 = .ok (.aload_n 0, 1) by decide +kernel) rfl,
  fun d σ S l0 l1 => ex_get (idx := 219) (ci := 7) (ff := 22) (n := 26) (hh := 855) (by decide +kernel),
  fun d σ l0 l1 x => ex_iret (show decode mX7_worth.2.1 48 = .ok (.ireturn, 1) by decide +kernel) rfl⟩
theorem aX7_worth_50 : ∀ (d : Nat) (a1 : Int32) (σ : Sg), cal (d + 1) mX7_worth [.ref 50, .int a1] σ = exec d mX7_worth 0 [.ref 50, .int a1] [] σ := fun _ _ _ => rfl
theorem kX7_drawn_0 : (∀ (d : Nat) (σ : Sg) (S : List Value) (l1 l2 l3 l4 l5 l6 l7 : Value) (k : Nat), exec d mX7_drawn 0 [.ref k, l1, l2, l3, l4, l5, l6, l7] S σ = exec d mX7_drawn 1 [.ref k, l1, l2, l3, l4, l5, l6, l7] (.ref k :: S) σ) ∧
  (∀ (d : Nat) (σ : Sg) (l0 l1 l2 l3 l4 l5 l6 l7 : Value), exec d mX7_drawn 1 [l0, l1, l2, l3, l4, l5, l6, l7] [.ref 50] σ = kb (cal d mX7_isTrial [.ref 50] σ) (fun rs σ2 => exec d mX7_drawn 4 [l0, l1, l2, l3, l4, l5, l6, l7] (rs ++ []) σ2)) ∧
  (∀ (d : Nat) (σ : Sg) (S : List Value) (l0 l1 l2 l3 l4 l5 l6 l7 : Value) (x : Int32), exec d mX7_drawn 4 [l0, l1, l2, l3, l4, l5, l6, l7] (.int x :: S) σ = if x = nI 0 then exec d mX7_drawn 7 [l0, l1, l2, l3, l4, l5, l6, l7] S σ else exec d mX7_drawn 10 [l0, l1, l2, l3, l4, l5, l6, l7] S σ) ∧
  (∀ (d : Nat) (σ : Sg) (S : List Value) (l0 l1 l2 l3 l4 l5 l6 l7 : Value), exec d mX7_drawn 7 [l0, l1, l2, l3, l4, l5, l6, l7] S σ = exec d mX7_drawn 9 [l0, l1, l2, l3, l4, l5, l6, l7] (.int ((-1000002)) :: S) σ) ∧
  (∀ (d : Nat) (σ : Sg) (l0 l1 l2 l3 l4 l5 l6 l7 : Value) (x : Int32), exec d mX7_drawn 9 [l0, l1, l2, l3, l4, l5, l6, l7] [.int x] σ = some (some (.int x), σ)) ∧
  (∀ (d : Nat) (σ : Sg) (S : List Value) (l0 l2 l3 l4 l5 l6 l7 : Value) (x : Int32), exec d mX7_drawn 10 [l0, .int x, l2, l3, l4, l5, l6, l7] S σ = exec d mX7_drawn 11 [l0, .int x, l2, l3, l4, l5, l6, l7] (.int x :: S) σ) ∧
  (∀ (d : Nat) (σ : Sg) (S : List Value) (l0 l1 l2 l3 l4 l5 l6 l7 : Value) (x : Int32), exec d mX7_drawn 11 [l0, l1, l2, l3, l4, l5, l6, l7] (.int x :: S) σ = exec d mX7_drawn 12 [l0, l1, l2, l3, l4, l5, l6, l7] (.long x.toInt64 :: S) σ) ∧
  (∀ (d : Nat) (σ : Sg) (S : List Value) (l0 l1 l2 l3 l4 l5 l6 l7 : Value), exec d mX7_drawn 12 [l0, l1, l2, l3, l4, l5, l6, l7] S σ = exec d mX7_drawn 13 [l0, l1, l2, l3, l4, l5, l6, l7] (.long (lN 0) :: S) σ) ∧
  (∀ (d : Nat) (σ : Sg) (S : List Value) (l0 l1 l2 l3 l4 l5 l6 l7 : Value), exec d mX7_drawn 13 [l0, l1, l2, l3, l4, l5, l6, l7] S σ = exec d mX7_drawn 16 [l0, l1, l2, l3, l4, l5, l6, l7] (.long (lN 30) :: S) σ) ∧
  (∀ (d : Nat) (σ : Sg) (l0 l1 l2 l3 l4 l5 l6 l7 : Value) (x0 x1 x2 : Int64), exec d mX7_drawn 16 [l0, l1, l2, l3, l4, l5, l6, l7] [.long x0, .long x1, .long x2] σ = kb (cal d mX7_in [.long x2, .long x1, .long x0] σ) (fun rs σ2 => exec d mX7_drawn 19 [l0, l1, l2, l3, l4, l5, l6, l7] (rs ++ []) σ2)) ∧
  (∀ (d : Nat) (σ : Sg) (S : List Value) (l0 l1 l2 l3 l4 l5 l6 l7 : Value) (x : Int32), exec d mX7_drawn 19 [l0, l1, l2, l3, l4, l5, l6, l7] (.int x :: S) σ = if x = nI 0 then exec d mX7_drawn 44 [l0, l1, l2, l3, l4, l5, l6, l7] S σ else exec d mX7_drawn 22 [l0, l1, l2, l3, l4, l5, l6, l7] S σ) ∧
  (∀ (d : Nat) (σ : Sg) (S : List Value) (l0 l1 l3 l4 l5 l6 l7 : Value) (x : Int32), exec d mX7_drawn 22 [l0, l1, .int x, l3, l4, l5, l6, l7] S σ = exec d mX7_drawn 23 [l0, l1, .int x, l3, l4, l5, l6, l7] (.int x :: S) σ) ∧
  (∀ (d : Nat) (σ : Sg) (S : List Value) (l0 l1 l2 l3 l4 l5 l6 l7 : Value) (x : Int32), exec d mX7_drawn 23 [l0, l1, l2, l3, l4, l5, l6, l7] (.int x :: S) σ = exec d mX7_drawn 24 [l0, l1, l2, l3, l4, l5, l6, l7] (.long x.toInt64 :: S) σ) ∧
  (∀ (d : Nat) (σ : Sg) (S : List Value) (l0 l1 l2 l3 l4 l5 l6 l7 : Value), exec d mX7_drawn 24 [l0, l1, l2, l3, l4, l5, l6, l7] S σ = exec d mX7_drawn 25 [l0, l1, l2, l3, l4, l5, l6, l7] (.long (lN 1) :: S) σ) ∧
  (∀ (d : Nat) (σ : Sg) (S : List Value) (l0 l1 l2 l3 l4 l5 l6 l7 : Value), exec d mX7_drawn 25 [l0, l1, l2, l3, l4, l5, l6, l7] S σ = exec d mX7_drawn 28 [l0, l1, l2, l3, l4, l5, l6, l7] (.long (lN 999999) :: S) σ) ∧
  (∀ (d : Nat) (σ : Sg) (l0 l1 l2 l3 l4 l5 l6 l7 : Value) (x0 x1 x2 : Int64), exec d mX7_drawn 28 [l0, l1, l2, l3, l4, l5, l6, l7] [.long x0, .long x1, .long x2] σ = kb (cal d mX7_in [.long x2, .long x1, .long x0] σ) (fun rs σ2 => exec d mX7_drawn 31 [l0, l1, l2, l3, l4, l5, l6, l7] (rs ++ []) σ2)) ∧
  (∀ (d : Nat) (σ : Sg) (S : List Value) (l0 l1 l2 l3 l4 l5 l6 l7 : Value) (x : Int32), exec d mX7_drawn 31 [l0, l1, l2, l3, l4, l5, l6, l7] (.int x :: S) σ = if x = nI 0 then exec d mX7_drawn 44 [l0, l1, l2, l3, l4, l5, l6, l7] S σ else exec d mX7_drawn 34 [l0, l1, l2, l3, l4, l5, l6, l7] S σ) ∧
  (∀ (d : Nat) (σ : Sg) (S : List Value) (l0 l1 l2 l4 l5 l6 l7 : Value) (x : Int32), exec d mX7_drawn 34 [l0, l1, l2, .int x, l4, l5, l6, l7] S σ = exec d mX7_drawn 35 [l0, l1, l2, .int x, l4, l5, l6, l7] (.int x :: S) σ) ∧
  (∀ (d : Nat) (σ : Sg) (S : List Value) (l0 l1 l2 l3 l4 l5 l6 l7 : Value) (x : Int32), exec d mX7_drawn 35 [l0, l1, l2, l3, l4, l5, l6, l7] (.int x :: S) σ = exec d mX7_drawn 36 [l0, l1, l2, l3, l4, l5, l6, l7] (.long x.toInt64 :: S) σ) ∧
  (∀ (d : Nat) (σ : Sg) (S : List Value) (l0 l1 l2 l3 l4 l5 l6 l7 : Value), exec d mX7_drawn 36 [l0, l1, l2, l3, l4, l5, l6, l7] S σ = exec d mX7_drawn 37 [l0, l1, l2, l3, l4, l5, l6, l7] (.long (lN 0) :: S) σ) ∧
  (∀ (d : Nat) (σ : Sg) (S : List Value) (l0 l1 l2 l3 l4 l5 l6 l7 : Value), exec d mX7_drawn 37 [l0, l1, l2, l3, l4, l5, l6, l7] S σ = exec d mX7_drawn 38 [l0, l1, l2, l3, l4, l5, l6, l7] (.long (lN 1) :: S) σ) ∧
  (∀ (d : Nat) (σ : Sg) (l0 l1 l2 l3 l4 l5 l6 l7 : Value) (x0 x1 x2 : Int64), exec d mX7_drawn 38 [l0, l1, l2, l3, l4, l5, l6, l7] [.long x0, .long x1, .long x2] σ = kb (cal d mX7_in [.long x2, .long x1, .long x0] σ) (fun rs σ2 => exec d mX7_drawn 41 [l0, l1, l2, l3, l4, l5, l6, l7] (rs ++ []) σ2)) ∧
  (∀ (d : Nat) (σ : Sg) (S : List Value) (l0 l1 l2 l3 l4 l5 l6 l7 : Value) (x : Int32), exec d mX7_drawn 41 [l0, l1, l2, l3, l4, l5, l6, l7] (.int x :: S) σ = if x = nI 0 then exec d mX7_drawn 44 [l0, l1, l2, l3, l4, l5, l6, l7] S σ else exec d mX7_drawn 47 [l0, l1, l2, l3, l4, l5, l6, l7] S σ) ∧
  (∀ (d : Nat) (σ : Sg) (S : List Value) (l0 l1 l2 l3 l4 l5 l6 l7 : Value), exec d mX7_drawn 44 [l0, l1, l2, l3, l4, l5, l6, l7] S σ = exec d mX7_drawn 46 [l0, l1, l2, l3, l4, l5, l6, l7] (.int ((-1000001)) :: S) σ) ∧
  (∀ (d : Nat) (σ : Sg) (l0 l1 l2 l3 l4 l5 l6 l7 : Value) (x : Int32), exec d mX7_drawn 46 [l0, l1, l2, l3, l4, l5, l6, l7] [.int x] σ = some (some (.int x), σ)) ∧
  (∀ (d : Nat) (σ : Sg) (S : List Value) (l0 l1 l2 l3 l4 l5 l6 l7 : Value), exec d mX7_drawn 47 [l0, l1, l2, l3, l4, l5, l6, l7] S σ = exec d mX7_drawn 48 [l0, l1, l2, l3, l4, l5, l6, l7] (.int (nI 0) :: S) σ) ∧
  (∀ (d : Nat) (σ : Sg) (S : List Value) (l0 l1 l2 l4 l5 l6 l7 : Value) (x y : Int32), exec d mX7_drawn 48 [l0, l1, l2, .int y, l4, l5, l6, l7] (.int x :: S) σ = exec d mX7_drawn 50 [l0, l1, l2, .int y, .int x, l5, l6, l7] S σ) ∧
  (∀ (d : Nat) (σ : Sg) (S : List Value) (l0 l1 l2 l3 l4 l5 l6 l7 : Value), exec d mX7_drawn 52 [l0, l1, l2, l3, l4, l5, l6, l7] S σ = exec d mX7_drawn 54 [l0, l1, l2, l3, l4, l5, l6, l7] (.int (nI 6) :: S) σ) ∧
  (∀ (d : Nat) (σ : Sg) (S : List Value) (l0 l1 l2 l3 l4 l5 l6 l7 : Value) (x y : Int32), exec d mX7_drawn 54 [l0, l1, l2, l3, l4, l5, l6, l7] (.int y :: .int x :: S) σ = if y ≤ x then exec d mX7_drawn 77 [l0, l1, l2, l3, l4, l5, l6, l7] S σ else exec d mX7_drawn 57 [l0, l1, l2, l3, l4, l5, l6, l7] S σ) ∧
  (∀ (d : Nat) (σ : Sg) (S : List Value) (l1 l2 l3 l4 l5 l6 l7 : Value) (k : Nat), exec d mX7_drawn 57 [.ref k, l1, l2, l3, l4, l5, l6, l7] S σ = exec d mX7_drawn 58 [.ref k, l1, l2, l3, l4, l5, l6, l7] (.ref k :: S) σ) ∧
  (∀ (d : Nat) (σ : Sg) (S : List Value) (l0 l1 l2 l3 l4 l5 l6 l7 : Value), exec d mX7_drawn 58 [l0, l1, l2, l3, l4, l5, l6, l7] (.ref 50 :: S) σ = exec d mX7_drawn 61 [l0, l1, l2, l3, l4, l5, l6, l7] (.ref 59 :: S) σ) ∧
  (∀ (d : Nat) (σ : Sg) (S : List Value) (l0 l1 l2 l3 l5 l6 l7 : Value) (x : Int32), exec d mX7_drawn 61 [l0, l1, l2, l3, .int x, l5, l6, l7] S σ = exec d mX7_drawn 63 [l0, l1, l2, l3, .int x, l5, l6, l7] (.int x :: S) σ) ∧
  (∀ (d : Nat) (σ : Sg) (S : List Value) (l1 l2 l3 l4 l5 l6 l7 : Value) (k : Nat), exec d mX7_drawn 63 [.ref k, l1, l2, l3, l4, l5, l6, l7] S σ = exec d mX7_drawn 64 [.ref k, l1, l2, l3, l4, l5, l6, l7] (.ref k :: S) σ) ∧
  (∀ (d : Nat) (σ : Sg) (S : List Value) (l0 l1 l2 l3 l4 l5 l6 l7 : Value), exec d mX7_drawn 64 [l0, l1, l2, l3, l4, l5, l6, l7] (.ref 50 :: S) σ = exec d mX7_drawn 67 [l0, l1, l2, l3, l4, l5, l6, l7] (.ref 51 :: S) σ) ∧
  (∀ (d : Nat) (σ : Sg) (S : List Value) (l0 l1 l2 l3 l5 l6 l7 : Value) (x : Int32), exec d mX7_drawn 67 [l0, l1, l2, l3, .int x, l5, l6, l7] S σ = exec d mX7_drawn 69 [l0, l1, l2, l3, .int x, l5, l6, l7] (.int x :: S) σ) ∧
  (∀ (d : Nat) (σ : Sg) (S : List Value) (l0 l1 l2 l3 l4 l5 l6 l7 : Value) (x : Int32), exec d mX7_drawn 69 [l0, l1, l2, l3, l4, l5, l6, l7] (.int x :: .ref 51 :: S) σ = if inb x 208 = true then exec d mX7_drawn 70 [l0, l1, l2, l3, l4, l5, l6, l7] (.int (σ 51 x.toNatClampNeg) :: S) σ else none) ∧
  (∀ (d : Nat) (σ : Sg) (S : List Value) (l0 l1 l2 l3 l4 l5 l6 l7 : Value) (x y : Int32), exec d mX7_drawn 70 [l0, l1, l2, l3, l4, l5, l6, l7] (.int y :: .int x :: .ref 59 :: S) σ = if inb x 40 = true then exec d mX7_drawn 71 [l0, l1, l2, l3, l4, l5, l6, l7] S (up σ 59 x.toNatClampNeg y) else none) ∧
  (∀ (d : Nat) (σ : Sg) (S : List Value) (l0 l1 l2 l5 l6 l7 : Value) (x y : Int32), exec d mX7_drawn 71 [l0, l1, l2, .int y, .int x, l5, l6, l7] S σ = exec d mX7_drawn 74 [l0, l1, l2, .int y, .int (x + nI 1), l5, l6, l7] S σ) ∧
  (∀ (d : Nat) (σ : Sg) (S : List Value) (l0 l1 l2 l3 l4 l5 l6 l7 : Value), exec d mX7_drawn 74 [l0, l1, l2, l3, l4, l5, l6, l7] S σ = exec d mX7_drawn 50 [l0, l1, l2, l3, l4, l5, l6, l7] S σ) ∧
  (∀ (d : Nat) (σ : Sg) (S : List Value) (l0 l1 l3 l4 l5 l6 l7 : Value) (x : Int32), exec d mX7_drawn 77 [l0, l1, .int x, l3, l4, l5, l6, l7] S σ = exec d mX7_drawn 78 [l0, l1, .int x, l3, l4, l5, l6, l7] (.int x :: S) σ) :=
  ⟨fun d σ S l1 l2 l3 l4 l5 l6 l7 k => ex_aload_n (show decode mX7_drawn.2.1 0 = .ok (.aload_n 0, 1) by decide +kernel) rfl,
  fun d σ l0 l1 l2 l3 l4 l5 l6 l7 => ex_iv (hs := [1074, 1076, 74, 1077, 101]) (show decode mX7_drawn.2.1 1 = .ok (.invokevirtual 188, 3) by decide +kernel) lkV_7_188 ⟨rfl, Nat.le_of_ble_eq_true rfl, Nat.le_of_ble_eq_true rfl, fun _ => rfl⟩ rfl rfl,
  fun d σ S l0 l1 l2 l3 l4 l5 l6 l7 x => ex_zne (show decode mX7_drawn.2.1 4 = .ok (.ifCond .ne 6, 3) by decide +kernel) (by decide),
  fun d σ S l0 l1 l2 l3 l4 l5 l6 l7 => ex_ldc (hh := 1009) (show decode mX7_drawn.2.1 7 = .ok (.ldc 171, 2) by decide +kernel) (by decide +kernel),
  fun d σ l0 l1 l2 l3 l4 l5 l6 l7 x => ex_iret (show decode mX7_drawn.2.1 9 = .ok (.ireturn, 1) by decide +kernel) rfl,
  fun d σ S l0 l2 l3 l4 l5 l6 l7 x => ex_iload_n (show decode mX7_drawn.2.1 10 = .ok (.iload_n 1, 1) by decide +kernel) rfl,
  fun d σ S l0 l1 l2 l3 l4 l5 l6 l7 x => ex_i2l (show decode mX7_drawn.2.1 11 = .ok (.i2l, 1) by decide +kernel),
  fun d σ S l0 l1 l2 l3 l4 l5 l6 l7 => ex_lconst (show decode mX7_drawn.2.1 12 = .ok (.lconst 0, 1) by decide +kernel) (by decide +kernel),
  fun d σ S l0 l1 l2 l3 l4 l5 l6 l7 => ex_ldc2 (hh := 1193) (show decode mX7_drawn.2.1 13 = .ok (.ldc2_w 252, 3) by decide +kernel) (by decide +kernel),
  fun d σ l0 l1 l2 l3 l4 l5 l6 l7 x0 x1 x2 => ex_is (hs := [920, 921, 922, 101]) (show decode mX7_drawn.2.1 16 = .ok (.invokestatic 63, 3) by decide +kernel) lkS_7_63 ⟨rfl, Nat.le_of_ble_eq_true rfl, Nat.le_of_ble_eq_true rfl, fun q => nomatch q⟩ rfl rfl,
  fun d σ S l0 l1 l2 l3 l4 l5 l6 l7 x => ex_zeq (show decode mX7_drawn.2.1 19 = .ok (.ifCond .eq 25, 3) by decide +kernel) (by decide),
  fun d σ S l0 l1 l3 l4 l5 l6 l7 x => ex_iload_n (show decode mX7_drawn.2.1 22 = .ok (.iload_n 2, 1) by decide +kernel) rfl,
  fun d σ S l0 l1 l2 l3 l4 l5 l6 l7 x => ex_i2l (show decode mX7_drawn.2.1 23 = .ok (.i2l, 1) by decide +kernel),
  fun d σ S l0 l1 l2 l3 l4 l5 l6 l7 => ex_lconst (show decode mX7_drawn.2.1 24 = .ok (.lconst 1, 1) by decide +kernel) (by decide +kernel),
  fun d σ S l0 l1 l2 l3 l4 l5 l6 l7 => ex_ldc2 (hh := 1194) (show decode mX7_drawn.2.1 25 = .ok (.ldc2_w 254, 3) by decide +kernel) (by decide +kernel),
  fun d σ l0 l1 l2 l3 l4 l5 l6 l7 x0 x1 x2 => ex_is (hs := [920, 921, 922, 101]) (show decode mX7_drawn.2.1 28 = .ok (.invokestatic 63, 3) by decide +kernel) lkS_7_63 ⟨rfl, Nat.le_of_ble_eq_true rfl, Nat.le_of_ble_eq_true rfl, fun q => nomatch q⟩ rfl rfl,
  fun d σ S l0 l1 l2 l3 l4 l5 l6 l7 x => ex_zeq (show decode mX7_drawn.2.1 31 = .ok (.ifCond .eq 13, 3) by decide +kernel) (by decide),
  fun d σ S l0 l1 l2 l4 l5 l6 l7 x => ex_iload_n (show decode mX7_drawn.2.1 34 = .ok (.iload_n 3, 1) by decide +kernel) rfl,
  fun d σ S l0 l1 l2 l3 l4 l5 l6 l7 x => ex_i2l (show decode mX7_drawn.2.1 35 = .ok (.i2l, 1) by decide +kernel),
  fun d σ S l0 l1 l2 l3 l4 l5 l6 l7 => ex_lconst (show decode mX7_drawn.2.1 36 = .ok (.lconst 0, 1) by decide +kernel) (by decide +kernel),
  fun d σ S l0 l1 l2 l3 l4 l5 l6 l7 => ex_lconst (show decode mX7_drawn.2.1 37 = .ok (.lconst 1, 1) by decide +kernel) (by decide +kernel),
  fun d σ l0 l1 l2 l3 l4 l5 l6 l7 x0 x1 x2 => ex_is (hs := [920, 921, 922, 101]) (show decode mX7_drawn.2.1 38 = .ok (.invokestatic 63, 3) by decide +kernel) lkS_7_63 ⟨rfl, Nat.le_of_ble_eq_true rfl, Nat.le_of_ble_eq_true rfl, fun q => nomatch q⟩ rfl rfl,
  fun d σ S l0 l1 l2 l3 l4 l5 l6 l7 x => ex_zne (show decode mX7_drawn.2.1 41 = .ok (.ifCond .ne 6, 3) by decide +kernel) (by decide),
  fun d σ S l0 l1 l2 l3 l4 l5 l6 l7 => ex_ldc (hh := 924) (show decode mX7_drawn.2.1 44 = .ok (.ldc 73, 2) by decide +kernel) (by decide +kernel),
  fun d σ l0 l1 l2 l3 l4 l5 l6 l7 x => ex_iret (show decode mX7_drawn.2.1 46 = .ok (.ireturn, 1) by decide +kernel) rfl,
  fun d σ S l0 l1 l2 l3 l4 l5 l6 l7 => ex_iconst (show decode mX7_drawn.2.1 47 = .ok (.iconst 0, 1) by decide +kernel) (by decide +kernel),
  fun d σ S l0 l1 l2 l4 l5 l6 l7 x y => ex_istore (show decode mX7_drawn.2.1 48 = .ok (.istore 4, 2) by decide +kernel) (Nat.le_of_ble_eq_true rfl) rfl,
  fun d σ S l0 l1 l2 l3 l4 l5 l6 l7 => ex_bipush (show decode mX7_drawn.2.1 52 = .ok (.bipush 6, 2) by decide +kernel) (by decide +kernel),
  fun d σ S l0 l1 l2 l3 l4 l5 l6 l7 x y => ex_cge (show decode mX7_drawn.2.1 54 = .ok (.if_icmp .ge 23, 3) by decide +kernel) (by decide),
  fun d σ S l1 l2 l3 l4 l5 l6 l7 k => ex_aload_n (show decode mX7_drawn.2.1 57 = .ok (.aload_n 0, 1) by decide +kernel) rfl,
  fun d σ S l0 l1 l2 l3 l4 l5 l6 l7 => ex_getr (idx := 35) (ci := 7) (ff := 13) (n := 26) (hh := 846) (by decide +kernel),
  fun d σ S l0 l1 l2 l3 l5 l6 l7 x => ex_iload (show decode mX7_drawn.2.1 61 = .ok (.iload 4, 2) by decide +kernel) rfl,
  fun d σ S l1 l2 l3 l4 l5 l6 l7 k => ex_aload_n (show decode mX7_drawn.2.1 63 = .ok (.aload_n 0, 1) by decide +kernel) rfl,
  fun d σ S l0 l1 l2 l3 l4 l5 l6 l7 => ex_getr (idx := 7) (ci := 7) (ff := 0) (n := 26) (hh := 833) (by decide +kernel),
  fun d σ S l0 l1 l2 l3 l5 l6 l7 x => ex_iload (show decode mX7_drawn.2.1 67 = .ok (.iload 4, 2) by decide +kernel) rfl,
  fun d σ S l0 l1 l2 l3 l4 l5 l6 l7 x => ex_iald (by decide +kernel),
  fun d σ S l0 l1 l2 l3 l4 l5 l6 l7 x y => ex_iast (by decide +kernel),
  fun d σ S l0 l1 l2 l5 l6 l7 x y => ex_iinc (show decode mX7_drawn.2.1 71 = .ok (.iinc 4 1, 3) by decide +kernel) rfl (by decide +kernel) (Nat.le_of_ble_eq_true rfl) rfl,
  fun d σ S l0 l1 l2 l3 l4 l5 l6 l7 => ex_goto (show decode mX7_drawn.2.1 74 = .ok (.goto (-24), 3) by decide +kernel) (by decide),
  fun d σ S l0 l1 l3 l4 l5 l6 l7 x => ex_iload_n (show decode mX7_drawn.2.1 77 = .ok (.iload_n 2, 1) by decide +kernel) rfl⟩
theorem kX7_drawn_1 : (∀ (d : Nat) (σ : Sg) (S : List Value) (l0 l1 l2 l3 l4 l5 l6 l7 : Value) (x : Int32), exec d mX7_drawn 78 [l0, l1, l2, l3, l4, l5, l6, l7] (.int x :: S) σ = exec d mX7_drawn 79 [l0, l1, l2, l3, l4, l5, l6, l7] (.long x.toInt64 :: S) σ) ∧
  (∀ (d : Nat) (σ : Sg) (S : List Value) (l0 l1 l2 l4 l5 l6 l7 : Value) (y : Int32) (x : Int64), exec d mX7_drawn 79 [l0, l1, l2, .int y, l4, l5, l6, l7] (.long x :: S) σ = exec d mX7_drawn 81 [l0, l1, l2, .int y, .long x, uu, l6, l7] S σ) ∧
  (∀ (d : Nat) (σ : Sg) (S : List Value) (l0 l1 l2 l3 l4 l5 l6 l7 : Value), exec d mX7_drawn 81 [l0, l1, l2, l3, l4, l5, l6, l7] S σ = exec d mX7_drawn 82 [l0, l1, l2, l3, l4, l5, l6, l7] (.int (nI 0) :: S) σ) ∧
  (∀ (d : Nat) (σ : Sg) (S : List Value) (l0 l1 l2 l3 l4 l6 l7 : Value) (x : Int32), exec d mX7_drawn 82 [l0, l1, l2, l3, l4, uu, l6, l7] (.int x :: S) σ = exec d mX7_drawn 84 [l0, l1, l2, l3, l4, uu, .int x, l7] S σ) ∧
  (∀ (d : Nat) (σ : Sg) (S : List Value) (l0 l2 l3 l4 l5 l6 l7 : Value) (x : Int32), exec d mX7_drawn 86 [l0, .int x, l2, l3, l4, l5, l6, l7] S σ = exec d mX7_drawn 87 [l0, .int x, l2, l3, l4, l5, l6, l7] (.int x :: S) σ) ∧
  (∀ (d : Nat) (σ : Sg) (S : List Value) (l0 l1 l2 l3 l4 l5 l6 l7 : Value) (x y : Int32), exec d mX7_drawn 87 [l0, l1, l2, l3, l4, l5, l6, l7] (.int y :: .int x :: S) σ = if y ≤ x then exec d mX7_drawn 165 [l0, l1, l2, l3, l4, l5, l6, l7] S σ else exec d mX7_drawn 90 [l0, l1, l2, l3, l4, l5, l6, l7] S σ) ∧
  (∀ (d : Nat) (σ : Sg) (S : List Value) (l0 l1 l2 l3 l5 l6 l7 : Value) (x : Int64), exec d mX7_drawn 90 [l0, l1, l2, l3, .long x, l5, l6, l7] S σ = exec d mX7_drawn 92 [l0, l1, l2, l3, .long x, l5, l6, l7] (.long x :: S) σ) ∧
  (∀ (d : Nat) (σ : Sg) (S : List Value) (l0 l1 l2 l3 l4 l5 l6 l7 : Value), exec d mX7_drawn 92 [l0, l1, l2, l3, l4, l5, l6, l7] S σ = exec d mX7_drawn 95 [l0, l1, l2, l3, l4, l5, l6, l7] (.long (lN 16807) :: S) σ) ∧
  (∀ (d : Nat) (σ : Sg) (S : List Value) (l0 l1 l2 l3 l4 l5 l6 l7 : Value) (x y : Int64), exec d mX7_drawn 95 [l0, l1, l2, l3, l4, l5, l6, l7] (.long y :: .long x :: S) σ = exec d mX7_drawn 96 [l0, l1, l2, l3, l4, l5, l6, l7] (.long (x * y) :: S) σ) ∧
  (∀ (d : Nat) (σ : Sg) (S : List Value) (l0 l1 l2 l3 l4 l5 l6 l7 : Value), exec d mX7_drawn 96 [l0, l1, l2, l3, l4, l5, l6, l7] S σ = exec d mX7_drawn 99 [l0, l1, l2, l3, l4, l5, l6, l7] (.long (lN 2147483647) :: S) σ) ∧
  (∀ (d : Nat) (σ : Sg) (S : List Value) (l0 l1 l2 l3 l4 l5 l6 l7 : Value) (x y : Int64), exec d mX7_drawn 99 [l0, l1, l2, l3, l4, l5, l6, l7] (.long y :: .long x :: S) σ = if y = 0 then none else exec d mX7_drawn 100 [l0, l1, l2, l3, l4, l5, l6, l7] (.long (x - x / y * y) :: S) σ) ∧
  (∀ (d : Nat) (σ : Sg) (S : List Value) (l0 l1 l2 l4 l5 l6 l7 : Value) (y : Int32) (x : Int64), exec d mX7_drawn 100 [l0, l1, l2, .int y, l4, l5, l6, l7] (.long x :: S) σ = exec d mX7_drawn 102 [l0, l1, l2, .int y, .long x, uu, l6, l7] S σ) ∧
  (∀ (d : Nat) (σ : Sg) (S : List Value) (l0 l1 l2 l3 l5 l6 l7 : Value) (x : Int64), exec d mX7_drawn 102 [l0, l1, l2, l3, .long x, l5, l6, l7] S σ = exec d mX7_drawn 104 [l0, l1, l2, l3, .long x, l5, l6, l7] (.long x :: S) σ) ∧
  (∀ (d : Nat) (σ : Sg) (S : List Value) (l1 l2 l3 l4 l5 l6 l7 : Value) (k : Nat), exec d mX7_drawn 104 [.ref k, l1, l2, l3, l4, l5, l6, l7] S σ = exec d mX7_drawn 105 [.ref k, l1, l2, l3, l4, l5, l6, l7] (.ref k :: S) σ) ∧
  (∀ (d : Nat) (σ : Sg) (S : List Value) (l0 l1 l2 l3 l4 l5 l6 l7 : Value), exec d mX7_drawn 105 [l0, l1, l2, l3, l4, l5, l6, l7] (.ref 50 :: S) σ = exec d mX7_drawn 108 [l0, l1, l2, l3, l4, l5, l6, l7] (.ref 51 :: S) σ) ∧
  (∀ (d : Nat) (σ : Sg) (S : List Value) (l0 l1 l2 l3 l4 l5 l6 l7 : Value), exec d mX7_drawn 108 [l0, l1, l2, l3, l4, l5, l6, l7] S σ = exec d mX7_drawn 110 [l0, l1, l2, l3, l4, l5, l6, l7] (.int (nI 7) :: S) σ) ∧
  (∀ (d : Nat) (σ : Sg) (S : List Value) (l0 l1 l2 l3 l4 l5 l6 l7 : Value) (x : Int32), exec d mX7_drawn 110 [l0, l1, l2, l3, l4, l5, l6, l7] (.int x :: .ref 51 :: S) σ = if inb x 208 = true then exec d mX7_drawn 111 [l0, l1, l2, l3, l4, l5, l6, l7] (.int (σ 51 x.toNatClampNeg) :: S) σ else none) ∧
  (∀ (d : Nat) (σ : Sg) (S : List Value) (l0 l1 l2 l3 l4 l5 l6 l7 : Value) (x : Int32), exec d mX7_drawn 111 [l0, l1, l2, l3, l4, l5, l6, l7] (.int x :: S) σ = exec d mX7_drawn 112 [l0, l1, l2, l3, l4, l5, l6, l7] (.long x.toInt64 :: S) σ) ∧
  (∀ (d : Nat) (σ : Sg) (S : List Value) (l0 l1 l2 l3 l4 l5 l6 l7 : Value) (x y : Int64), exec d mX7_drawn 112 [l0, l1, l2, l3, l4, l5, l6, l7] (.long y :: .long x :: S) σ = if y = 0 then none else exec d mX7_drawn 113 [l0, l1, l2, l3, l4, l5, l6, l7] (.long (x - x / y * y) :: S) σ) ∧
  (∀ (d : Nat) (σ : Sg) (S : List Value) (l0 l1 l2 l3 l4 l5 l6 l7 : Value) (x : Int64), exec d mX7_drawn 113 [l0, l1, l2, l3, l4, l5, l6, l7] (.long x :: S) σ = exec d mX7_drawn 114 [l0, l1, l2, l3, l4, l5, l6, l7] (.int x.toInt32 :: S) σ) ∧
  (∀ (d : Nat) (σ : Sg) (S : List Value) (l0 l1 l2 l3 l4 l5 l7 : Value) (x y : Int32), exec d mX7_drawn 114 [l0, l1, l2, l3, l4, l5, .int y, l7] (.int x :: S) σ = exec d mX7_drawn 116 [l0, l1, l2, l3, l4, l5, .int y, .int x] S σ) ∧
  (∀ (d : Nat) (σ : Sg) (S : List Value) (l1 l2 l3 l4 l5 l6 l7 : Value) (k : Nat), exec d mX7_drawn 116 [.ref k, l1, l2, l3, l4, l5, l6, l7] S σ = exec d mX7_drawn 117 [.ref k, l1, l2, l3, l4, l5, l6, l7] (.ref k :: S) σ) ∧
  (∀ (d : Nat) (σ : Sg) (S : List Value) (l0 l1 l2 l3 l4 l5 l6 : Value) (x : Int32), exec d mX7_drawn 117 [l0, l1, l2, l3, l4, l5, l6, .int x] S σ = exec d mX7_drawn 119 [l0, l1, l2, l3, l4, l5, l6, .int x] (.int x :: S) σ) ∧
  (∀ (d : Nat) (σ : Sg) (l0 l1 l2 l3 l4 l5 l6 l7 : Value) (x0 : Int32), exec d mX7_drawn 119 [l0, l1, l2, l3, l4, l5, l6, l7] [.int x0, .ref 50] σ = kb (cal d mX7_mayNow [.ref 50, .int x0] σ) (fun rs σ2 => exec d mX7_drawn 122 [l0, l1, l2, l3, l4, l5, l6, l7] (rs ++ []) σ2)) ∧
  (∀ (d : Nat) (σ : Sg) (S : List Value) (l0 l1 l2 l3 l4 l5 l6 l7 : Value) (x : Int32), exec d mX7_drawn 122 [l0, l1, l2, l3, l4, l5, l6, l7] (.int x :: S) σ = if x = nI 0 then exec d mX7_drawn 159 [l0, l1, l2, l3, l4, l5, l6, l7] S σ else exec d mX7_drawn 125 [l0, l1, l2, l3, l4, l5, l6, l7] S σ) ∧
  (∀ (d : Nat) (σ : Sg) (S : List Value) (l1 l2 l3 l4 l5 l6 l7 : Value) (k : Nat), exec d mX7_drawn 125 [.ref k, l1, l2, l3, l4, l5, l6, l7] S σ = exec d mX7_drawn 126 [.ref k, l1, l2, l3, l4, l5, l6, l7] (.ref k :: S) σ) ∧
  (∀ (d : Nat) (σ : Sg) (S : List Value) (l0 l1 l2 l3 l4 l5 l6 : Value) (x : Int32), exec d mX7_drawn 126 [l0, l1, l2, l3, l4, l5, l6, .int x] S σ = exec d mX7_drawn 128 [l0, l1, l2, l3, l4, l5, l6, .int x] (.int x :: S) σ) ∧
  (∀ (d : Nat) (σ : Sg) (l0 l1 l2 l3 l4 l5 l6 l7 : Value) (x0 : Int32), exec d mX7_drawn 128 [l0, l1, l2, l3, l4, l5, l6, l7] [.int x0, .ref 50] σ = kb (cal d mX7_makes [.ref 50, .int x0] σ) (fun rs σ2 => exec d mX7_drawn 131 [l0, l1, l2, l3, l4, l5, l6, l7] (rs ++ []) σ2)) ∧
  (∀ (d : Nat) (σ : Sg) (S : List Value) (l1 l2 l3 l4 l5 l6 l7 : Value) (k : Nat), exec d mX7_drawn 131 [.ref k, l1, l2, l3, l4, l5, l6, l7] S σ = exec d mX7_drawn 132 [.ref k, l1, l2, l3, l4, l5, l6, l7] (.ref k :: S) σ) ∧
  (∀ (d : Nat) (σ : Sg) (S : List Value) (l0 l1 l2 l3 l4 l5 l6 l7 : Value), exec d mX7_drawn 132 [l0, l1, l2, l3, l4, l5, l6, l7] (.ref 50 :: S) σ = exec d mX7_drawn 135 [l0, l1, l2, l3, l4, l5, l6, l7] (.ref 51 :: S) σ) ∧
  (∀ (d : Nat) (σ : Sg) (S : List Value) (l0 l1 l2 l3 l4 l5 l6 l7 : Value), exec d mX7_drawn 135 [l0, l1, l2, l3, l4, l5, l6, l7] S σ = exec d mX7_drawn 136 [l0, l1, l2, l3, l4, l5, l6, l7] (.int (nI 4) :: S) σ) ∧
  (∀ (d : Nat) (σ : Sg) (S : List Value) (l0 l1 l2 l3 l4 l5 l6 l7 : Value) (k : Nat) (x : Int32), exec d mX7_drawn 136 [l0, l1, l2, l3, l4, l5, l6, l7] (.int x :: .ref k :: S) σ = exec d mX7_drawn 137 [l0, l1, l2, l3, l4, l5, l6, l7] (.int x :: .ref k :: .int x :: .ref k :: S) σ) ∧
  (∀ (d : Nat) (σ : Sg) (S : List Value) (l0 l1 l2 l3 l4 l5 l6 l7 : Value) (x : Int32), exec d mX7_drawn 137 [l0, l1, l2, l3, l4, l5, l6, l7] (.int x :: .ref 51 :: S) σ = if inb x 208 = true then exec d mX7_drawn 138 [l0, l1, l2, l3, l4, l5, l6, l7] (.int (σ 51 x.toNatClampNeg) :: S) σ else none) ∧
  (∀ (d : Nat) (σ : Sg) (S : List Value) (l0 l1 l2 l3 l5 l6 l7 : Value) (x : Int64), exec d mX7_drawn 138 [l0, l1, l2, l3, .long x, l5, l6, l7] S σ = exec d mX7_drawn 140 [l0, l1, l2, l3, .long x, l5, l6, l7] (.long x :: S) σ) ∧
  (∀ (d : Nat) (σ : Sg) (S : List Value) (l0 l1 l2 l3 l4 l5 l6 l7 : Value), exec d mX7_drawn 140 [l0, l1, l2, l3, l4, l5, l6, l7] S σ = exec d mX7_drawn 143 [l0, l1, l2, l3, l4, l5, l6, l7] (.long (lN 5) :: S) σ) ∧
  (∀ (d : Nat) (σ : Sg) (S : List Value) (l0 l1 l2 l3 l4 l5 l6 l7 : Value) (x y : Int64), exec d mX7_drawn 143 [l0, l1, l2, l3, l4, l5, l6, l7] (.long y :: .long x :: S) σ = if y = 0 then none else exec d mX7_drawn 144 [l0, l1, l2, l3, l4, l5, l6, l7] (.long (x - x / y * y) :: S) σ) ∧
  (∀ (d : Nat) (σ : Sg) (S : List Value) (l0 l1 l2 l3 l4 l5 l6 l7 : Value), exec d mX7_drawn 144 [l0, l1, l2, l3, l4, l5, l6, l7] S σ = exec d mX7_drawn 145 [l0, l1, l2, l3, l4, l5, l6, l7] (.long (lN 0) :: S) σ) ∧
  (∀ (d : Nat) (σ : Sg) (S : List Value) (l0 l1 l2 l3 l4 l5 l6 l7 : Value) (x y : Int64), exec d mX7_drawn 145 [l0, l1, l2, l3, l4, l5, l6, l7] (.long y :: .long x :: S) σ = exec d mX7_drawn 146 [l0, l1, l2, l3, l4, l5, l6, l7] (.int (lg_cmp x y) :: S) σ) ∧
  (∀ (d : Nat) (σ : Sg) (S : List Value) (l0 l1 l2 l3 l4 l5 l6 l7 : Value) (x : Int32), exec d mX7_drawn 146 [l0, l1, l2, l3, l4, l5, l6, l7] (.int x :: S) σ = if x = nI 0 then exec d mX7_drawn 149 [l0, l1, l2, l3, l4, l5, l6, l7] S σ else exec d mX7_drawn 156 [l0, l1, l2, l3, l4, l5, l6, l7] S σ) ∧
  (∀ (d : Nat) (σ : Sg) (S : List Value) (l0 l1 l2 l3 l4 l5 l6 l7 : Value), exec d mX7_drawn 149 [l0, l1, l2, l3, l4, l5, l6, l7] S σ = exec d mX7_drawn 150 [l0, l1, l2, l3, l4, l5, l6, l7] (.int (nI 1) :: S) σ) :=
  ⟨fun d σ S l0 l1 l2 l3 l4 l5 l6 l7 x => ex_i2l (show decode mX7_drawn.2.1 78 = .ok (.i2l, 1) by decide +kernel),
  fun d σ S l0 l1 l2 l4 l5 l6 l7 y x => ex_lstore (show decode mX7_drawn.2.1 79 = .ok (.lstore 4, 2) by decide +kernel) (Nat.le_of_ble_eq_true rfl) rfl,
  fun d σ S l0 l1 l2 l3 l4 l5 l6 l7 => ex_iconst (show decode mX7_drawn.2.1 81 = .ok (.iconst 0, 1) by decide +kernel) (by decide +kernel),
  fun d σ S l0 l1 l2 l3 l4 l6 l7 x => ex_istore (show decode mX7_drawn.2.1 82 = .ok (.istore 6, 2) by decide +kernel) (Nat.le_of_ble_eq_true rfl) rfl,
  fun d σ S l0 l2 l3 l4 l5 l6 l7 x => ex_iload_n (show decode mX7_drawn.2.1 86 = .ok (.iload_n 1, 1) by decide +kernel) rfl,
  fun d σ S l0 l1 l2 l3 l4 l5 l6 l7 x y => ex_cge (show decode mX7_drawn.2.1 87 = .ok (.if_icmp .ge 78, 3) by decide +kernel) (by decide),
  fun d σ S l0 l1 l2 l3 l5 l6 l7 x => ex_lload (show decode mX7_drawn.2.1 90 = .ok (.lload 4, 2) by decide +kernel) rfl,
  fun d σ S l0 l1 l2 l3 l4 l5 l6 l7 => ex_ldc2 (hh := 1195) (show decode mX7_drawn.2.1 92 = .ok (.ldc2_w 256, 3) by decide +kernel) (by decide +kernel),
  fun d σ S l0 l1 l2 l3 l4 l5 l6 l7 x y => ex_lmul (show decode mX7_drawn.2.1 95 = .ok (.lmul, 1) by decide +kernel),
  fun d σ S l0 l1 l2 l3 l4 l5 l6 l7 => ex_ldc2 (hh := 1196) (show decode mX7_drawn.2.1 96 = .ok (.ldc2_w 258, 3) by decide +kernel) (by decide +kernel),
  fun d σ S l0 l1 l2 l3 l4 l5 l6 l7 x y => ex_lrem (show decode mX7_drawn.2.1 99 = .ok (.lrem, 1) by decide +kernel),
  fun d σ S l0 l1 l2 l4 l5 l6 l7 y x => ex_lstore (show decode mX7_drawn.2.1 100 = .ok (.lstore 4, 2) by decide +kernel) (Nat.le_of_ble_eq_true rfl) rfl,
  fun d σ S l0 l1 l2 l3 l5 l6 l7 x => ex_lload (show decode mX7_drawn.2.1 102 = .ok (.lload 4, 2) by decide +kernel) rfl,
  fun d σ S l1 l2 l3 l4 l5 l6 l7 k => ex_aload_n (show decode mX7_drawn.2.1 104 = .ok (.aload_n 0, 1) by decide +kernel) rfl,
  fun d σ S l0 l1 l2 l3 l4 l5 l6 l7 => ex_getr (idx := 7) (ci := 7) (ff := 0) (n := 26) (hh := 833) (by decide +kernel),
  fun d σ S l0 l1 l2 l3 l4 l5 l6 l7 => ex_bipush (show decode mX7_drawn.2.1 108 = .ok (.bipush 7, 2) by decide +kernel) (by decide +kernel),
  fun d σ S l0 l1 l2 l3 l4 l5 l6 l7 x => ex_iald (by decide +kernel),
  fun d σ S l0 l1 l2 l3 l4 l5 l6 l7 x => ex_i2l (show decode mX7_drawn.2.1 111 = .ok (.i2l, 1) by decide +kernel),
  fun d σ S l0 l1 l2 l3 l4 l5 l6 l7 x y => ex_lrem (show decode mX7_drawn.2.1 112 = .ok (.lrem, 1) by decide +kernel),
  fun d σ S l0 l1 l2 l3 l4 l5 l6 l7 x => ex_l2i (show decode mX7_drawn.2.1 113 = .ok (.l2i, 1) by decide +kernel),
  fun d σ S l0 l1 l2 l3 l4 l5 l7 x y => ex_istore (show decode mX7_drawn.2.1 114 = .ok (.istore 7, 2) by decide +kernel) (Nat.le_of_ble_eq_true rfl) rfl,
  fun d σ S l1 l2 l3 l4 l5 l6 l7 k => ex_aload_n (show decode mX7_drawn.2.1 116 = .ok (.aload_n 0, 1) by decide +kernel) rfl,
  fun d σ S l0 l1 l2 l3 l4 l5 l6 x => ex_iload (show decode mX7_drawn.2.1 117 = .ok (.iload 7, 2) by decide +kernel) rfl,
  fun d σ l0 l1 l2 l3 l4 l5 l6 l7 x0 => ex_iv (hs := [1018, 1020, 66, 1021, 101]) (show decode mX7_drawn.2.1 119 = .ok (.invokevirtual 175, 3) by decide +kernel) lkV_7_175 ⟨rfl, Nat.le_of_ble_eq_true rfl, Nat.le_of_ble_eq_true rfl, fun _ => rfl⟩ rfl rfl,
  fun d σ S l0 l1 l2 l3 l4 l5 l6 l7 x => ex_zeq (show decode mX7_drawn.2.1 122 = .ok (.ifCond .eq 37, 3) by decide +kernel) (by decide),
  fun d σ S l1 l2 l3 l4 l5 l6 l7 k => ex_aload_n (show decode mX7_drawn.2.1 125 = .ok (.aload_n 0, 1) by decide +kernel) rfl,
  fun d σ S l0 l1 l2 l3 l4 l5 l6 x => ex_iload (show decode mX7_drawn.2.1 126 = .ok (.iload 7, 2) by decide +kernel) rfl,
  fun d σ l0 l1 l2 l3 l4 l5 l6 l7 x0 => ex_iv (hs := [1044, 1046, 71, 1047, 101]) (show decode mX7_drawn.2.1 128 = .ok (.invokevirtual 181, 3) by decide +kernel) lkV_7_181 ⟨rfl, Nat.le_of_ble_eq_true rfl, Nat.le_of_ble_eq_true rfl, fun _ => rfl⟩ rfl rfl,
  fun d σ S l1 l2 l3 l4 l5 l6 l7 k => ex_aload_n (show decode mX7_drawn.2.1 131 = .ok (.aload_n 0, 1) by decide +kernel) rfl,
  fun d σ S l0 l1 l2 l3 l4 l5 l6 l7 => ex_getr (idx := 7) (ci := 7) (ff := 0) (n := 26) (hh := 833) (by decide +kernel),
  fun d σ S l0 l1 l2 l3 l4 l5 l6 l7 => ex_iconst (show decode mX7_drawn.2.1 135 = .ok (.iconst 4, 1) by decide +kernel) (by decide +kernel),
  fun d σ S l0 l1 l2 l3 l4 l5 l6 l7 k x => ex_dup2 (show decode mX7_drawn.2.1 136 = .ok (.dup2, 1) by decide +kernel) rfl rfl,
  fun d σ S l0 l1 l2 l3 l4 l5 l6 l7 x => ex_iald (by decide +kernel),
  fun d σ S l0 l1 l2 l3 l5 l6 l7 x => ex_lload (show decode mX7_drawn.2.1 138 = .ok (.lload 4, 2) by decide +kernel) rfl,
  fun d σ S l0 l1 l2 l3 l4 l5 l6 l7 => ex_ldc2 (hh := 1197) (show decode mX7_drawn.2.1 140 = .ok (.ldc2_w 260, 3) by decide +kernel) (by decide +kernel),
  fun d σ S l0 l1 l2 l3 l4 l5 l6 l7 x y => ex_lrem (show decode mX7_drawn.2.1 143 = .ok (.lrem, 1) by decide +kernel),
  fun d σ S l0 l1 l2 l3 l4 l5 l6 l7 => ex_lconst (show decode mX7_drawn.2.1 144 = .ok (.lconst 0, 1) by decide +kernel) (by decide +kernel),
  fun d σ S l0 l1 l2 l3 l4 l5 l6 l7 x y => ex_lcmp (show decode mX7_drawn.2.1 145 = .ok (.lcmp, 1) by decide +kernel),
  fun d σ S l0 l1 l2 l3 l4 l5 l6 l7 x => ex_zne (show decode mX7_drawn.2.1 146 = .ok (.ifCond .ne 10, 3) by decide +kernel) (by decide),
  fun d σ S l0 l1 l2 l3 l4 l5 l6 l7 => ex_iconst (show decode mX7_drawn.2.1 149 = .ok (.iconst 1, 1) by decide +kernel) (by decide +kernel)⟩
theorem kX7_drawn_2 : (∀ (d : Nat) (σ : Sg) (S : List Value) (l0 l1 l2 l3 l4 l5 l6 : Value) (x : Int32), exec d mX7_drawn 150 [l0, l1, l2, l3, l4, l5, l6, .int x] S σ = exec d mX7_drawn 152 [l0, l1, l2, l3, l4, l5, l6, .int x] (.int x :: S) σ) ∧
  (∀ (d : Nat) (σ : Sg) (S : List Value) (l0 l1 l2 l3 l4 l5 l6 l7 : Value) (x y : Int32), exec d mX7_drawn 152 [l0, l1, l2, l3, l4, l5, l6, l7] (.int y :: .int x :: S) σ = exec d mX7_drawn 153 [l0, l1, l2, l3, l4, l5, l6, l7] (.int (x <<< (y &&& 31)) :: S) σ) ∧
  (∀ (d : Nat) (σ : Sg) (S : List Value) (l0 l1 l2 l3 l4 l5 l6 l7 : Value), exec d mX7_drawn 153 [l0, l1, l2, l3, l4, l5, l6, l7] S σ = exec d mX7_drawn 157 [l0, l1, l2, l3, l4, l5, l6, l7] S σ) ∧
  (∀ (d : Nat) (σ : Sg) (S : List Value) (l0 l1 l2 l3 l4 l5 l6 l7 : Value), exec d mX7_drawn 156 [l0, l1, l2, l3, l4, l5, l6, l7] S σ = exec d mX7_drawn 157 [l0, l1, l2, l3, l4, l5, l6, l7] (.int (nI 0) :: S) σ) ∧
  (∀ (d : Nat) (σ : Sg) (S : List Value) (l0 l1 l2 l3 l4 l5 l6 l7 : Value) (x y : Int32), exec d mX7_drawn 157 [l0, l1, l2, l3, l4, l5, l6, l7] (.int y :: .int x :: S) σ = exec d mX7_drawn 158 [l0, l1, l2, l3, l4, l5, l6, l7] (.int (x ||| y) :: S) σ) ∧
  (∀ (d : Nat) (σ : Sg) (S : List Value) (l0 l1 l2 l3 l4 l5 l6 l7 : Value) (x y : Int32), exec d mX7_drawn 158 [l0, l1, l2, l3, l4, l5, l6, l7] (.int y :: .int x :: .ref 51 :: S) σ = if inb x 208 = true then exec d mX7_drawn 159 [l0, l1, l2, l3, l4, l5, l6, l7] S (up σ 51 x.toNatClampNeg y) else none) ∧
  (∀ (d : Nat) (σ : Sg) (S : List Value) (l0 l1 l2 l3 l4 l7 : Value) (x : Int32), exec d mX7_drawn 159 [l0, l1, l2, l3, l4, uu, .int x, l7] S σ = exec d mX7_drawn 162 [l0, l1, l2, l3, l4, uu, .int (x + nI 1), l7] S σ) ∧
  (∀ (d : Nat) (σ : Sg) (S : List Value) (l0 l1 l2 l3 l4 l5 l6 l7 : Value), exec d mX7_drawn 162 [l0, l1, l2, l3, l4, l5, l6, l7] S σ = exec d mX7_drawn 84 [l0, l1, l2, l3, l4, l5, l6, l7] S σ) ∧
  (∀ (d : Nat) (σ : Sg) (S : List Value) (l0 l1 l2 l4 l5 l6 l7 : Value) (x : Int32), exec d mX7_drawn 165 [l0, l1, l2, .int x, l4, l5, l6, l7] S σ = exec d mX7_drawn 166 [l0, l1, l2, .int x, l4, l5, l6, l7] (.int x :: S) σ) ∧
  (∀ (d : Nat) (σ : Sg) (S : List Value) (l0 l1 l2 l3 l4 l5 l6 l7 : Value) (x : Int32), exec d mX7_drawn 166 [l0, l1, l2, l3, l4, l5, l6, l7] (.int x :: S) σ = if x = nI 0 then exec d mX7_drawn 169 [l0, l1, l2, l3, l4, l5, l6, l7] S σ else exec d mX7_drawn 178 [l0, l1, l2, l3, l4, l5, l6, l7] S σ) ∧
  (∀ (d : Nat) (σ : Sg) (S : List Value) (l1 l2 l3 l4 l5 l6 l7 : Value) (k : Nat), exec d mX7_drawn 169 [.ref k, l1, l2, l3, l4, l5, l6, l7] S σ = exec d mX7_drawn 170 [.ref k, l1, l2, l3, l4, l5, l6, l7] (.ref k :: S) σ) ∧
  (∀ (d : Nat) (σ : Sg) (S : List Value) (l0 l1 l2 l3 l4 l5 l6 l7 : Value), exec d mX7_drawn 170 [l0, l1, l2, l3, l4, l5, l6, l7] (.ref 50 :: S) σ = exec d mX7_drawn 173 [l0, l1, l2, l3, l4, l5, l6, l7] (.ref 51 :: S) σ) ∧
  (∀ (d : Nat) (σ : Sg) (S : List Value) (l0 l1 l2 l3 l4 l5 l6 l7 : Value), exec d mX7_drawn 173 [l0, l1, l2, l3, l4, l5, l6, l7] S σ = exec d mX7_drawn 174 [l0, l1, l2, l3, l4, l5, l6, l7] (.int (nI 3) :: S) σ) ∧
  (∀ (d : Nat) (σ : Sg) (S : List Value) (l0 l1 l2 l3 l4 l5 l6 l7 : Value) (x : Int32), exec d mX7_drawn 174 [l0, l1, l2, l3, l4, l5, l6, l7] (.int x :: .ref 51 :: S) σ = if inb x 208 = true then exec d mX7_drawn 175 [l0, l1, l2, l3, l4, l5, l6, l7] (.int (σ 51 x.toNatClampNeg) :: S) σ else none) ∧
  (∀ (d : Nat) (σ : Sg) (S : List Value) (l0 l1 l2 l3 l4 l5 l6 l7 : Value), exec d mX7_drawn 175 [l0, l1, l2, l3, l4, l5, l6, l7] S σ = exec d mX7_drawn 187 [l0, l1, l2, l3, l4, l5, l6, l7] S σ) ∧
  (∀ (d : Nat) (σ : Sg) (S : List Value) (l1 l2 l3 l4 l5 l6 l7 : Value) (k : Nat), exec d mX7_drawn 178 [.ref k, l1, l2, l3, l4, l5, l6, l7] S σ = exec d mX7_drawn 179 [.ref k, l1, l2, l3, l4, l5, l6, l7] (.ref k :: S) σ) ∧
  (∀ (d : Nat) (σ : Sg) (S : List Value) (l0 l1 l2 l3 l4 l5 l6 l7 : Value), exec d mX7_drawn 179 [l0, l1, l2, l3, l4, l5, l6, l7] (.ref 50 :: S) σ = exec d mX7_drawn 182 [l0, l1, l2, l3, l4, l5, l6, l7] (.ref 51 :: S) σ) ∧
  (∀ (d : Nat) (σ : Sg) (S : List Value) (l0 l1 l2 l3 l4 l5 l6 l7 : Value), exec d mX7_drawn 182 [l0, l1, l2, l3, l4, l5, l6, l7] S σ = exec d mX7_drawn 183 [l0, l1, l2, l3, l4, l5, l6, l7] (.int (nI 4) :: S) σ) ∧
  (∀ (d : Nat) (σ : Sg) (S : List Value) (l0 l1 l2 l3 l4 l5 l6 l7 : Value) (x : Int32), exec d mX7_drawn 183 [l0, l1, l2, l3, l4, l5, l6, l7] (.int x :: .ref 51 :: S) σ = if inb x 208 = true then exec d mX7_drawn 184 [l0, l1, l2, l3, l4, l5, l6, l7] (.int (σ 51 x.toNatClampNeg) :: S) σ else none) ∧
  (∀ (d : Nat) (σ : Sg) (l0 l1 l2 l3 l4 l5 l6 l7 : Value) (x0 : Int32), exec d mX7_drawn 184 [l0, l1, l2, l3, l4, l5, l6, l7] [.int x0] σ = kb (cal d mX7_ones [.int x0] σ) (fun rs σ2 => exec d mX7_drawn 187 [l0, l1, l2, l3, l4, l5, l6, l7] (rs ++ []) σ2)) ∧
  (∀ (d : Nat) (σ : Sg) (S : List Value) (l0 l1 l2 l3 l4 l6 l7 : Value) (x : Int32), exec d mX7_drawn 187 [l0, l1, l2, l3, l4, uu, l6, l7] (.int x :: S) σ = exec d mX7_drawn 189 [l0, l1, l2, l3, l4, uu, .int x, l7] S σ) ∧
  (∀ (d : Nat) (σ : Sg) (S : List Value) (l0 l1 l2 l3 l4 l5 l6 l7 : Value), exec d mX7_drawn 189 [l0, l1, l2, l3, l4, l5, l6, l7] S σ = exec d mX7_drawn 190 [l0, l1, l2, l3, l4, l5, l6, l7] (.int (nI 0) :: S) σ) ∧
  (∀ (d : Nat) (σ : Sg) (S : List Value) (l0 l1 l2 l3 l4 l5 l7 : Value) (x y : Int32), exec d mX7_drawn 190 [l0, l1, l2, l3, l4, l5, .int y, l7] (.int x :: S) σ = exec d mX7_drawn 192 [l0, l1, l2, l3, l4, l5, .int y, .int x] S σ) ∧
  (∀ (d : Nat) (σ : Sg) (S : List Value) (l0 l1 l2 l3 l4 l5 l6 l7 : Value), exec d mX7_drawn 194 [l0, l1, l2, l3, l4, l5, l6, l7] S σ = exec d mX7_drawn 196 [l0, l1, l2, l3, l4, l5, l6, l7] (.int (nI 6) :: S) σ) ∧
  (∀ (d : Nat) (σ : Sg) (S : List Value) (l0 l1 l2 l3 l4 l5 l6 l7 : Value) (x y : Int32), exec d mX7_drawn 196 [l0, l1, l2, l3, l4, l5, l6, l7] (.int y :: .int x :: S) σ = if y ≤ x then exec d mX7_drawn 219 [l0, l1, l2, l3, l4, l5, l6, l7] S σ else exec d mX7_drawn 199 [l0, l1, l2, l3, l4, l5, l6, l7] S σ) ∧
  (∀ (d : Nat) (σ : Sg) (S : List Value) (l1 l2 l3 l4 l5 l6 l7 : Value) (k : Nat), exec d mX7_drawn 199 [.ref k, l1, l2, l3, l4, l5, l6, l7] S σ = exec d mX7_drawn 200 [.ref k, l1, l2, l3, l4, l5, l6, l7] (.ref k :: S) σ) ∧
  (∀ (d : Nat) (σ : Sg) (S : List Value) (l0 l1 l2 l3 l4 l5 l6 l7 : Value), exec d mX7_drawn 200 [l0, l1, l2, l3, l4, l5, l6, l7] (.ref 50 :: S) σ = exec d mX7_drawn 203 [l0, l1, l2, l3, l4, l5, l6, l7] (.ref 51 :: S) σ) ∧
  (∀ (d : Nat) (σ : Sg) (S : List Value) (l0 l1 l2 l3 l4 l5 l6 : Value) (x : Int32), exec d mX7_drawn 203 [l0, l1, l2, l3, l4, l5, l6, .int x] S σ = exec d mX7_drawn 205 [l0, l1, l2, l3, l4, l5, l6, .int x] (.int x :: S) σ) ∧
  (∀ (d : Nat) (σ : Sg) (S : List Value) (l1 l2 l3 l4 l5 l6 l7 : Value) (k : Nat), exec d mX7_drawn 205 [.ref k, l1, l2, l3, l4, l5, l6, l7] S σ = exec d mX7_drawn 206 [.ref k, l1, l2, l3, l4, l5, l6, l7] (.ref k :: S) σ) ∧
  (∀ (d : Nat) (σ : Sg) (S : List Value) (l0 l1 l2 l3 l4 l5 l6 l7 : Value), exec d mX7_drawn 206 [l0, l1, l2, l3, l4, l5, l6, l7] (.ref 50 :: S) σ = exec d mX7_drawn 209 [l0, l1, l2, l3, l4, l5, l6, l7] (.ref 59 :: S) σ) ∧
  (∀ (d : Nat) (σ : Sg) (S : List Value) (l0 l1 l2 l3 l4 l5 l6 : Value) (x : Int32), exec d mX7_drawn 209 [l0, l1, l2, l3, l4, l5, l6, .int x] S σ = exec d mX7_drawn 211 [l0, l1, l2, l3, l4, l5, l6, .int x] (.int x :: S) σ) ∧
  (∀ (d : Nat) (σ : Sg) (S : List Value) (l0 l1 l2 l3 l4 l5 l6 l7 : Value) (x : Int32), exec d mX7_drawn 211 [l0, l1, l2, l3, l4, l5, l6, l7] (.int x :: .ref 59 :: S) σ = if inb x 40 = true then exec d mX7_drawn 212 [l0, l1, l2, l3, l4, l5, l6, l7] (.int (σ 59 x.toNatClampNeg) :: S) σ else none) ∧
  (∀ (d : Nat) (σ : Sg) (S : List Value) (l0 l1 l2 l3 l4 l5 l6 l7 : Value) (x y : Int32), exec d mX7_drawn 212 [l0, l1, l2, l3, l4, l5, l6, l7] (.int y :: .int x :: .ref 51 :: S) σ = if inb x 208 = true then exec d mX7_drawn 213 [l0, l1, l2, l3, l4, l5, l6, l7] S (up σ 51 x.toNatClampNeg y) else none) ∧
  (∀ (d : Nat) (σ : Sg) (S : List Value) (l0 l1 l2 l3 l4 l5 : Value) (x y : Int32), exec d mX7_drawn 213 [l0, l1, l2, l3, l4, l5, .int y, .int x] S σ = exec d mX7_drawn 216 [l0, l1, l2, l3, l4, l5, .int y, .int (x + nI 1)] S σ) ∧
  (∀ (d : Nat) (σ : Sg) (S : List Value) (l0 l1 l2 l3 l4 l5 l6 l7 : Value), exec d mX7_drawn 216 [l0, l1, l2, l3, l4, l5, l6, l7] S σ = exec d mX7_drawn 192 [l0, l1, l2, l3, l4, l5, l6, l7] S σ) ∧
  (∀ (d : Nat) (σ : Sg) (S : List Value) (l0 l1 l2 l3 l4 l5 l7 : Value) (x : Int32), exec d mX7_drawn 219 [l0, l1, l2, l3, l4, l5, .int x, l7] S σ = exec d mX7_drawn 221 [l0, l1, l2, l3, l4, l5, .int x, l7] (.int x :: S) σ) ∧
  (∀ (d : Nat) (σ : Sg) (l0 l1 l2 l3 l4 l5 l6 l7 : Value) (x : Int32), exec d mX7_drawn 221 [l0, l1, l2, l3, l4, l5, l6, l7] [.int x] σ = some (some (.int x), σ)) :=
  ⟨fun d σ S l0 l1 l2 l3 l4 l5 l6 x => ex_iload (show decode mX7_drawn.2.1 150 = .ok (.iload 7, 2) by decide +kernel) rfl,
  fun d σ S l0 l1 l2 l3 l4 l5 l6 l7 x y => ex_ishl (show decode mX7_drawn.2.1 152 = .ok (.ishl, 1) by decide +kernel),
  fun d σ S l0 l1 l2 l3 l4 l5 l6 l7 => ex_goto (show decode mX7_drawn.2.1 153 = .ok (.goto 4, 3) by decide +kernel) (by decide),
  fun d σ S l0 l1 l2 l3 l4 l5 l6 l7 => ex_iconst (show decode mX7_drawn.2.1 156 = .ok (.iconst 0, 1) by decide +kernel) (by decide +kernel),
  fun d σ S l0 l1 l2 l3 l4 l5 l6 l7 x y => ex_ior (show decode mX7_drawn.2.1 157 = .ok (.ior, 1) by decide +kernel),
  fun d σ S l0 l1 l2 l3 l4 l5 l6 l7 x y => ex_iast (by decide +kernel),
  fun d σ S l0 l1 l2 l3 l4 l7 x => ex_iinc (show decode mX7_drawn.2.1 159 = .ok (.iinc 6 1, 3) by decide +kernel) rfl (by decide +kernel) (Nat.le_of_ble_eq_true rfl) rfl,
  fun d σ S l0 l1 l2 l3 l4 l5 l6 l7 => ex_goto (show decode mX7_drawn.2.1 162 = .ok (.goto (-78), 3) by decide +kernel) (by decide),
  fun d σ S l0 l1 l2 l4 l5 l6 l7 x => ex_iload_n (show decode mX7_drawn.2.1 165 = .ok (.iload_n 3, 1) by decide +kernel) rfl,
  fun d σ S l0 l1 l2 l3 l4 l5 l6 l7 x => ex_zne (show decode mX7_drawn.2.1 166 = .ok (.ifCond .ne 12, 3) by decide +kernel) (by decide),
  fun d σ S l1 l2 l3 l4 l5 l6 l7 k => ex_aload_n (show decode mX7_drawn.2.1 169 = .ok (.aload_n 0, 1) by decide +kernel) rfl,
  fun d σ S l0 l1 l2 l3 l4 l5 l6 l7 => ex_getr (idx := 7) (ci := 7) (ff := 0) (n := 26) (hh := 833) (by decide +kernel),
  fun d σ S l0 l1 l2 l3 l4 l5 l6 l7 => ex_iconst (show decode mX7_drawn.2.1 173 = .ok (.iconst 3, 1) by decide +kernel) (by decide +kernel),
  fun d σ S l0 l1 l2 l3 l4 l5 l6 l7 x => ex_iald (by decide +kernel),
  fun d σ S l0 l1 l2 l3 l4 l5 l6 l7 => ex_goto (show decode mX7_drawn.2.1 175 = .ok (.goto 12, 3) by decide +kernel) (by decide),
  fun d σ S l1 l2 l3 l4 l5 l6 l7 k => ex_aload_n (show decode mX7_drawn.2.1 178 = .ok (.aload_n 0, 1) by decide +kernel) rfl,
  fun d σ S l0 l1 l2 l3 l4 l5 l6 l7 => ex_getr (idx := 7) (ci := 7) (ff := 0) (n := 26) (hh := 833) (by decide +kernel),
  fun d σ S l0 l1 l2 l3 l4 l5 l6 l7 => ex_iconst (show decode mX7_drawn.2.1 182 = .ok (.iconst 4, 1) by decide +kernel) (by decide +kernel),
  fun d σ S l0 l1 l2 l3 l4 l5 l6 l7 x => ex_iald (by decide +kernel),
  fun d σ l0 l1 l2 l3 l4 l5 l6 l7 x0 => ex_is (hs := [1121, 1122, 1123, 101]) (show decode mX7_drawn.2.1 184 = .ok (.invokestatic 199, 3) by decide +kernel) lkS_7_199 ⟨rfl, Nat.le_of_ble_eq_true rfl, Nat.le_of_ble_eq_true rfl, fun q => nomatch q⟩ rfl rfl,
  fun d σ S l0 l1 l2 l3 l4 l6 l7 x => ex_istore (show decode mX7_drawn.2.1 187 = .ok (.istore 6, 2) by decide +kernel) (Nat.le_of_ble_eq_true rfl) rfl,
  fun d σ S l0 l1 l2 l3 l4 l5 l6 l7 => ex_iconst (show decode mX7_drawn.2.1 189 = .ok (.iconst 0, 1) by decide +kernel) (by decide +kernel),
  fun d σ S l0 l1 l2 l3 l4 l5 l7 x y => ex_istore (show decode mX7_drawn.2.1 190 = .ok (.istore 7, 2) by decide +kernel) (Nat.le_of_ble_eq_true rfl) rfl,
  fun d σ S l0 l1 l2 l3 l4 l5 l6 l7 => ex_bipush (show decode mX7_drawn.2.1 194 = .ok (.bipush 6, 2) by decide +kernel) (by decide +kernel),
  fun d σ S l0 l1 l2 l3 l4 l5 l6 l7 x y => ex_cge (show decode mX7_drawn.2.1 196 = .ok (.if_icmp .ge 23, 3) by decide +kernel) (by decide),
  fun d σ S l1 l2 l3 l4 l5 l6 l7 k => ex_aload_n (show decode mX7_drawn.2.1 199 = .ok (.aload_n 0, 1) by decide +kernel) rfl,
  fun d σ S l0 l1 l2 l3 l4 l5 l6 l7 => ex_getr (idx := 7) (ci := 7) (ff := 0) (n := 26) (hh := 833) (by decide +kernel),
  fun d σ S l0 l1 l2 l3 l4 l5 l6 x => ex_iload (show decode mX7_drawn.2.1 203 = .ok (.iload 7, 2) by decide +kernel) rfl,
  fun d σ S l1 l2 l3 l4 l5 l6 l7 k => ex_aload_n (show decode mX7_drawn.2.1 205 = .ok (.aload_n 0, 1) by decide +kernel) rfl,
  fun d σ S l0 l1 l2 l3 l4 l5 l6 l7 => ex_getr (idx := 35) (ci := 7) (ff := 13) (n := 26) (hh := 846) (by decide +kernel),
  fun d σ S l0 l1 l2 l3 l4 l5 l6 x => ex_iload (show decode mX7_drawn.2.1 209 = .ok (.iload 7, 2) by decide +kernel) rfl,
  fun d σ S l0 l1 l2 l3 l4 l5 l6 l7 x => ex_iald (by decide +kernel),
  fun d σ S l0 l1 l2 l3 l4 l5 l6 l7 x y => ex_iast (by decide +kernel),
  fun d σ S l0 l1 l2 l3 l4 l5 x y => ex_iinc (show decode mX7_drawn.2.1 213 = .ok (.iinc 7 1, 3) by decide +kernel) rfl (by decide +kernel) (Nat.le_of_ble_eq_true rfl) rfl,
  fun d σ S l0 l1 l2 l3 l4 l5 l6 l7 => ex_goto (show decode mX7_drawn.2.1 216 = .ok (.goto (-24), 3) by decide +kernel) (by decide),
  fun d σ S l0 l1 l2 l3 l4 l5 l7 x => ex_iload (show decode mX7_drawn.2.1 219 = .ok (.iload 6, 2) by decide +kernel) rfl,
  fun d σ l0 l1 l2 l3 l4 l5 l6 l7 x => ex_iret (show decode mX7_drawn.2.1 221 = .ok (.ireturn, 1) by decide +kernel) rfl⟩
theorem hX7_drawn_50 : ∀ (d : Nat) (σ : Sg) (S : List Value) (l0 l1 l2 l3 l5 l6 l7 : Value) (x : Int32), exec d mX7_drawn 50 [l0, l1, l2, l3, .int x, l5, l6, l7] S σ = exec d mX7_drawn 52 [l0, l1, l2, l3, .int x, l5, l6, l7] (.int x :: S) σ := fun d σ S l0 l1 l2 l3 l5 l6 l7 x => ex_iload (show decode mX7_drawn.2.1 50 = .ok (.iload 4, 2) by decide +kernel) rfl
theorem hX7_drawn_84 : ∀ (d : Nat) (σ : Sg) (S : List Value) (l0 l1 l2 l3 l4 l5 l7 : Value) (x : Int32), exec d mX7_drawn 84 [l0, l1, l2, l3, l4, l5, .int x, l7] S σ = exec d mX7_drawn 86 [l0, l1, l2, l3, l4, l5, .int x, l7] (.int x :: S) σ := fun d σ S l0 l1 l2 l3 l4 l5 l7 x => ex_iload (show decode mX7_drawn.2.1 84 = .ok (.iload 6, 2) by decide +kernel) rfl
theorem hX7_drawn_192 : ∀ (d : Nat) (σ : Sg) (S : List Value) (l0 l1 l2 l3 l4 l5 l6 : Value) (x : Int32), exec d mX7_drawn 192 [l0, l1, l2, l3, l4, l5, l6, .int x] S σ = exec d mX7_drawn 194 [l0, l1, l2, l3, l4, l5, l6, .int x] (.int x :: S) σ := fun d σ S l0 l1 l2 l3 l4 l5 l6 x => ex_iload (show decode mX7_drawn.2.1 192 = .ok (.iload 7, 2) by decide +kernel) rfl
theorem aX7_drawn_50 : ∀ (d : Nat) (a1 : Int32) (a2 : Int32) (a3 : Int32) (σ : Sg), cal (d + 1) mX7_drawn [.ref 50, .int a1, .int a2, .int a3] σ = exec d mX7_drawn 0 [.ref 50, .int a1, .int a2, .int a3, uu, uu, uu, uu] [] σ := fun _ _ _ _ _ => rfl
theorem kX7_image : (∀ (d : Nat) (σ : Sg) (S : List Value) (l0 : Value) (x : Int32), exec d mX7_image 0 [l0, .int x] S σ = exec d mX7_image 1 [l0, .int x] (.int x :: S) σ) ∧
  (∀ (d : Nat) (σ : Sg) (S : List Value) (l0 l1 : Value) (x : Int32), exec d mX7_image 1 [l0, l1] (.int x :: S) σ = exec d mX7_image 2 [l0, l1] (.long x.toInt64 :: S) σ) ∧
  (∀ (d : Nat) (σ : Sg) (S : List Value) (l0 l1 : Value), exec d mX7_image 2 [l0, l1] S σ = exec d mX7_image 3 [l0, l1] (.long (lN 0) :: S) σ) ∧
  (∀ (d : Nat) (σ : Sg) (S : List Value) (l0 l1 : Value), exec d mX7_image 3 [l0, l1] S σ = exec d mX7_image 4 [l0, l1] (.long (lN 1) :: S) σ) ∧
  (∀ (d : Nat) (σ : Sg) (l0 l1 : Value) (x0 x1 x2 : Int64), exec d mX7_image 4 [l0, l1] [.long x0, .long x1, .long x2] σ = kb (cal d mX7_in [.long x2, .long x1, .long x0] σ) (fun rs σ2 => exec d mX7_image 7 [l0, l1] (rs ++ []) σ2)) ∧
  (∀ (d : Nat) (σ : Sg) (S : List Value) (l0 l1 : Value) (x : Int32), exec d mX7_image 7 [l0, l1] (.int x :: S) σ = if x = nI 0 then exec d mX7_image 10 [l0, l1] S σ else exec d mX7_image 13 [l0, l1] S σ) ∧
  (∀ (d : Nat) (σ : Sg) (S : List Value) (l0 l1 : Value), exec d mX7_image 10 [l0, l1] S σ = exec d mX7_image 12 [l0, l1] (.int ((-1000001)) :: S) σ) ∧
  (∀ (d : Nat) (σ : Sg) (l0 l1 : Value) (x : Int32), exec d mX7_image 12 [l0, l1] [.int x] σ = some (some (.int x), σ)) ∧
  (∀ (d : Nat) (σ : Sg) (S : List Value) (l1 : Value) (k : Nat), exec d mX7_image 13 [.ref k, l1] S σ = exec d mX7_image 14 [.ref k, l1] (.ref k :: S) σ) ∧
  (∀ (d : Nat) (σ : Sg) (l0 l1 : Value), exec d mX7_image 14 [l0, l1] [.ref 50] σ = kb (cal d mX7_isTrial [.ref 50] σ) (fun rs σ2 => exec d mX7_image 17 [l0, l1] (rs ++ []) σ2)) ∧
  (∀ (d : Nat) (σ : Sg) (S : List Value) (l0 l1 : Value) (x : Int32), exec d mX7_image 17 [l0, l1] (.int x :: S) σ = if x = nI 0 then exec d mX7_image 20 [l0, l1] S σ else exec d mX7_image 23 [l0, l1] S σ) ∧
  (∀ (d : Nat) (σ : Sg) (S : List Value) (l0 l1 : Value), exec d mX7_image 20 [l0, l1] S σ = exec d mX7_image 22 [l0, l1] (.int ((-1000002)) :: S) σ) ∧
  (∀ (d : Nat) (σ : Sg) (l0 l1 : Value) (x : Int32), exec d mX7_image 22 [l0, l1] [.int x] σ = some (some (.int x), σ)) ∧
  (∀ (d : Nat) (σ : Sg) (S : List Value) (l1 : Value) (k : Nat), exec d mX7_image 23 [.ref k, l1] S σ = exec d mX7_image 24 [.ref k, l1] (.ref k :: S) σ) ∧
  (∀ (d : Nat) (σ : Sg) (S : List Value) (l0 l1 : Value), exec d mX7_image 24 [l0, l1] S σ = exec d mX7_image 25 [l0, l1] (.int (nI 0) :: S) σ) ∧
  (∀ (d : Nat) (σ : Sg) (S : List Value) (l0 l1 : Value), exec d mX7_image 25 [l0, l1] S σ = exec d mX7_image 27 [l0, l1] (.int (nI 52) :: S) σ) ∧
  (∀ (d : Nat) (σ : Sg) (S : List Value) (l0 l1 : Value), exec d mX7_image 27 [l0, l1] S σ = exec d mX7_image 28 [l0, l1] (.int (nI 1) :: S) σ) ∧
  (∀ (d : Nat) (σ : Sg) (S : List Value) (l0 : Value) (x : Int32), exec d mX7_image 28 [l0, .int x] S σ = exec d mX7_image 29 [l0, .int x] (.int x :: S) σ) ∧
  (∀ (d : Nat) (σ : Sg) (S : List Value) (l0 l1 : Value) (x y : Int32), exec d mX7_image 29 [l0, l1] (.int y :: .int x :: S) σ = exec d mX7_image 30 [l0, l1] (.int (x + y) :: S) σ) ∧
  (∀ (d : Nat) (σ : Sg) (S : List Value) (l0 l1 : Value) (x y : Int32), exec d mX7_image 30 [l0, l1] (.int y :: .int x :: S) σ = exec d mX7_image 31 [l0, l1] (.int (x * y) :: S) σ) ∧
  (∀ (d : Nat) (σ : Sg) (l0 l1 : Value) (x0 x1 : Int32), exec d mX7_image 31 [l0, l1] [.int x0, .int x1, .ref 50] σ = kb (cal d mX7_copyAll [.ref 50, .int x1, .int x0] σ) (fun rs σ2 => exec d mX7_image 34 [l0, l1] (rs ++ []) σ2)) ∧
  (∀ (d : Nat) (σ : Sg) (S : List Value) (l1 : Value) (k : Nat), exec d mX7_image 34 [.ref k, l1] S σ = exec d mX7_image 35 [.ref k, l1] (.ref k :: S) σ) ∧
  (∀ (d : Nat) (σ : Sg) (S : List Value) (l0 l1 : Value), exec d mX7_image 35 [l0, l1] (.ref 50 :: S) σ = exec d mX7_image 38 [l0, l1] (.ref 52 :: S) σ) ∧
  (∀ (d : Nat) (σ : Sg) (S : List Value) (l0 : Value) (x : Int32), exec d mX7_image 38 [l0, .int x] S σ = exec d mX7_image 39 [l0, .int x] (.int x :: S) σ) ∧
  (∀ (d : Nat) (σ : Sg) (S : List Value) (l0 l1 : Value), exec d mX7_image 39 [l0, l1] S σ = exec d mX7_image 40 [l0, l1] (.int (nI 1) :: S) σ) ∧
  (∀ (d : Nat) (σ : Sg) (S : List Value) (l0 l1 : Value) (x y : Int32), exec d mX7_image 40 [l0, l1] (.int y :: .int x :: .ref 52 :: S) σ = if inb x 2 = true ∧ b01 y = true then exec d mX7_image 41 [l0, l1] S (up σ 52 x.toNatClampNeg y) else none) ∧
  (∀ (d : Nat) (σ : Sg) (S : List Value) (l0 l1 : Value), exec d mX7_image 41 [l0, l1] S σ = exec d mX7_image 42 [l0, l1] (.int (nI 1) :: S) σ) ∧
  (∀ (d : Nat) (σ : Sg) (l0 l1 : Value) (x : Int32), exec d mX7_image 42 [l0, l1] [.int x] σ = some (some (.int x), σ)) :=
  ⟨fun d σ S l0 x => ex_iload_n (show decode mX7_image.2.1 0 = .ok (.iload_n 1, 1) by decide +kernel) rfl,
  fun d σ S l0 l1 x => ex_i2l (show decode mX7_image.2.1 1 = .ok (.i2l, 1) by decide +kernel),
  fun d σ S l0 l1 => ex_lconst (show decode mX7_image.2.1 2 = .ok (.lconst 0, 1) by decide +kernel) (by decide +kernel),
  fun d σ S l0 l1 => ex_lconst (show decode mX7_image.2.1 3 = .ok (.lconst 1, 1) by decide +kernel) (by decide +kernel),
  fun d σ l0 l1 x0 x1 x2 => ex_is (hs := [920, 921, 922, 101]) (show decode mX7_image.2.1 4 = .ok (.invokestatic 63, 3) by decide +kernel) lkS_7_63 ⟨rfl, Nat.le_of_ble_eq_true rfl, Nat.le_of_ble_eq_true rfl, fun q => nomatch q⟩ rfl rfl,
  fun d σ S l0 l1 x => ex_zne (show decode mX7_image.2.1 7 = .ok (.ifCond .ne 6, 3) by decide +kernel) (by decide),
  fun d σ S l0 l1 => ex_ldc (hh := 924) (show decode mX7_image.2.1 10 = .ok (.ldc 73, 2) by decide +kernel) (by decide +kernel),
  fun d σ l0 l1 x => ex_iret (show decode mX7_image.2.1 12 = .ok (.ireturn, 1) by decide +kernel) rfl,
  fun d σ S l1 k => ex_aload_n (show decode mX7_image.2.1 13 = .ok (.aload_n 0, 1) by decide +kernel) rfl,
  fun d σ l0 l1 => ex_iv (hs := [1074, 1076, 74, 1077, 101]) (show decode mX7_image.2.1 14 = .ok (.invokevirtual 188, 3) by decide +kernel) lkV_7_188 ⟨rfl, Nat.le_of_ble_eq_true rfl, Nat.le_of_ble_eq_true rfl, fun _ => rfl⟩ rfl rfl,
  fun d σ S l0 l1 x => ex_zne (show decode mX7_image.2.1 17 = .ok (.ifCond .ne 6, 3) by decide +kernel) (by decide),
  fun d σ S l0 l1 => ex_ldc (hh := 1009) (show decode mX7_image.2.1 20 = .ok (.ldc 171, 2) by decide +kernel) (by decide +kernel),
  fun d σ l0 l1 x => ex_iret (show decode mX7_image.2.1 22 = .ok (.ireturn, 1) by decide +kernel) rfl,
  fun d σ S l1 k => ex_aload_n (show decode mX7_image.2.1 23 = .ok (.aload_n 0, 1) by decide +kernel) rfl,
  fun d σ S l0 l1 => ex_iconst (show decode mX7_image.2.1 24 = .ok (.iconst 0, 1) by decide +kernel) (by decide +kernel),
  fun d σ S l0 l1 => ex_bipush (show decode mX7_image.2.1 25 = .ok (.bipush 52, 2) by decide +kernel) (by decide +kernel),
  fun d σ S l0 l1 => ex_iconst (show decode mX7_image.2.1 27 = .ok (.iconst 1, 1) by decide +kernel) (by decide +kernel),
  fun d σ S l0 x => ex_iload_n (show decode mX7_image.2.1 28 = .ok (.iload_n 1, 1) by decide +kernel) rfl,
  fun d σ S l0 l1 x y => ex_iadd (show decode mX7_image.2.1 29 = .ok (.iadd, 1) by decide +kernel),
  fun d σ S l0 l1 x y => ex_imul (show decode mX7_image.2.1 30 = .ok (.imul, 1) by decide +kernel),
  fun d σ l0 l1 x0 x1 => ex_iv (hs := [997, 999, 64, 1000, 101]) (show decode mX7_image.2.1 31 = .ok (.invokevirtual 137, 3) by decide +kernel) lkV_7_137 ⟨rfl, Nat.le_of_ble_eq_true rfl, Nat.le_of_ble_eq_true rfl, fun _ => rfl⟩ rfl rfl,
  fun d σ S l1 k => ex_aload_n (show decode mX7_image.2.1 34 = .ok (.aload_n 0, 1) by decide +kernel) rfl,
  fun d σ S l0 l1 => ex_getr (idx := 13) (ci := 7) (ff := 1) (n := 26) (hh := 834) (by decide +kernel),
  fun d σ S l0 x => ex_iload_n (show decode mX7_image.2.1 38 = .ok (.iload_n 1, 1) by decide +kernel) rfl,
  fun d σ S l0 l1 => ex_iconst (show decode mX7_image.2.1 39 = .ok (.iconst 1, 1) by decide +kernel) (by decide +kernel),
  fun d σ S l0 l1 x y => ex_bast (by decide +kernel),
  fun d σ S l0 l1 => ex_iconst (show decode mX7_image.2.1 41 = .ok (.iconst 1, 1) by decide +kernel) (by decide +kernel),
  fun d σ l0 l1 x => ex_iret (show decode mX7_image.2.1 42 = .ok (.ireturn, 1) by decide +kernel) rfl⟩
theorem aX7_image_50 : ∀ (d : Nat) (a1 : Int32) (σ : Sg), cal (d + 1) mX7_image [.ref 50, .int a1] σ = exec d mX7_image 0 [.ref 50, .int a1] [] σ := fun _ _ _ => rfl
theorem kX7_restore : (∀ (d : Nat) (σ : Sg) (S : List Value) (l0 : Value) (x : Int32), exec d mX7_restore 0 [l0, .int x] S σ = exec d mX7_restore 1 [l0, .int x] (.int x :: S) σ) ∧
  (∀ (d : Nat) (σ : Sg) (S : List Value) (l0 l1 : Value) (x : Int32), exec d mX7_restore 1 [l0, l1] (.int x :: S) σ = exec d mX7_restore 2 [l0, l1] (.long x.toInt64 :: S) σ) ∧
  (∀ (d : Nat) (σ : Sg) (S : List Value) (l0 l1 : Value), exec d mX7_restore 2 [l0, l1] S σ = exec d mX7_restore 3 [l0, l1] (.long (lN 0) :: S) σ) ∧
  (∀ (d : Nat) (σ : Sg) (S : List Value) (l0 l1 : Value), exec d mX7_restore 3 [l0, l1] S σ = exec d mX7_restore 4 [l0, l1] (.long (lN 1) :: S) σ) ∧
  (∀ (d : Nat) (σ : Sg) (l0 l1 : Value) (x0 x1 x2 : Int64), exec d mX7_restore 4 [l0, l1] [.long x0, .long x1, .long x2] σ = kb (cal d mX7_in [.long x2, .long x1, .long x0] σ) (fun rs σ2 => exec d mX7_restore 7 [l0, l1] (rs ++ []) σ2)) ∧
  (∀ (d : Nat) (σ : Sg) (S : List Value) (l0 l1 : Value) (x : Int32), exec d mX7_restore 7 [l0, l1] (.int x :: S) σ = if x = nI 0 then exec d mX7_restore 10 [l0, l1] S σ else exec d mX7_restore 13 [l0, l1] S σ) ∧
  (∀ (d : Nat) (σ : Sg) (S : List Value) (l0 l1 : Value), exec d mX7_restore 10 [l0, l1] S σ = exec d mX7_restore 12 [l0, l1] (.int ((-1000001)) :: S) σ) ∧
  (∀ (d : Nat) (σ : Sg) (l0 l1 : Value) (x : Int32), exec d mX7_restore 12 [l0, l1] [.int x] σ = some (some (.int x), σ)) ∧
  (∀ (d : Nat) (σ : Sg) (S : List Value) (l1 : Value) (k : Nat), exec d mX7_restore 13 [.ref k, l1] S σ = exec d mX7_restore 14 [.ref k, l1] (.ref k :: S) σ) ∧
  (∀ (d : Nat) (σ : Sg) (S : List Value) (l0 l1 : Value), exec d mX7_restore 14 [l0, l1] (.ref 50 :: S) σ = exec d mX7_restore 17 [l0, l1] (.ref 52 :: S) σ) ∧
  (∀ (d : Nat) (σ : Sg) (S : List Value) (l0 : Value) (x : Int32), exec d mX7_restore 17 [l0, .int x] S σ = exec d mX7_restore 18 [l0, .int x] (.int x :: S) σ) ∧
  (∀ (d : Nat) (σ : Sg) (S : List Value) (l0 l1 : Value) (x : Int32), exec d mX7_restore 18 [l0, l1] (.int x :: .ref 52 :: S) σ = if inb x 2 = true then exec d mX7_restore 19 [l0, l1] (.int (σ 52 x.toNatClampNeg) :: S) σ else none) ∧
  (∀ (d : Nat) (σ : Sg) (S : List Value) (l0 l1 : Value) (x : Int32), exec d mX7_restore 19 [l0, l1] (.int x :: S) σ = if x = nI 0 then exec d mX7_restore 22 [l0, l1] S σ else exec d mX7_restore 25 [l0, l1] S σ) ∧
  (∀ (d : Nat) (σ : Sg) (S : List Value) (l0 l1 : Value), exec d mX7_restore 22 [l0, l1] S σ = exec d mX7_restore 24 [l0, l1] (.int ((-1000002)) :: S) σ) ∧
  (∀ (d : Nat) (σ : Sg) (l0 l1 : Value) (x : Int32), exec d mX7_restore 24 [l0, l1] [.int x] σ = some (some (.int x), σ)) ∧
  (∀ (d : Nat) (σ : Sg) (S : List Value) (l1 : Value) (k : Nat), exec d mX7_restore 25 [.ref k, l1] S σ = exec d mX7_restore 26 [.ref k, l1] (.ref k :: S) σ) ∧
  (∀ (d : Nat) (σ : Sg) (S : List Value) (l0 l1 : Value), exec d mX7_restore 26 [l0, l1] S σ = exec d mX7_restore 28 [l0, l1] (.int (nI 52) :: S) σ) ∧
  (∀ (d : Nat) (σ : Sg) (S : List Value) (l0 l1 : Value), exec d mX7_restore 28 [l0, l1] S σ = exec d mX7_restore 29 [l0, l1] (.int (nI 1) :: S) σ) ∧
  (∀ (d : Nat) (σ : Sg) (S : List Value) (l0 : Value) (x : Int32), exec d mX7_restore 29 [l0, .int x] S σ = exec d mX7_restore 30 [l0, .int x] (.int x :: S) σ) ∧
  (∀ (d : Nat) (σ : Sg) (S : List Value) (l0 l1 : Value) (x y : Int32), exec d mX7_restore 30 [l0, l1] (.int y :: .int x :: S) σ = exec d mX7_restore 31 [l0, l1] (.int (x + y) :: S) σ) ∧
  (∀ (d : Nat) (σ : Sg) (S : List Value) (l0 l1 : Value) (x y : Int32), exec d mX7_restore 31 [l0, l1] (.int y :: .int x :: S) σ = exec d mX7_restore 32 [l0, l1] (.int (x * y) :: S) σ) ∧
  (∀ (d : Nat) (σ : Sg) (S : List Value) (l0 l1 : Value), exec d mX7_restore 32 [l0, l1] S σ = exec d mX7_restore 33 [l0, l1] (.int (nI 0) :: S) σ) ∧
  (∀ (d : Nat) (σ : Sg) (l0 l1 : Value) (x0 x1 : Int32), exec d mX7_restore 33 [l0, l1] [.int x0, .int x1, .ref 50] σ = kb (cal d mX7_copyAll [.ref 50, .int x1, .int x0] σ) (fun rs σ2 => exec d mX7_restore 36 [l0, l1] (rs ++ []) σ2)) ∧
  (∀ (d : Nat) (σ : Sg) (S : List Value) (l1 : Value) (k : Nat), exec d mX7_restore 36 [.ref k, l1] S σ = exec d mX7_restore 37 [.ref k, l1] (.ref k :: S) σ) ∧
  (∀ (d : Nat) (σ : Sg) (S : List Value) (l0 l1 : Value), exec d mX7_restore 37 [l0, l1] S σ = exec d mX7_restore 38 [l0, l1] (.int (nI 0) :: S) σ) ∧
  (∀ (d : Nat) (σ : Sg) (S : List Value) (l0 l1 : Value) (x : Int32), exec d mX7_restore 38 [l0, l1] (.int x :: .ref 50 :: S) σ = exec d mX7_restore 41 [l0, l1] S (up σ 50 3 x)) ∧
  (∀ (d : Nat) (σ : Sg) (S : List Value) (l0 l1 : Value), exec d mX7_restore 41 [l0, l1] S σ = exec d mX7_restore 42 [l0, l1] (.int (nI 1) :: S) σ) ∧
  (∀ (d : Nat) (σ : Sg) (l0 l1 : Value) (x : Int32), exec d mX7_restore 42 [l0, l1] [.int x] σ = some (some (.int x), σ)) :=
  ⟨fun d σ S l0 x => ex_iload_n (show decode mX7_restore.2.1 0 = .ok (.iload_n 1, 1) by decide +kernel) rfl,
  fun d σ S l0 l1 x => ex_i2l (show decode mX7_restore.2.1 1 = .ok (.i2l, 1) by decide +kernel),
  fun d σ S l0 l1 => ex_lconst (show decode mX7_restore.2.1 2 = .ok (.lconst 0, 1) by decide +kernel) (by decide +kernel),
  fun d σ S l0 l1 => ex_lconst (show decode mX7_restore.2.1 3 = .ok (.lconst 1, 1) by decide +kernel) (by decide +kernel),
  fun d σ l0 l1 x0 x1 x2 => ex_is (hs := [920, 921, 922, 101]) (show decode mX7_restore.2.1 4 = .ok (.invokestatic 63, 3) by decide +kernel) lkS_7_63 ⟨rfl, Nat.le_of_ble_eq_true rfl, Nat.le_of_ble_eq_true rfl, fun q => nomatch q⟩ rfl rfl,
  fun d σ S l0 l1 x => ex_zne (show decode mX7_restore.2.1 7 = .ok (.ifCond .ne 6, 3) by decide +kernel) (by decide),
  fun d σ S l0 l1 => ex_ldc (hh := 924) (show decode mX7_restore.2.1 10 = .ok (.ldc 73, 2) by decide +kernel) (by decide +kernel),
  fun d σ l0 l1 x => ex_iret (show decode mX7_restore.2.1 12 = .ok (.ireturn, 1) by decide +kernel) rfl,
  fun d σ S l1 k => ex_aload_n (show decode mX7_restore.2.1 13 = .ok (.aload_n 0, 1) by decide +kernel) rfl,
  fun d σ S l0 l1 => ex_getr (idx := 13) (ci := 7) (ff := 1) (n := 26) (hh := 834) (by decide +kernel),
  fun d σ S l0 x => ex_iload_n (show decode mX7_restore.2.1 17 = .ok (.iload_n 1, 1) by decide +kernel) rfl,
  fun d σ S l0 l1 x => ex_bald (by decide +kernel),
  fun d σ S l0 l1 x => ex_zne (show decode mX7_restore.2.1 19 = .ok (.ifCond .ne 6, 3) by decide +kernel) (by decide),
  fun d σ S l0 l1 => ex_ldc (hh := 1009) (show decode mX7_restore.2.1 22 = .ok (.ldc 171, 2) by decide +kernel) (by decide +kernel),
  fun d σ l0 l1 x => ex_iret (show decode mX7_restore.2.1 24 = .ok (.ireturn, 1) by decide +kernel) rfl,
  fun d σ S l1 k => ex_aload_n (show decode mX7_restore.2.1 25 = .ok (.aload_n 0, 1) by decide +kernel) rfl,
  fun d σ S l0 l1 => ex_bipush (show decode mX7_restore.2.1 26 = .ok (.bipush 52, 2) by decide +kernel) (by decide +kernel),
  fun d σ S l0 l1 => ex_iconst (show decode mX7_restore.2.1 28 = .ok (.iconst 1, 1) by decide +kernel) (by decide +kernel),
  fun d σ S l0 x => ex_iload_n (show decode mX7_restore.2.1 29 = .ok (.iload_n 1, 1) by decide +kernel) rfl,
  fun d σ S l0 l1 x y => ex_iadd (show decode mX7_restore.2.1 30 = .ok (.iadd, 1) by decide +kernel),
  fun d σ S l0 l1 x y => ex_imul (show decode mX7_restore.2.1 31 = .ok (.imul, 1) by decide +kernel),
  fun d σ S l0 l1 => ex_iconst (show decode mX7_restore.2.1 32 = .ok (.iconst 0, 1) by decide +kernel) (by decide +kernel),
  fun d σ l0 l1 x0 x1 => ex_iv (hs := [997, 999, 64, 1000, 101]) (show decode mX7_restore.2.1 33 = .ok (.invokevirtual 137, 3) by decide +kernel) lkV_7_137 ⟨rfl, Nat.le_of_ble_eq_true rfl, Nat.le_of_ble_eq_true rfl, fun _ => rfl⟩ rfl rfl,
  fun d σ S l1 k => ex_aload_n (show decode mX7_restore.2.1 36 = .ok (.aload_n 0, 1) by decide +kernel) rfl,
  fun d σ S l0 l1 => ex_iconst (show decode mX7_restore.2.1 37 = .ok (.iconst 0, 1) by decide +kernel) (by decide +kernel),
  fun d σ S l0 l1 x => ex_put (idx := 141) (ci := 7) (ff := 3) (n := 26) (hh := 836) (by decide +kernel),
  fun d σ S l0 l1 => ex_iconst (show decode mX7_restore.2.1 41 = .ok (.iconst 1, 1) by decide +kernel) (by decide +kernel),
  fun d σ l0 l1 x => ex_iret (show decode mX7_restore.2.1 42 = .ok (.ireturn, 1) by decide +kernel) rfl⟩
theorem aX7_restore_50 : ∀ (d : Nat) (a1 : Int32) (σ : Sg), cal (d + 1) mX7_restore [.ref 50, .int a1] σ = exec d mX7_restore 0 [.ref 50, .int a1] [] σ := fun _ _ _ => rfl
theorem kX7_kind : (∀ (d : Nat) (σ : Sg) (S : List Value) (l1 : Value) (k : Nat), exec d mX7_kind 0 [.ref k, l1] S σ = exec d mX7_kind 1 [.ref k, l1] (.ref k :: S) σ) ∧
  (∀ (d : Nat) (σ : Sg) (S : List Value) (l0 : Value) (x : Int32), exec d mX7_kind 1 [l0, .int x] S σ = exec d mX7_kind 2 [l0, .int x] (.int x :: S) σ) ∧
  (∀ (d : Nat) (σ : Sg) (l0 l1 : Value) (x0 : Int32), exec d mX7_kind 2 [l0, l1] [.int x0, .ref 50] σ = kb (cal d mX7_isPart [.ref 50, .int x0] σ) (fun rs σ2 => exec d mX7_kind 5 [l0, l1] (rs ++ []) σ2)) ∧
  (∀ (d : Nat) (σ : Sg) (S : List Value) (l0 l1 : Value) (x : Int32), exec d mX7_kind 5 [l0, l1] (.int x :: S) σ = if x = nI 0 then exec d mX7_kind 20 [l0, l1] S σ else exec d mX7_kind 8 [l0, l1] S σ) ∧
  (∀ (d : Nat) (σ : Sg) (S : List Value) (l1 : Value) (k : Nat), exec d mX7_kind 8 [.ref k, l1] S σ = exec d mX7_kind 9 [.ref k, l1] (.ref k :: S) σ) ∧
  (∀ (d : Nat) (σ : Sg) (S : List Value) (l0 l1 : Value), exec d mX7_kind 9 [l0, l1] (.ref 50 :: S) σ = exec d mX7_kind 12 [l0, l1] (.ref 51 :: S) σ) ∧
  (∀ (d : Nat) (σ : Sg) (S : List Value) (l0 l1 : Value), exec d mX7_kind 12 [l0, l1] S σ = exec d mX7_kind 14 [l0, l1] (.int (nI 9) :: S) σ) ∧
  (∀ (d : Nat) (σ : Sg) (S : List Value) (l0 : Value) (x : Int32), exec d mX7_kind 14 [l0, .int x] S σ = exec d mX7_kind 15 [l0, .int x] (.int x :: S) σ) ∧
  (∀ (d : Nat) (σ : Sg) (S : List Value) (l0 l1 : Value) (x y : Int32), exec d mX7_kind 15 [l0, l1] (.int y :: .int x :: S) σ = exec d mX7_kind 16 [l0, l1] (.int (x + y) :: S) σ) ∧
  (∀ (d : Nat) (σ : Sg) (S : List Value) (l0 l1 : Value) (x : Int32), exec d mX7_kind 16 [l0, l1] (.int x :: .ref 51 :: S) σ = if inb x 208 = true then exec d mX7_kind 17 [l0, l1] (.int (σ 51 x.toNatClampNeg) :: S) σ else none) ∧
  (∀ (d : Nat) (σ : Sg) (S : List Value) (l0 l1 : Value), exec d mX7_kind 17 [l0, l1] S σ = exec d mX7_kind 22 [l0, l1] S σ) ∧
  (∀ (d : Nat) (σ : Sg) (S : List Value) (l0 l1 : Value), exec d mX7_kind 20 [l0, l1] S σ = exec d mX7_kind 22 [l0, l1] (.int ((-1000001)) :: S) σ) ∧
  (∀ (d : Nat) (σ : Sg) (l0 l1 : Value) (x : Int32), exec d mX7_kind 22 [l0, l1] [.int x] σ = some (some (.int x), σ)) :=
  ⟨fun d σ S l1 k => ex_aload_n (show decode mX7_kind.2.1 0 = .ok (.aload_n 0, 1) by decide +kernel) rfl,
  fun d σ S l0 x => ex_iload_n (show decode mX7_kind.2.1 1 = .ok (.iload_n 1, 1) by decide +kernel) rfl,
  fun d σ l0 l1 x0 => ex_iv (hs := [1014, 1016, 65, 1017, 101]) (show decode mX7_kind.2.1 2 = .ok (.invokevirtual 172, 3) by decide +kernel) lkV_7_172 ⟨rfl, Nat.le_of_ble_eq_true rfl, Nat.le_of_ble_eq_true rfl, fun _ => rfl⟩ rfl rfl,
  fun d σ S l0 l1 x => ex_zeq (show decode mX7_kind.2.1 5 = .ok (.ifCond .eq 15, 3) by decide +kernel) (by decide),
  fun d σ S l1 k => ex_aload_n (show decode mX7_kind.2.1 8 = .ok (.aload_n 0, 1) by decide +kernel) rfl,
  fun d σ S l0 l1 => ex_getr (idx := 7) (ci := 7) (ff := 0) (n := 26) (hh := 833) (by decide +kernel),
  fun d σ S l0 l1 => ex_bipush (show decode mX7_kind.2.1 12 = .ok (.bipush 9, 2) by decide +kernel) (by decide +kernel),
  fun d σ S l0 x => ex_iload_n (show decode mX7_kind.2.1 14 = .ok (.iload_n 1, 1) by decide +kernel) rfl,
  fun d σ S l0 l1 x y => ex_iadd (show decode mX7_kind.2.1 15 = .ok (.iadd, 1) by decide +kernel),
  fun d σ S l0 l1 x => ex_iald (by decide +kernel),
  fun d σ S l0 l1 => ex_goto (show decode mX7_kind.2.1 17 = .ok (.goto 5, 3) by decide +kernel) (by decide),
  fun d σ S l0 l1 => ex_ldc (hh := 924) (show decode mX7_kind.2.1 20 = .ok (.ldc 73, 2) by decide +kernel) (by decide +kernel),
  fun d σ l0 l1 x => ex_iret (show decode mX7_kind.2.1 22 = .ok (.ireturn, 1) by decide +kernel) rfl⟩
theorem aX7_kind_50 : ∀ (d : Nat) (a1 : Int32) (σ : Sg), cal (d + 1) mX7_kind [.ref 50, .int a1] σ = exec d mX7_kind 0 [.ref 50, .int a1] [] σ := fun _ _ _ => rfl
theorem kX7_as_0 : (∀ (d : Nat) (σ : Sg) (S : List Value) (l1 l2 l3 l4 : Value) (k : Nat), exec d mX7_as 0 [.ref k, l1, l2, l3, l4] S σ = exec d mX7_as 1 [.ref k, l1, l2, l3, l4] (.ref k :: S) σ) ∧
  (∀ (d : Nat) (σ : Sg) (S : List Value) (l0 l2 l3 l4 : Value) (x : Int32), exec d mX7_as 1 [l0, .int x, l2, l3, l4] S σ = exec d mX7_as 2 [l0, .int x, l2, l3, l4] (.int x :: S) σ) ∧
  (∀ (d : Nat) (σ : Sg) (l0 l1 l2 l3 l4 : Value) (x0 : Int32), exec d mX7_as 2 [l0, l1, l2, l3, l4] [.int x0, .ref 50] σ = kb (cal d mX7_isPart [.ref 50, .int x0] σ) (fun rs σ2 => exec d mX7_as 5 [l0, l1, l2, l3, l4] (rs ++ []) σ2)) ∧
  (∀ (d : Nat) (σ : Sg) (S : List Value) (l0 l1 l2 l3 l4 : Value) (x : Int32), exec d mX7_as 5 [l0, l1, l2, l3, l4] (.int x :: S) σ = if x = nI 0 then exec d mX7_as 20 [l0, l1, l2, l3, l4] S σ else exec d mX7_as 8 [l0, l1, l2, l3, l4] S σ) ∧
  (∀ (d : Nat) (σ : Sg) (S : List Value) (l0 l1 l3 l4 : Value) (x : Int32), exec d mX7_as 8 [l0, l1, .int x, l3, l4] S σ = exec d mX7_as 9 [l0, l1, .int x, l3, l4] (.int x :: S) σ) ∧
  (∀ (d : Nat) (σ : Sg) (S : List Value) (l0 l1 l2 l3 l4 : Value) (x : Int32), exec d mX7_as 9 [l0, l1, l2, l3, l4] (.int x :: S) σ = exec d mX7_as 10 [l0, l1, l2, l3, l4] (.long x.toInt64 :: S) σ) ∧
  (∀ (d : Nat) (σ : Sg) (S : List Value) (l0 l1 l2 l3 l4 : Value), exec d mX7_as 10 [l0, l1, l2, l3, l4] S σ = exec d mX7_as 11 [l0, l1, l2, l3, l4] (.long (lN 0) :: S) σ) ∧
  (∀ (d : Nat) (σ : Sg) (S : List Value) (l0 l1 l2 l3 l4 : Value), exec d mX7_as 11 [l0, l1, l2, l3, l4] S σ = exec d mX7_as 14 [l0, l1, l2, l3, l4] (.long (lN 5) :: S) σ) ∧
  (∀ (d : Nat) (σ : Sg) (l0 l1 l2 l3 l4 : Value) (x0 x1 x2 : Int64), exec d mX7_as 14 [l0, l1, l2, l3, l4] [.long x0, .long x1, .long x2] σ = kb (cal d mX7_in [.long x2, .long x1, .long x0] σ) (fun rs σ2 => exec d mX7_as 17 [l0, l1, l2, l3, l4] (rs ++ []) σ2)) ∧
  (∀ (d : Nat) (σ : Sg) (S : List Value) (l0 l1 l2 l3 l4 : Value) (x : Int32), exec d mX7_as 17 [l0, l1, l2, l3, l4] (.int x :: S) σ = if x = nI 0 then exec d mX7_as 20 [l0, l1, l2, l3, l4] S σ else exec d mX7_as 23 [l0, l1, l2, l3, l4] S σ) ∧
  (∀ (d : Nat) (σ : Sg) (S : List Value) (l0 l1 l2 l3 l4 : Value), exec d mX7_as 20 [l0, l1, l2, l3, l4] S σ = exec d mX7_as 22 [l0, l1, l2, l3, l4] (.int ((-1000001)) :: S) σ) ∧
  (∀ (d : Nat) (σ : Sg) (l0 l1 l2 l3 l4 : Value) (x : Int32), exec d mX7_as 22 [l0, l1, l2, l3, l4] [.int x] σ = some (some (.int x), σ)) ∧
  (∀ (d : Nat) (σ : Sg) (S : List Value) (l1 l2 l3 l4 : Value) (k : Nat), exec d mX7_as 23 [.ref k, l1, l2, l3, l4] S σ = exec d mX7_as 24 [.ref k, l1, l2, l3, l4] (.ref k :: S) σ) ∧
  (∀ (d : Nat) (σ : Sg) (S : List Value) (l0 l1 l2 l3 l4 : Value), exec d mX7_as 24 [l0, l1, l2, l3, l4] (.ref 50 :: S) σ = exec d mX7_as 27 [l0, l1, l2, l3, l4] (.ref 51 :: S) σ) ∧
  (∀ (d : Nat) (σ : Sg) (S : List Value) (l0 l1 l2 l3 l4 : Value), exec d mX7_as 27 [l0, l1, l2, l3, l4] S σ = exec d mX7_as 29 [l0, l1, l2, l3, l4] (.int (nI 9) :: S) σ) ∧
  (∀ (d : Nat) (σ : Sg) (S : List Value) (l0 l2 l3 l4 : Value) (x : Int32), exec d mX7_as 29 [l0, .int x, l2, l3, l4] S σ = exec d mX7_as 30 [l0, .int x, l2, l3, l4] (.int x :: S) σ) ∧
  (∀ (d : Nat) (σ : Sg) (S : List Value) (l0 l1 l2 l3 l4 : Value) (x y : Int32), exec d mX7_as 30 [l0, l1, l2, l3, l4] (.int y :: .int x :: S) σ = exec d mX7_as 31 [l0, l1, l2, l3, l4] (.int (x + y) :: S) σ) ∧
  (∀ (d : Nat) (σ : Sg) (S : List Value) (l0 l1 l2 l3 l4 : Value) (x : Int32), exec d mX7_as 31 [l0, l1, l2, l3, l4] (.int x :: .ref 51 :: S) σ = if inb x 208 = true then exec d mX7_as 32 [l0, l1, l2, l3, l4] (.int (σ 51 x.toNatClampNeg) :: S) σ else none) ∧
  (∀ (d : Nat) (σ : Sg) (S : List Value) (l0 l1 l3 l4 : Value) (x y : Int32), exec d mX7_as 32 [l0, l1, .int y, l3, l4] (.int x :: S) σ = exec d mX7_as 33 [l0, l1, .int y, .int x, l4] S σ) ∧
  (∀ (d : Nat) (σ : Sg) (S : List Value) (l0 l1 l3 l4 : Value) (x : Int32), exec d mX7_as 33 [l0, l1, .int x, l3, l4] S σ = exec d mX7_as 34 [l0, l1, .int x, l3, l4] (.int x :: S) σ) ∧
  (∀ (d : Nat) (σ : Sg) (S : List Value) (l0 l1 l2 l3 l4 : Value) (x : Int32), exec d mX7_as 34 [l0, l1, l2, l3, l4] (.int x :: S) σ = if x = nI 0 then exec d mX7_as 67 [l0, l1, l2, l3, l4] S σ else exec d mX7_as 37 [l0, l1, l2, l3, l4] S σ) ∧
  (∀ (d : Nat) (σ : Sg) (S : List Value) (l0 l1 l3 l4 : Value) (x : Int32), exec d mX7_as 37 [l0, l1, .int x, l3, l4] S σ = exec d mX7_as 38 [l0, l1, .int x, l3, l4] (.int x :: S) σ) ∧
  (∀ (d : Nat) (σ : Sg) (S : List Value) (l0 l1 l2 l4 : Value) (x : Int32), exec d mX7_as 38 [l0, l1, l2, .int x, l4] S σ = exec d mX7_as 39 [l0, l1, l2, .int x, l4] (.int x :: S) σ) ∧
  (∀ (d : Nat) (σ : Sg) (S : List Value) (l0 l1 l2 l3 l4 : Value) (x y : Int32), exec d mX7_as 39 [l0, l1, l2, l3, l4] (.int y :: .int x :: S) σ = if x = y then exec d mX7_as 67 [l0, l1, l2, l3, l4] S σ else exec d mX7_as 42 [l0, l1, l2, l3, l4] S σ) ∧
  (∀ (d : Nat) (σ : Sg) (S : List Value) (l0 l1 l3 l4 : Value) (x : Int32), exec d mX7_as 42 [l0, l1, .int x, l3, l4] S σ = exec d mX7_as 43 [l0, l1, .int x, l3, l4] (.int x :: S) σ) ∧
  (∀ (d : Nat) (σ : Sg) (S : List Value) (l0 l1 l2 l3 l4 : Value), exec d mX7_as 43 [l0, l1, l2, l3, l4] S σ = exec d mX7_as 44 [l0, l1, l2, l3, l4] (.int (nI 1) :: S) σ) ∧
  (∀ (d : Nat) (σ : Sg) (S : List Value) (l0 l1 l2 l3 l4 : Value) (x y : Int32), exec d mX7_as 44 [l0, l1, l2, l3, l4] (.int y :: .int x :: S) σ = if x = y then exec d mX7_as 47 [l0, l1, l2, l3, l4] S σ else exec d mX7_as 57 [l0, l1, l2, l3, l4] S σ) ∧
  (∀ (d : Nat) (σ : Sg) (S : List Value) (l0 l1 l2 l4 : Value) (x : Int32), exec d mX7_as 47 [l0, l1, l2, .int x, l4] S σ = exec d mX7_as 48 [l0, l1, l2, .int x, l4] (.int x :: S) σ) ∧
  (∀ (d : Nat) (σ : Sg) (S : List Value) (l0 l1 l2 l3 l4 : Value), exec d mX7_as 48 [l0, l1, l2, l3, l4] S σ = exec d mX7_as 49 [l0, l1, l2, l3, l4] (.int (nI 2) :: S) σ) ∧
  (∀ (d : Nat) (σ : Sg) (S : List Value) (l0 l1 l2 l3 l4 : Value) (x y : Int32), exec d mX7_as 49 [l0, l1, l2, l3, l4] (.int y :: .int x :: S) σ = if x = y then exec d mX7_as 67 [l0, l1, l2, l3, l4] S σ else exec d mX7_as 52 [l0, l1, l2, l3, l4] S σ) ∧
  (∀ (d : Nat) (σ : Sg) (S : List Value) (l0 l1 l2 l4 : Value) (x : Int32), exec d mX7_as 52 [l0, l1, l2, .int x, l4] S σ = exec d mX7_as 53 [l0, l1, l2, .int x, l4] (.int x :: S) σ) ∧
  (∀ (d : Nat) (σ : Sg) (S : List Value) (l0 l1 l2 l3 l4 : Value), exec d mX7_as 53 [l0, l1, l2, l3, l4] S σ = exec d mX7_as 54 [l0, l1, l2, l3, l4] (.int (nI 3) :: S) σ) ∧
  (∀ (d : Nat) (σ : Sg) (S : List Value) (l0 l1 l2 l3 l4 : Value) (x y : Int32), exec d mX7_as 54 [l0, l1, l2, l3, l4] (.int y :: .int x :: S) σ = if x = y then exec d mX7_as 67 [l0, l1, l2, l3, l4] S σ else exec d mX7_as 57 [l0, l1, l2, l3, l4] S σ) ∧
  (∀ (d : Nat) (σ : Sg) (S : List Value) (l0 l1 l3 l4 : Value) (x : Int32), exec d mX7_as 57 [l0, l1, .int x, l3, l4] S σ = exec d mX7_as 58 [l0, l1, .int x, l3, l4] (.int x :: S) σ) ∧
  (∀ (d : Nat) (σ : Sg) (S : List Value) (l0 l1 l2 l3 l4 : Value), exec d mX7_as 58 [l0, l1, l2, l3, l4] S σ = exec d mX7_as 59 [l0, l1, l2, l3, l4] (.int (nI 4) :: S) σ) ∧
  (∀ (d : Nat) (σ : Sg) (S : List Value) (l0 l1 l2 l3 l4 : Value) (x y : Int32), exec d mX7_as 59 [l0, l1, l2, l3, l4] (.int y :: .int x :: S) σ = if x = y then exec d mX7_as 62 [l0, l1, l2, l3, l4] S σ else exec d mX7_as 71 [l0, l1, l2, l3, l4] S σ) ∧
  (∀ (d : Nat) (σ : Sg) (S : List Value) (l0 l1 l2 l4 : Value) (x : Int32), exec d mX7_as 62 [l0, l1, l2, .int x, l4] S σ = exec d mX7_as 63 [l0, l1, l2, .int x, l4] (.int x :: S) σ) ∧
  (∀ (d : Nat) (σ : Sg) (S : List Value) (l0 l1 l2 l3 l4 : Value), exec d mX7_as 63 [l0, l1, l2, l3, l4] S σ = exec d mX7_as 64 [l0, l1, l2, l3, l4] (.int (nI 5) :: S) σ) ∧
  (∀ (d : Nat) (σ : Sg) (S : List Value) (l0 l1 l2 l3 l4 : Value) (x y : Int32), exec d mX7_as 64 [l0, l1, l2, l3, l4] (.int y :: .int x :: S) σ = if x = y then exec d mX7_as 67 [l0, l1, l2, l3, l4] S σ else exec d mX7_as 71 [l0, l1, l2, l3, l4] S σ) ∧
  (∀ (d : Nat) (σ : Sg) (S : List Value) (l0 l1 l2 l3 l4 : Value), exec d mX7_as 67 [l0, l1, l2, l3, l4] S σ = exec d mX7_as 68 [l0, l1, l2, l3, l4] (.int (nI 1) :: S) σ) :=
  ⟨fun d σ S l1 l2 l3 l4 k => ex_aload_n (show decode mX7_as.2.1 0 = .ok (.aload_n 0, 1) by decide +kernel) rfl,
  fun d σ S l0 l2 l3 l4 x => ex_iload_n (show decode mX7_as.2.1 1 = .ok (.iload_n 1, 1) by decide +kernel) rfl,
  fun d σ l0 l1 l2 l3 l4 x0 => ex_iv (hs := [1014, 1016, 65, 1017, 101]) (show decode mX7_as.2.1 2 = .ok (.invokevirtual 172, 3) by decide +kernel) lkV_7_172 ⟨rfl, Nat.le_of_ble_eq_true rfl, Nat.le_of_ble_eq_true rfl, fun _ => rfl⟩ rfl rfl,
  fun d σ S l0 l1 l2 l3 l4 x => ex_zeq (show decode mX7_as.2.1 5 = .ok (.ifCond .eq 15, 3) by decide +kernel) (by decide),
  fun d σ S l0 l1 l3 l4 x => ex_iload_n (show decode mX7_as.2.1 8 = .ok (.iload_n 2, 1) by decide +kernel) rfl,
  fun d σ S l0 l1 l2 l3 l4 x => ex_i2l (show decode mX7_as.2.1 9 = .ok (.i2l, 1) by decide +kernel),
  fun d σ S l0 l1 l2 l3 l4 => ex_lconst (show decode mX7_as.2.1 10 = .ok (.lconst 0, 1) by decide +kernel) (by decide +kernel),
  fun d σ S l0 l1 l2 l3 l4 => ex_ldc2 (hh := 1197) (show decode mX7_as.2.1 11 = .ok (.ldc2_w 260, 3) by decide +kernel) (by decide +kernel),
  fun d σ l0 l1 l2 l3 l4 x0 x1 x2 => ex_is (hs := [920, 921, 922, 101]) (show decode mX7_as.2.1 14 = .ok (.invokestatic 63, 3) by decide +kernel) lkS_7_63 ⟨rfl, Nat.le_of_ble_eq_true rfl, Nat.le_of_ble_eq_true rfl, fun q => nomatch q⟩ rfl rfl,
  fun d σ S l0 l1 l2 l3 l4 x => ex_zne (show decode mX7_as.2.1 17 = .ok (.ifCond .ne 6, 3) by decide +kernel) (by decide),
  fun d σ S l0 l1 l2 l3 l4 => ex_ldc (hh := 924) (show decode mX7_as.2.1 20 = .ok (.ldc 73, 2) by decide +kernel) (by decide +kernel),
  fun d σ l0 l1 l2 l3 l4 x => ex_iret (show decode mX7_as.2.1 22 = .ok (.ireturn, 1) by decide +kernel) rfl,
  fun d σ S l1 l2 l3 l4 k => ex_aload_n (show decode mX7_as.2.1 23 = .ok (.aload_n 0, 1) by decide +kernel) rfl,
  fun d σ S l0 l1 l2 l3 l4 => ex_getr (idx := 7) (ci := 7) (ff := 0) (n := 26) (hh := 833) (by decide +kernel),
  fun d σ S l0 l1 l2 l3 l4 => ex_bipush (show decode mX7_as.2.1 27 = .ok (.bipush 9, 2) by decide +kernel) (by decide +kernel),
  fun d σ S l0 l2 l3 l4 x => ex_iload_n (show decode mX7_as.2.1 29 = .ok (.iload_n 1, 1) by decide +kernel) rfl,
  fun d σ S l0 l1 l2 l3 l4 x y => ex_iadd (show decode mX7_as.2.1 30 = .ok (.iadd, 1) by decide +kernel),
  fun d σ S l0 l1 l2 l3 l4 x => ex_iald (by decide +kernel),
  fun d σ S l0 l1 l3 l4 x y => ex_istore_n (show decode mX7_as.2.1 32 = .ok (.istore_n 3, 1) by decide +kernel) (Nat.le_of_ble_eq_true rfl) rfl,
  fun d σ S l0 l1 l3 l4 x => ex_iload_n (show decode mX7_as.2.1 33 = .ok (.iload_n 2, 1) by decide +kernel) rfl,
  fun d σ S l0 l1 l2 l3 l4 x => ex_zeq (show decode mX7_as.2.1 34 = .ok (.ifCond .eq 33, 3) by decide +kernel) (by decide),
  fun d σ S l0 l1 l3 l4 x => ex_iload_n (show decode mX7_as.2.1 37 = .ok (.iload_n 2, 1) by decide +kernel) rfl,
  fun d σ S l0 l1 l2 l4 x => ex_iload_n (show decode mX7_as.2.1 38 = .ok (.iload_n 3, 1) by decide +kernel) rfl,
  fun d σ S l0 l1 l2 l3 l4 x y => ex_ceq (show decode mX7_as.2.1 39 = .ok (.if_icmp .eq 28, 3) by decide +kernel) (by decide),
  fun d σ S l0 l1 l3 l4 x => ex_iload_n (show decode mX7_as.2.1 42 = .ok (.iload_n 2, 1) by decide +kernel) rfl,
  fun d σ S l0 l1 l2 l3 l4 => ex_iconst (show decode mX7_as.2.1 43 = .ok (.iconst 1, 1) by decide +kernel) (by decide +kernel),
  fun d σ S l0 l1 l2 l3 l4 x y => ex_cne (show decode mX7_as.2.1 44 = .ok (.if_icmp .ne 13, 3) by decide +kernel) (by decide),
  fun d σ S l0 l1 l2 l4 x => ex_iload_n (show decode mX7_as.2.1 47 = .ok (.iload_n 3, 1) by decide +kernel) rfl,
  fun d σ S l0 l1 l2 l3 l4 => ex_iconst (show decode mX7_as.2.1 48 = .ok (.iconst 2, 1) by decide +kernel) (by decide +kernel),
  fun d σ S l0 l1 l2 l3 l4 x y => ex_ceq (show decode mX7_as.2.1 49 = .ok (.if_icmp .eq 18, 3) by decide +kernel) (by decide),
  fun d σ S l0 l1 l2 l4 x => ex_iload_n (show decode mX7_as.2.1 52 = .ok (.iload_n 3, 1) by decide +kernel) rfl,
  fun d σ S l0 l1 l2 l3 l4 => ex_iconst (show decode mX7_as.2.1 53 = .ok (.iconst 3, 1) by decide +kernel) (by decide +kernel),
  fun d σ S l0 l1 l2 l3 l4 x y => ex_ceq (show decode mX7_as.2.1 54 = .ok (.if_icmp .eq 13, 3) by decide +kernel) (by decide),
  fun d σ S l0 l1 l3 l4 x => ex_iload_n (show decode mX7_as.2.1 57 = .ok (.iload_n 2, 1) by decide +kernel) rfl,
  fun d σ S l0 l1 l2 l3 l4 => ex_iconst (show decode mX7_as.2.1 58 = .ok (.iconst 4, 1) by decide +kernel) (by decide +kernel),
  fun d σ S l0 l1 l2 l3 l4 x y => ex_cne (show decode mX7_as.2.1 59 = .ok (.if_icmp .ne 12, 3) by decide +kernel) (by decide),
  fun d σ S l0 l1 l2 l4 x => ex_iload_n (show decode mX7_as.2.1 62 = .ok (.iload_n 3, 1) by decide +kernel) rfl,
  fun d σ S l0 l1 l2 l3 l4 => ex_iconst (show decode mX7_as.2.1 63 = .ok (.iconst 5, 1) by decide +kernel) (by decide +kernel),
  fun d σ S l0 l1 l2 l3 l4 x y => ex_cne (show decode mX7_as.2.1 64 = .ok (.if_icmp .ne 7, 3) by decide +kernel) (by decide),
  fun d σ S l0 l1 l2 l3 l4 => ex_iconst (show decode mX7_as.2.1 67 = .ok (.iconst 1, 1) by decide +kernel) (by decide +kernel)⟩
theorem kX7_as_1 : (∀ (d : Nat) (σ : Sg) (S : List Value) (l0 l1 l2 l3 l4 : Value), exec d mX7_as 68 [l0, l1, l2, l3, l4] S σ = exec d mX7_as 72 [l0, l1, l2, l3, l4] S σ) ∧
  (∀ (d : Nat) (σ : Sg) (S : List Value) (l0 l1 l2 l3 l4 : Value), exec d mX7_as 71 [l0, l1, l2, l3, l4] S σ = exec d mX7_as 72 [l0, l1, l2, l3, l4] (.int (nI 0) :: S) σ) ∧
  (∀ (d : Nat) (σ : Sg) (S : List Value) (l0 l1 l2 l4 : Value) (x y : Int32), exec d mX7_as 72 [l0, l1, l2, .int y, l4] (.int x :: S) σ = exec d mX7_as 74 [l0, l1, l2, .int y, .int x] S σ) ∧
  (∀ (d : Nat) (σ : Sg) (S : List Value) (l0 l1 l2 l3 : Value) (x : Int32), exec d mX7_as 74 [l0, l1, l2, l3, .int x] S σ = exec d mX7_as 76 [l0, l1, l2, l3, .int x] (.int x :: S) σ) ∧
  (∀ (d : Nat) (σ : Sg) (S : List Value) (l0 l1 l2 l3 l4 : Value) (x : Int32), exec d mX7_as 76 [l0, l1, l2, l3, l4] (.int x :: S) σ = if x = nI 0 then exec d mX7_as 87 [l0, l1, l2, l3, l4] S σ else exec d mX7_as 79 [l0, l1, l2, l3, l4] S σ) ∧
  (∀ (d : Nat) (σ : Sg) (S : List Value) (l1 l2 l3 l4 : Value) (k : Nat), exec d mX7_as 79 [.ref k, l1, l2, l3, l4] S σ = exec d mX7_as 80 [.ref k, l1, l2, l3, l4] (.ref k :: S) σ) ∧
  (∀ (d : Nat) (σ : Sg) (S : List Value) (l0 l2 l3 l4 : Value) (x : Int32), exec d mX7_as 80 [l0, .int x, l2, l3, l4] S σ = exec d mX7_as 81 [l0, .int x, l2, l3, l4] (.int x :: S) σ) ∧
  (∀ (d : Nat) (σ : Sg) (l0 l1 l2 l3 l4 : Value) (x0 : Int32), exec d mX7_as 81 [l0, l1, l2, l3, l4] [.int x0, .ref 50] σ = kb (cal d mX7_good [.ref 50, .int x0] σ) (fun rs σ2 => exec d mX7_as 84 [l0, l1, l2, l3, l4] (rs ++ []) σ2)) ∧
  (∀ (d : Nat) (σ : Sg) (S : List Value) (l0 l1 l2 l3 l4 : Value), exec d mX7_as 84 [l0, l1, l2, l3, l4] S σ = exec d mX7_as 92 [l0, l1, l2, l3, l4] S σ) ∧
  (∀ (d : Nat) (σ : Sg) (S : List Value) (l1 l2 l3 l4 : Value) (k : Nat), exec d mX7_as 87 [.ref k, l1, l2, l3, l4] S σ = exec d mX7_as 88 [.ref k, l1, l2, l3, l4] (.ref k :: S) σ) ∧
  (∀ (d : Nat) (σ : Sg) (S : List Value) (l0 l1 l2 l3 l4 : Value), exec d mX7_as 88 [l0, l1, l2, l3, l4] S σ = exec d mX7_as 89 [l0, l1, l2, l3, l4] (.int (nI 3) :: S) σ) ∧
  (∀ (d : Nat) (σ : Sg) (l0 l1 l2 l3 l4 : Value) (x0 : Int32), exec d mX7_as 89 [l0, l1, l2, l3, l4] [.int x0, .ref 50] σ = kb (cal d mX7_found [.ref 50, .int x0] σ) (fun rs σ2 => exec d mX7_as 92 [l0, l1, l2, l3, l4] (rs ++ []) σ2)) ∧
  (∀ (d : Nat) (σ : Sg) (l0 l1 l2 l3 l4 : Value) (x : Int32), exec d mX7_as 92 [l0, l1, l2, l3, l4] [.int x] σ = some (some (.int x), σ)) :=
  ⟨fun d σ S l0 l1 l2 l3 l4 => ex_goto (show decode mX7_as.2.1 68 = .ok (.goto 4, 3) by decide +kernel) (by decide),
  fun d σ S l0 l1 l2 l3 l4 => ex_iconst (show decode mX7_as.2.1 71 = .ok (.iconst 0, 1) by decide +kernel) (by decide +kernel),
  fun d σ S l0 l1 l2 l4 x y => ex_istore (show decode mX7_as.2.1 72 = .ok (.istore 4, 2) by decide +kernel) (Nat.le_of_ble_eq_true rfl) rfl,
  fun d σ S l0 l1 l2 l3 x => ex_iload (show decode mX7_as.2.1 74 = .ok (.iload 4, 2) by decide +kernel) rfl,
  fun d σ S l0 l1 l2 l3 l4 x => ex_zeq (show decode mX7_as.2.1 76 = .ok (.ifCond .eq 11, 3) by decide +kernel) (by decide),
  fun d σ S l1 l2 l3 l4 k => ex_aload_n (show decode mX7_as.2.1 79 = .ok (.aload_n 0, 1) by decide +kernel) rfl,
  fun d σ S l0 l2 l3 l4 x => ex_iload_n (show decode mX7_as.2.1 80 = .ok (.iload_n 1, 1) by decide +kernel) rfl,
  fun d σ l0 l1 l2 l3 l4 x0 => ex_iv (hs := [930, 932, 55, 933, 101]) (show decode mX7_as.2.1 81 = .ok (.invokevirtual 78, 3) by decide +kernel) lkV_7_78 ⟨rfl, Nat.le_of_ble_eq_true rfl, Nat.le_of_ble_eq_true rfl, fun _ => rfl⟩ rfl rfl,
  fun d σ S l0 l1 l2 l3 l4 => ex_goto (show decode mX7_as.2.1 84 = .ok (.goto 8, 3) by decide +kernel) (by decide),
  fun d σ S l1 l2 l3 l4 k => ex_aload_n (show decode mX7_as.2.1 87 = .ok (.aload_n 0, 1) by decide +kernel) rfl,
  fun d σ S l0 l1 l2 l3 l4 => ex_iconst (show decode mX7_as.2.1 88 = .ok (.iconst 3, 1) by decide +kernel) (by decide +kernel),
  fun d σ l0 l1 l2 l3 l4 x0 => ex_iv (hs := [925, 927, 54, 928, 101]) (show decode mX7_as.2.1 89 = .ok (.invokevirtual 74, 3) by decide +kernel) lkV_7_74 ⟨rfl, Nat.le_of_ble_eq_true rfl, Nat.le_of_ble_eq_true rfl, fun _ => rfl⟩ rfl rfl,
  fun d σ l0 l1 l2 l3 l4 x => ex_iret (show decode mX7_as.2.1 92 = .ok (.ireturn, 1) by decide +kernel) rfl⟩
theorem aX7_as_50 : ∀ (d : Nat) (a1 : Int32) (a2 : Int32) (σ : Sg), cal (d + 1) mX7_as [.ref 50, .int a1, .int a2] σ = exec d mX7_as 0 [.ref 50, .int a1, .int a2, uu, uu] [] σ := fun _ _ _ _ => rfl
theorem kX7_leaves : (∀ (d : Nat) (σ : Sg) (S : List Value) (l1 : Value) (k : Nat), exec d mX7_leaves 0 [.ref k, l1] S σ = exec d mX7_leaves 1 [.ref k, l1] (.ref k :: S) σ) ∧
  (∀ (d : Nat) (σ : Sg) (S : List Value) (l0 l1 : Value), exec d mX7_leaves 1 [l0, l1] (.ref 50 :: S) σ = exec d mX7_leaves 4 [l0, l1] (.int (σ 50 12) :: S) σ) ∧
  (∀ (d : Nat) (σ : Sg) (S : List Value) (l0 l1 : Value), exec d mX7_leaves 4 [l0, l1] S σ = exec d mX7_leaves 6 [l0, l1] (.int (nI 16) :: S) σ) ∧
  (∀ (d : Nat) (σ : Sg) (S : List Value) (l0 l1 : Value) (x y : Int32), exec d mX7_leaves 6 [l0, l1] (.int y :: .int x :: S) σ = if y ≤ x then exec d mX7_leaves 29 [l0, l1] S σ else exec d mX7_leaves 9 [l0, l1] S σ) ∧
  (∀ (d : Nat) (σ : Sg) (S : List Value) (l1 : Value) (k : Nat), exec d mX7_leaves 9 [.ref k, l1] S σ = exec d mX7_leaves 10 [.ref k, l1] (.ref k :: S) σ) ∧
  (∀ (d : Nat) (σ : Sg) (S : List Value) (l0 l1 : Value), exec d mX7_leaves 10 [l0, l1] (.ref 50 :: S) σ = exec d mX7_leaves 13 [l0, l1] (.ref 58 :: S) σ) ∧
  (∀ (d : Nat) (σ : Sg) (S : List Value) (l1 : Value) (k : Nat), exec d mX7_leaves 13 [.ref k, l1] S σ = exec d mX7_leaves 14 [.ref k, l1] (.ref k :: S) σ) ∧
  (∀ (d : Nat) (σ : Sg) (S : List Value) (l0 l1 : Value), exec d mX7_leaves 14 [l0, l1] (.ref 50 :: S) σ = exec d mX7_leaves 17 [l0, l1] (.int (σ 50 12) :: S) σ) ∧
  (∀ (d : Nat) (σ : Sg) (S : List Value) (l0 : Value) (x : Int32), exec d mX7_leaves 17 [l0, .int x] S σ = exec d mX7_leaves 18 [l0, .int x] (.int x :: S) σ) ∧
  (∀ (d : Nat) (σ : Sg) (S : List Value) (l0 l1 : Value) (x y : Int32), exec d mX7_leaves 18 [l0, l1] (.int y :: .int x :: .ref 58 :: S) σ = if inb x 16 = true then exec d mX7_leaves 19 [l0, l1] S (up σ 58 x.toNatClampNeg y) else none) ∧
  (∀ (d : Nat) (σ : Sg) (S : List Value) (l1 : Value) (k : Nat), exec d mX7_leaves 19 [.ref k, l1] S σ = exec d mX7_leaves 20 [.ref k, l1] (.ref k :: S) σ) ∧
  (∀ (d : Nat) (σ : Sg) (S : List Value) (l0 l1 : Value) (k : Nat), exec d mX7_leaves 20 [l0, l1] (.ref k :: S) σ = exec d mX7_leaves 21 [l0, l1] (.ref k :: .ref k :: S) σ) ∧
  (∀ (d : Nat) (σ : Sg) (S : List Value) (l0 l1 : Value), exec d mX7_leaves 21 [l0, l1] (.ref 50 :: S) σ = exec d mX7_leaves 24 [l0, l1] (.int (σ 50 12) :: S) σ) ∧
  (∀ (d : Nat) (σ : Sg) (S : List Value) (l0 l1 : Value), exec d mX7_leaves 24 [l0, l1] S σ = exec d mX7_leaves 25 [l0, l1] (.int (nI 1) :: S) σ) ∧
  (∀ (d : Nat) (σ : Sg) (S : List Value) (l0 l1 : Value) (x y : Int32), exec d mX7_leaves 25 [l0, l1] (.int y :: .int x :: S) σ = exec d mX7_leaves 26 [l0, l1] (.int (x + y) :: S) σ) ∧
  (∀ (d : Nat) (σ : Sg) (S : List Value) (l0 l1 : Value) (x : Int32), exec d mX7_leaves 26 [l0, l1] (.int x :: .ref 50 :: S) σ = exec d mX7_leaves 29 [l0, l1] S (up σ 50 12 x)) ∧
  (∀ (d : Nat) (σ : Sg) (l0 l1 : Value), exec d mX7_leaves 29 [l0, l1] [] σ = some (none, σ)) :=
  ⟨fun d σ S l1 k => ex_aload_n (show decode mX7_leaves.2.1 0 = .ok (.aload_n 0, 1) by decide +kernel) rfl,
  fun d σ S l0 l1 => ex_get (idx := 262) (ci := 7) (ff := 12) (n := 26) (hh := 845) (by decide +kernel),
  fun d σ S l0 l1 => ex_bipush (show decode mX7_leaves.2.1 4 = .ok (.bipush 16, 2) by decide +kernel) (by decide +kernel),
  fun d σ S l0 l1 x y => ex_cge (show decode mX7_leaves.2.1 6 = .ok (.if_icmp .ge 23, 3) by decide +kernel) (by decide),
  fun d σ S l1 k => ex_aload_n (show decode mX7_leaves.2.1 9 = .ok (.aload_n 0, 1) by decide +kernel) rfl,
  fun d σ S l0 l1 => ex_getr (idx := 32) (ci := 7) (ff := 11) (n := 26) (hh := 844) (by decide +kernel),
  fun d σ S l1 k => ex_aload_n (show decode mX7_leaves.2.1 13 = .ok (.aload_n 0, 1) by decide +kernel) rfl,
  fun d σ S l0 l1 => ex_get (idx := 262) (ci := 7) (ff := 12) (n := 26) (hh := 845) (by decide +kernel),
  fun d σ S l0 x => ex_iload_n (show decode mX7_leaves.2.1 17 = .ok (.iload_n 1, 1) by decide +kernel) rfl,
  fun d σ S l0 l1 x y => ex_iast (by decide +kernel),
  fun d σ S l1 k => ex_aload_n (show decode mX7_leaves.2.1 19 = .ok (.aload_n 0, 1) by decide +kernel) rfl,
  fun d σ S l0 l1 k => ex_dup (show decode mX7_leaves.2.1 20 = .ok (.dup, 1) by decide +kernel) rfl,
  fun d σ S l0 l1 => ex_get (idx := 262) (ci := 7) (ff := 12) (n := 26) (hh := 845) (by decide +kernel),
  fun d σ S l0 l1 => ex_iconst (show decode mX7_leaves.2.1 24 = .ok (.iconst 1, 1) by decide +kernel) (by decide +kernel),
  fun d σ S l0 l1 x y => ex_iadd (show decode mX7_leaves.2.1 25 = .ok (.iadd, 1) by decide +kernel),
  fun d σ S l0 l1 x => ex_put (idx := 262) (ci := 7) (ff := 12) (n := 26) (hh := 845) (by decide +kernel),
  fun d σ l0 l1 => ex_vret (show decode mX7_leaves.2.1 29 = .ok (.return_, 1) by decide +kernel) rfl⟩
theorem aX7_leaves_50 : ∀ (d : Nat) (a1 : Int32) (σ : Sg), cal (d + 1) mX7_leaves [.ref 50, .int a1] σ = exec d mX7_leaves 0 [.ref 50, .int a1] [] σ := fun _ _ _ => rfl
theorem kX7_markLent : (∀ (d : Nat) (σ : Sg) (S : List Value) (l1 : Value) (k : Nat), exec d mX7_markLent 0 [.ref k, l1] S σ = exec d mX7_markLent 1 [.ref k, l1] (.ref k :: S) σ) ∧
  (∀ (d : Nat) (σ : Sg) (S : List Value) (l0 l1 : Value), exec d mX7_markLent 1 [l0, l1] S σ = exec d mX7_markLent 3 [l0, l1] (.int (nI 20) :: S) σ) ∧
  (∀ (d : Nat) (σ : Sg) (l0 l1 : Value) (x0 : Int32), exec d mX7_markLent 3 [l0, l1] [.int x0, .ref 50] σ = kb (cal d mX7_leaves [.ref 50, .int x0] σ) (fun rs σ2 => exec d mX7_markLent 6 [l0, l1] (rs ++ []) σ2)) ∧
  (∀ (d : Nat) (σ : Sg) (S : List Value) (l0 : Value) (x : Int32), exec d mX7_markLent 6 [l0, .int x] S σ = exec d mX7_markLent 7 [l0, .int x] (.int x :: S) σ) ∧
  (∀ (d : Nat) (σ : Sg) (l0 l1 : Value) (x : Int32), exec d mX7_markLent 7 [l0, l1] [.int x] σ = some (some (.int x), σ)) :=
  ⟨fun d σ S l1 k => ex_aload_n (show decode mX7_markLent.2.1 0 = .ok (.aload_n 0, 1) by decide +kernel) rfl,
  fun d σ S l0 l1 => ex_bipush (show decode mX7_markLent.2.1 1 = .ok (.bipush 20, 2) by decide +kernel) (by decide +kernel),
  fun d σ l0 l1 x0 => ex_iv (hs := [1222, 1224, 87, 1225, 101]) (show decode mX7_markLent.2.1 3 = .ok (.invokevirtual 265, 3) by decide +kernel) lkV_7_265 ⟨rfl, Nat.le_of_ble_eq_true rfl, Nat.le_of_ble_eq_true rfl, fun _ => rfl⟩ rfl rfl,
  fun d σ S l0 x => ex_iload_n (show decode mX7_markLent.2.1 6 = .ok (.iload_n 1, 1) by decide +kernel) rfl,
  fun d σ l0 l1 x => ex_iret (show decode mX7_markLent.2.1 7 = .ok (.ireturn, 1) by decide +kernel) rfl⟩
theorem aX7_markLent_50 : ∀ (d : Nat) (a1 : Int32) (σ : Sg), cal (d + 1) mX7_markLent [.ref 50, .int a1] σ = exec d mX7_markLent 0 [.ref 50, .int a1] [] σ := fun _ _ _ => rfl
theorem kX7_markJoint : (∀ (d : Nat) (σ : Sg) (S : List Value) (l1 : Value) (k : Nat), exec d mX7_markJoint 0 [.ref k, l1] S σ = exec d mX7_markJoint 1 [.ref k, l1] (.ref k :: S) σ) ∧
  (∀ (d : Nat) (σ : Sg) (S : List Value) (l0 l1 : Value), exec d mX7_markJoint 1 [l0, l1] S σ = exec d mX7_markJoint 3 [l0, l1] (.int (nI 21) :: S) σ) ∧
  (∀ (d : Nat) (σ : Sg) (l0 l1 : Value) (x0 : Int32), exec d mX7_markJoint 3 [l0, l1] [.int x0, .ref 50] σ = kb (cal d mX7_leaves [.ref 50, .int x0] σ) (fun rs σ2 => exec d mX7_markJoint 6 [l0, l1] (rs ++ []) σ2)) ∧
  (∀ (d : Nat) (σ : Sg) (S : List Value) (l1 : Value) (k : Nat), exec d mX7_markJoint 6 [.ref k, l1] S σ = exec d mX7_markJoint 7 [.ref k, l1] (.ref k :: S) σ) ∧
  (∀ (d : Nat) (σ : Sg) (S : List Value) (l0 : Value) (x : Int32), exec d mX7_markJoint 7 [l0, .int x] S σ = exec d mX7_markJoint 8 [l0, .int x] (.int x :: S) σ) ∧
  (∀ (d : Nat) (σ : Sg) (l0 l1 : Value) (x0 : Int32), exec d mX7_markJoint 8 [l0, l1] [.int x0, .ref 50] σ = kb (cal d mX7_markLent [.ref 50, .int x0] σ) (fun rs σ2 => exec d mX7_markJoint 11 [l0, l1] (rs ++ []) σ2)) ∧
  (∀ (d : Nat) (σ : Sg) (S : List Value) (l1 : Value) (k : Nat), exec d mX7_markJoint 11 [.ref k, l1] S σ = exec d mX7_markJoint 12 [.ref k, l1] (.ref k :: S) σ) ∧
  (∀ (d : Nat) (σ : Sg) (S : List Value) (l0 l1 : Value), exec d mX7_markJoint 12 [l0, l1] (.ref 50 :: S) σ = exec d mX7_markJoint 15 [l0, l1] (.ref 51 :: S) σ) ∧
  (∀ (d : Nat) (σ : Sg) (S : List Value) (l0 l1 : Value), exec d mX7_markJoint 15 [l0, l1] S σ = exec d mX7_markJoint 17 [l0, l1] (.int (nI 16) :: S) σ) ∧
  (∀ (d : Nat) (σ : Sg) (S : List Value) (l0 : Value) (x : Int32), exec d mX7_markJoint 17 [l0, .int x] S σ = exec d mX7_markJoint 18 [l0, .int x] (.int x :: S) σ) ∧
  (∀ (d : Nat) (σ : Sg) (S : List Value) (l0 l1 : Value) (x y : Int32), exec d mX7_markJoint 18 [l0, l1] (.int y :: .int x :: S) σ = exec d mX7_markJoint 19 [l0, l1] (.int (x + y) :: S) σ) ∧
  (∀ (d : Nat) (σ : Sg) (S : List Value) (l0 l1 : Value) (x : Int32), exec d mX7_markJoint 19 [l0, l1] (.int x :: .ref 51 :: S) σ = if inb x 208 = true then exec d mX7_markJoint 20 [l0, l1] (.int (σ 51 x.toNatClampNeg) :: S) σ else none) ∧
  (∀ (d : Nat) (σ : Sg) (S : List Value) (l0 l1 : Value) (x y : Int32), exec d mX7_markJoint 20 [l0, l1] (.int y :: .int x :: S) σ = exec d mX7_markJoint 21 [l0, l1] (.int (x + y) :: S) σ) ∧
  (∀ (d : Nat) (σ : Sg) (l0 l1 : Value) (x : Int32), exec d mX7_markJoint 21 [l0, l1] [.int x] σ = some (some (.int x), σ)) :=
  ⟨fun d σ S l1 k => ex_aload_n (show decode mX7_markJoint.2.1 0 = .ok (.aload_n 0, 1) by decide +kernel) rfl,
  fun d σ S l0 l1 => ex_bipush (show decode mX7_markJoint.2.1 1 = .ok (.bipush 21, 2) by decide +kernel) (by decide +kernel),
  fun d σ l0 l1 x0 => ex_iv (hs := [1222, 1224, 87, 1225, 101]) (show decode mX7_markJoint.2.1 3 = .ok (.invokevirtual 265, 3) by decide +kernel) lkV_7_265 ⟨rfl, Nat.le_of_ble_eq_true rfl, Nat.le_of_ble_eq_true rfl, fun _ => rfl⟩ rfl rfl,
  fun d σ S l1 k => ex_aload_n (show decode mX7_markJoint.2.1 6 = .ok (.aload_n 0, 1) by decide +kernel) rfl,
  fun d σ S l0 x => ex_iload_n (show decode mX7_markJoint.2.1 7 = .ok (.iload_n 1, 1) by decide +kernel) rfl,
  fun d σ l0 l1 x0 => ex_iv (hs := [1238, 1240, 91, 1241, 101]) (show decode mX7_markJoint.2.1 8 = .ok (.invokevirtual 268, 3) by decide +kernel) lkV_7_268 ⟨rfl, Nat.le_of_ble_eq_true rfl, Nat.le_of_ble_eq_true rfl, fun _ => rfl⟩ rfl rfl,
  fun d σ S l1 k => ex_aload_n (show decode mX7_markJoint.2.1 11 = .ok (.aload_n 0, 1) by decide +kernel) rfl,
  fun d σ S l0 l1 => ex_getr (idx := 7) (ci := 7) (ff := 0) (n := 26) (hh := 833) (by decide +kernel),
  fun d σ S l0 l1 => ex_bipush (show decode mX7_markJoint.2.1 15 = .ok (.bipush 16, 2) by decide +kernel) (by decide +kernel),
  fun d σ S l0 x => ex_iload_n (show decode mX7_markJoint.2.1 17 = .ok (.iload_n 1, 1) by decide +kernel) rfl,
  fun d σ S l0 l1 x y => ex_iadd (show decode mX7_markJoint.2.1 18 = .ok (.iadd, 1) by decide +kernel),
  fun d σ S l0 l1 x => ex_iald (by decide +kernel),
  fun d σ S l0 l1 x y => ex_iadd (show decode mX7_markJoint.2.1 20 = .ok (.iadd, 1) by decide +kernel),
  fun d σ l0 l1 x => ex_iret (show decode mX7_markJoint.2.1 21 = .ok (.ireturn, 1) by decide +kernel) rfl⟩
theorem aX7_markJoint_50 : ∀ (d : Nat) (a1 : Int32) (σ : Sg), cal (d + 1) mX7_markJoint [.ref 50, .int a1] σ = exec d mX7_markJoint 0 [.ref 50, .int a1] [] σ := fun _ _ _ => rfl
theorem kX7_sizeWax : (∀ (d : Nat) (σ : Sg) (S : List Value) (l0 l1 l3 : Value) (x : Int32), exec d mX7_sizeWax 0 [l0, l1, .int x, l3] S σ = exec d mX7_sizeWax 1 [l0, l1, .int x, l3] (.int x :: S) σ) ∧
  (∀ (d : Nat) (σ : Sg) (S : List Value) (l0 l1 l2 l3 : Value) (x : Int32), exec d mX7_sizeWax 1 [l0, l1, l2, l3] (.int x :: S) σ = if x = nI 0 then exec d mX7_sizeWax 10 [l0, l1, l2, l3] S σ else exec d mX7_sizeWax 4 [l0, l1, l2, l3] S σ) ∧
  (∀ (d : Nat) (σ : Sg) (S : List Value) (l1 l2 l3 : Value) (k : Nat), exec d mX7_sizeWax 4 [.ref k, l1, l2, l3] S σ = exec d mX7_sizeWax 5 [.ref k, l1, l2, l3] (.ref k :: S) σ) ∧
  (∀ (d : Nat) (σ : Sg) (S : List Value) (l0 l1 l2 l3 : Value), exec d mX7_sizeWax 5 [l0, l1, l2, l3] S σ = exec d mX7_sizeWax 7 [l0, l1, l2, l3] (.int (nI 14) :: S) σ) ∧
  (∀ (d : Nat) (σ : Sg) (l0 l1 l2 l3 : Value) (x0 : Int32), exec d mX7_sizeWax 7 [l0, l1, l2, l3] [.int x0, .ref 50] σ = kb (cal d mX7_leaves [.ref 50, .int x0] σ) (fun rs σ2 => exec d mX7_sizeWax 10 [l0, l1, l2, l3] (rs ++ []) σ2)) ∧
  (∀ (d : Nat) (σ : Sg) (S : List Value) (l1 l2 l3 : Value) (k : Nat), exec d mX7_sizeWax 10 [.ref k, l1, l2, l3] S σ = exec d mX7_sizeWax 11 [.ref k, l1, l2, l3] (.ref k :: S) σ) ∧
  (∀ (d : Nat) (σ : Sg) (S : List Value) (l0 l1 l2 l3 : Value), exec d mX7_sizeWax 11 [l0, l1, l2, l3] S σ = exec d mX7_sizeWax 13 [l0, l1, l2, l3] (.int (nI 13) :: S) σ) ∧
  (∀ (d : Nat) (σ : Sg) (l0 l1 l2 l3 : Value) (x0 : Int32), exec d mX7_sizeWax 13 [l0, l1, l2, l3] [.int x0, .ref 50] σ = kb (cal d mX7_leaves [.ref 50, .int x0] σ) (fun rs σ2 => exec d mX7_sizeWax 16 [l0, l1, l2, l3] (rs ++ []) σ2)) ∧
  (∀ (d : Nat) (σ : Sg) (S : List Value) (l1 l2 l3 : Value) (k : Nat), exec d mX7_sizeWax 16 [.ref k, l1, l2, l3] S σ = exec d mX7_sizeWax 17 [.ref k, l1, l2, l3] (.ref k :: S) σ) ∧
  (∀ (d : Nat) (σ : Sg) (S : List Value) (l0 l1 l2 l3 : Value), exec d mX7_sizeWax 17 [l0, l1, l2, l3] S σ = exec d mX7_sizeWax 19 [l0, l1, l2, l3] (.int (nI 10) :: S) σ) ∧
  (∀ (d : Nat) (σ : Sg) (l0 l1 l2 l3 : Value) (x0 : Int32), exec d mX7_sizeWax 19 [l0, l1, l2, l3] [.int x0, .ref 50] σ = kb (cal d mX7_leaves [.ref 50, .int x0] σ) (fun rs σ2 => exec d mX7_sizeWax 22 [l0, l1, l2, l3] (rs ++ []) σ2)) ∧
  (∀ (d : Nat) (σ : Sg) (S : List Value) (l1 l2 l3 : Value) (k : Nat), exec d mX7_sizeWax 22 [.ref k, l1, l2, l3] S σ = exec d mX7_sizeWax 23 [.ref k, l1, l2, l3] (.ref k :: S) σ) ∧
  (∀ (d : Nat) (σ : Sg) (S : List Value) (l0 l1 l2 l3 : Value), exec d mX7_sizeWax 23 [l0, l1, l2, l3] (.ref 50 :: S) σ = exec d mX7_sizeWax 26 [l0, l1, l2, l3] (.ref 51 :: S) σ) ∧
  (∀ (d : Nat) (σ : Sg) (S : List Value) (l0 l1 l2 l3 : Value), exec d mX7_sizeWax 26 [l0, l1, l2, l3] S σ = exec d mX7_sizeWax 28 [l0, l1, l2, l3] (.int (nI 23) :: S) σ) ∧
  (∀ (d : Nat) (σ : Sg) (S : List Value) (l0 l2 l3 : Value) (x : Int32), exec d mX7_sizeWax 28 [l0, .int x, l2, l3] S σ = exec d mX7_sizeWax 29 [l0, .int x, l2, l3] (.int x :: S) σ) ∧
  (∀ (d : Nat) (σ : Sg) (S : List Value) (l0 l1 l2 l3 : Value) (x y : Int32), exec d mX7_sizeWax 29 [l0, l1, l2, l3] (.int y :: .int x :: S) σ = exec d mX7_sizeWax 30 [l0, l1, l2, l3] (.int (x + y) :: S) σ) ∧
  (∀ (d : Nat) (σ : Sg) (S : List Value) (l0 l1 l2 l3 : Value) (x : Int32), exec d mX7_sizeWax 30 [l0, l1, l2, l3] (.int x :: .ref 51 :: S) σ = if inb x 208 = true then exec d mX7_sizeWax 31 [l0, l1, l2, l3] (.int (σ 51 x.toNatClampNeg) :: S) σ else none) ∧
  (∀ (d : Nat) (σ : Sg) (S : List Value) (l0 l1 l2 l3 : Value), exec d mX7_sizeWax 31 [l0, l1, l2, l3] S σ = exec d mX7_sizeWax 33 [l0, l1, l2, l3] (.int (nI 100) :: S) σ) ∧
  (∀ (d : Nat) (σ : Sg) (S : List Value) (l0 l1 l2 l3 : Value) (x y : Int32), exec d mX7_sizeWax 33 [l0, l1, l2, l3] (.int y :: .int x :: S) σ = exec d mX7_sizeWax 34 [l0, l1, l2, l3] (.int (x - y) :: S) σ) ∧
  (∀ (d : Nat) (σ : Sg) (S : List Value) (l0 l1 l3 : Value) (x y : Int32), exec d mX7_sizeWax 34 [l0, l1, .int y, l3] (.int x :: S) σ = exec d mX7_sizeWax 35 [l0, l1, .int y, .int x] S σ) ∧
  (∀ (d : Nat) (σ : Sg) (S : List Value) (l0 l1 l3 : Value) (x : Int32), exec d mX7_sizeWax 35 [l0, l1, .int x, l3] S σ = exec d mX7_sizeWax 36 [l0, l1, .int x, l3] (.int x :: S) σ) ∧
  (∀ (d : Nat) (σ : Sg) (S : List Value) (l0 l1 l2 l3 : Value) (x : Int32), exec d mX7_sizeWax 36 [l0, l1, l2, l3] (.int x :: S) σ = if x = nI 0 then exec d mX7_sizeWax 45 [l0, l1, l2, l3] S σ else exec d mX7_sizeWax 39 [l0, l1, l2, l3] S σ) ∧
  (∀ (d : Nat) (σ : Sg) (S : List Value) (l0 l1 l2 l3 : Value), exec d mX7_sizeWax 39 [l0, l1, l2, l3] S σ = exec d mX7_sizeWax 40 [l0, l1, l2, l3] (.int (nI 2) :: S) σ) ∧
  (∀ (d : Nat) (σ : Sg) (S : List Value) (l0 l1 l2 : Value) (x : Int32), exec d mX7_sizeWax 40 [l0, l1, l2, .int x] S σ = exec d mX7_sizeWax 41 [l0, l1, l2, .int x] (.int x :: S) σ) ∧
  (∀ (d : Nat) (σ : Sg) (S : List Value) (l0 l1 l2 l3 : Value) (x y : Int32), exec d mX7_sizeWax 41 [l0, l1, l2, l3] (.int y :: .int x :: S) σ = exec d mX7_sizeWax 42 [l0, l1, l2, l3] (.int (x * y) :: S) σ) ∧
  (∀ (d : Nat) (σ : Sg) (S : List Value) (l0 l1 l2 l3 : Value), exec d mX7_sizeWax 42 [l0, l1, l2, l3] S σ = exec d mX7_sizeWax 46 [l0, l1, l2, l3] S σ) ∧
  (∀ (d : Nat) (σ : Sg) (S : List Value) (l0 l1 l2 : Value) (x : Int32), exec d mX7_sizeWax 45 [l0, l1, l2, .int x] S σ = exec d mX7_sizeWax 46 [l0, l1, l2, .int x] (.int x :: S) σ) ∧
  (∀ (d : Nat) (σ : Sg) (l0 l1 l2 l3 : Value) (x : Int32), exec d mX7_sizeWax 46 [l0, l1, l2, l3] [.int x] σ = some (some (.int x), σ)) :=
  ⟨fun d σ S l0 l1 l3 x => ex_iload_n (show decode mX7_sizeWax.2.1 0 = .ok (.iload_n 2, 1) by decide +kernel) rfl,
  fun d σ S l0 l1 l2 l3 x => ex_zeq (show decode mX7_sizeWax.2.1 1 = .ok (.ifCond .eq 9, 3) by decide +kernel) (by decide),
  fun d σ S l1 l2 l3 k => ex_aload_n (show decode mX7_sizeWax.2.1 4 = .ok (.aload_n 0, 1) by decide +kernel) rfl,
  fun d σ S l0 l1 l2 l3 => ex_bipush (show decode mX7_sizeWax.2.1 5 = .ok (.bipush 14, 2) by decide +kernel) (by decide +kernel),
  fun d σ l0 l1 l2 l3 x0 => ex_iv (hs := [1222, 1224, 87, 1225, 101]) (show decode mX7_sizeWax.2.1 7 = .ok (.invokevirtual 265, 3) by decide +kernel) lkV_7_265 ⟨rfl, Nat.le_of_ble_eq_true rfl, Nat.le_of_ble_eq_true rfl, fun _ => rfl⟩ rfl rfl,
  fun d σ S l1 l2 l3 k => ex_aload_n (show decode mX7_sizeWax.2.1 10 = .ok (.aload_n 0, 1) by decide +kernel) rfl,
  fun d σ S l0 l1 l2 l3 => ex_bipush (show decode mX7_sizeWax.2.1 11 = .ok (.bipush 13, 2) by decide +kernel) (by decide +kernel),
  fun d σ l0 l1 l2 l3 x0 => ex_iv (hs := [1222, 1224, 87, 1225, 101]) (show decode mX7_sizeWax.2.1 13 = .ok (.invokevirtual 265, 3) by decide +kernel) lkV_7_265 ⟨rfl, Nat.le_of_ble_eq_true rfl, Nat.le_of_ble_eq_true rfl, fun _ => rfl⟩ rfl rfl,
  fun d σ S l1 l2 l3 k => ex_aload_n (show decode mX7_sizeWax.2.1 16 = .ok (.aload_n 0, 1) by decide +kernel) rfl,
  fun d σ S l0 l1 l2 l3 => ex_bipush (show decode mX7_sizeWax.2.1 17 = .ok (.bipush 10, 2) by decide +kernel) (by decide +kernel),
  fun d σ l0 l1 l2 l3 x0 => ex_iv (hs := [1222, 1224, 87, 1225, 101]) (show decode mX7_sizeWax.2.1 19 = .ok (.invokevirtual 265, 3) by decide +kernel) lkV_7_265 ⟨rfl, Nat.le_of_ble_eq_true rfl, Nat.le_of_ble_eq_true rfl, fun _ => rfl⟩ rfl rfl,
  fun d σ S l1 l2 l3 k => ex_aload_n (show decode mX7_sizeWax.2.1 22 = .ok (.aload_n 0, 1) by decide +kernel) rfl,
  fun d σ S l0 l1 l2 l3 => ex_getr (idx := 7) (ci := 7) (ff := 0) (n := 26) (hh := 833) (by decide +kernel),
  fun d σ S l0 l1 l2 l3 => ex_bipush (show decode mX7_sizeWax.2.1 26 = .ok (.bipush 23, 2) by decide +kernel) (by decide +kernel),
  fun d σ S l0 l2 l3 x => ex_iload_n (show decode mX7_sizeWax.2.1 28 = .ok (.iload_n 1, 1) by decide +kernel) rfl,
  fun d σ S l0 l1 l2 l3 x y => ex_iadd (show decode mX7_sizeWax.2.1 29 = .ok (.iadd, 1) by decide +kernel),
  fun d σ S l0 l1 l2 l3 x => ex_iald (by decide +kernel),
  fun d σ S l0 l1 l2 l3 => ex_bipush (show decode mX7_sizeWax.2.1 31 = .ok (.bipush 100, 2) by decide +kernel) (by decide +kernel),
  fun d σ S l0 l1 l2 l3 x y => ex_isub (show decode mX7_sizeWax.2.1 33 = .ok (.isub, 1) by decide +kernel),
  fun d σ S l0 l1 l3 x y => ex_istore_n (show decode mX7_sizeWax.2.1 34 = .ok (.istore_n 3, 1) by decide +kernel) (Nat.le_of_ble_eq_true rfl) rfl,
  fun d σ S l0 l1 l3 x => ex_iload_n (show decode mX7_sizeWax.2.1 35 = .ok (.iload_n 2, 1) by decide +kernel) rfl,
  fun d σ S l0 l1 l2 l3 x => ex_zeq (show decode mX7_sizeWax.2.1 36 = .ok (.ifCond .eq 9, 3) by decide +kernel) (by decide),
  fun d σ S l0 l1 l2 l3 => ex_iconst (show decode mX7_sizeWax.2.1 39 = .ok (.iconst 2, 1) by decide +kernel) (by decide +kernel),
  fun d σ S l0 l1 l2 x => ex_iload_n (show decode mX7_sizeWax.2.1 40 = .ok (.iload_n 3, 1) by decide +kernel) rfl,
  fun d σ S l0 l1 l2 l3 x y => ex_imul (show decode mX7_sizeWax.2.1 41 = .ok (.imul, 1) by decide +kernel),
  fun d σ S l0 l1 l2 l3 => ex_goto (show decode mX7_sizeWax.2.1 42 = .ok (.goto 4, 3) by decide +kernel) (by decide),
  fun d σ S l0 l1 l2 x => ex_iload_n (show decode mX7_sizeWax.2.1 45 = .ok (.iload_n 3, 1) by decide +kernel) rfl,
  fun d σ l0 l1 l2 l3 x => ex_iret (show decode mX7_sizeWax.2.1 46 = .ok (.ireturn, 1) by decide +kernel) rfl⟩
theorem aX7_sizeWax_50 : ∀ (d : Nat) (a1 : Int32) (a2 : Int32) (σ : Sg), cal (d + 1) mX7_sizeWax [.ref 50, .int a1, .int a2] σ = exec d mX7_sizeWax 0 [.ref 50, .int a1, .int a2, uu] [] σ := fun _ _ _ _ => rfl
theorem kX7_mark_0 : (∀ (d : Nat) (σ : Sg) (S : List Value) (l1 l2 : Value) (k : Nat), exec d mX7_mark 0 [.ref k, l1, l2] S σ = exec d mX7_mark 1 [.ref k, l1, l2] (.ref k :: S) σ) ∧
  (∀ (d : Nat) (σ : Sg) (S : List Value) (l0 l1 l2 : Value), exec d mX7_mark 1 [l0, l1, l2] (.ref 50 :: S) σ = exec d mX7_mark 4 [l0, l1, l2] (.ref 51 :: S) σ) ∧
  (∀ (d : Nat) (σ : Sg) (S : List Value) (l0 l1 l2 : Value), exec d mX7_mark 4 [l0, l1, l2] S σ = exec d mX7_mark 6 [l0, l1, l2] (.int (nI 9) :: S) σ) ∧
  (∀ (d : Nat) (σ : Sg) (S : List Value) (l0 l2 : Value) (x : Int32), exec d mX7_mark 6 [l0, .int x, l2] S σ = exec d mX7_mark 7 [l0, .int x, l2] (.int x :: S) σ) ∧
  (∀ (d : Nat) (σ : Sg) (S : List Value) (l0 l1 l2 : Value) (x y : Int32), exec d mX7_mark 7 [l0, l1, l2] (.int y :: .int x :: S) σ = exec d mX7_mark 8 [l0, l1, l2] (.int (x + y) :: S) σ) ∧
  (∀ (d : Nat) (σ : Sg) (S : List Value) (l0 l1 l2 : Value) (x : Int32), exec d mX7_mark 8 [l0, l1, l2] (.int x :: .ref 51 :: S) σ = if inb x 208 = true then exec d mX7_mark 9 [l0, l1, l2] (.int (σ 51 x.toNatClampNeg) :: S) σ else none) ∧
  (∀ (d : Nat) (σ : Sg) (S : List Value) (l0 l2 : Value) (x y : Int32), exec d mX7_mark 9 [l0, .int y, l2] (.int x :: S) σ = exec d mX7_mark 10 [l0, .int y, .int x] S σ) ∧
  (∀ (d : Nat) (σ : Sg) (S : List Value) (l0 l1 : Value) (x : Int32), exec d mX7_mark 10 [l0, l1, .int x] S σ = exec d mX7_mark 11 [l0, l1, .int x] (.int x :: S) σ) ∧
  (∀ (d : Nat) (σ : Sg) (S : List Value) (l0 l1 l2 : Value) (x : Int32), exec d mX7_mark 11 [l0, l1, l2] (.int x :: S) σ = (if x = nI 1 then exec d mX7_mark 66 [l0, l1, l2] S σ else (if x = nI 2 then exec d mX7_mark 36 [l0, l1, l2] S σ else (if x = nI 3 then exec d mX7_mark 50 [l0, l1, l2] S σ else exec d mX7_mark 72 [l0, l1, l2] S σ)))) ∧
  (∀ (d : Nat) (σ : Sg) (S : List Value) (l1 l2 : Value) (k : Nat), exec d mX7_mark 36 [.ref k, l1, l2] S σ = exec d mX7_mark 37 [.ref k, l1, l2] (.ref k :: S) σ) ∧
  (∀ (d : Nat) (σ : Sg) (S : List Value) (l0 l1 l2 : Value), exec d mX7_mark 37 [l0, l1, l2] S σ = exec d mX7_mark 39 [l0, l1, l2] (.int (nI 24) :: S) σ) ∧
  (∀ (d : Nat) (σ : Sg) (l0 l1 l2 : Value) (x0 : Int32), exec d mX7_mark 39 [l0, l1, l2] [.int x0, .ref 50] σ = kb (cal d mX7_leaves [.ref 50, .int x0] σ) (fun rs σ2 => exec d mX7_mark 42 [l0, l1, l2] (rs ++ []) σ2)) ∧
  (∀ (d : Nat) (σ : Sg) (S : List Value) (l0 l1 l2 : Value), exec d mX7_mark 42 [l0, l1, l2] S σ = exec d mX7_mark 43 [l0, l1, l2] (.int (nI 2) :: S) σ) ∧
  (∀ (d : Nat) (σ : Sg) (S : List Value) (l1 l2 : Value) (k : Nat), exec d mX7_mark 43 [.ref k, l1, l2] S σ = exec d mX7_mark 44 [.ref k, l1, l2] (.ref k :: S) σ) ∧
  (∀ (d : Nat) (σ : Sg) (S : List Value) (l0 l2 : Value) (x : Int32), exec d mX7_mark 44 [l0, .int x, l2] S σ = exec d mX7_mark 45 [l0, .int x, l2] (.int x :: S) σ) ∧
  (∀ (d : Nat) (σ : Sg) (l0 l1 l2 : Value) (x0 x2 : Int32), exec d mX7_mark 45 [l0, l1, l2] [.int x0, .ref 50, .int x2] σ = kb (cal d mX7_markJoint [.ref 50, .int x0] σ) (fun rs σ2 => exec d mX7_mark 48 [l0, l1, l2] (rs ++ [.int x2]) σ2)) ∧
  (∀ (d : Nat) (σ : Sg) (S : List Value) (l0 l1 l2 : Value) (x y : Int32), exec d mX7_mark 48 [l0, l1, l2] (.int y :: .int x :: S) σ = exec d mX7_mark 49 [l0, l1, l2] (.int (x * y) :: S) σ) ∧
  (∀ (d : Nat) (σ : Sg) (l0 l1 l2 : Value) (x : Int32), exec d mX7_mark 49 [l0, l1, l2] [.int x] σ = some (some (.int x), σ)) ∧
  (∀ (d : Nat) (σ : Sg) (S : List Value) (l1 l2 : Value) (k : Nat), exec d mX7_mark 50 [.ref k, l1, l2] S σ = exec d mX7_mark 51 [.ref k, l1, l2] (.ref k :: S) σ) ∧
  (∀ (d : Nat) (σ : Sg) (S : List Value) (l0 l1 l2 : Value), exec d mX7_mark 51 [l0, l1, l2] S σ = exec d mX7_mark 53 [l0, l1, l2] (.int (nI 22) :: S) σ) ∧
  (∀ (d : Nat) (σ : Sg) (l0 l1 l2 : Value) (x0 : Int32), exec d mX7_mark 53 [l0, l1, l2] [.int x0, .ref 50] σ = kb (cal d mX7_leaves [.ref 50, .int x0] σ) (fun rs σ2 => exec d mX7_mark 56 [l0, l1, l2] (rs ++ []) σ2)) ∧
  (∀ (d : Nat) (σ : Sg) (S : List Value) (l1 l2 : Value) (k : Nat), exec d mX7_mark 56 [.ref k, l1, l2] S σ = exec d mX7_mark 57 [.ref k, l1, l2] (.ref k :: S) σ) ∧
  (∀ (d : Nat) (σ : Sg) (S : List Value) (l0 l2 : Value) (x : Int32), exec d mX7_mark 57 [l0, .int x, l2] S σ = exec d mX7_mark 58 [l0, .int x, l2] (.int x :: S) σ) ∧
  (∀ (d : Nat) (σ : Sg) (l0 l1 l2 : Value) (x0 : Int32), exec d mX7_mark 58 [l0, l1, l2] [.int x0, .ref 50] σ = kb (cal d mX7_markJoint [.ref 50, .int x0] σ) (fun rs σ2 => exec d mX7_mark 61 [l0, l1, l2] (rs ++ []) σ2)) ∧
  (∀ (d : Nat) (σ : Sg) (S : List Value) (l0 l1 l2 : Value), exec d mX7_mark 61 [l0, l1, l2] S σ = exec d mX7_mark 64 [l0, l1, l2] (.int (nI 1000) :: S) σ) ∧
  (∀ (d : Nat) (σ : Sg) (S : List Value) (l0 l1 l2 : Value) (x y : Int32), exec d mX7_mark 64 [l0, l1, l2] (.int y :: .int x :: S) σ = exec d mX7_mark 65 [l0, l1, l2] (.int (x - y) :: S) σ) ∧
  (∀ (d : Nat) (σ : Sg) (l0 l1 l2 : Value) (x : Int32), exec d mX7_mark 65 [l0, l1, l2] [.int x] σ = some (some (.int x), σ)) ∧
  (∀ (d : Nat) (σ : Sg) (S : List Value) (l1 l2 : Value) (k : Nat), exec d mX7_mark 66 [.ref k, l1, l2] S σ = exec d mX7_mark 67 [.ref k, l1, l2] (.ref k :: S) σ) ∧
  (∀ (d : Nat) (σ : Sg) (S : List Value) (l0 l2 : Value) (x : Int32), exec d mX7_mark 67 [l0, .int x, l2] S σ = exec d mX7_mark 68 [l0, .int x, l2] (.int x :: S) σ) ∧
  (∀ (d : Nat) (σ : Sg) (l0 l1 l2 : Value) (x0 : Int32), exec d mX7_mark 68 [l0, l1, l2] [.int x0, .ref 50] σ = kb (cal d mX7_markJoint [.ref 50, .int x0] σ) (fun rs σ2 => exec d mX7_mark 71 [l0, l1, l2] (rs ++ []) σ2)) ∧
  (∀ (d : Nat) (σ : Sg) (l0 l1 l2 : Value) (x : Int32), exec d mX7_mark 71 [l0, l1, l2] [.int x] σ = some (some (.int x), σ)) ∧
  (∀ (d : Nat) (σ : Sg) (S : List Value) (l1 l2 : Value) (k : Nat), exec d mX7_mark 72 [.ref k, l1, l2] S σ = exec d mX7_mark 73 [.ref k, l1, l2] (.ref k :: S) σ) ∧
  (∀ (d : Nat) (σ : Sg) (S : List Value) (l0 l1 l2 : Value), exec d mX7_mark 73 [l0, l1, l2] S σ = exec d mX7_mark 75 [l0, l1, l2] (.int (nI 23) :: S) σ) ∧
  (∀ (d : Nat) (σ : Sg) (l0 l1 l2 : Value) (x0 : Int32), exec d mX7_mark 75 [l0, l1, l2] [.int x0, .ref 50] σ = kb (cal d mX7_leaves [.ref 50, .int x0] σ) (fun rs σ2 => exec d mX7_mark 78 [l0, l1, l2] (rs ++ []) σ2)) ∧
  (∀ (d : Nat) (σ : Sg) (S : List Value) (l1 l2 : Value) (k : Nat), exec d mX7_mark 78 [.ref k, l1, l2] S σ = exec d mX7_mark 79 [.ref k, l1, l2] (.ref k :: S) σ) ∧
  (∀ (d : Nat) (σ : Sg) (S : List Value) (l0 l2 : Value) (x : Int32), exec d mX7_mark 79 [l0, .int x, l2] S σ = exec d mX7_mark 80 [l0, .int x, l2] (.int x :: S) σ) ∧
  (∀ (d : Nat) (σ : Sg) (l0 l1 l2 : Value) (x0 : Int32), exec d mX7_mark 80 [l0, l1, l2] [.int x0, .ref 50] σ = kb (cal d mX7_markLent [.ref 50, .int x0] σ) (fun rs σ2 => exec d mX7_mark 83 [l0, l1, l2] (rs ++ []) σ2)) ∧
  (∀ (d : Nat) (σ : Sg) (S : List Value) (l1 l2 : Value) (k : Nat), exec d mX7_mark 83 [.ref k, l1, l2] S σ = exec d mX7_mark 84 [.ref k, l1, l2] (.ref k :: S) σ) ∧
  (∀ (d : Nat) (σ : Sg) (S : List Value) (l0 l2 : Value) (x : Int32), exec d mX7_mark 84 [l0, .int x, l2] S σ = exec d mX7_mark 85 [l0, .int x, l2] (.int x :: S) σ) ∧
  (∀ (d : Nat) (σ : Sg) (S : List Value) (l0 l1 : Value) (x : Int32), exec d mX7_mark 85 [l0, l1, .int x] S σ = exec d mX7_mark 86 [l0, l1, .int x] (.int x :: S) σ) :=
  ⟨fun d σ S l1 l2 k => ex_aload_n (show decode mX7_mark.2.1 0 = .ok (.aload_n 0, 1) by decide +kernel) rfl,
  fun d σ S l0 l1 l2 => ex_getr (idx := 7) (ci := 7) (ff := 0) (n := 26) (hh := 833) (by decide +kernel),
  fun d σ S l0 l1 l2 => ex_bipush (show decode mX7_mark.2.1 4 = .ok (.bipush 9, 2) by decide +kernel) (by decide +kernel),
  fun d σ S l0 l2 x => ex_iload_n (show decode mX7_mark.2.1 6 = .ok (.iload_n 1, 1) by decide +kernel) rfl,
  fun d σ S l0 l1 l2 x y => ex_iadd (show decode mX7_mark.2.1 7 = .ok (.iadd, 1) by decide +kernel),
  fun d σ S l0 l1 l2 x => ex_iald (by decide +kernel),
  fun d σ S l0 l2 x y => ex_istore_n (show decode mX7_mark.2.1 9 = .ok (.istore_n 2, 1) by decide +kernel) (Nat.le_of_ble_eq_true rfl) rfl,
  fun d σ S l0 l1 x => ex_iload_n (show decode mX7_mark.2.1 10 = .ok (.iload_n 2, 1) by decide +kernel) rfl,
  fun d σ S l0 l1 l2 x => ex_tsw (lo := 1) (df := 72) (ts := [66, 36, 50]) (show decode mX7_mark.2.1 11 = .ok (.tableswitch 61 1 3 #[55, 25, 39], 25) by decide +kernel) (by decide) (by decide) (by decide) (by decide),
  fun d σ S l1 l2 k => ex_aload_n (show decode mX7_mark.2.1 36 = .ok (.aload_n 0, 1) by decide +kernel) rfl,
  fun d σ S l0 l1 l2 => ex_bipush (show decode mX7_mark.2.1 37 = .ok (.bipush 24, 2) by decide +kernel) (by decide +kernel),
  fun d σ l0 l1 l2 x0 => ex_iv (hs := [1222, 1224, 87, 1225, 101]) (show decode mX7_mark.2.1 39 = .ok (.invokevirtual 265, 3) by decide +kernel) lkV_7_265 ⟨rfl, Nat.le_of_ble_eq_true rfl, Nat.le_of_ble_eq_true rfl, fun _ => rfl⟩ rfl rfl,
  fun d σ S l0 l1 l2 => ex_iconst (show decode mX7_mark.2.1 42 = .ok (.iconst 2, 1) by decide +kernel) (by decide +kernel),
  fun d σ S l1 l2 k => ex_aload_n (show decode mX7_mark.2.1 43 = .ok (.aload_n 0, 1) by decide +kernel) rfl,
  fun d σ S l0 l2 x => ex_iload_n (show decode mX7_mark.2.1 44 = .ok (.iload_n 1, 1) by decide +kernel) rfl,
  fun d σ l0 l1 l2 x0 x2 => ex_iv (hs := [1234, 1236, 90, 1237, 101]) (show decode mX7_mark.2.1 45 = .ok (.invokevirtual 271, 3) by decide +kernel) lkV_7_271 ⟨rfl, Nat.le_of_ble_eq_true rfl, Nat.le_of_ble_eq_true rfl, fun _ => rfl⟩ rfl rfl,
  fun d σ S l0 l1 l2 x y => ex_imul (show decode mX7_mark.2.1 48 = .ok (.imul, 1) by decide +kernel),
  fun d σ l0 l1 l2 x => ex_iret (show decode mX7_mark.2.1 49 = .ok (.ireturn, 1) by decide +kernel) rfl,
  fun d σ S l1 l2 k => ex_aload_n (show decode mX7_mark.2.1 50 = .ok (.aload_n 0, 1) by decide +kernel) rfl,
  fun d σ S l0 l1 l2 => ex_bipush (show decode mX7_mark.2.1 51 = .ok (.bipush 22, 2) by decide +kernel) (by decide +kernel),
  fun d σ l0 l1 l2 x0 => ex_iv (hs := [1222, 1224, 87, 1225, 101]) (show decode mX7_mark.2.1 53 = .ok (.invokevirtual 265, 3) by decide +kernel) lkV_7_265 ⟨rfl, Nat.le_of_ble_eq_true rfl, Nat.le_of_ble_eq_true rfl, fun _ => rfl⟩ rfl rfl,
  fun d σ S l1 l2 k => ex_aload_n (show decode mX7_mark.2.1 56 = .ok (.aload_n 0, 1) by decide +kernel) rfl,
  fun d σ S l0 l2 x => ex_iload_n (show decode mX7_mark.2.1 57 = .ok (.iload_n 1, 1) by decide +kernel) rfl,
  fun d σ l0 l1 l2 x0 => ex_iv (hs := [1234, 1236, 90, 1237, 101]) (show decode mX7_mark.2.1 58 = .ok (.invokevirtual 271, 3) by decide +kernel) lkV_7_271 ⟨rfl, Nat.le_of_ble_eq_true rfl, Nat.le_of_ble_eq_true rfl, fun _ => rfl⟩ rfl rfl,
  fun d σ S l0 l1 l2 => ex_sipush (show decode mX7_mark.2.1 61 = .ok (.sipush 1000, 3) by decide +kernel) (by decide +kernel),
  fun d σ S l0 l1 l2 x y => ex_isub (show decode mX7_mark.2.1 64 = .ok (.isub, 1) by decide +kernel),
  fun d σ l0 l1 l2 x => ex_iret (show decode mX7_mark.2.1 65 = .ok (.ireturn, 1) by decide +kernel) rfl,
  fun d σ S l1 l2 k => ex_aload_n (show decode mX7_mark.2.1 66 = .ok (.aload_n 0, 1) by decide +kernel) rfl,
  fun d σ S l0 l2 x => ex_iload_n (show decode mX7_mark.2.1 67 = .ok (.iload_n 1, 1) by decide +kernel) rfl,
  fun d σ l0 l1 l2 x0 => ex_iv (hs := [1234, 1236, 90, 1237, 101]) (show decode mX7_mark.2.1 68 = .ok (.invokevirtual 271, 3) by decide +kernel) lkV_7_271 ⟨rfl, Nat.le_of_ble_eq_true rfl, Nat.le_of_ble_eq_true rfl, fun _ => rfl⟩ rfl rfl,
  fun d σ l0 l1 l2 x => ex_iret (show decode mX7_mark.2.1 71 = .ok (.ireturn, 1) by decide +kernel) rfl,
  fun d σ S l1 l2 k => ex_aload_n (show decode mX7_mark.2.1 72 = .ok (.aload_n 0, 1) by decide +kernel) rfl,
  fun d σ S l0 l1 l2 => ex_bipush (show decode mX7_mark.2.1 73 = .ok (.bipush 23, 2) by decide +kernel) (by decide +kernel),
  fun d σ l0 l1 l2 x0 => ex_iv (hs := [1222, 1224, 87, 1225, 101]) (show decode mX7_mark.2.1 75 = .ok (.invokevirtual 265, 3) by decide +kernel) lkV_7_265 ⟨rfl, Nat.le_of_ble_eq_true rfl, Nat.le_of_ble_eq_true rfl, fun _ => rfl⟩ rfl rfl,
  fun d σ S l1 l2 k => ex_aload_n (show decode mX7_mark.2.1 78 = .ok (.aload_n 0, 1) by decide +kernel) rfl,
  fun d σ S l0 l2 x => ex_iload_n (show decode mX7_mark.2.1 79 = .ok (.iload_n 1, 1) by decide +kernel) rfl,
  fun d σ l0 l1 l2 x0 => ex_iv (hs := [1238, 1240, 91, 1241, 101]) (show decode mX7_mark.2.1 80 = .ok (.invokevirtual 268, 3) by decide +kernel) lkV_7_268 ⟨rfl, Nat.le_of_ble_eq_true rfl, Nat.le_of_ble_eq_true rfl, fun _ => rfl⟩ rfl rfl,
  fun d σ S l1 l2 k => ex_aload_n (show decode mX7_mark.2.1 83 = .ok (.aload_n 0, 1) by decide +kernel) rfl,
  fun d σ S l0 l2 x => ex_iload_n (show decode mX7_mark.2.1 84 = .ok (.iload_n 1, 1) by decide +kernel) rfl,
  fun d σ S l0 l1 x => ex_iload_n (show decode mX7_mark.2.1 85 = .ok (.iload_n 2, 1) by decide +kernel) rfl⟩
theorem kX7_mark_1 : (∀ (d : Nat) (σ : Sg) (S : List Value) (l0 l1 l2 : Value), exec d mX7_mark 86 [l0, l1, l2] S σ = exec d mX7_mark 87 [l0, l1, l2] (.int (nI 5) :: S) σ) ∧
  (∀ (d : Nat) (σ : Sg) (S : List Value) (l0 l1 l2 : Value) (x y : Int32), exec d mX7_mark 87 [l0, l1, l2] (.int y :: .int x :: S) σ = if x = y then exec d mX7_mark 90 [l0, l1, l2] S σ else exec d mX7_mark 94 [l0, l1, l2] S σ) ∧
  (∀ (d : Nat) (σ : Sg) (S : List Value) (l0 l1 l2 : Value), exec d mX7_mark 90 [l0, l1, l2] S σ = exec d mX7_mark 91 [l0, l1, l2] (.int (nI 1) :: S) σ) ∧
  (∀ (d : Nat) (σ : Sg) (S : List Value) (l0 l1 l2 : Value), exec d mX7_mark 91 [l0, l1, l2] S σ = exec d mX7_mark 95 [l0, l1, l2] S σ) ∧
  (∀ (d : Nat) (σ : Sg) (S : List Value) (l0 l1 l2 : Value), exec d mX7_mark 94 [l0, l1, l2] S σ = exec d mX7_mark 95 [l0, l1, l2] (.int (nI 0) :: S) σ) ∧
  (∀ (d : Nat) (σ : Sg) (l0 l1 l2 : Value) (x0 x1 x3 : Int32), exec d mX7_mark 95 [l0, l1, l2] [.int x0, .int x1, .ref 50, .int x3] σ = kb (cal d mX7_sizeWax [.ref 50, .int x1, .int x0] σ) (fun rs σ2 => exec d mX7_mark 98 [l0, l1, l2] (rs ++ [.int x3]) σ2)) ∧
  (∀ (d : Nat) (σ : Sg) (S : List Value) (l0 l1 l2 : Value) (x y : Int32), exec d mX7_mark 98 [l0, l1, l2] (.int y :: .int x :: S) σ = exec d mX7_mark 99 [l0, l1, l2] (.int (x - y) :: S) σ) ∧
  (∀ (d : Nat) (σ : Sg) (l0 l1 l2 : Value) (x : Int32), exec d mX7_mark 99 [l0, l1, l2] [.int x] σ = some (some (.int x), σ)) :=
  ⟨fun d σ S l0 l1 l2 => ex_iconst (show decode mX7_mark.2.1 86 = .ok (.iconst 5, 1) by decide +kernel) (by decide +kernel),
  fun d σ S l0 l1 l2 x y => ex_cne (show decode mX7_mark.2.1 87 = .ok (.if_icmp .ne 7, 3) by decide +kernel) (by decide),
  fun d σ S l0 l1 l2 => ex_iconst (show decode mX7_mark.2.1 90 = .ok (.iconst 1, 1) by decide +kernel) (by decide +kernel),
  fun d σ S l0 l1 l2 => ex_goto (show decode mX7_mark.2.1 91 = .ok (.goto 4, 3) by decide +kernel) (by decide),
  fun d σ S l0 l1 l2 => ex_iconst (show decode mX7_mark.2.1 94 = .ok (.iconst 0, 1) by decide +kernel) (by decide +kernel),
  fun d σ l0 l1 l2 x0 x1 x3 => ex_iv (hs := [1242, 1244, 92, 1245, 101]) (show decode mX7_mark.2.1 95 = .ok (.invokevirtual 274, 3) by decide +kernel) lkV_7_274 ⟨rfl, Nat.le_of_ble_eq_true rfl, Nat.le_of_ble_eq_true rfl, fun _ => rfl⟩ rfl rfl,
  fun d σ S l0 l1 l2 x y => ex_isub (show decode mX7_mark.2.1 98 = .ok (.isub, 1) by decide +kernel),
  fun d σ l0 l1 l2 x => ex_iret (show decode mX7_mark.2.1 99 = .ok (.ireturn, 1) by decide +kernel) rfl⟩
theorem aX7_mark_50 : ∀ (d : Nat) (a1 : Int32) (σ : Sg), cal (d + 1) mX7_mark [.ref 50, .int a1] σ = exec d mX7_mark 0 [.ref 50, .int a1, uu] [] σ := fun _ _ _ => rfl
