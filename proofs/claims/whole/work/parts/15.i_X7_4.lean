/-! generated: the instructions of GuildPieceModel -/
theorem kX7_sizeJoint : (∀ (d : Nat) (σ : Sg) (S : List Value) (l1 : Value) (k : Nat), exec d mX7_sizeJoint 0 [.ref k, l1] S σ = exec d mX7_sizeJoint 1 [.ref k, l1] (.ref k :: S) σ) ∧
  (∀ (d : Nat) (σ : Sg) (S : List Value) (l0 l1 : Value), exec d mX7_sizeJoint 1 [l0, l1] S σ = exec d mX7_sizeJoint 3 [l0, l1] (.int (nI 11) :: S) σ) ∧
  (∀ (d : Nat) (σ : Sg) (l0 l1 : Value) (x0 : Int32), exec d mX7_sizeJoint 3 [l0, l1] [.int x0, .ref 50] σ = kb (cal d mX7_leaves [.ref 50, .int x0] σ) (fun rs σ2 => exec d mX7_sizeJoint 6 [l0, l1] (rs ++ []) σ2)) ∧
  (∀ (d : Nat) (σ : Sg) (S : List Value) (l1 : Value) (k : Nat), exec d mX7_sizeJoint 6 [.ref k, l1] S σ = exec d mX7_sizeJoint 7 [.ref k, l1] (.ref k :: S) σ) ∧
  (∀ (d : Nat) (σ : Sg) (S : List Value) (l0 l1 : Value), exec d mX7_sizeJoint 7 [l0, l1] S σ = exec d mX7_sizeJoint 9 [l0, l1] (.int (nI 10) :: S) σ) ∧
  (∀ (d : Nat) (σ : Sg) (l0 l1 : Value) (x0 : Int32), exec d mX7_sizeJoint 9 [l0, l1] [.int x0, .ref 50] σ = kb (cal d mX7_leaves [.ref 50, .int x0] σ) (fun rs σ2 => exec d mX7_sizeJoint 12 [l0, l1] (rs ++ []) σ2)) ∧
  (∀ (d : Nat) (σ : Sg) (S : List Value) (l1 : Value) (k : Nat), exec d mX7_sizeJoint 12 [.ref k, l1] S σ = exec d mX7_sizeJoint 13 [.ref k, l1] (.ref k :: S) σ) ∧
  (∀ (d : Nat) (σ : Sg) (S : List Value) (l0 l1 : Value), exec d mX7_sizeJoint 13 [l0, l1] (.ref 50 :: S) σ = exec d mX7_sizeJoint 16 [l0, l1] (.ref 51 :: S) σ) ∧
  (∀ (d : Nat) (σ : Sg) (S : List Value) (l0 l1 : Value), exec d mX7_sizeJoint 16 [l0, l1] S σ = exec d mX7_sizeJoint 18 [l0, l1] (.int (nI 23) :: S) σ) ∧
  (∀ (d : Nat) (σ : Sg) (S : List Value) (l0 : Value) (x : Int32), exec d mX7_sizeJoint 18 [l0, .int x] S σ = exec d mX7_sizeJoint 19 [l0, .int x] (.int x :: S) σ) ∧
  (∀ (d : Nat) (σ : Sg) (S : List Value) (l0 l1 : Value) (x y : Int32), exec d mX7_sizeJoint 19 [l0, l1] (.int y :: .int x :: S) σ = exec d mX7_sizeJoint 20 [l0, l1] (.int (x + y) :: S) σ) ∧
  (∀ (d : Nat) (σ : Sg) (S : List Value) (l0 l1 : Value) (x : Int32), exec d mX7_sizeJoint 20 [l0, l1] (.int x :: .ref 51 :: S) σ = if inb x 208 = true then exec d mX7_sizeJoint 21 [l0, l1] (.int (σ 51 x.toNatClampNeg) :: S) σ else none) ∧
  (∀ (d : Nat) (σ : Sg) (S : List Value) (l1 : Value) (k : Nat), exec d mX7_sizeJoint 21 [.ref k, l1] S σ = exec d mX7_sizeJoint 22 [.ref k, l1] (.ref k :: S) σ) ∧
  (∀ (d : Nat) (σ : Sg) (S : List Value) (l0 : Value) (x : Int32), exec d mX7_sizeJoint 22 [l0, .int x] S σ = exec d mX7_sizeJoint 23 [l0, .int x] (.int x :: S) σ) ∧
  (∀ (d : Nat) (σ : Sg) (l0 l1 : Value) (x0 x2 : Int32), exec d mX7_sizeJoint 23 [l0, l1] [.int x0, .ref 50, .int x2] σ = kb (cal d mX7_mark [.ref 50, .int x0] σ) (fun rs σ2 => exec d mX7_sizeJoint 26 [l0, l1] (rs ++ [.int x2]) σ2)) ∧
  (∀ (d : Nat) (σ : Sg) (S : List Value) (l0 l1 : Value) (x y : Int32), exec d mX7_sizeJoint 26 [l0, l1] (.int y :: .int x :: S) σ = exec d mX7_sizeJoint 27 [l0, l1] (.int (x + y) :: S) σ) ∧
  (∀ (d : Nat) (σ : Sg) (l0 l1 : Value) (x : Int32), exec d mX7_sizeJoint 27 [l0, l1] [.int x] σ = some (some (.int x), σ)) :=
  ⟨fun d σ S l1 k => ex_aload_n (show decode mX7_sizeJoint.2.1 0 = .ok (.aload_n 0, 1) by decide +kernel) rfl,
  fun d σ S l0 l1 => ex_bipush (show decode mX7_sizeJoint.2.1 1 = .ok (.bipush 11, 2) by decide +kernel) (by decide +kernel),
  fun d σ l0 l1 x0 => ex_iv (hs := [1222, 1224, 87, 1225, 101]) (show decode mX7_sizeJoint.2.1 3 = .ok (.invokevirtual 265, 3) by decide +kernel) lkV_7_265 ⟨rfl, Nat.le_of_ble_eq_true rfl, Nat.le_of_ble_eq_true rfl, fun _ => rfl⟩ rfl rfl,
  fun d σ S l1 k => ex_aload_n (show decode mX7_sizeJoint.2.1 6 = .ok (.aload_n 0, 1) by decide +kernel) rfl,
  fun d σ S l0 l1 => ex_bipush (show decode mX7_sizeJoint.2.1 7 = .ok (.bipush 10, 2) by decide +kernel) (by decide +kernel),
  fun d σ l0 l1 x0 => ex_iv (hs := [1222, 1224, 87, 1225, 101]) (show decode mX7_sizeJoint.2.1 9 = .ok (.invokevirtual 265, 3) by decide +kernel) lkV_7_265 ⟨rfl, Nat.le_of_ble_eq_true rfl, Nat.le_of_ble_eq_true rfl, fun _ => rfl⟩ rfl rfl,
  fun d σ S l1 k => ex_aload_n (show decode mX7_sizeJoint.2.1 12 = .ok (.aload_n 0, 1) by decide +kernel) rfl,
  fun d σ S l0 l1 => ex_getr (idx := 7) (ci := 7) (ff := 0) (n := 26) (hh := 833) (by decide +kernel),
  fun d σ S l0 l1 => ex_bipush (show decode mX7_sizeJoint.2.1 16 = .ok (.bipush 23, 2) by decide +kernel) (by decide +kernel),
  fun d σ S l0 x => ex_iload_n (show decode mX7_sizeJoint.2.1 18 = .ok (.iload_n 1, 1) by decide +kernel) rfl,
  fun d σ S l0 l1 x y => ex_iadd (show decode mX7_sizeJoint.2.1 19 = .ok (.iadd, 1) by decide +kernel),
  fun d σ S l0 l1 x => ex_iald (by decide +kernel),
  fun d σ S l1 k => ex_aload_n (show decode mX7_sizeJoint.2.1 21 = .ok (.aload_n 0, 1) by decide +kernel) rfl,
  fun d σ S l0 x => ex_iload_n (show decode mX7_sizeJoint.2.1 22 = .ok (.iload_n 1, 1) by decide +kernel) rfl,
  fun d σ l0 l1 x0 x2 => ex_iv (hs := [1230, 1232, 89, 1233, 101]) (show decode mX7_sizeJoint.2.1 23 = .ok (.invokevirtual 278, 3) by decide +kernel) lkV_7_278 ⟨rfl, Nat.le_of_ble_eq_true rfl, Nat.le_of_ble_eq_true rfl, fun _ => rfl⟩ rfl rfl,
  fun d σ S l0 l1 x y => ex_iadd (show decode mX7_sizeJoint.2.1 26 = .ok (.iadd, 1) by decide +kernel),
  fun d σ l0 l1 x => ex_iret (show decode mX7_sizeJoint.2.1 27 = .ok (.ireturn, 1) by decide +kernel) rfl⟩
theorem aX7_sizeJoint_50 : ∀ (d : Nat) (a1 : Int32) (σ : Sg), cal (d + 1) mX7_sizeJoint [.ref 50, .int a1] σ = exec d mX7_sizeJoint 0 [.ref 50, .int a1] [] σ := fun _ _ _ => rfl
theorem kX7_size : (∀ (d : Nat) (σ : Sg) (S : List Value) (l1 l2 : Value) (k : Nat), exec d mX7_size 0 [.ref k, l1, l2] S σ = exec d mX7_size 1 [.ref k, l1, l2] (.ref k :: S) σ) ∧
  (∀ (d : Nat) (σ : Sg) (S : List Value) (l0 l1 l2 : Value), exec d mX7_size 1 [l0, l1, l2] (.ref 50 :: S) σ = exec d mX7_size 4 [l0, l1, l2] (.ref 51 :: S) σ) ∧
  (∀ (d : Nat) (σ : Sg) (S : List Value) (l0 l1 l2 : Value), exec d mX7_size 4 [l0, l1, l2] S σ = exec d mX7_size 6 [l0, l1, l2] (.int (nI 9) :: S) σ) ∧
  (∀ (d : Nat) (σ : Sg) (S : List Value) (l0 l2 : Value) (x : Int32), exec d mX7_size 6 [l0, .int x, l2] S σ = exec d mX7_size 7 [l0, .int x, l2] (.int x :: S) σ) ∧
  (∀ (d : Nat) (σ : Sg) (S : List Value) (l0 l1 l2 : Value) (x y : Int32), exec d mX7_size 7 [l0, l1, l2] (.int y :: .int x :: S) σ = exec d mX7_size 8 [l0, l1, l2] (.int (x + y) :: S) σ) ∧
  (∀ (d : Nat) (σ : Sg) (S : List Value) (l0 l1 l2 : Value) (x : Int32), exec d mX7_size 8 [l0, l1, l2] (.int x :: .ref 51 :: S) σ = if inb x 208 = true then exec d mX7_size 9 [l0, l1, l2] (.int (σ 51 x.toNatClampNeg) :: S) σ else none) ∧
  (∀ (d : Nat) (σ : Sg) (S : List Value) (l0 l2 : Value) (x y : Int32), exec d mX7_size 9 [l0, .int y, l2] (.int x :: S) σ = exec d mX7_size 10 [l0, .int y, .int x] S σ) ∧
  (∀ (d : Nat) (σ : Sg) (S : List Value) (l0 l1 : Value) (x : Int32), exec d mX7_size 10 [l0, l1, .int x] S σ = exec d mX7_size 11 [l0, l1, .int x] (.int x :: S) σ) ∧
  (∀ (d : Nat) (σ : Sg) (S : List Value) (l0 l1 l2 : Value) (x : Int32), exec d mX7_size 11 [l0, l1, l2] (.int x :: S) σ = (if x = nI 1 then exec d mX7_size 49 [l0, l1, l2] S σ else (if x = nI 2 then exec d mX7_size 36 [l0, l1, l2] S σ else (if x = nI 3 then exec d mX7_size 49 [l0, l1, l2] S σ else exec d mX7_size 55 [l0, l1, l2] S σ)))) ∧
  (∀ (d : Nat) (σ : Sg) (S : List Value) (l1 l2 : Value) (k : Nat), exec d mX7_size 36 [.ref k, l1, l2] S σ = exec d mX7_size 37 [.ref k, l1, l2] (.ref k :: S) σ) ∧
  (∀ (d : Nat) (σ : Sg) (S : List Value) (l0 l1 l2 : Value), exec d mX7_size 37 [l0, l1, l2] S σ = exec d mX7_size 39 [l0, l1, l2] (.int (nI 12) :: S) σ) ∧
  (∀ (d : Nat) (σ : Sg) (l0 l1 l2 : Value) (x0 : Int32), exec d mX7_size 39 [l0, l1, l2] [.int x0, .ref 50] σ = kb (cal d mX7_leaves [.ref 50, .int x0] σ) (fun rs σ2 => exec d mX7_size 42 [l0, l1, l2] (rs ++ []) σ2)) ∧
  (∀ (d : Nat) (σ : Sg) (S : List Value) (l1 l2 : Value) (k : Nat), exec d mX7_size 42 [.ref k, l1, l2] S σ = exec d mX7_size 43 [.ref k, l1, l2] (.ref k :: S) σ) ∧
  (∀ (d : Nat) (σ : Sg) (S : List Value) (l0 l2 : Value) (x : Int32), exec d mX7_size 43 [l0, .int x, l2] S σ = exec d mX7_size 44 [l0, .int x, l2] (.int x :: S) σ) ∧
  (∀ (d : Nat) (σ : Sg) (l0 l1 l2 : Value) (x0 : Int32), exec d mX7_size 44 [l0, l1, l2] [.int x0, .ref 50] σ = kb (cal d mX7_sizeJoint [.ref 50, .int x0] σ) (fun rs σ2 => exec d mX7_size 47 [l0, l1, l2] (rs ++ []) σ2)) ∧
  (∀ (d : Nat) (σ : Sg) (S : List Value) (l0 l1 l2 : Value) (x : Int32), exec d mX7_size 47 [l0, l1, l2] (.int x :: S) σ = exec d mX7_size 48 [l0, l1, l2] (.int (-x) :: S) σ) ∧
  (∀ (d : Nat) (σ : Sg) (l0 l1 l2 : Value) (x : Int32), exec d mX7_size 48 [l0, l1, l2] [.int x] σ = some (some (.int x), σ)) ∧
  (∀ (d : Nat) (σ : Sg) (S : List Value) (l1 l2 : Value) (k : Nat), exec d mX7_size 49 [.ref k, l1, l2] S σ = exec d mX7_size 50 [.ref k, l1, l2] (.ref k :: S) σ) ∧
  (∀ (d : Nat) (σ : Sg) (S : List Value) (l0 l2 : Value) (x : Int32), exec d mX7_size 50 [l0, .int x, l2] S σ = exec d mX7_size 51 [l0, .int x, l2] (.int x :: S) σ) ∧
  (∀ (d : Nat) (σ : Sg) (l0 l1 l2 : Value) (x0 : Int32), exec d mX7_size 51 [l0, l1, l2] [.int x0, .ref 50] σ = kb (cal d mX7_sizeJoint [.ref 50, .int x0] σ) (fun rs σ2 => exec d mX7_size 54 [l0, l1, l2] (rs ++ []) σ2)) ∧
  (∀ (d : Nat) (σ : Sg) (l0 l1 l2 : Value) (x : Int32), exec d mX7_size 54 [l0, l1, l2] [.int x] σ = some (some (.int x), σ)) ∧
  (∀ (d : Nat) (σ : Sg) (S : List Value) (l1 l2 : Value) (k : Nat), exec d mX7_size 55 [.ref k, l1, l2] S σ = exec d mX7_size 56 [.ref k, l1, l2] (.ref k :: S) σ) ∧
  (∀ (d : Nat) (σ : Sg) (S : List Value) (l0 l2 : Value) (x : Int32), exec d mX7_size 56 [l0, .int x, l2] S σ = exec d mX7_size 57 [l0, .int x, l2] (.int x :: S) σ) ∧
  (∀ (d : Nat) (σ : Sg) (S : List Value) (l0 l1 : Value) (x : Int32), exec d mX7_size 57 [l0, l1, .int x] S σ = exec d mX7_size 58 [l0, l1, .int x] (.int x :: S) σ) ∧
  (∀ (d : Nat) (σ : Sg) (S : List Value) (l0 l1 l2 : Value), exec d mX7_size 58 [l0, l1, l2] S σ = exec d mX7_size 59 [l0, l1, l2] (.int (nI 5) :: S) σ) ∧
  (∀ (d : Nat) (σ : Sg) (S : List Value) (l0 l1 l2 : Value) (x y : Int32), exec d mX7_size 59 [l0, l1, l2] (.int y :: .int x :: S) σ = if x = y then exec d mX7_size 62 [l0, l1, l2] S σ else exec d mX7_size 66 [l0, l1, l2] S σ) ∧
  (∀ (d : Nat) (σ : Sg) (S : List Value) (l0 l1 l2 : Value), exec d mX7_size 62 [l0, l1, l2] S σ = exec d mX7_size 63 [l0, l1, l2] (.int (nI 1) :: S) σ) ∧
  (∀ (d : Nat) (σ : Sg) (S : List Value) (l0 l1 l2 : Value), exec d mX7_size 63 [l0, l1, l2] S σ = exec d mX7_size 67 [l0, l1, l2] S σ) ∧
  (∀ (d : Nat) (σ : Sg) (S : List Value) (l0 l1 l2 : Value), exec d mX7_size 66 [l0, l1, l2] S σ = exec d mX7_size 67 [l0, l1, l2] (.int (nI 0) :: S) σ) ∧
  (∀ (d : Nat) (σ : Sg) (l0 l1 l2 : Value) (x0 x1 : Int32), exec d mX7_size 67 [l0, l1, l2] [.int x0, .int x1, .ref 50] σ = kb (cal d mX7_sizeWax [.ref 50, .int x1, .int x0] σ) (fun rs σ2 => exec d mX7_size 70 [l0, l1, l2] (rs ++ []) σ2)) ∧
  (∀ (d : Nat) (σ : Sg) (l0 l1 l2 : Value) (x : Int32), exec d mX7_size 70 [l0, l1, l2] [.int x] σ = some (some (.int x), σ)) :=
  ⟨fun d σ S l1 l2 k => ex_aload_n (show decode mX7_size.2.1 0 = .ok (.aload_n 0, 1) by decide +kernel) rfl,
  fun d σ S l0 l1 l2 => ex_getr (idx := 7) (ci := 7) (ff := 0) (n := 26) (hh := 833) (by decide +kernel),
  fun d σ S l0 l1 l2 => ex_bipush (show decode mX7_size.2.1 4 = .ok (.bipush 9, 2) by decide +kernel) (by decide +kernel),
  fun d σ S l0 l2 x => ex_iload_n (show decode mX7_size.2.1 6 = .ok (.iload_n 1, 1) by decide +kernel) rfl,
  fun d σ S l0 l1 l2 x y => ex_iadd (show decode mX7_size.2.1 7 = .ok (.iadd, 1) by decide +kernel),
  fun d σ S l0 l1 l2 x => ex_iald (by decide +kernel),
  fun d σ S l0 l2 x y => ex_istore_n (show decode mX7_size.2.1 9 = .ok (.istore_n 2, 1) by decide +kernel) (Nat.le_of_ble_eq_true rfl) rfl,
  fun d σ S l0 l1 x => ex_iload_n (show decode mX7_size.2.1 10 = .ok (.iload_n 2, 1) by decide +kernel) rfl,
  fun d σ S l0 l1 l2 x => ex_tsw (lo := 1) (df := 55) (ts := [49, 36, 49]) (show decode mX7_size.2.1 11 = .ok (.tableswitch 44 1 3 #[38, 25, 38], 25) by decide +kernel) (by decide) (by decide) (by decide) (by decide),
  fun d σ S l1 l2 k => ex_aload_n (show decode mX7_size.2.1 36 = .ok (.aload_n 0, 1) by decide +kernel) rfl,
  fun d σ S l0 l1 l2 => ex_bipush (show decode mX7_size.2.1 37 = .ok (.bipush 12, 2) by decide +kernel) (by decide +kernel),
  fun d σ l0 l1 l2 x0 => ex_iv (hs := [1222, 1224, 87, 1225, 101]) (show decode mX7_size.2.1 39 = .ok (.invokevirtual 265, 3) by decide +kernel) lkV_7_265 ⟨rfl, Nat.le_of_ble_eq_true rfl, Nat.le_of_ble_eq_true rfl, fun _ => rfl⟩ rfl rfl,
  fun d σ S l1 l2 k => ex_aload_n (show decode mX7_size.2.1 42 = .ok (.aload_n 0, 1) by decide +kernel) rfl,
  fun d σ S l0 l2 x => ex_iload_n (show decode mX7_size.2.1 43 = .ok (.iload_n 1, 1) by decide +kernel) rfl,
  fun d σ l0 l1 l2 x0 => ex_iv (hs := [1226, 1228, 88, 1229, 101]) (show decode mX7_size.2.1 44 = .ok (.invokevirtual 281, 3) by decide +kernel) lkV_7_281 ⟨rfl, Nat.le_of_ble_eq_true rfl, Nat.le_of_ble_eq_true rfl, fun _ => rfl⟩ rfl rfl,
  fun d σ S l0 l1 l2 x => ex_ineg (show decode mX7_size.2.1 47 = .ok (.ineg, 1) by decide +kernel),
  fun d σ l0 l1 l2 x => ex_iret (show decode mX7_size.2.1 48 = .ok (.ireturn, 1) by decide +kernel) rfl,
  fun d σ S l1 l2 k => ex_aload_n (show decode mX7_size.2.1 49 = .ok (.aload_n 0, 1) by decide +kernel) rfl,
  fun d σ S l0 l2 x => ex_iload_n (show decode mX7_size.2.1 50 = .ok (.iload_n 1, 1) by decide +kernel) rfl,
  fun d σ l0 l1 l2 x0 => ex_iv (hs := [1226, 1228, 88, 1229, 101]) (show decode mX7_size.2.1 51 = .ok (.invokevirtual 281, 3) by decide +kernel) lkV_7_281 ⟨rfl, Nat.le_of_ble_eq_true rfl, Nat.le_of_ble_eq_true rfl, fun _ => rfl⟩ rfl rfl,
  fun d σ l0 l1 l2 x => ex_iret (show decode mX7_size.2.1 54 = .ok (.ireturn, 1) by decide +kernel) rfl,
  fun d σ S l1 l2 k => ex_aload_n (show decode mX7_size.2.1 55 = .ok (.aload_n 0, 1) by decide +kernel) rfl,
  fun d σ S l0 l2 x => ex_iload_n (show decode mX7_size.2.1 56 = .ok (.iload_n 1, 1) by decide +kernel) rfl,
  fun d σ S l0 l1 x => ex_iload_n (show decode mX7_size.2.1 57 = .ok (.iload_n 2, 1) by decide +kernel) rfl,
  fun d σ S l0 l1 l2 => ex_iconst (show decode mX7_size.2.1 58 = .ok (.iconst 5, 1) by decide +kernel) (by decide +kernel),
  fun d σ S l0 l1 l2 x y => ex_cne (show decode mX7_size.2.1 59 = .ok (.if_icmp .ne 7, 3) by decide +kernel) (by decide),
  fun d σ S l0 l1 l2 => ex_iconst (show decode mX7_size.2.1 62 = .ok (.iconst 1, 1) by decide +kernel) (by decide +kernel),
  fun d σ S l0 l1 l2 => ex_goto (show decode mX7_size.2.1 63 = .ok (.goto 4, 3) by decide +kernel) (by decide),
  fun d σ S l0 l1 l2 => ex_iconst (show decode mX7_size.2.1 66 = .ok (.iconst 0, 1) by decide +kernel) (by decide +kernel),
  fun d σ l0 l1 l2 x0 x1 => ex_iv (hs := [1242, 1244, 92, 1245, 101]) (show decode mX7_size.2.1 67 = .ok (.invokevirtual 274, 3) by decide +kernel) lkV_7_274 ⟨rfl, Nat.le_of_ble_eq_true rfl, Nat.le_of_ble_eq_true rfl, fun _ => rfl⟩ rfl rfl,
  fun d σ l0 l1 l2 x => ex_iret (show decode mX7_size.2.1 70 = .ok (.ireturn, 1) by decide +kernel) rfl⟩
theorem aX7_size_50 : ∀ (d : Nat) (a1 : Int32) (σ : Sg), cal (d + 1) mX7_size [.ref 50, .int a1] σ = exec d mX7_size 0 [.ref 50, .int a1, uu] [] σ := fun _ _ _ => rfl
theorem kX7_ask : (∀ (d : Nat) (σ : Sg) (S : List Value) (l1 l2 : Value) (k : Nat), exec d mX7_ask 0 [.ref k, l1, l2] S σ = exec d mX7_ask 1 [.ref k, l1, l2] (.ref k :: S) σ) ∧
  (∀ (d : Nat) (σ : Sg) (S : List Value) (l0 l2 : Value) (x : Int32), exec d mX7_ask 1 [l0, .int x, l2] S σ = exec d mX7_ask 2 [l0, .int x, l2] (.int x :: S) σ) ∧
  (∀ (d : Nat) (σ : Sg) (l0 l1 l2 : Value) (x0 : Int32), exec d mX7_ask 2 [l0, l1, l2] [.int x0, .ref 50] σ = kb (cal d mX7_isPart [.ref 50, .int x0] σ) (fun rs σ2 => exec d mX7_ask 5 [l0, l1, l2] (rs ++ []) σ2)) ∧
  (∀ (d : Nat) (σ : Sg) (S : List Value) (l0 l1 l2 : Value) (x : Int32), exec d mX7_ask 5 [l0, l1, l2] (.int x :: S) σ = if x = nI 0 then exec d mX7_ask 18 [l0, l1, l2] S σ else exec d mX7_ask 8 [l0, l1, l2] S σ) ∧
  (∀ (d : Nat) (σ : Sg) (S : List Value) (l0 l1 : Value) (x : Int32), exec d mX7_ask 8 [l0, l1, .int x] S σ = exec d mX7_ask 9 [l0, l1, .int x] (.int x :: S) σ) ∧
  (∀ (d : Nat) (σ : Sg) (S : List Value) (l0 l1 l2 : Value) (x : Int32), exec d mX7_ask 9 [l0, l1, l2] (.int x :: S) σ = exec d mX7_ask 10 [l0, l1, l2] (.long x.toInt64 :: S) σ) ∧
  (∀ (d : Nat) (σ : Sg) (S : List Value) (l0 l1 l2 : Value), exec d mX7_ask 10 [l0, l1, l2] S σ = exec d mX7_ask 11 [l0, l1, l2] (.long (lN 0) :: S) σ) ∧
  (∀ (d : Nat) (σ : Sg) (S : List Value) (l0 l1 l2 : Value), exec d mX7_ask 11 [l0, l1, l2] S σ = exec d mX7_ask 12 [l0, l1, l2] (.long (lN 1) :: S) σ) ∧
  (∀ (d : Nat) (σ : Sg) (l0 l1 l2 : Value) (x0 x1 x2 : Int64), exec d mX7_ask 12 [l0, l1, l2] [.long x0, .long x1, .long x2] σ = kb (cal d mX7_in [.long x2, .long x1, .long x0] σ) (fun rs σ2 => exec d mX7_ask 15 [l0, l1, l2] (rs ++ []) σ2)) ∧
  (∀ (d : Nat) (σ : Sg) (S : List Value) (l0 l1 l2 : Value) (x : Int32), exec d mX7_ask 15 [l0, l1, l2] (.int x :: S) σ = if x = nI 0 then exec d mX7_ask 18 [l0, l1, l2] S σ else exec d mX7_ask 21 [l0, l1, l2] S σ) ∧
  (∀ (d : Nat) (σ : Sg) (S : List Value) (l0 l1 l2 : Value), exec d mX7_ask 18 [l0, l1, l2] S σ = exec d mX7_ask 20 [l0, l1, l2] (.int ((-1000001)) :: S) σ) ∧
  (∀ (d : Nat) (σ : Sg) (l0 l1 l2 : Value) (x : Int32), exec d mX7_ask 20 [l0, l1, l2] [.int x] σ = some (some (.int x), σ)) ∧
  (∀ (d : Nat) (σ : Sg) (S : List Value) (l1 l2 : Value) (k : Nat), exec d mX7_ask 21 [.ref k, l1, l2] S σ = exec d mX7_ask 22 [.ref k, l1, l2] (.ref k :: S) σ) ∧
  (∀ (d : Nat) (σ : Sg) (S : List Value) (l0 l1 l2 : Value), exec d mX7_ask 22 [l0, l1, l2] S σ = exec d mX7_ask 23 [l0, l1, l2] (.int (nI 0) :: S) σ) ∧
  (∀ (d : Nat) (σ : Sg) (S : List Value) (l0 l1 l2 : Value) (x : Int32), exec d mX7_ask 23 [l0, l1, l2] (.int x :: .ref 50 :: S) σ = exec d mX7_ask 26 [l0, l1, l2] S (up σ 50 12 x)) ∧
  (∀ (d : Nat) (σ : Sg) (S : List Value) (l0 l1 : Value) (x : Int32), exec d mX7_ask 26 [l0, l1, .int x] S σ = exec d mX7_ask 27 [l0, l1, .int x] (.int x :: S) σ) ∧
  (∀ (d : Nat) (σ : Sg) (S : List Value) (l0 l1 l2 : Value) (x : Int32), exec d mX7_ask 27 [l0, l1, l2] (.int x :: S) σ = if x = nI 0 then exec d mX7_ask 30 [l0, l1, l2] S σ else exec d mX7_ask 38 [l0, l1, l2] S σ) ∧
  (∀ (d : Nat) (σ : Sg) (S : List Value) (l1 l2 : Value) (k : Nat), exec d mX7_ask 30 [.ref k, l1, l2] S σ = exec d mX7_ask 31 [.ref k, l1, l2] (.ref k :: S) σ) ∧
  (∀ (d : Nat) (σ : Sg) (S : List Value) (l0 l2 : Value) (x : Int32), exec d mX7_ask 31 [l0, .int x, l2] S σ = exec d mX7_ask 32 [l0, .int x, l2] (.int x :: S) σ) ∧
  (∀ (d : Nat) (σ : Sg) (l0 l1 l2 : Value) (x0 : Int32), exec d mX7_ask 32 [l0, l1, l2] [.int x0, .ref 50] σ = kb (cal d mX7_size [.ref 50, .int x0] σ) (fun rs σ2 => exec d mX7_ask 35 [l0, l1, l2] (rs ++ []) σ2)) ∧
  (∀ (d : Nat) (σ : Sg) (S : List Value) (l0 l1 l2 : Value), exec d mX7_ask 35 [l0, l1, l2] S σ = exec d mX7_ask 43 [l0, l1, l2] S σ) ∧
  (∀ (d : Nat) (σ : Sg) (S : List Value) (l1 l2 : Value) (k : Nat), exec d mX7_ask 38 [.ref k, l1, l2] S σ = exec d mX7_ask 39 [.ref k, l1, l2] (.ref k :: S) σ) ∧
  (∀ (d : Nat) (σ : Sg) (S : List Value) (l0 l2 : Value) (x : Int32), exec d mX7_ask 39 [l0, .int x, l2] S σ = exec d mX7_ask 40 [l0, .int x, l2] (.int x :: S) σ) ∧
  (∀ (d : Nat) (σ : Sg) (l0 l1 l2 : Value) (x0 : Int32), exec d mX7_ask 40 [l0, l1, l2] [.int x0, .ref 50] σ = kb (cal d mX7_mark [.ref 50, .int x0] σ) (fun rs σ2 => exec d mX7_ask 43 [l0, l1, l2] (rs ++ []) σ2)) ∧
  (∀ (d : Nat) (σ : Sg) (l0 l1 l2 : Value) (x : Int32), exec d mX7_ask 43 [l0, l1, l2] [.int x] σ = some (some (.int x), σ)) :=
  ⟨fun d σ S l1 l2 k => ex_aload_n (show decode mX7_ask.2.1 0 = .ok (.aload_n 0, 1) by decide +kernel) rfl,
  fun d σ S l0 l2 x => ex_iload_n (show decode mX7_ask.2.1 1 = .ok (.iload_n 1, 1) by decide +kernel) rfl,
  fun d σ l0 l1 l2 x0 => ex_iv (hs := [1014, 1016, 65, 1017, 101]) (show decode mX7_ask.2.1 2 = .ok (.invokevirtual 172, 3) by decide +kernel) lkV_7_172 ⟨rfl, Nat.le_of_ble_eq_true rfl, Nat.le_of_ble_eq_true rfl, fun _ => rfl⟩ rfl rfl,
  fun d σ S l0 l1 l2 x => ex_zeq (show decode mX7_ask.2.1 5 = .ok (.ifCond .eq 13, 3) by decide +kernel) (by decide),
  fun d σ S l0 l1 x => ex_iload_n (show decode mX7_ask.2.1 8 = .ok (.iload_n 2, 1) by decide +kernel) rfl,
  fun d σ S l0 l1 l2 x => ex_i2l (show decode mX7_ask.2.1 9 = .ok (.i2l, 1) by decide +kernel),
  fun d σ S l0 l1 l2 => ex_lconst (show decode mX7_ask.2.1 10 = .ok (.lconst 0, 1) by decide +kernel) (by decide +kernel),
  fun d σ S l0 l1 l2 => ex_lconst (show decode mX7_ask.2.1 11 = .ok (.lconst 1, 1) by decide +kernel) (by decide +kernel),
  fun d σ l0 l1 l2 x0 x1 x2 => ex_is (hs := [920, 921, 922, 101]) (show decode mX7_ask.2.1 12 = .ok (.invokestatic 63, 3) by decide +kernel) lkS_7_63 ⟨rfl, Nat.le_of_ble_eq_true rfl, Nat.le_of_ble_eq_true rfl, fun q => nomatch q⟩ rfl rfl,
  fun d σ S l0 l1 l2 x => ex_zne (show decode mX7_ask.2.1 15 = .ok (.ifCond .ne 6, 3) by decide +kernel) (by decide),
  fun d σ S l0 l1 l2 => ex_ldc (hh := 924) (show decode mX7_ask.2.1 18 = .ok (.ldc 73, 2) by decide +kernel) (by decide +kernel),
  fun d σ l0 l1 l2 x => ex_iret (show decode mX7_ask.2.1 20 = .ok (.ireturn, 1) by decide +kernel) rfl,
  fun d σ S l1 l2 k => ex_aload_n (show decode mX7_ask.2.1 21 = .ok (.aload_n 0, 1) by decide +kernel) rfl,
  fun d σ S l0 l1 l2 => ex_iconst (show decode mX7_ask.2.1 22 = .ok (.iconst 0, 1) by decide +kernel) (by decide +kernel),
  fun d σ S l0 l1 l2 x => ex_put (idx := 262) (ci := 7) (ff := 12) (n := 26) (hh := 845) (by decide +kernel),
  fun d σ S l0 l1 x => ex_iload_n (show decode mX7_ask.2.1 26 = .ok (.iload_n 2, 1) by decide +kernel) rfl,
  fun d σ S l0 l1 l2 x => ex_zne (show decode mX7_ask.2.1 27 = .ok (.ifCond .ne 11, 3) by decide +kernel) (by decide),
  fun d σ S l1 l2 k => ex_aload_n (show decode mX7_ask.2.1 30 = .ok (.aload_n 0, 1) by decide +kernel) rfl,
  fun d σ S l0 l2 x => ex_iload_n (show decode mX7_ask.2.1 31 = .ok (.iload_n 1, 1) by decide +kernel) rfl,
  fun d σ l0 l1 l2 x0 => ex_iv (hs := [1218, 1220, 86, 1221, 101]) (show decode mX7_ask.2.1 32 = .ok (.invokevirtual 284, 3) by decide +kernel) lkV_7_284 ⟨rfl, Nat.le_of_ble_eq_true rfl, Nat.le_of_ble_eq_true rfl, fun _ => rfl⟩ rfl rfl,
  fun d σ S l0 l1 l2 => ex_goto (show decode mX7_ask.2.1 35 = .ok (.goto 8, 3) by decide +kernel) (by decide),
  fun d σ S l1 l2 k => ex_aload_n (show decode mX7_ask.2.1 38 = .ok (.aload_n 0, 1) by decide +kernel) rfl,
  fun d σ S l0 l2 x => ex_iload_n (show decode mX7_ask.2.1 39 = .ok (.iload_n 1, 1) by decide +kernel) rfl,
  fun d σ l0 l1 l2 x0 => ex_iv (hs := [1230, 1232, 89, 1233, 101]) (show decode mX7_ask.2.1 40 = .ok (.invokevirtual 278, 3) by decide +kernel) lkV_7_278 ⟨rfl, Nat.le_of_ble_eq_true rfl, Nat.le_of_ble_eq_true rfl, fun _ => rfl⟩ rfl rfl,
  fun d σ l0 l1 l2 x => ex_iret (show decode mX7_ask.2.1 43 = .ok (.ireturn, 1) by decide +kernel) rfl⟩
theorem aX7_ask_50 : ∀ (d : Nat) (a1 : Int32) (a2 : Int32) (σ : Sg), cal (d + 1) mX7_ask [.ref 50, .int a1, .int a2] σ = exec d mX7_ask 0 [.ref 50, .int a1, .int a2] [] σ := fun _ _ _ _ => rfl
theorem kX7_trace : (∀ (d : Nat) (σ : Sg) (S : List Value) (l0 : Value) (x : Int32), exec d mX7_trace 0 [l0, .int x] S σ = exec d mX7_trace 1 [l0, .int x] (.int x :: S) σ) ∧
  (∀ (d : Nat) (σ : Sg) (S : List Value) (l0 l1 : Value) (x : Int32), exec d mX7_trace 1 [l0, l1] (.int x :: S) σ = exec d mX7_trace 2 [l0, l1] (.long x.toInt64 :: S) σ) ∧
  (∀ (d : Nat) (σ : Sg) (S : List Value) (l0 l1 : Value), exec d mX7_trace 2 [l0, l1] S σ = exec d mX7_trace 3 [l0, l1] (.long (lN 0) :: S) σ) ∧
  (∀ (d : Nat) (σ : Sg) (S : List Value) (l1 : Value) (k : Nat), exec d mX7_trace 3 [.ref k, l1] S σ = exec d mX7_trace 4 [.ref k, l1] (.ref k :: S) σ) ∧
  (∀ (d : Nat) (σ : Sg) (S : List Value) (l0 l1 : Value), exec d mX7_trace 4 [l0, l1] (.ref 50 :: S) σ = exec d mX7_trace 7 [l0, l1] (.int (σ 50 12) :: S) σ) ∧
  (∀ (d : Nat) (σ : Sg) (S : List Value) (l0 l1 : Value), exec d mX7_trace 7 [l0, l1] S σ = exec d mX7_trace 8 [l0, l1] (.int (nI 1) :: S) σ) ∧
  (∀ (d : Nat) (σ : Sg) (S : List Value) (l0 l1 : Value) (x y : Int32), exec d mX7_trace 8 [l0, l1] (.int y :: .int x :: S) σ = exec d mX7_trace 9 [l0, l1] (.int (x - y) :: S) σ) ∧
  (∀ (d : Nat) (σ : Sg) (S : List Value) (l0 l1 : Value) (x : Int32), exec d mX7_trace 9 [l0, l1] (.int x :: S) σ = exec d mX7_trace 10 [l0, l1] (.long x.toInt64 :: S) σ) ∧
  (∀ (d : Nat) (σ : Sg) (l0 l1 : Value) (x0 x1 x2 : Int64), exec d mX7_trace 10 [l0, l1] [.long x0, .long x1, .long x2] σ = kb (cal d mX7_in [.long x2, .long x1, .long x0] σ) (fun rs σ2 => exec d mX7_trace 13 [l0, l1] (rs ++ []) σ2)) ∧
  (∀ (d : Nat) (σ : Sg) (S : List Value) (l0 l1 : Value) (x : Int32), exec d mX7_trace 13 [l0, l1] (.int x :: S) σ = if x = nI 0 then exec d mX7_trace 25 [l0, l1] S σ else exec d mX7_trace 16 [l0, l1] S σ) ∧
  (∀ (d : Nat) (σ : Sg) (S : List Value) (l1 : Value) (k : Nat), exec d mX7_trace 16 [.ref k, l1] S σ = exec d mX7_trace 17 [.ref k, l1] (.ref k :: S) σ) ∧
  (∀ (d : Nat) (σ : Sg) (S : List Value) (l0 l1 : Value), exec d mX7_trace 17 [l0, l1] (.ref 50 :: S) σ = exec d mX7_trace 20 [l0, l1] (.ref 58 :: S) σ) ∧
  (∀ (d : Nat) (σ : Sg) (S : List Value) (l0 : Value) (x : Int32), exec d mX7_trace 20 [l0, .int x] S σ = exec d mX7_trace 21 [l0, .int x] (.int x :: S) σ) ∧
  (∀ (d : Nat) (σ : Sg) (S : List Value) (l0 l1 : Value) (x : Int32), exec d mX7_trace 21 [l0, l1] (.int x :: .ref 58 :: S) σ = if inb x 16 = true then exec d mX7_trace 22 [l0, l1] (.int (σ 58 x.toNatClampNeg) :: S) σ else none) ∧
  (∀ (d : Nat) (σ : Sg) (S : List Value) (l0 l1 : Value), exec d mX7_trace 22 [l0, l1] S σ = exec d mX7_trace 27 [l0, l1] S σ) ∧
  (∀ (d : Nat) (σ : Sg) (S : List Value) (l0 l1 : Value), exec d mX7_trace 25 [l0, l1] S σ = exec d mX7_trace 27 [l0, l1] (.int ((-1000000)) :: S) σ) ∧
  (∀ (d : Nat) (σ : Sg) (l0 l1 : Value) (x : Int32), exec d mX7_trace 27 [l0, l1] [.int x] σ = some (some (.int x), σ)) :=
  ⟨fun d σ S l0 x => ex_iload_n (show decode mX7_trace.2.1 0 = .ok (.iload_n 1, 1) by decide +kernel) rfl,
  fun d σ S l0 l1 x => ex_i2l (show decode mX7_trace.2.1 1 = .ok (.i2l, 1) by decide +kernel),
  fun d σ S l0 l1 => ex_lconst (show decode mX7_trace.2.1 2 = .ok (.lconst 0, 1) by decide +kernel) (by decide +kernel),
  fun d σ S l1 k => ex_aload_n (show decode mX7_trace.2.1 3 = .ok (.aload_n 0, 1) by decide +kernel) rfl,
  fun d σ S l0 l1 => ex_get (idx := 262) (ci := 7) (ff := 12) (n := 26) (hh := 845) (by decide +kernel),
  fun d σ S l0 l1 => ex_iconst (show decode mX7_trace.2.1 7 = .ok (.iconst 1, 1) by decide +kernel) (by decide +kernel),
  fun d σ S l0 l1 x y => ex_isub (show decode mX7_trace.2.1 8 = .ok (.isub, 1) by decide +kernel),
  fun d σ S l0 l1 x => ex_i2l (show decode mX7_trace.2.1 9 = .ok (.i2l, 1) by decide +kernel),
  fun d σ l0 l1 x0 x1 x2 => ex_is (hs := [920, 921, 922, 101]) (show decode mX7_trace.2.1 10 = .ok (.invokestatic 63, 3) by decide +kernel) lkS_7_63 ⟨rfl, Nat.le_of_ble_eq_true rfl, Nat.le_of_ble_eq_true rfl, fun q => nomatch q⟩ rfl rfl,
  fun d σ S l0 l1 x => ex_zeq (show decode mX7_trace.2.1 13 = .ok (.ifCond .eq 12, 3) by decide +kernel) (by decide),
  fun d σ S l1 k => ex_aload_n (show decode mX7_trace.2.1 16 = .ok (.aload_n 0, 1) by decide +kernel) rfl,
  fun d σ S l0 l1 => ex_getr (idx := 32) (ci := 7) (ff := 11) (n := 26) (hh := 844) (by decide +kernel),
  fun d σ S l0 x => ex_iload_n (show decode mX7_trace.2.1 20 = .ok (.iload_n 1, 1) by decide +kernel) rfl,
  fun d σ S l0 l1 x => ex_iald (by decide +kernel),
  fun d σ S l0 l1 => ex_goto (show decode mX7_trace.2.1 22 = .ok (.goto 5, 3) by decide +kernel) (by decide),
  fun d σ S l0 l1 => ex_ldc (hh := 1087) (show decode mX7_trace.2.1 25 = .ok (.ldc 205, 2) by decide +kernel) (by decide +kernel),
  fun d σ l0 l1 x => ex_iret (show decode mX7_trace.2.1 27 = .ok (.ireturn, 1) by decide +kernel) rfl⟩
theorem aX7_trace_50 : ∀ (d : Nat) (a1 : Int32) (σ : Sg), cal (d + 1) mX7_trace [.ref 50, .int a1] σ = exec d mX7_trace 0 [.ref 50, .int a1] [] σ := fun _ _ _ => rfl
theorem kX7_count_0 : (∀ (d : Nat) (σ : Sg) (S : List Value) (l0 l2 l3 : Value) (x : Int32), exec d mX7_count 0 [l0, .int x, l2, l3] S σ = exec d mX7_count 1 [l0, .int x, l2, l3] (.int x :: S) σ) ∧
  (∀ (d : Nat) (σ : Sg) (S : List Value) (l0 l1 l2 l3 : Value) (x : Int32), exec d mX7_count 1 [l0, l1, l2, l3] (.int x :: S) σ = (if x = nI 0 then exec d mX7_count 48 [l0, l1, l2, l3] S σ else (if x = nI 1 then exec d mX7_count 83 [l0, l1, l2, l3] S σ else (if x = nI 2 then exec d mX7_count 91 [l0, l1, l2, l3] S σ else (if x = nI 3 then exec d mX7_count 99 [l0, l1, l2, l3] S σ else (if x = nI 4 then exec d mX7_count 106 [l0, l1, l2, l3] S σ else (if x = nI 5 then exec d mX7_count 113 [l0, l1, l2, l3] S σ else (if x = nI 6 then exec d mX7_count 120 [l0, l1, l2, l3] S σ else (if x = nI 7 then exec d mX7_count 125 [l0, l1, l2, l3] S σ else exec d mX7_count 130 [l0, l1, l2, l3] S σ))))))))) ∧
  (∀ (d : Nat) (σ : Sg) (S : List Value) (l0 l1 l2 l3 : Value), exec d mX7_count 48 [l0, l1, l2, l3] S σ = exec d mX7_count 49 [l0, l1, l2, l3] (.int (nI 0) :: S) σ) ∧
  (∀ (d : Nat) (σ : Sg) (S : List Value) (l0 l2 l3 : Value) (x y : Int32), exec d mX7_count 49 [l0, .int y, l2, l3] (.int x :: S) σ = exec d mX7_count 50 [l0, .int y, .int x, l3] S σ) ∧
  (∀ (d : Nat) (σ : Sg) (S : List Value) (l0 l1 l2 l3 : Value), exec d mX7_count 50 [l0, l1, l2, l3] S σ = exec d mX7_count 51 [l0, l1, l2, l3] (.int (nI 0) :: S) σ) ∧
  (∀ (d : Nat) (σ : Sg) (S : List Value) (l0 l1 l3 : Value) (x y : Int32), exec d mX7_count 51 [l0, l1, .int y, l3] (.int x :: S) σ = exec d mX7_count 52 [l0, l1, .int y, .int x] S σ) ∧
  (∀ (d : Nat) (σ : Sg) (S : List Value) (l0 l1 l2 l3 : Value), exec d mX7_count 53 [l0, l1, l2, l3] S σ = exec d mX7_count 55 [l0, l1, l2, l3] (.int (nI 8) :: S) σ) ∧
  (∀ (d : Nat) (σ : Sg) (S : List Value) (l0 l1 l2 l3 : Value) (x y : Int32), exec d mX7_count 55 [l0, l1, l2, l3] (.int y :: .int x :: S) σ = if y ≤ x then exec d mX7_count 81 [l0, l1, l2, l3] S σ else exec d mX7_count 58 [l0, l1, l2, l3] S σ) ∧
  (∀ (d : Nat) (σ : Sg) (S : List Value) (l0 l1 l3 : Value) (x : Int32), exec d mX7_count 58 [l0, l1, .int x, l3] S σ = exec d mX7_count 59 [l0, l1, .int x, l3] (.int x :: S) σ) ∧
  (∀ (d : Nat) (σ : Sg) (S : List Value) (l1 l2 l3 : Value) (k : Nat), exec d mX7_count 59 [.ref k, l1, l2, l3] S σ = exec d mX7_count 60 [.ref k, l1, l2, l3] (.ref k :: S) σ) ∧
  (∀ (d : Nat) (σ : Sg) (S : List Value) (l0 l1 l2 l3 : Value), exec d mX7_count 60 [l0, l1, l2, l3] (.ref 50 :: S) σ = exec d mX7_count 63 [l0, l1, l2, l3] (.ref 55 :: S) σ) ∧
  (∀ (d : Nat) (σ : Sg) (S : List Value) (l0 l1 l2 : Value) (x : Int32), exec d mX7_count 63 [l0, l1, l2, .int x] S σ = exec d mX7_count 64 [l0, l1, l2, .int x] (.int x :: S) σ) ∧
  (∀ (d : Nat) (σ : Sg) (S : List Value) (l0 l1 l2 l3 : Value) (x : Int32), exec d mX7_count 64 [l0, l1, l2, l3] (.int x :: .ref 55 :: S) σ = if inb x 8 = true then exec d mX7_count 65 [l0, l1, l2, l3] (.int (σ 55 x.toNatClampNeg) :: S) σ else none) ∧
  (∀ (d : Nat) (σ : Sg) (S : List Value) (l0 l1 l2 l3 : Value) (x : Int32), exec d mX7_count 65 [l0, l1, l2, l3] (.int x :: S) σ = if nI 0 ≤ x then exec d mX7_count 72 [l0, l1, l2, l3] S σ else exec d mX7_count 68 [l0, l1, l2, l3] S σ) ∧
  (∀ (d : Nat) (σ : Sg) (S : List Value) (l0 l1 l2 l3 : Value), exec d mX7_count 68 [l0, l1, l2, l3] S σ = exec d mX7_count 69 [l0, l1, l2, l3] (.int (nI 0) :: S) σ) ∧
  (∀ (d : Nat) (σ : Sg) (S : List Value) (l0 l1 l2 l3 : Value), exec d mX7_count 69 [l0, l1, l2, l3] S σ = exec d mX7_count 73 [l0, l1, l2, l3] S σ) ∧
  (∀ (d : Nat) (σ : Sg) (S : List Value) (l0 l1 l2 l3 : Value), exec d mX7_count 72 [l0, l1, l2, l3] S σ = exec d mX7_count 73 [l0, l1, l2, l3] (.int (nI 1) :: S) σ) ∧
  (∀ (d : Nat) (σ : Sg) (S : List Value) (l0 l1 l2 l3 : Value) (x y : Int32), exec d mX7_count 73 [l0, l1, l2, l3] (.int y :: .int x :: S) σ = exec d mX7_count 74 [l0, l1, l2, l3] (.int (x + y) :: S) σ) ∧
  (∀ (d : Nat) (σ : Sg) (S : List Value) (l0 l2 l3 : Value) (x y : Int32), exec d mX7_count 74 [l0, .int y, l2, l3] (.int x :: S) σ = exec d mX7_count 75 [l0, .int y, .int x, l3] S σ) ∧
  (∀ (d : Nat) (σ : Sg) (S : List Value) (l0 l1 : Value) (x y : Int32), exec d mX7_count 75 [l0, l1, .int y, .int x] S σ = exec d mX7_count 78 [l0, l1, .int y, .int (x + nI 1)] S σ) ∧
  (∀ (d : Nat) (σ : Sg) (S : List Value) (l0 l1 l2 l3 : Value), exec d mX7_count 78 [l0, l1, l2, l3] S σ = exec d mX7_count 52 [l0, l1, l2, l3] S σ) ∧
  (∀ (d : Nat) (σ : Sg) (S : List Value) (l0 l1 l3 : Value) (x : Int32), exec d mX7_count 81 [l0, l1, .int x, l3] S σ = exec d mX7_count 82 [l0, l1, .int x, l3] (.int x :: S) σ) ∧
  (∀ (d : Nat) (σ : Sg) (l0 l1 l2 l3 : Value) (x : Int32), exec d mX7_count 82 [l0, l1, l2, l3] [.int x] σ = some (some (.int x), σ)) ∧
  (∀ (d : Nat) (σ : Sg) (S : List Value) (l1 l2 l3 : Value) (k : Nat), exec d mX7_count 83 [.ref k, l1, l2, l3] S σ = exec d mX7_count 84 [.ref k, l1, l2, l3] (.ref k :: S) σ) ∧
  (∀ (d : Nat) (σ : Sg) (S : List Value) (l0 l1 l2 l3 : Value), exec d mX7_count 84 [l0, l1, l2, l3] (.ref 50 :: S) σ = exec d mX7_count 87 [l0, l1, l2, l3] (.ref 51 :: S) σ) ∧
  (∀ (d : Nat) (σ : Sg) (S : List Value) (l0 l1 l2 l3 : Value), exec d mX7_count 87 [l0, l1, l2, l3] S σ = exec d mX7_count 89 [l0, l1, l2, l3] (.int (nI 7) :: S) σ) ∧
  (∀ (d : Nat) (σ : Sg) (S : List Value) (l0 l1 l2 l3 : Value) (x : Int32), exec d mX7_count 89 [l0, l1, l2, l3] (.int x :: .ref 51 :: S) σ = if inb x 208 = true then exec d mX7_count 90 [l0, l1, l2, l3] (.int (σ 51 x.toNatClampNeg) :: S) σ else none) ∧
  (∀ (d : Nat) (σ : Sg) (l0 l1 l2 l3 : Value) (x : Int32), exec d mX7_count 90 [l0, l1, l2, l3] [.int x] σ = some (some (.int x), σ)) ∧
  (∀ (d : Nat) (σ : Sg) (S : List Value) (l1 l2 l3 : Value) (k : Nat), exec d mX7_count 91 [.ref k, l1, l2, l3] S σ = exec d mX7_count 92 [.ref k, l1, l2, l3] (.ref k :: S) σ) ∧
  (∀ (d : Nat) (σ : Sg) (S : List Value) (l0 l1 l2 l3 : Value), exec d mX7_count 92 [l0, l1, l2, l3] (.ref 50 :: S) σ = exec d mX7_count 95 [l0, l1, l2, l3] (.ref 51 :: S) σ) ∧
  (∀ (d : Nat) (σ : Sg) (S : List Value) (l0 l1 l2 l3 : Value), exec d mX7_count 95 [l0, l1, l2, l3] S σ = exec d mX7_count 97 [l0, l1, l2, l3] (.int (nI 8) :: S) σ) ∧
  (∀ (d : Nat) (σ : Sg) (S : List Value) (l0 l1 l2 l3 : Value) (x : Int32), exec d mX7_count 97 [l0, l1, l2, l3] (.int x :: .ref 51 :: S) σ = if inb x 208 = true then exec d mX7_count 98 [l0, l1, l2, l3] (.int (σ 51 x.toNatClampNeg) :: S) σ else none) ∧
  (∀ (d : Nat) (σ : Sg) (l0 l1 l2 l3 : Value) (x : Int32), exec d mX7_count 98 [l0, l1, l2, l3] [.int x] σ = some (some (.int x), σ)) ∧
  (∀ (d : Nat) (σ : Sg) (S : List Value) (l1 l2 l3 : Value) (k : Nat), exec d mX7_count 99 [.ref k, l1, l2, l3] S σ = exec d mX7_count 100 [.ref k, l1, l2, l3] (.ref k :: S) σ) ∧
  (∀ (d : Nat) (σ : Sg) (S : List Value) (l0 l1 l2 l3 : Value), exec d mX7_count 100 [l0, l1, l2, l3] (.ref 50 :: S) σ = exec d mX7_count 103 [l0, l1, l2, l3] (.ref 51 :: S) σ) ∧
  (∀ (d : Nat) (σ : Sg) (S : List Value) (l0 l1 l2 l3 : Value), exec d mX7_count 103 [l0, l1, l2, l3] S σ = exec d mX7_count 104 [l0, l1, l2, l3] (.int (nI 3) :: S) σ) ∧
  (∀ (d : Nat) (σ : Sg) (S : List Value) (l0 l1 l2 l3 : Value) (x : Int32), exec d mX7_count 104 [l0, l1, l2, l3] (.int x :: .ref 51 :: S) σ = if inb x 208 = true then exec d mX7_count 105 [l0, l1, l2, l3] (.int (σ 51 x.toNatClampNeg) :: S) σ else none) ∧
  (∀ (d : Nat) (σ : Sg) (l0 l1 l2 l3 : Value) (x : Int32), exec d mX7_count 105 [l0, l1, l2, l3] [.int x] σ = some (some (.int x), σ)) ∧
  (∀ (d : Nat) (σ : Sg) (S : List Value) (l1 l2 l3 : Value) (k : Nat), exec d mX7_count 106 [.ref k, l1, l2, l3] S σ = exec d mX7_count 107 [.ref k, l1, l2, l3] (.ref k :: S) σ) ∧
  (∀ (d : Nat) (σ : Sg) (S : List Value) (l0 l1 l2 l3 : Value), exec d mX7_count 107 [l0, l1, l2, l3] (.ref 50 :: S) σ = exec d mX7_count 110 [l0, l1, l2, l3] (.ref 51 :: S) σ) :=
  ⟨fun d σ S l0 l2 l3 x => ex_iload_n (show decode mX7_count.2.1 0 = .ok (.iload_n 1, 1) by decide +kernel) rfl,
  fun d σ S l0 l1 l2 l3 x => ex_tsw (lo := 0) (df := 130) (ts := [48, 83, 91, 99, 106, 113, 120, 125]) (show decode mX7_count.2.1 1 = .ok (.tableswitch 129 0 7 #[47, 82, 90, 98, 105, 112, 119, 124], 47) by decide +kernel) (by decide) (by decide) (by decide) (by decide),
  fun d σ S l0 l1 l2 l3 => ex_iconst (show decode mX7_count.2.1 48 = .ok (.iconst 0, 1) by decide +kernel) (by decide +kernel),
  fun d σ S l0 l2 l3 x y => ex_istore_n (show decode mX7_count.2.1 49 = .ok (.istore_n 2, 1) by decide +kernel) (Nat.le_of_ble_eq_true rfl) rfl,
  fun d σ S l0 l1 l2 l3 => ex_iconst (show decode mX7_count.2.1 50 = .ok (.iconst 0, 1) by decide +kernel) (by decide +kernel),
  fun d σ S l0 l1 l3 x y => ex_istore_n (show decode mX7_count.2.1 51 = .ok (.istore_n 3, 1) by decide +kernel) (Nat.le_of_ble_eq_true rfl) rfl,
  fun d σ S l0 l1 l2 l3 => ex_bipush (show decode mX7_count.2.1 53 = .ok (.bipush 8, 2) by decide +kernel) (by decide +kernel),
  fun d σ S l0 l1 l2 l3 x y => ex_cge (show decode mX7_count.2.1 55 = .ok (.if_icmp .ge 26, 3) by decide +kernel) (by decide),
  fun d σ S l0 l1 l3 x => ex_iload_n (show decode mX7_count.2.1 58 = .ok (.iload_n 2, 1) by decide +kernel) rfl,
  fun d σ S l1 l2 l3 k => ex_aload_n (show decode mX7_count.2.1 59 = .ok (.aload_n 0, 1) by decide +kernel) rfl,
  fun d σ S l0 l1 l2 l3 => ex_getr (idx := 23) (ci := 7) (ff := 5) (n := 26) (hh := 838) (by decide +kernel),
  fun d σ S l0 l1 l2 x => ex_iload_n (show decode mX7_count.2.1 63 = .ok (.iload_n 3, 1) by decide +kernel) rfl,
  fun d σ S l0 l1 l2 l3 x => ex_iald (by decide +kernel),
  fun d σ S l0 l1 l2 l3 x => ex_zge (show decode mX7_count.2.1 65 = .ok (.ifCond .ge 7, 3) by decide +kernel) (by decide),
  fun d σ S l0 l1 l2 l3 => ex_iconst (show decode mX7_count.2.1 68 = .ok (.iconst 0, 1) by decide +kernel) (by decide +kernel),
  fun d σ S l0 l1 l2 l3 => ex_goto (show decode mX7_count.2.1 69 = .ok (.goto 4, 3) by decide +kernel) (by decide),
  fun d σ S l0 l1 l2 l3 => ex_iconst (show decode mX7_count.2.1 72 = .ok (.iconst 1, 1) by decide +kernel) (by decide +kernel),
  fun d σ S l0 l1 l2 l3 x y => ex_iadd (show decode mX7_count.2.1 73 = .ok (.iadd, 1) by decide +kernel),
  fun d σ S l0 l2 l3 x y => ex_istore_n (show decode mX7_count.2.1 74 = .ok (.istore_n 2, 1) by decide +kernel) (Nat.le_of_ble_eq_true rfl) rfl,
  fun d σ S l0 l1 x y => ex_iinc (show decode mX7_count.2.1 75 = .ok (.iinc 3 1, 3) by decide +kernel) rfl (by decide +kernel) (Nat.le_of_ble_eq_true rfl) rfl,
  fun d σ S l0 l1 l2 l3 => ex_goto (show decode mX7_count.2.1 78 = .ok (.goto (-26), 3) by decide +kernel) (by decide),
  fun d σ S l0 l1 l3 x => ex_iload_n (show decode mX7_count.2.1 81 = .ok (.iload_n 2, 1) by decide +kernel) rfl,
  fun d σ l0 l1 l2 l3 x => ex_iret (show decode mX7_count.2.1 82 = .ok (.ireturn, 1) by decide +kernel) rfl,
  fun d σ S l1 l2 l3 k => ex_aload_n (show decode mX7_count.2.1 83 = .ok (.aload_n 0, 1) by decide +kernel) rfl,
  fun d σ S l0 l1 l2 l3 => ex_getr (idx := 7) (ci := 7) (ff := 0) (n := 26) (hh := 833) (by decide +kernel),
  fun d σ S l0 l1 l2 l3 => ex_bipush (show decode mX7_count.2.1 87 = .ok (.bipush 7, 2) by decide +kernel) (by decide +kernel),
  fun d σ S l0 l1 l2 l3 x => ex_iald (by decide +kernel),
  fun d σ l0 l1 l2 l3 x => ex_iret (show decode mX7_count.2.1 90 = .ok (.ireturn, 1) by decide +kernel) rfl,
  fun d σ S l1 l2 l3 k => ex_aload_n (show decode mX7_count.2.1 91 = .ok (.aload_n 0, 1) by decide +kernel) rfl,
  fun d σ S l0 l1 l2 l3 => ex_getr (idx := 7) (ci := 7) (ff := 0) (n := 26) (hh := 833) (by decide +kernel),
  fun d σ S l0 l1 l2 l3 => ex_bipush (show decode mX7_count.2.1 95 = .ok (.bipush 8, 2) by decide +kernel) (by decide +kernel),
  fun d σ S l0 l1 l2 l3 x => ex_iald (by decide +kernel),
  fun d σ l0 l1 l2 l3 x => ex_iret (show decode mX7_count.2.1 98 = .ok (.ireturn, 1) by decide +kernel) rfl,
  fun d σ S l1 l2 l3 k => ex_aload_n (show decode mX7_count.2.1 99 = .ok (.aload_n 0, 1) by decide +kernel) rfl,
  fun d σ S l0 l1 l2 l3 => ex_getr (idx := 7) (ci := 7) (ff := 0) (n := 26) (hh := 833) (by decide +kernel),
  fun d σ S l0 l1 l2 l3 => ex_iconst (show decode mX7_count.2.1 103 = .ok (.iconst 3, 1) by decide +kernel) (by decide +kernel),
  fun d σ S l0 l1 l2 l3 x => ex_iald (by decide +kernel),
  fun d σ l0 l1 l2 l3 x => ex_iret (show decode mX7_count.2.1 105 = .ok (.ireturn, 1) by decide +kernel) rfl,
  fun d σ S l1 l2 l3 k => ex_aload_n (show decode mX7_count.2.1 106 = .ok (.aload_n 0, 1) by decide +kernel) rfl,
  fun d σ S l0 l1 l2 l3 => ex_getr (idx := 7) (ci := 7) (ff := 0) (n := 26) (hh := 833) (by decide +kernel)⟩
theorem kX7_count_1 : (∀ (d : Nat) (σ : Sg) (S : List Value) (l0 l1 l2 l3 : Value), exec d mX7_count 110 [l0, l1, l2, l3] S σ = exec d mX7_count 111 [l0, l1, l2, l3] (.int (nI 1) :: S) σ) ∧
  (∀ (d : Nat) (σ : Sg) (S : List Value) (l0 l1 l2 l3 : Value) (x : Int32), exec d mX7_count 111 [l0, l1, l2, l3] (.int x :: .ref 51 :: S) σ = if inb x 208 = true then exec d mX7_count 112 [l0, l1, l2, l3] (.int (σ 51 x.toNatClampNeg) :: S) σ else none) ∧
  (∀ (d : Nat) (σ : Sg) (l0 l1 l2 l3 : Value) (x : Int32), exec d mX7_count 112 [l0, l1, l2, l3] [.int x] σ = some (some (.int x), σ)) ∧
  (∀ (d : Nat) (σ : Sg) (S : List Value) (l1 l2 l3 : Value) (k : Nat), exec d mX7_count 113 [.ref k, l1, l2, l3] S σ = exec d mX7_count 114 [.ref k, l1, l2, l3] (.ref k :: S) σ) ∧
  (∀ (d : Nat) (σ : Sg) (S : List Value) (l0 l1 l2 l3 : Value), exec d mX7_count 114 [l0, l1, l2, l3] (.ref 50 :: S) σ = exec d mX7_count 117 [l0, l1, l2, l3] (.ref 51 :: S) σ) ∧
  (∀ (d : Nat) (σ : Sg) (S : List Value) (l0 l1 l2 l3 : Value), exec d mX7_count 117 [l0, l1, l2, l3] S σ = exec d mX7_count 118 [l0, l1, l2, l3] (.int (nI 2) :: S) σ) ∧
  (∀ (d : Nat) (σ : Sg) (S : List Value) (l0 l1 l2 l3 : Value) (x : Int32), exec d mX7_count 118 [l0, l1, l2, l3] (.int x :: .ref 51 :: S) σ = if inb x 208 = true then exec d mX7_count 119 [l0, l1, l2, l3] (.int (σ 51 x.toNatClampNeg) :: S) σ else none) ∧
  (∀ (d : Nat) (σ : Sg) (l0 l1 l2 l3 : Value) (x : Int32), exec d mX7_count 119 [l0, l1, l2, l3] [.int x] σ = some (some (.int x), σ)) ∧
  (∀ (d : Nat) (σ : Sg) (S : List Value) (l1 l2 l3 : Value) (k : Nat), exec d mX7_count 120 [.ref k, l1, l2, l3] S σ = exec d mX7_count 121 [.ref k, l1, l2, l3] (.ref k :: S) σ) ∧
  (∀ (d : Nat) (σ : Sg) (S : List Value) (l0 l1 l2 l3 : Value), exec d mX7_count 121 [l0, l1, l2, l3] (.ref 50 :: S) σ = exec d mX7_count 124 [l0, l1, l2, l3] (.int (σ 50 3) :: S) σ) ∧
  (∀ (d : Nat) (σ : Sg) (l0 l1 l2 l3 : Value) (x : Int32), exec d mX7_count 124 [l0, l1, l2, l3] [.int x] σ = some (some (.int x), σ)) ∧
  (∀ (d : Nat) (σ : Sg) (S : List Value) (l1 l2 l3 : Value) (k : Nat), exec d mX7_count 125 [.ref k, l1, l2, l3] S σ = exec d mX7_count 126 [.ref k, l1, l2, l3] (.ref k :: S) σ) ∧
  (∀ (d : Nat) (σ : Sg) (S : List Value) (l0 l1 l2 l3 : Value), exec d mX7_count 126 [l0, l1, l2, l3] (.ref 50 :: S) σ = exec d mX7_count 129 [l0, l1, l2, l3] (.int (σ 50 9) :: S) σ) ∧
  (∀ (d : Nat) (σ : Sg) (l0 l1 l2 l3 : Value) (x : Int32), exec d mX7_count 129 [l0, l1, l2, l3] [.int x] σ = some (some (.int x), σ)) ∧
  (∀ (d : Nat) (σ : Sg) (S : List Value) (l0 l1 l2 l3 : Value), exec d mX7_count 130 [l0, l1, l2, l3] S σ = exec d mX7_count 132 [l0, l1, l2, l3] (.int ((-1000001)) :: S) σ) ∧
  (∀ (d : Nat) (σ : Sg) (l0 l1 l2 l3 : Value) (x : Int32), exec d mX7_count 132 [l0, l1, l2, l3] [.int x] σ = some (some (.int x), σ)) :=
  ⟨fun d σ S l0 l1 l2 l3 => ex_iconst (show decode mX7_count.2.1 110 = .ok (.iconst 1, 1) by decide +kernel) (by decide +kernel),
  fun d σ S l0 l1 l2 l3 x => ex_iald (by decide +kernel),
  fun d σ l0 l1 l2 l3 x => ex_iret (show decode mX7_count.2.1 112 = .ok (.ireturn, 1) by decide +kernel) rfl,
  fun d σ S l1 l2 l3 k => ex_aload_n (show decode mX7_count.2.1 113 = .ok (.aload_n 0, 1) by decide +kernel) rfl,
  fun d σ S l0 l1 l2 l3 => ex_getr (idx := 7) (ci := 7) (ff := 0) (n := 26) (hh := 833) (by decide +kernel),
  fun d σ S l0 l1 l2 l3 => ex_iconst (show decode mX7_count.2.1 117 = .ok (.iconst 2, 1) by decide +kernel) (by decide +kernel),
  fun d σ S l0 l1 l2 l3 x => ex_iald (by decide +kernel),
  fun d σ l0 l1 l2 l3 x => ex_iret (show decode mX7_count.2.1 119 = .ok (.ireturn, 1) by decide +kernel) rfl,
  fun d σ S l1 l2 l3 k => ex_aload_n (show decode mX7_count.2.1 120 = .ok (.aload_n 0, 1) by decide +kernel) rfl,
  fun d σ S l0 l1 l2 l3 => ex_get (idx := 141) (ci := 7) (ff := 3) (n := 26) (hh := 836) (by decide +kernel),
  fun d σ l0 l1 l2 l3 x => ex_iret (show decode mX7_count.2.1 124 = .ok (.ireturn, 1) by decide +kernel) rfl,
  fun d σ S l1 l2 l3 k => ex_aload_n (show decode mX7_count.2.1 125 = .ok (.aload_n 0, 1) by decide +kernel) rfl,
  fun d σ S l0 l1 l2 l3 => ex_get (idx := 87) (ci := 7) (ff := 9) (n := 26) (hh := 842) (by decide +kernel),
  fun d σ l0 l1 l2 l3 x => ex_iret (show decode mX7_count.2.1 129 = .ok (.ireturn, 1) by decide +kernel) rfl,
  fun d σ S l0 l1 l2 l3 => ex_ldc (hh := 924) (show decode mX7_count.2.1 130 = .ok (.ldc 73, 2) by decide +kernel) (by decide +kernel),
  fun d σ l0 l1 l2 l3 x => ex_iret (show decode mX7_count.2.1 132 = .ok (.ireturn, 1) by decide +kernel) rfl⟩
theorem hX7_count_52 : ∀ (d : Nat) (σ : Sg) (S : List Value) (l0 l1 l2 : Value) (x : Int32), exec d mX7_count 52 [l0, l1, l2, .int x] S σ = exec d mX7_count 53 [l0, l1, l2, .int x] (.int x :: S) σ := fun d σ S l0 l1 l2 x => ex_iload_n (show decode mX7_count.2.1 52 = .ok (.iload_n 3, 1) by decide +kernel) rfl
theorem aX7_count_50 : ∀ (d : Nat) (a1 : Int32) (σ : Sg), cal (d + 1) mX7_count [.ref 50, .int a1] σ = exec d mX7_count 0 [.ref 50, .int a1, uu, uu] [] σ := fun _ _ _ => rfl
theorem kX7_status : (∀ (d : Nat) (σ : Sg) (S : List Value) (k : Nat), exec d mX7_status 0 [.ref k] S σ = exec d mX7_status 1 [.ref k] (.ref k :: S) σ) ∧
  (∀ (d : Nat) (σ : Sg) (S : List Value) (l0 : Value), exec d mX7_status 1 [l0] (.ref 50 :: S) σ = exec d mX7_status 4 [l0] (.int (σ 50 7) :: S) σ) ∧
  (∀ (d : Nat) (σ : Sg) (l0 : Value) (x : Int32), exec d mX7_status 4 [l0] [.int x] σ = some (some (.int x), σ)) :=
  ⟨fun d σ S k => ex_aload_n (show decode mX7_status.2.1 0 = .ok (.aload_n 0, 1) by decide +kernel) rfl,
  fun d σ S l0 => ex_get (idx := 56) (ci := 7) (ff := 7) (n := 26) (hh := 840) (by decide +kernel),
  fun d σ l0 x => ex_iret (show decode mX7_status.2.1 4 = .ok (.ireturn, 1) by decide +kernel) rfl⟩
theorem aX7_status_50 : ∀ (d : Nat)  (σ : Sg), cal (d + 1) mX7_status [.ref 50] σ = exec d mX7_status 0 [.ref 50] [] σ := fun _ _ => rfl
