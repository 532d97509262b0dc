/-! generated: the instructions of GuildPiece -/
theorem kX6_row : (∀ (d : Nat) (σ : Sg) (S : List Value) (l0 l2 l3 : Value) (x : Int32), exec d mX6_row 0 [l0, .int x, l2, l3] S σ = exec d mX6_row 1 [l0, .int x, l2, l3] (.int x :: S) σ) ∧
  (∀ (d : Nat) (σ : Sg) (l0 l1 l2 l3 : Value) (x0 : Int32), exec d mX6_row 1 [l0, l1, l2, l3] [.int x0] σ = kb (cal d mX6_isRow [.int x0] σ) (fun rs σ2 => exec d mX6_row 4 [l0, l1, l2, l3] (rs ++ []) σ2)) ∧
  (∀ (d : Nat) (σ : Sg) (S : List Value) (l0 l1 l2 l3 : Value) (x : Int32), exec d mX6_row 4 [l0, l1, l2, l3] (.int x :: S) σ = if x = nI 0 then exec d mX6_row 22 [l0, l1, l2, l3] S σ else exec d mX6_row 7 [l0, l1, l2, l3] S σ) ∧
  (∀ (d : Nat) (σ : Sg) (S : List Value) (l0 l1 l3 : Value) (x : Int32), exec d mX6_row 7 [l0, l1, .int x, l3] S σ = exec d mX6_row 8 [l0, l1, .int x, l3] (.int x :: S) σ) ∧
  (∀ (d : Nat) (σ : Sg) (S : List Value) (l0 l1 l2 l3 : Value) (x : Int32), exec d mX6_row 8 [l0, l1, l2, l3] (.int x :: S) σ = if x < nI 0 then exec d mX6_row 22 [l0, l1, l2, l3] S σ else exec d mX6_row 11 [l0, l1, l2, l3] S σ) ∧
  (∀ (d : Nat) (σ : Sg) (S : List Value) (l0 l1 l3 : Value) (x : Int32), exec d mX6_row 11 [l0, l1, .int x, l3] S σ = exec d mX6_row 12 [l0, l1, .int x, l3] (.int x :: S) σ) ∧
  (∀ (d : Nat) (σ : Sg) (S : List Value) (l0 l1 l2 l3 : Value), exec d mX6_row 12 [l0, l1, l2, l3] S σ = exec d mX6_row 13 [l0, l1, l2, l3] (.int (nI 2) :: S) σ) ∧
  (∀ (d : Nat) (σ : Sg) (S : List Value) (l0 l1 l2 l3 : Value) (x y : Int32), exec d mX6_row 13 [l0, l1, l2, l3] (.int y :: .int x :: S) σ = if y < x then exec d mX6_row 22 [l0, l1, l2, l3] S σ else exec d mX6_row 16 [l0, l1, l2, l3] S σ) ∧
  (∀ (d : Nat) (σ : Sg) (S : List Value) (l0 l1 l2 : Value) (x : Int32), exec d mX6_row 16 [l0, l1, l2, .int x] S σ = exec d mX6_row 17 [l0, l1, l2, .int x] (.int x :: S) σ) ∧
  (∀ (d : Nat) (σ : Sg) (S : List Value) (l0 l1 l2 l3 : Value), exec d mX6_row 17 [l0, l1, l2, l3] S σ = exec d mX6_row 19 [l0, l1, l2, l3] (.int (nI 40) :: S) σ) ∧
  (∀ (d : Nat) (σ : Sg) (S : List Value) (l0 l1 l2 l3 : Value) (x y : Int32), exec d mX6_row 19 [l0, l1, l2, l3] (.int y :: .int x :: S) σ = if x ≤ y then exec d mX6_row 25 [l0, l1, l2, l3] S σ else exec d mX6_row 22 [l0, l1, l2, l3] S σ) ∧
  (∀ (d : Nat) (σ : Sg) (S : List Value) (l0 l1 l2 l3 : Value), exec d mX6_row 22 [l0, l1, l2, l3] S σ = exec d mX6_row 24 [l0, l1, l2, l3] (.int ((-1000001)) :: S) σ) ∧
  (∀ (d : Nat) (σ : Sg) (l0 l1 l2 l3 : Value) (x : Int32), exec d mX6_row 24 [l0, l1, l2, l3] [.int x] σ = some (some (.int x), σ)) ∧
  (∀ (d : Nat) (σ : Sg) (S : List Value) (l0 l1 l2 : Value) (x : Int32), exec d mX6_row 25 [l0, l1, l2, .int x] S σ = exec d mX6_row 26 [l0, l1, l2, .int x] (.int x :: S) σ) ∧
  (∀ (d : Nat) (σ : Sg) (S : List Value) (l0 l1 l2 l3 : Value) (x : Int32), exec d mX6_row 26 [l0, l1, l2, l3] (.int x :: S) σ = if nI 0 ≤ x then exec d mX6_row 35 [l0, l1, l2, l3] S σ else exec d mX6_row 29 [l0, l1, l2, l3] S σ) ∧
  (∀ (d : Nat) (σ : Sg) (S : List Value) (l1 l2 l3 : Value) (k : Nat), exec d mX6_row 29 [.ref k, l1, l2, l3] S σ = exec d mX6_row 30 [.ref k, l1, l2, l3] (.ref k :: S) σ) ∧
  (∀ (d : Nat) (σ : Sg) (S : List Value) (l0 l1 l2 l3 : Value), exec d mX6_row 30 [l0, l1, l2, l3] S σ = exec d mX6_row 31 [l0, l1, l2, l3] (.int (nI 4) :: S) σ) ∧
  (∀ (d : Nat) (σ : Sg) (l0 l1 l2 l3 : Value) (x0 : Int32), exec d mX6_row 31 [l0, l1, l2, l3] [.int x0, .ref 0] σ = kb (cal d mX6_finding [.ref 0, .int x0] σ) (fun rs σ2 => exec d mX6_row 34 [l0, l1, l2, l3] (rs ++ []) σ2)) ∧
  (∀ (d : Nat) (σ : Sg) (l0 l1 l2 l3 : Value) (x : Int32), exec d mX6_row 34 [l0, l1, l2, l3] [.int x] σ = some (some (.int x), σ)) ∧
  (∀ (d : Nat) (σ : Sg) (S : List Value) (l1 l2 l3 : Value) (k : Nat), exec d mX6_row 35 [.ref k, l1, l2, l3] S σ = exec d mX6_row 36 [.ref k, l1, l2, l3] (.ref k :: S) σ) ∧
  (∀ (d : Nat) (σ : Sg) (S : List Value) (l0 l1 l2 l3 : Value), exec d mX6_row 36 [l0, l1, l2, l3] (.ref 0 :: S) σ = exec d mX6_row 39 [l0, l1, l2, l3] (.ref 1 :: S) σ) ∧
  (∀ (d : Nat) (σ : Sg) (S : List Value) (l0 l2 l3 : Value) (x : Int32), exec d mX6_row 39 [l0, .int x, l2, l3] S σ = exec d mX6_row 40 [l0, .int x, l2, l3] (.int x :: S) σ) ∧
  (∀ (d : Nat) (σ : Sg) (S : List Value) (l0 l1 l3 : Value) (x : Int32), exec d mX6_row 40 [l0, l1, .int x, l3] S σ = exec d mX6_row 41 [l0, l1, .int x, l3] (.int x :: S) σ) ∧
  (∀ (d : Nat) (σ : Sg) (S : List Value) (l0 l1 l2 : Value) (x : Int32), exec d mX6_row 41 [l0, l1, l2, .int x] S σ = exec d mX6_row 42 [l0, l1, l2, .int x] (.int x :: S) σ) ∧
  (∀ (d : Nat) (σ : Sg) (l0 l1 l2 l3 : Value) (x0 x1 x2 : Int32), exec d mX6_row 42 [l0, l1, l2, l3] [.int x0, .int x1, .int x2, .ref 1] σ = kb (cal d mX3_lay [.ref 1, .int x2, .int x1, .int x0] σ) (fun rs σ2 => exec d mX6_row 45 [l0, l1, l2, l3] (rs ++ []) σ2)) ∧
  (∀ (d : Nat) (σ : Sg) (S : List Value) (l1 l2 l3 : Value) (k : Nat), exec d mX6_row 45 [.ref k, l1, l2, l3] S σ = exec d mX6_row 46 [.ref k, l1, l2, l3] (.ref k :: S) σ) ∧
  (∀ (d : Nat) (σ : Sg) (S : List Value) (l0 l1 l2 : Value) (x : Int32), exec d mX6_row 46 [l0, l1, l2, .int x] S σ = exec d mX6_row 47 [l0, l1, l2, .int x] (.int x :: S) σ) ∧
  (∀ (d : Nat) (σ : Sg) (l0 l1 l2 l3 : Value) (x0 : Int32), exec d mX6_row 47 [l0, l1, l2, l3] [.int x0, .ref 0] σ = kb (cal d mX6_clean [.ref 0, .int x0] σ) (fun rs σ2 => exec d mX6_row 50 [l0, l1, l2, l3] (rs ++ []) σ2)) ∧
  (∀ (d : Nat) (σ : Sg) (l0 l1 l2 l3 : Value) (x : Int32), exec d mX6_row 50 [l0, l1, l2, l3] [.int x] σ = some (some (.int x), σ)) :=
  ⟨fun d σ S l0 l2 l3 x => ex_iload_n (show decode mX6_row.2.1 0 = .ok (.iload_n 1, 1) by decide +kernel) rfl,
  fun d σ l0 l1 l2 l3 x0 => ex_is (hs := [384, 385, 386, 94]) (show decode mX6_row.2.1 1 = .ok (.invokestatic 60, 3) by decide +kernel) lkS_6_60 ⟨rfl, Nat.le_of_ble_eq_true rfl, Nat.le_of_ble_eq_true rfl, fun q => nomatch q⟩ rfl rfl,
  fun d σ S l0 l1 l2 l3 x => ex_zeq (show decode mX6_row.2.1 4 = .ok (.ifCond .eq 18, 3) by decide +kernel) (by decide),
  fun d σ S l0 l1 l3 x => ex_iload_n (show decode mX6_row.2.1 7 = .ok (.iload_n 2, 1) by decide +kernel) rfl,
  fun d σ S l0 l1 l2 l3 x => ex_zlt (show decode mX6_row.2.1 8 = .ok (.ifCond .lt 14, 3) by decide +kernel) (by decide),
  fun d σ S l0 l1 l3 x => ex_iload_n (show decode mX6_row.2.1 11 = .ok (.iload_n 2, 1) by decide +kernel) rfl,
  fun d σ S l0 l1 l2 l3 => ex_iconst (show decode mX6_row.2.1 12 = .ok (.iconst 2, 1) by decide +kernel) (by decide +kernel),
  fun d σ S l0 l1 l2 l3 x y => ex_cgt (show decode mX6_row.2.1 13 = .ok (.if_icmp .gt 9, 3) by decide +kernel) (by decide),
  fun d σ S l0 l1 l2 x => ex_iload_n (show decode mX6_row.2.1 16 = .ok (.iload_n 3, 1) by decide +kernel) rfl,
  fun d σ S l0 l1 l2 l3 => ex_bipush (show decode mX6_row.2.1 17 = .ok (.bipush 40, 2) by decide +kernel) (by decide +kernel),
  fun d σ S l0 l1 l2 l3 x y => ex_cle (show decode mX6_row.2.1 19 = .ok (.if_icmp .le 6, 3) by decide +kernel) (by decide),
  fun d σ S l0 l1 l2 l3 => ex_ldc (hh := 387) (show decode mX6_row.2.1 22 = .ok (.ldc 64, 2) by decide +kernel) (by decide +kernel),
  fun d σ l0 l1 l2 l3 x => ex_iret (show decode mX6_row.2.1 24 = .ok (.ireturn, 1) by decide +kernel) rfl,
  fun d σ S l0 l1 l2 x => ex_iload_n (show decode mX6_row.2.1 25 = .ok (.iload_n 3, 1) by decide +kernel) rfl,
  fun d σ S l0 l1 l2 l3 x => ex_zge (show decode mX6_row.2.1 26 = .ok (.ifCond .ge 9, 3) by decide +kernel) (by decide),
  fun d σ S l1 l2 l3 k => ex_aload_n (show decode mX6_row.2.1 29 = .ok (.aload_n 0, 1) by decide +kernel) rfl,
  fun d σ S l0 l1 l2 l3 => ex_iconst (show decode mX6_row.2.1 30 = .ok (.iconst 4, 1) by decide +kernel) (by decide +kernel),
  fun d σ l0 l1 l2 l3 x0 => ex_iv (hs := [388, 390, 0, 391, 94]) (show decode mX6_row.2.1 31 = .ok (.invokevirtual 65, 3) by decide +kernel) lkV_6_65 ⟨rfl, Nat.le_of_ble_eq_true rfl, Nat.le_of_ble_eq_true rfl, fun _ => rfl⟩ rfl rfl,
  fun d σ l0 l1 l2 l3 x => ex_iret (show decode mX6_row.2.1 34 = .ok (.ireturn, 1) by decide +kernel) rfl,
  fun d σ S l1 l2 l3 k => ex_aload_n (show decode mX6_row.2.1 35 = .ok (.aload_n 0, 1) by decide +kernel) rfl,
  fun d σ S l0 l1 l2 l3 => ex_getr (idx := 10) (ci := 6) (ff := 0) (n := 11) (hh := 346) (by decide +kernel),
  fun d σ S l0 l2 l3 x => ex_iload_n (show decode mX6_row.2.1 39 = .ok (.iload_n 1, 1) by decide +kernel) rfl,
  fun d σ S l0 l1 l3 x => ex_iload_n (show decode mX6_row.2.1 40 = .ok (.iload_n 2, 1) by decide +kernel) rfl,
  fun d σ S l0 l1 l2 x => ex_iload_n (show decode mX6_row.2.1 41 = .ok (.iload_n 3, 1) by decide +kernel) rfl,
  fun d σ l0 l1 l2 l3 x0 x1 x2 => ex_iv (hs := [393, 395, 1, 396, 95]) (show decode mX6_row.2.1 42 = .ok (.invokevirtual 69, 3) by decide +kernel) lkV_6_69 ⟨rfl, Nat.le_of_ble_eq_true rfl, Nat.le_of_ble_eq_true rfl, fun _ => rfl⟩ rfl rfl,
  fun d σ S l1 l2 l3 k => ex_aload_n (show decode mX6_row.2.1 45 = .ok (.aload_n 0, 1) by decide +kernel) rfl,
  fun d σ S l0 l1 l2 x => ex_iload_n (show decode mX6_row.2.1 46 = .ok (.iload_n 3, 1) by decide +kernel) rfl,
  fun d σ l0 l1 l2 l3 x0 => ex_iv (hs := [397, 399, 2, 400, 94]) (show decode mX6_row.2.1 47 = .ok (.invokevirtual 73, 3) by decide +kernel) lkV_6_73 ⟨rfl, Nat.le_of_ble_eq_true rfl, Nat.le_of_ble_eq_true rfl, fun _ => rfl⟩ rfl rfl,
  fun d σ l0 l1 l2 l3 x => ex_iret (show decode mX6_row.2.1 50 = .ok (.ireturn, 1) by decide +kernel) rfl⟩
theorem aX6_row_0 : ∀ (d : Nat) (a1 : Int32) (a2 : Int32) (a3 : Int32) (σ : Sg), cal (d + 1) mX6_row [.ref 0, .int a1, .int a2, .int a3] σ = exec d mX6_row 0 [.ref 0, .int a1, .int a2, .int a3] [] σ := fun _ _ _ _ _ => rfl
theorem kX6_set : (∀ (d : Nat) (σ : Sg) (S : List Value) (l0 l2 l3 : Value) (x : Int32), exec d mX6_set 0 [l0, .int x, l2, l3] S σ = exec d mX6_set 1 [l0, .int x, l2, l3] (.int x :: S) σ) ∧
  (∀ (d : Nat) (σ : Sg) (l0 l1 l2 l3 : Value) (x0 : Int32), exec d mX6_set 1 [l0, l1, l2, l3] [.int x0] σ = kb (cal d mX6_isRow [.int x0] σ) (fun rs σ2 => exec d mX6_set 4 [l0, l1, l2, l3] (rs ++ []) σ2)) ∧
  (∀ (d : Nat) (σ : Sg) (S : List Value) (l0 l1 l2 l3 : Value) (x : Int32), exec d mX6_set 4 [l0, l1, l2, l3] (.int x :: S) σ = if x = nI 0 then exec d mX6_set 7 [l0, l1, l2, l3] S σ else exec d mX6_set 10 [l0, l1, l2, l3] S σ) ∧
  (∀ (d : Nat) (σ : Sg) (S : List Value) (l0 l1 l2 l3 : Value), exec d mX6_set 7 [l0, l1, l2, l3] S σ = exec d mX6_set 9 [l0, l1, l2, l3] (.int ((-1000001)) :: S) σ) ∧
  (∀ (d : Nat) (σ : Sg) (l0 l1 l2 l3 : Value) (x : Int32), exec d mX6_set 9 [l0, l1, l2, l3] [.int x] σ = some (some (.int x), σ)) ∧
  (∀ (d : Nat) (σ : Sg) (S : List Value) (l1 l2 l3 : Value) (k : Nat), exec d mX6_set 10 [.ref k, l1, l2, l3] S σ = exec d mX6_set 11 [.ref k, l1, l2, l3] (.ref k :: S) σ) ∧
  (∀ (d : Nat) (σ : Sg) (S : List Value) (l0 l1 l2 l3 : Value), exec d mX6_set 11 [l0, l1, l2, l3] (.ref 0 :: S) σ = exec d mX6_set 14 [l0, l1, l2, l3] (.ref 1 :: S) σ) ∧
  (∀ (d : Nat) (σ : Sg) (S : List Value) (l0 l1 l2 l3 : Value), exec d mX6_set 14 [l0, l1, l2, l3] (.ref 1 :: S) σ = exec d mX6_set 17 [l0, l1, l2, l3] (.ref 2 :: S) σ) ∧
  (∀ (d : Nat) (σ : Sg) (S : List Value) (l0 l2 l3 : Value) (x : Int32), exec d mX6_set 17 [l0, .int x, l2, l3] S σ = exec d mX6_set 18 [l0, .int x, l2, l3] (.int x :: S) σ) ∧
  (∀ (d : Nat) (σ : Sg) (S : List Value) (l0 l1 l2 l3 : Value) (x : Int32), exec d mX6_set 18 [l0, l1, l2, l3] (.int x :: .ref 2 :: S) σ = if inb x 8 = true then exec d mX6_set 19 [l0, l1, l2, l3] (.int (σ 2 x.toNatClampNeg) :: S) σ else none) ∧
  (∀ (d : Nat) (σ : Sg) (S : List Value) (l0 l1 l2 l3 : Value) (x : Int32), exec d mX6_set 19 [l0, l1, l2, l3] (.int x :: S) σ = if x = nI 0 then exec d mX6_set 22 [l0, l1, l2, l3] S σ else exec d mX6_set 28 [l0, l1, l2, l3] S σ) ∧
  (∀ (d : Nat) (σ : Sg) (S : List Value) (l1 l2 l3 : Value) (k : Nat), exec d mX6_set 22 [.ref k, l1, l2, l3] S σ = exec d mX6_set 23 [.ref k, l1, l2, l3] (.ref k :: S) σ) ∧
  (∀ (d : Nat) (σ : Sg) (S : List Value) (l0 l1 l2 l3 : Value), exec d mX6_set 23 [l0, l1, l2, l3] S σ = exec d mX6_set 24 [l0, l1, l2, l3] (.int (nI 1) :: S) σ) ∧
  (∀ (d : Nat) (σ : Sg) (l0 l1 l2 l3 : Value) (x0 : Int32), exec d mX6_set 24 [l0, l1, l2, l3] [.int x0, .ref 0] σ = kb (cal d mX6_finding [.ref 0, .int x0] σ) (fun rs σ2 => exec d mX6_set 27 [l0, l1, l2, l3] (rs ++ []) σ2)) ∧
  (∀ (d : Nat) (σ : Sg) (l0 l1 l2 l3 : Value) (x : Int32), exec d mX6_set 27 [l0, l1, l2, l3] [.int x] σ = some (some (.int x), σ)) ∧
  (∀ (d : Nat) (σ : Sg) (S : List Value) (l1 l2 l3 : Value) (k : Nat), exec d mX6_set 28 [.ref k, l1, l2, l3] S σ = exec d mX6_set 29 [.ref k, l1, l2, l3] (.ref k :: S) σ) ∧
  (∀ (d : Nat) (σ : Sg) (S : List Value) (l0 l1 l2 l3 : Value), exec d mX6_set 29 [l0, l1, l2, l3] (.ref 0 :: S) σ = exec d mX6_set 32 [l0, l1, l2, l3] (.ref 1 :: S) σ) ∧
  (∀ (d : Nat) (σ : Sg) (S : List Value) (l0 l2 l3 : Value) (x : Int32), exec d mX6_set 32 [l0, .int x, l2, l3] S σ = exec d mX6_set 33 [l0, .int x, l2, l3] (.int x :: S) σ) ∧
  (∀ (d : Nat) (σ : Sg) (S : List Value) (l0 l1 l3 : Value) (x : Int32), exec d mX6_set 33 [l0, l1, .int x, l3] S σ = exec d mX6_set 34 [l0, l1, .int x, l3] (.int x :: S) σ) ∧
  (∀ (d : Nat) (σ : Sg) (S : List Value) (l0 l1 l2 l3 : Value), exec d mX6_set 34 [l0, l1, l2, l3] S σ = exec d mX6_set 35 [l0, l1, l2, l3] (.int (nI 1) :: S) σ) ∧
  (∀ (d : Nat) (σ : Sg) (l0 l1 l2 l3 : Value) (x0 x1 x2 : Int32), exec d mX6_set 35 [l0, l1, l2, l3] [.int x0, .int x1, .int x2, .ref 1] σ = kb (cal d mX3_holds [.ref 1, .int x2, .int x1, .int x0] σ) (fun rs σ2 => exec d mX6_set 38 [l0, l1, l2, l3] (rs ++ []) σ2)) ∧
  (∀ (d : Nat) (σ : Sg) (S : List Value) (l0 l1 l2 l3 : Value) (x : Int32), exec d mX6_set 38 [l0, l1, l2, l3] (.int x :: S) σ = if x = nI 0 then exec d mX6_set 41 [l0, l1, l2, l3] S σ else exec d mX6_set 47 [l0, l1, l2, l3] S σ) ∧
  (∀ (d : Nat) (σ : Sg) (S : List Value) (l1 l2 l3 : Value) (k : Nat), exec d mX6_set 41 [.ref k, l1, l2, l3] S σ = exec d mX6_set 42 [.ref k, l1, l2, l3] (.ref k :: S) σ) ∧
  (∀ (d : Nat) (σ : Sg) (S : List Value) (l0 l1 l2 l3 : Value), exec d mX6_set 42 [l0, l1, l2, l3] S σ = exec d mX6_set 43 [l0, l1, l2, l3] (.int (nI 2) :: S) σ) ∧
  (∀ (d : Nat) (σ : Sg) (l0 l1 l2 l3 : Value) (x0 : Int32), exec d mX6_set 43 [l0, l1, l2, l3] [.int x0, .ref 0] σ = kb (cal d mX6_finding [.ref 0, .int x0] σ) (fun rs σ2 => exec d mX6_set 46 [l0, l1, l2, l3] (rs ++ []) σ2)) ∧
  (∀ (d : Nat) (σ : Sg) (l0 l1 l2 l3 : Value) (x : Int32), exec d mX6_set 46 [l0, l1, l2, l3] [.int x] σ = some (some (.int x), σ)) ∧
  (∀ (d : Nat) (σ : Sg) (S : List Value) (l1 l2 l3 : Value) (k : Nat), exec d mX6_set 47 [.ref k, l1, l2, l3] S σ = exec d mX6_set 48 [.ref k, l1, l2, l3] (.ref k :: S) σ) ∧
  (∀ (d : Nat) (σ : Sg) (S : List Value) (l1 l2 l3 : Value) (k : Nat), exec d mX6_set 48 [.ref k, l1, l2, l3] S σ = exec d mX6_set 49 [.ref k, l1, l2, l3] (.ref k :: S) σ) ∧
  (∀ (d : Nat) (σ : Sg) (S : List Value) (l0 l1 l2 l3 : Value), exec d mX6_set 49 [l0, l1, l2, l3] (.ref 0 :: S) σ = exec d mX6_set 52 [l0, l1, l2, l3] (.ref 1 :: S) σ) ∧
  (∀ (d : Nat) (σ : Sg) (S : List Value) (l0 l2 l3 : Value) (x : Int32), exec d mX6_set 52 [l0, .int x, l2, l3] S σ = exec d mX6_set 53 [l0, .int x, l2, l3] (.int x :: S) σ) ∧
  (∀ (d : Nat) (σ : Sg) (S : List Value) (l0 l1 l3 : Value) (x : Int32), exec d mX6_set 53 [l0, l1, .int x, l3] S σ = exec d mX6_set 54 [l0, l1, .int x, l3] (.int x :: S) σ) ∧
  (∀ (d : Nat) (σ : Sg) (S : List Value) (l0 l1 l2 : Value) (x : Int32), exec d mX6_set 54 [l0, l1, l2, .int x] S σ = exec d mX6_set 55 [l0, l1, l2, .int x] (.int x :: S) σ) ∧
  (∀ (d : Nat) (σ : Sg) (l0 l1 l2 l3 : Value) (x0 x1 x2 : Int32), exec d mX6_set 55 [l0, l1, l2, l3] [.int x0, .int x1, .int x2, .ref 1, .ref 0] σ = kb (cal d mX3_put [.ref 1, .int x2, .int x1, .int x0] σ) (fun rs σ2 => exec d mX6_set 58 [l0, l1, l2, l3] (rs ++ [.ref 0]) σ2)) ∧
  (∀ (d : Nat) (σ : Sg) (l0 l1 l2 l3 : Value) (x0 : Int32), exec d mX6_set 58 [l0, l1, l2, l3] [.int x0, .ref 0] σ = kb (cal d mX6_clean [.ref 0, .int x0] σ) (fun rs σ2 => exec d mX6_set 61 [l0, l1, l2, l3] (rs ++ []) σ2)) ∧
  (∀ (d : Nat) (σ : Sg) (l0 l1 l2 l3 : Value) (x : Int32), exec d mX6_set 61 [l0, l1, l2, l3] [.int x] σ = some (some (.int x), σ)) :=
  ⟨fun d σ S l0 l2 l3 x => ex_iload_n (show decode mX6_set.2.1 0 = .ok (.iload_n 1, 1) by decide +kernel) rfl,
  fun d σ l0 l1 l2 l3 x0 => ex_is (hs := [384, 385, 386, 94]) (show decode mX6_set.2.1 1 = .ok (.invokestatic 60, 3) by decide +kernel) lkS_6_60 ⟨rfl, Nat.le_of_ble_eq_true rfl, Nat.le_of_ble_eq_true rfl, fun q => nomatch q⟩ rfl rfl,
  fun d σ S l0 l1 l2 l3 x => ex_zne (show decode mX6_set.2.1 4 = .ok (.ifCond .ne 6, 3) by decide +kernel) (by decide),
  fun d σ S l0 l1 l2 l3 => ex_ldc (hh := 387) (show decode mX6_set.2.1 7 = .ok (.ldc 64, 2) by decide +kernel) (by decide +kernel),
  fun d σ l0 l1 l2 l3 x => ex_iret (show decode mX6_set.2.1 9 = .ok (.ireturn, 1) by decide +kernel) rfl,
  fun d σ S l1 l2 l3 k => ex_aload_n (show decode mX6_set.2.1 10 = .ok (.aload_n 0, 1) by decide +kernel) rfl,
  fun d σ S l0 l1 l2 l3 => ex_getr (idx := 10) (ci := 6) (ff := 0) (n := 11) (hh := 346) (by decide +kernel),
  fun d σ S l0 l1 l2 l3 => ex_getr (idx := 76) (ci := 3) (ff := 0) (n := 4) (hh := 120) (by decide +kernel),
  fun d σ S l0 l2 l3 x => ex_iload_n (show decode mX6_set.2.1 17 = .ok (.iload_n 1, 1) by decide +kernel) rfl,
  fun d σ S l0 l1 l2 l3 x => ex_bald (by decide +kernel),
  fun d σ S l0 l1 l2 l3 x => ex_zne (show decode mX6_set.2.1 19 = .ok (.ifCond .ne 9, 3) by decide +kernel) (by decide),
  fun d σ S l1 l2 l3 k => ex_aload_n (show decode mX6_set.2.1 22 = .ok (.aload_n 0, 1) by decide +kernel) rfl,
  fun d σ S l0 l1 l2 l3 => ex_iconst (show decode mX6_set.2.1 23 = .ok (.iconst 1, 1) by decide +kernel) (by decide +kernel),
  fun d σ l0 l1 l2 l3 x0 => ex_iv (hs := [388, 390, 0, 391, 94]) (show decode mX6_set.2.1 24 = .ok (.invokevirtual 65, 3) by decide +kernel) lkV_6_65 ⟨rfl, Nat.le_of_ble_eq_true rfl, Nat.le_of_ble_eq_true rfl, fun _ => rfl⟩ rfl rfl,
  fun d σ l0 l1 l2 l3 x => ex_iret (show decode mX6_set.2.1 27 = .ok (.ireturn, 1) by decide +kernel) rfl,
  fun d σ S l1 l2 l3 k => ex_aload_n (show decode mX6_set.2.1 28 = .ok (.aload_n 0, 1) by decide +kernel) rfl,
  fun d σ S l0 l1 l2 l3 => ex_getr (idx := 10) (ci := 6) (ff := 0) (n := 11) (hh := 346) (by decide +kernel),
  fun d σ S l0 l2 l3 x => ex_iload_n (show decode mX6_set.2.1 32 = .ok (.iload_n 1, 1) by decide +kernel) rfl,
  fun d σ S l0 l1 l3 x => ex_iload_n (show decode mX6_set.2.1 33 = .ok (.iload_n 2, 1) by decide +kernel) rfl,
  fun d σ S l0 l1 l2 l3 => ex_iconst (show decode mX6_set.2.1 34 = .ok (.iconst 1, 1) by decide +kernel) (by decide +kernel),
  fun d σ l0 l1 l2 l3 x0 x1 x2 => ex_iv (hs := [405, 407, 3, 408, 95]) (show decode mX6_set.2.1 35 = .ok (.invokevirtual 80, 3) by decide +kernel) lkV_6_80 ⟨rfl, Nat.le_of_ble_eq_true rfl, Nat.le_of_ble_eq_true rfl, fun _ => rfl⟩ rfl rfl,
  fun d σ S l0 l1 l2 l3 x => ex_zne (show decode mX6_set.2.1 38 = .ok (.ifCond .ne 9, 3) by decide +kernel) (by decide),
  fun d σ S l1 l2 l3 k => ex_aload_n (show decode mX6_set.2.1 41 = .ok (.aload_n 0, 1) by decide +kernel) rfl,
  fun d σ S l0 l1 l2 l3 => ex_iconst (show decode mX6_set.2.1 42 = .ok (.iconst 2, 1) by decide +kernel) (by decide +kernel),
  fun d σ l0 l1 l2 l3 x0 => ex_iv (hs := [388, 390, 0, 391, 94]) (show decode mX6_set.2.1 43 = .ok (.invokevirtual 65, 3) by decide +kernel) lkV_6_65 ⟨rfl, Nat.le_of_ble_eq_true rfl, Nat.le_of_ble_eq_true rfl, fun _ => rfl⟩ rfl rfl,
  fun d σ l0 l1 l2 l3 x => ex_iret (show decode mX6_set.2.1 46 = .ok (.ireturn, 1) by decide +kernel) rfl,
  fun d σ S l1 l2 l3 k => ex_aload_n (show decode mX6_set.2.1 47 = .ok (.aload_n 0, 1) by decide +kernel) rfl,
  fun d σ S l1 l2 l3 k => ex_aload_n (show decode mX6_set.2.1 48 = .ok (.aload_n 0, 1) by decide +kernel) rfl,
  fun d σ S l0 l1 l2 l3 => ex_getr (idx := 10) (ci := 6) (ff := 0) (n := 11) (hh := 346) (by decide +kernel),
  fun d σ S l0 l2 l3 x => ex_iload_n (show decode mX6_set.2.1 52 = .ok (.iload_n 1, 1) by decide +kernel) rfl,
  fun d σ S l0 l1 l3 x => ex_iload_n (show decode mX6_set.2.1 53 = .ok (.iload_n 2, 1) by decide +kernel) rfl,
  fun d σ S l0 l1 l2 x => ex_iload_n (show decode mX6_set.2.1 54 = .ok (.iload_n 3, 1) by decide +kernel) rfl,
  fun d σ l0 l1 l2 l3 x0 x1 x2 => ex_iv (hs := [409, 411, 4, 412, 95]) (show decode mX6_set.2.1 55 = .ok (.invokevirtual 84, 3) by decide +kernel) lkV_6_84 ⟨rfl, Nat.le_of_ble_eq_true rfl, Nat.le_of_ble_eq_true rfl, fun _ => rfl⟩ rfl rfl,
  fun d σ l0 l1 l2 l3 x0 => ex_iv (hs := [397, 399, 2, 400, 94]) (show decode mX6_set.2.1 58 = .ok (.invokevirtual 73, 3) by decide +kernel) lkV_6_73 ⟨rfl, Nat.le_of_ble_eq_true rfl, Nat.le_of_ble_eq_true rfl, fun _ => rfl⟩ rfl rfl,
  fun d σ l0 l1 l2 l3 x => ex_iret (show decode mX6_set.2.1 61 = .ok (.ireturn, 1) by decide +kernel) rfl⟩
theorem aX6_set_0 : ∀ (d : Nat) (a1 : Int32) (a2 : Int32) (a3 : Int32) (σ : Sg), cal (d + 1) mX6_set [.ref 0, .int a1, .int a2, .int a3] σ = exec d mX6_set 0 [.ref 0, .int a1, .int a2, .int a3] [] σ := fun _ _ _ _ _ => rfl
theorem kX6_copy_0 : (∀ (d : Nat) (σ : Sg) (S : List Value) (l0 l2 l3 l4 l5 : Value) (x : Int32), exec d mX6_copy 0 [l0, .int x, l2, l3, l4, l5] S σ = exec d mX6_copy 1 [l0, .int x, l2, l3, l4, l5] (.int x :: S) σ) ∧
  (∀ (d : Nat) (σ : Sg) (l0 l1 l2 l3 l4 l5 : Value) (x0 : Int32), exec d mX6_copy 1 [l0, l1, l2, l3, l4, l5] [.int x0] σ = kb (cal d mX6_isRow [.int x0] σ) (fun rs σ2 => exec d mX6_copy 4 [l0, l1, l2, l3, l4, l5] (rs ++ []) σ2)) ∧
  (∀ (d : Nat) (σ : Sg) (S : List Value) (l0 l1 l2 l3 l4 l5 : Value) (x : Int32), exec d mX6_copy 4 [l0, l1, l2, l3, l4, l5] (.int x :: S) σ = if x = nI 0 then exec d mX6_copy 14 [l0, l1, l2, l3, l4, l5] S σ else exec d mX6_copy 7 [l0, l1, l2, l3, l4, l5] S σ) ∧
  (∀ (d : Nat) (σ : Sg) (S : List Value) (l0 l1 l2 l4 l5 : Value) (x : Int32), exec d mX6_copy 7 [l0, l1, l2, .int x, l4, l5] S σ = exec d mX6_copy 8 [l0, l1, l2, .int x, l4, l5] (.int x :: S) σ) ∧
  (∀ (d : Nat) (σ : Sg) (l0 l1 l2 l3 l4 l5 : Value) (x0 : Int32), exec d mX6_copy 8 [l0, l1, l2, l3, l4, l5] [.int x0] σ = kb (cal d mX6_isRow [.int x0] σ) (fun rs σ2 => exec d mX6_copy 11 [l0, l1, l2, l3, l4, l5] (rs ++ []) σ2)) ∧
  (∀ (d : Nat) (σ : Sg) (S : List Value) (l0 l1 l2 l3 l4 l5 : Value) (x : Int32), exec d mX6_copy 11 [l0, l1, l2, l3, l4, l5] (.int x :: S) σ = if x = nI 0 then exec d mX6_copy 14 [l0, l1, l2, l3, l4, l5] S σ else exec d mX6_copy 17 [l0, l1, l2, l3, l4, l5] S σ) ∧
  (∀ (d : Nat) (σ : Sg) (S : List Value) (l0 l1 l2 l3 l4 l5 : Value), exec d mX6_copy 14 [l0, l1, l2, l3, l4, l5] S σ = exec d mX6_copy 16 [l0, l1, l2, l3, l4, l5] (.int ((-1000001)) :: S) σ) ∧
  (∀ (d : Nat) (σ : Sg) (l0 l1 l2 l3 l4 l5 : Value) (x : Int32), exec d mX6_copy 16 [l0, l1, l2, l3, l4, l5] [.int x] σ = some (some (.int x), σ)) ∧
  (∀ (d : Nat) (σ : Sg) (S : List Value) (l1 l2 l3 l4 l5 : Value) (k : Nat), exec d mX6_copy 17 [.ref k, l1, l2, l3, l4, l5] S σ = exec d mX6_copy 18 [.ref k, l1, l2, l3, l4, l5] (.ref k :: S) σ) ∧
  (∀ (d : Nat) (σ : Sg) (S : List Value) (l0 l1 l2 l3 l4 l5 : Value), exec d mX6_copy 18 [l0, l1, l2, l3, l4, l5] (.ref 0 :: S) σ = exec d mX6_copy 21 [l0, l1, l2, l3, l4, l5] (.ref 1 :: S) σ) ∧
  (∀ (d : Nat) (σ : Sg) (S : List Value) (l0 l1 l2 l3 l4 l5 : Value), exec d mX6_copy 21 [l0, l1, l2, l3, l4, l5] (.ref 1 :: S) σ = exec d mX6_copy 24 [l0, l1, l2, l3, l4, l5] (.ref 2 :: S) σ) ∧
  (∀ (d : Nat) (σ : Sg) (S : List Value) (l0 l2 l3 l4 l5 : Value) (x : Int32), exec d mX6_copy 24 [l0, .int x, l2, l3, l4, l5] S σ = exec d mX6_copy 25 [l0, .int x, l2, l3, l4, l5] (.int x :: S) σ) ∧
  (∀ (d : Nat) (σ : Sg) (S : List Value) (l0 l1 l2 l3 l4 l5 : Value) (x : Int32), exec d mX6_copy 25 [l0, l1, l2, l3, l4, l5] (.int x :: .ref 2 :: S) σ = if inb x 8 = true then exec d mX6_copy 26 [l0, l1, l2, l3, l4, l5] (.int (σ 2 x.toNatClampNeg) :: S) σ else none) ∧
  (∀ (d : Nat) (σ : Sg) (S : List Value) (l0 l1 l2 l3 l4 l5 : Value) (x : Int32), exec d mX6_copy 26 [l0, l1, l2, l3, l4, l5] (.int x :: S) σ = if x = nI 0 then exec d mX6_copy 41 [l0, l1, l2, l3, l4, l5] S σ else exec d mX6_copy 29 [l0, l1, l2, l3, l4, l5] S σ) ∧
  (∀ (d : Nat) (σ : Sg) (S : List Value) (l1 l2 l3 l4 l5 : Value) (k : Nat), exec d mX6_copy 29 [.ref k, l1, l2, l3, l4, l5] S σ = exec d mX6_copy 30 [.ref k, l1, l2, l3, l4, l5] (.ref k :: S) σ) ∧
  (∀ (d : Nat) (σ : Sg) (S : List Value) (l0 l1 l2 l3 l4 l5 : Value), exec d mX6_copy 30 [l0, l1, l2, l3, l4, l5] (.ref 0 :: S) σ = exec d mX6_copy 33 [l0, l1, l2, l3, l4, l5] (.ref 1 :: S) σ) ∧
  (∀ (d : Nat) (σ : Sg) (S : List Value) (l0 l1 l2 l3 l4 l5 : Value), exec d mX6_copy 33 [l0, l1, l2, l3, l4, l5] (.ref 1 :: S) σ = exec d mX6_copy 36 [l0, l1, l2, l3, l4, l5] (.ref 2 :: S) σ) ∧
  (∀ (d : Nat) (σ : Sg) (S : List Value) (l0 l1 l2 l4 l5 : Value) (x : Int32), exec d mX6_copy 36 [l0, l1, l2, .int x, l4, l5] S σ = exec d mX6_copy 37 [l0, l1, l2, .int x, l4, l5] (.int x :: S) σ) ∧
  (∀ (d : Nat) (σ : Sg) (S : List Value) (l0 l1 l2 l3 l4 l5 : Value) (x : Int32), exec d mX6_copy 37 [l0, l1, l2, l3, l4, l5] (.int x :: .ref 2 :: S) σ = if inb x 8 = true then exec d mX6_copy 38 [l0, l1, l2, l3, l4, l5] (.int (σ 2 x.toNatClampNeg) :: S) σ else none) ∧
  (∀ (d : Nat) (σ : Sg) (S : List Value) (l0 l1 l2 l3 l4 l5 : Value) (x : Int32), exec d mX6_copy 38 [l0, l1, l2, l3, l4, l5] (.int x :: S) σ = if x = nI 0 then exec d mX6_copy 41 [l0, l1, l2, l3, l4, l5] S σ else exec d mX6_copy 47 [l0, l1, l2, l3, l4, l5] S σ) ∧
  (∀ (d : Nat) (σ : Sg) (S : List Value) (l1 l2 l3 l4 l5 : Value) (k : Nat), exec d mX6_copy 41 [.ref k, l1, l2, l3, l4, l5] S σ = exec d mX6_copy 42 [.ref k, l1, l2, l3, l4, l5] (.ref k :: S) σ) ∧
  (∀ (d : Nat) (σ : Sg) (S : List Value) (l0 l1 l2 l3 l4 l5 : Value), exec d mX6_copy 42 [l0, l1, l2, l3, l4, l5] S σ = exec d mX6_copy 43 [l0, l1, l2, l3, l4, l5] (.int (nI 1) :: S) σ) ∧
  (∀ (d : Nat) (σ : Sg) (l0 l1 l2 l3 l4 l5 : Value) (x0 : Int32), exec d mX6_copy 43 [l0, l1, l2, l3, l4, l5] [.int x0, .ref 0] σ = kb (cal d mX6_finding [.ref 0, .int x0] σ) (fun rs σ2 => exec d mX6_copy 46 [l0, l1, l2, l3, l4, l5] (rs ++ []) σ2)) ∧
  (∀ (d : Nat) (σ : Sg) (l0 l1 l2 l3 l4 l5 : Value) (x : Int32), exec d mX6_copy 46 [l0, l1, l2, l3, l4, l5] [.int x] σ = some (some (.int x), σ)) ∧
  (∀ (d : Nat) (σ : Sg) (S : List Value) (l1 l2 l3 l4 l5 : Value) (k : Nat), exec d mX6_copy 47 [.ref k, l1, l2, l3, l4, l5] S σ = exec d mX6_copy 48 [.ref k, l1, l2, l3, l4, l5] (.ref k :: S) σ) ∧
  (∀ (d : Nat) (σ : Sg) (S : List Value) (l0 l1 l2 l3 l4 l5 : Value), exec d mX6_copy 48 [l0, l1, l2, l3, l4, l5] (.ref 0 :: S) σ = exec d mX6_copy 51 [l0, l1, l2, l3, l4, l5] (.ref 1 :: S) σ) ∧
  (∀ (d : Nat) (σ : Sg) (S : List Value) (l0 l1 l2 l3 l4 l5 : Value), exec d mX6_copy 51 [l0, l1, l2, l3, l4, l5] (.ref 1 :: S) σ = exec d mX6_copy 54 [l0, l1, l2, l3, l4, l5] (.ref 3 :: S) σ) ∧
  (∀ (d : Nat) (σ : Sg) (S : List Value) (l0 l2 l3 l4 l5 : Value) (x : Int32), exec d mX6_copy 54 [l0, .int x, l2, l3, l4, l5] S σ = exec d mX6_copy 55 [l0, .int x, l2, l3, l4, l5] (.int x :: S) σ) ∧
  (∀ (d : Nat) (σ : Sg) (S : List Value) (l0 l1 l2 l3 l4 l5 : Value) (x : Int32), exec d mX6_copy 55 [l0, l1, l2, l3, l4, l5] (.int x :: .ref 3 :: S) σ = if inb x 8 = true then exec d mX6_copy 56 [l0, l1, l2, l3, l4, l5] (.int (σ 3 x.toNatClampNeg) :: S) σ else none) ∧
  (∀ (d : Nat) (σ : Sg) (S : List Value) (l1 l2 l3 l4 l5 : Value) (k : Nat), exec d mX6_copy 56 [.ref k, l1, l2, l3, l4, l5] S σ = exec d mX6_copy 57 [.ref k, l1, l2, l3, l4, l5] (.ref k :: S) σ) ∧
  (∀ (d : Nat) (σ : Sg) (S : List Value) (l0 l1 l2 l3 l4 l5 : Value), exec d mX6_copy 57 [l0, l1, l2, l3, l4, l5] (.ref 0 :: S) σ = exec d mX6_copy 60 [l0, l1, l2, l3, l4, l5] (.ref 1 :: S) σ) ∧
  (∀ (d : Nat) (σ : Sg) (S : List Value) (l0 l1 l2 l3 l4 l5 : Value), exec d mX6_copy 60 [l0, l1, l2, l3, l4, l5] (.ref 1 :: S) σ = exec d mX6_copy 63 [l0, l1, l2, l3, l4, l5] (.ref 3 :: S) σ) ∧
  (∀ (d : Nat) (σ : Sg) (S : List Value) (l0 l1 l2 l4 l5 : Value) (x : Int32), exec d mX6_copy 63 [l0, l1, l2, .int x, l4, l5] S σ = exec d mX6_copy 64 [l0, l1, l2, .int x, l4, l5] (.int x :: S) σ) ∧
  (∀ (d : Nat) (σ : Sg) (S : List Value) (l0 l1 l2 l3 l4 l5 : Value) (x : Int32), exec d mX6_copy 64 [l0, l1, l2, l3, l4, l5] (.int x :: .ref 3 :: S) σ = if inb x 8 = true then exec d mX6_copy 65 [l0, l1, l2, l3, l4, l5] (.int (σ 3 x.toNatClampNeg) :: S) σ else none) ∧
  (∀ (d : Nat) (σ : Sg) (S : List Value) (l0 l1 l2 l3 l4 l5 : Value) (x y : Int32), exec d mX6_copy 65 [l0, l1, l2, l3, l4, l5] (.int y :: .int x :: S) σ = if x = y then exec d mX6_copy 74 [l0, l1, l2, l3, l4, l5] S σ else exec d mX6_copy 68 [l0, l1, l2, l3, l4, l5] S σ) ∧
  (∀ (d : Nat) (σ : Sg) (S : List Value) (l1 l2 l3 l4 l5 : Value) (k : Nat), exec d mX6_copy 68 [.ref k, l1, l2, l3, l4, l5] S σ = exec d mX6_copy 69 [.ref k, l1, l2, l3, l4, l5] (.ref k :: S) σ) ∧
  (∀ (d : Nat) (σ : Sg) (S : List Value) (l0 l1 l2 l3 l4 l5 : Value), exec d mX6_copy 69 [l0, l1, l2, l3, l4, l5] S σ = exec d mX6_copy 70 [l0, l1, l2, l3, l4, l5] (.int (nI 5) :: S) σ) ∧
  (∀ (d : Nat) (σ : Sg) (l0 l1 l2 l3 l4 l5 : Value) (x0 : Int32), exec d mX6_copy 70 [l0, l1, l2, l3, l4, l5] [.int x0, .ref 0] σ = kb (cal d mX6_finding [.ref 0, .int x0] σ) (fun rs σ2 => exec d mX6_copy 73 [l0, l1, l2, l3, l4, l5] (rs ++ []) σ2)) ∧
  (∀ (d : Nat) (σ : Sg) (l0 l1 l2 l3 l4 l5 : Value) (x : Int32), exec d mX6_copy 73 [l0, l1, l2, l3, l4, l5] [.int x] σ = some (some (.int x), σ)) ∧
  (∀ (d : Nat) (σ : Sg) (S : List Value) (l1 l2 l3 l4 l5 : Value) (k : Nat), exec d mX6_copy 74 [.ref k, l1, l2, l3, l4, l5] S σ = exec d mX6_copy 75 [.ref k, l1, l2, l3, l4, l5] (.ref k :: S) σ) :=
  ⟨fun d σ S l0 l2 l3 l4 l5 x => ex_iload_n (show decode mX6_copy.2.1 0 = .ok (.iload_n 1, 1) by decide +kernel) rfl,
  fun d σ l0 l1 l2 l3 l4 l5 x0 => ex_is (hs := [384, 385, 386, 94]) (show decode mX6_copy.2.1 1 = .ok (.invokestatic 60, 3) by decide +kernel) lkS_6_60 ⟨rfl, Nat.le_of_ble_eq_true rfl, Nat.le_of_ble_eq_true rfl, fun q => nomatch q⟩ rfl rfl,
  fun d σ S l0 l1 l2 l3 l4 l5 x => ex_zeq (show decode mX6_copy.2.1 4 = .ok (.ifCond .eq 10, 3) by decide +kernel) (by decide),
  fun d σ S l0 l1 l2 l4 l5 x => ex_iload_n (show decode mX6_copy.2.1 7 = .ok (.iload_n 3, 1) by decide +kernel) rfl,
  fun d σ l0 l1 l2 l3 l4 l5 x0 => ex_is (hs := [384, 385, 386, 94]) (show decode mX6_copy.2.1 8 = .ok (.invokestatic 60, 3) by decide +kernel) lkS_6_60 ⟨rfl, Nat.le_of_ble_eq_true rfl, Nat.le_of_ble_eq_true rfl, fun q => nomatch q⟩ rfl rfl,
  fun d σ S l0 l1 l2 l3 l4 l5 x => ex_zne (show decode mX6_copy.2.1 11 = .ok (.ifCond .ne 6, 3) by decide +kernel) (by decide),
  fun d σ S l0 l1 l2 l3 l4 l5 => ex_ldc (hh := 387) (show decode mX6_copy.2.1 14 = .ok (.ldc 64, 2) by decide +kernel) (by decide +kernel),
  fun d σ l0 l1 l2 l3 l4 l5 x => ex_iret (show decode mX6_copy.2.1 16 = .ok (.ireturn, 1) by decide +kernel) rfl,
  fun d σ S l1 l2 l3 l4 l5 k => ex_aload_n (show decode mX6_copy.2.1 17 = .ok (.aload_n 0, 1) by decide +kernel) rfl,
  fun d σ S l0 l1 l2 l3 l4 l5 => ex_getr (idx := 10) (ci := 6) (ff := 0) (n := 11) (hh := 346) (by decide +kernel),
  fun d σ S l0 l1 l2 l3 l4 l5 => ex_getr (idx := 76) (ci := 3) (ff := 0) (n := 4) (hh := 120) (by decide +kernel),
  fun d σ S l0 l2 l3 l4 l5 x => ex_iload_n (show decode mX6_copy.2.1 24 = .ok (.iload_n 1, 1) by decide +kernel) rfl,
  fun d σ S l0 l1 l2 l3 l4 l5 x => ex_bald (by decide +kernel),
  fun d σ S l0 l1 l2 l3 l4 l5 x => ex_zeq (show decode mX6_copy.2.1 26 = .ok (.ifCond .eq 15, 3) by decide +kernel) (by decide),
  fun d σ S l1 l2 l3 l4 l5 k => ex_aload_n (show decode mX6_copy.2.1 29 = .ok (.aload_n 0, 1) by decide +kernel) rfl,
  fun d σ S l0 l1 l2 l3 l4 l5 => ex_getr (idx := 10) (ci := 6) (ff := 0) (n := 11) (hh := 346) (by decide +kernel),
  fun d σ S l0 l1 l2 l3 l4 l5 => ex_getr (idx := 76) (ci := 3) (ff := 0) (n := 4) (hh := 120) (by decide +kernel),
  fun d σ S l0 l1 l2 l4 l5 x => ex_iload_n (show decode mX6_copy.2.1 36 = .ok (.iload_n 3, 1) by decide +kernel) rfl,
  fun d σ S l0 l1 l2 l3 l4 l5 x => ex_bald (by decide +kernel),
  fun d σ S l0 l1 l2 l3 l4 l5 x => ex_zne (show decode mX6_copy.2.1 38 = .ok (.ifCond .ne 9, 3) by decide +kernel) (by decide),
  fun d σ S l1 l2 l3 l4 l5 k => ex_aload_n (show decode mX6_copy.2.1 41 = .ok (.aload_n 0, 1) by decide +kernel) rfl,
  fun d σ S l0 l1 l2 l3 l4 l5 => ex_iconst (show decode mX6_copy.2.1 42 = .ok (.iconst 1, 1) by decide +kernel) (by decide +kernel),
  fun d σ l0 l1 l2 l3 l4 l5 x0 => ex_iv (hs := [388, 390, 0, 391, 94]) (show decode mX6_copy.2.1 43 = .ok (.invokevirtual 65, 3) by decide +kernel) lkV_6_65 ⟨rfl, Nat.le_of_ble_eq_true rfl, Nat.le_of_ble_eq_true rfl, fun _ => rfl⟩ rfl rfl,
  fun d σ l0 l1 l2 l3 l4 l5 x => ex_iret (show decode mX6_copy.2.1 46 = .ok (.ireturn, 1) by decide +kernel) rfl,
  fun d σ S l1 l2 l3 l4 l5 k => ex_aload_n (show decode mX6_copy.2.1 47 = .ok (.aload_n 0, 1) by decide +kernel) rfl,
  fun d σ S l0 l1 l2 l3 l4 l5 => ex_getr (idx := 10) (ci := 6) (ff := 0) (n := 11) (hh := 346) (by decide +kernel),
  fun d σ S l0 l1 l2 l3 l4 l5 => ex_getr (idx := 88) (ci := 3) (ff := 1) (n := 4) (hh := 122) (by decide +kernel),
  fun d σ S l0 l2 l3 l4 l5 x => ex_iload_n (show decode mX6_copy.2.1 54 = .ok (.iload_n 1, 1) by decide +kernel) rfl,
  fun d σ S l0 l1 l2 l3 l4 l5 x => ex_iald (by decide +kernel),
  fun d σ S l1 l2 l3 l4 l5 k => ex_aload_n (show decode mX6_copy.2.1 56 = .ok (.aload_n 0, 1) by decide +kernel) rfl,
  fun d σ S l0 l1 l2 l3 l4 l5 => ex_getr (idx := 10) (ci := 6) (ff := 0) (n := 11) (hh := 346) (by decide +kernel),
  fun d σ S l0 l1 l2 l3 l4 l5 => ex_getr (idx := 88) (ci := 3) (ff := 1) (n := 4) (hh := 122) (by decide +kernel),
  fun d σ S l0 l1 l2 l4 l5 x => ex_iload_n (show decode mX6_copy.2.1 63 = .ok (.iload_n 3, 1) by decide +kernel) rfl,
  fun d σ S l0 l1 l2 l3 l4 l5 x => ex_iald (by decide +kernel),
  fun d σ S l0 l1 l2 l3 l4 l5 x y => ex_ceq (show decode mX6_copy.2.1 65 = .ok (.if_icmp .eq 9, 3) by decide +kernel) (by decide),
  fun d σ S l1 l2 l3 l4 l5 k => ex_aload_n (show decode mX6_copy.2.1 68 = .ok (.aload_n 0, 1) by decide +kernel) rfl,
  fun d σ S l0 l1 l2 l3 l4 l5 => ex_iconst (show decode mX6_copy.2.1 69 = .ok (.iconst 5, 1) by decide +kernel) (by decide +kernel),
  fun d σ l0 l1 l2 l3 l4 l5 x0 => ex_iv (hs := [388, 390, 0, 391, 94]) (show decode mX6_copy.2.1 70 = .ok (.invokevirtual 65, 3) by decide +kernel) lkV_6_65 ⟨rfl, Nat.le_of_ble_eq_true rfl, Nat.le_of_ble_eq_true rfl, fun _ => rfl⟩ rfl rfl,
  fun d σ l0 l1 l2 l3 l4 l5 x => ex_iret (show decode mX6_copy.2.1 73 = .ok (.ireturn, 1) by decide +kernel) rfl,
  fun d σ S l1 l2 l3 l4 l5 k => ex_aload_n (show decode mX6_copy.2.1 74 = .ok (.aload_n 0, 1) by decide +kernel) rfl⟩
theorem kX6_copy_1 : (∀ (d : Nat) (σ : Sg) (S : List Value) (l0 l1 l2 l3 l4 l5 : Value), exec d mX6_copy 75 [l0, l1, l2, l3, l4, l5] (.ref 0 :: S) σ = exec d mX6_copy 78 [l0, l1, l2, l3, l4, l5] (.ref 1 :: S) σ) ∧
  (∀ (d : Nat) (σ : Sg) (S : List Value) (l0 l2 l3 l4 l5 : Value) (x : Int32), exec d mX6_copy 78 [l0, .int x, l2, l3, l4, l5] S σ = exec d mX6_copy 79 [l0, .int x, l2, l3, l4, l5] (.int x :: S) σ) ∧
  (∀ (d : Nat) (σ : Sg) (S : List Value) (l0 l1 l3 l4 l5 : Value) (x : Int32), exec d mX6_copy 79 [l0, l1, .int x, l3, l4, l5] S σ = exec d mX6_copy 80 [l0, l1, .int x, l3, l4, l5] (.int x :: S) σ) ∧
  (∀ (d : Nat) (σ : Sg) (S : List Value) (l0 l1 l2 l3 l4 : Value) (x : Int32), exec d mX6_copy 80 [l0, l1, l2, l3, l4, .int x] S σ = exec d mX6_copy 82 [l0, l1, l2, l3, l4, .int x] (.int x :: S) σ) ∧
  (∀ (d : Nat) (σ : Sg) (l0 l1 l2 l3 l4 l5 : Value) (x0 x1 x2 : Int32), exec d mX6_copy 82 [l0, l1, l2, l3, l4, l5] [.int x0, .int x1, .int x2, .ref 1] σ = kb (cal d mX3_holds [.ref 1, .int x2, .int x1, .int x0] σ) (fun rs σ2 => exec d mX6_copy 85 [l0, l1, l2, l3, l4, l5] (rs ++ []) σ2)) ∧
  (∀ (d : Nat) (σ : Sg) (S : List Value) (l0 l1 l2 l3 l4 l5 : Value) (x : Int32), exec d mX6_copy 85 [l0, l1, l2, l3, l4, l5] (.int x :: S) σ = if x = nI 0 then exec d mX6_copy 103 [l0, l1, l2, l3, l4, l5] S σ else exec d mX6_copy 88 [l0, l1, l2, l3, l4, l5] S σ) ∧
  (∀ (d : Nat) (σ : Sg) (S : List Value) (l1 l2 l3 l4 l5 : Value) (k : Nat), exec d mX6_copy 88 [.ref k, l1, l2, l3, l4, l5] S σ = exec d mX6_copy 89 [.ref k, l1, l2, l3, l4, l5] (.ref k :: S) σ) ∧
  (∀ (d : Nat) (σ : Sg) (S : List Value) (l0 l1 l2 l3 l4 l5 : Value), exec d mX6_copy 89 [l0, l1, l2, l3, l4, l5] (.ref 0 :: S) σ = exec d mX6_copy 92 [l0, l1, l2, l3, l4, l5] (.ref 1 :: S) σ) ∧
  (∀ (d : Nat) (σ : Sg) (S : List Value) (l0 l1 l2 l4 l5 : Value) (x : Int32), exec d mX6_copy 92 [l0, l1, l2, .int x, l4, l5] S σ = exec d mX6_copy 93 [l0, l1, l2, .int x, l4, l5] (.int x :: S) σ) ∧
  (∀ (d : Nat) (σ : Sg) (S : List Value) (l0 l1 l2 l3 l5 : Value) (x : Int32), exec d mX6_copy 93 [l0, l1, l2, l3, .int x, l5] S σ = exec d mX6_copy 95 [l0, l1, l2, l3, .int x, l5] (.int x :: S) σ) ∧
  (∀ (d : Nat) (σ : Sg) (S : List Value) (l0 l1 l2 l3 l4 : Value) (x : Int32), exec d mX6_copy 95 [l0, l1, l2, l3, l4, .int x] S σ = exec d mX6_copy 97 [l0, l1, l2, l3, l4, .int x] (.int x :: S) σ) ∧
  (∀ (d : Nat) (σ : Sg) (l0 l1 l2 l3 l4 l5 : Value) (x0 x1 x2 : Int32), exec d mX6_copy 97 [l0, l1, l2, l3, l4, l5] [.int x0, .int x1, .int x2, .ref 1] σ = kb (cal d mX3_holds [.ref 1, .int x2, .int x1, .int x0] σ) (fun rs σ2 => exec d mX6_copy 100 [l0, l1, l2, l3, l4, l5] (rs ++ []) σ2)) ∧
  (∀ (d : Nat) (σ : Sg) (S : List Value) (l0 l1 l2 l3 l4 l5 : Value) (x : Int32), exec d mX6_copy 100 [l0, l1, l2, l3, l4, l5] (.int x :: S) σ = if x = nI 0 then exec d mX6_copy 103 [l0, l1, l2, l3, l4, l5] S σ else exec d mX6_copy 109 [l0, l1, l2, l3, l4, l5] S σ) ∧
  (∀ (d : Nat) (σ : Sg) (S : List Value) (l1 l2 l3 l4 l5 : Value) (k : Nat), exec d mX6_copy 103 [.ref k, l1, l2, l3, l4, l5] S σ = exec d mX6_copy 104 [.ref k, l1, l2, l3, l4, l5] (.ref k :: S) σ) ∧
  (∀ (d : Nat) (σ : Sg) (S : List Value) (l0 l1 l2 l3 l4 l5 : Value), exec d mX6_copy 104 [l0, l1, l2, l3, l4, l5] S σ = exec d mX6_copy 105 [l0, l1, l2, l3, l4, l5] (.int (nI 2) :: S) σ) ∧
  (∀ (d : Nat) (σ : Sg) (l0 l1 l2 l3 l4 l5 : Value) (x0 : Int32), exec d mX6_copy 105 [l0, l1, l2, l3, l4, l5] [.int x0, .ref 0] σ = kb (cal d mX6_finding [.ref 0, .int x0] σ) (fun rs σ2 => exec d mX6_copy 108 [l0, l1, l2, l3, l4, l5] (rs ++ []) σ2)) ∧
  (∀ (d : Nat) (σ : Sg) (l0 l1 l2 l3 l4 l5 : Value) (x : Int32), exec d mX6_copy 108 [l0, l1, l2, l3, l4, l5] [.int x] σ = some (some (.int x), σ)) ∧
  (∀ (d : Nat) (σ : Sg) (S : List Value) (l1 l2 l3 l4 l5 : Value) (k : Nat), exec d mX6_copy 109 [.ref k, l1, l2, l3, l4, l5] S σ = exec d mX6_copy 110 [.ref k, l1, l2, l3, l4, l5] (.ref k :: S) σ) ∧
  (∀ (d : Nat) (σ : Sg) (S : List Value) (l0 l1 l2 l3 l4 l5 : Value), exec d mX6_copy 110 [l0, l1, l2, l3, l4, l5] (.ref 0 :: S) σ = exec d mX6_copy 113 [l0, l1, l2, l3, l4, l5] (.ref 1 :: S) σ) ∧
  (∀ (d : Nat) (σ : Sg) (S : List Value) (l0 l2 l3 l4 l5 : Value) (x : Int32), exec d mX6_copy 113 [l0, .int x, l2, l3, l4, l5] S σ = exec d mX6_copy 114 [l0, .int x, l2, l3, l4, l5] (.int x :: S) σ) ∧
  (∀ (d : Nat) (σ : Sg) (S : List Value) (l0 l1 l3 l4 l5 : Value) (x : Int32), exec d mX6_copy 114 [l0, l1, .int x, l3, l4, l5] S σ = exec d mX6_copy 115 [l0, l1, .int x, l3, l4, l5] (.int x :: S) σ) ∧
  (∀ (d : Nat) (σ : Sg) (S : List Value) (l0 l1 l2 l4 l5 : Value) (x : Int32), exec d mX6_copy 115 [l0, l1, l2, .int x, l4, l5] S σ = exec d mX6_copy 116 [l0, l1, l2, .int x, l4, l5] (.int x :: S) σ) ∧
  (∀ (d : Nat) (σ : Sg) (S : List Value) (l0 l1 l2 l3 l5 : Value) (x : Int32), exec d mX6_copy 116 [l0, l1, l2, l3, .int x, l5] S σ = exec d mX6_copy 118 [l0, l1, l2, l3, .int x, l5] (.int x :: S) σ) ∧
  (∀ (d : Nat) (σ : Sg) (S : List Value) (l0 l1 l2 l3 l4 : Value) (x : Int32), exec d mX6_copy 118 [l0, l1, l2, l3, l4, .int x] S σ = exec d mX6_copy 120 [l0, l1, l2, l3, l4, .int x] (.int x :: S) σ) ∧
  (∀ (d : Nat) (σ : Sg) (l0 l1 l2 l3 l4 l5 : Value) (x0 x1 x2 x3 x4 : Int32), exec d mX6_copy 120 [l0, l1, l2, l3, l4, l5] [.int x0, .int x1, .int x2, .int x3, .int x4, .ref 1] σ = kb (cal d mX3_carry [.ref 1, .int x4, .int x3, .int x2, .int x1, .int x0] σ) (fun rs σ2 => exec d mX6_copy 123 [l0, l1, l2, l3, l4, l5] (rs ++ []) σ2)) ∧
  (∀ (d : Nat) (σ : Sg) (S : List Value) (l1 l2 l3 l4 l5 : Value) (k : Nat), exec d mX6_copy 123 [.ref k, l1, l2, l3, l4, l5] S σ = exec d mX6_copy 124 [.ref k, l1, l2, l3, l4, l5] (.ref k :: S) σ) ∧
  (∀ (d : Nat) (σ : Sg) (S : List Value) (l0 l1 l2 l3 l4 : Value) (x : Int32), exec d mX6_copy 124 [l0, l1, l2, l3, l4, .int x] S σ = exec d mX6_copy 126 [l0, l1, l2, l3, l4, .int x] (.int x :: S) σ) ∧
  (∀ (d : Nat) (σ : Sg) (l0 l1 l2 l3 l4 l5 : Value) (x0 : Int32), exec d mX6_copy 126 [l0, l1, l2, l3, l4, l5] [.int x0, .ref 0] σ = kb (cal d mX6_clean [.ref 0, .int x0] σ) (fun rs σ2 => exec d mX6_copy 129 [l0, l1, l2, l3, l4, l5] (rs ++ []) σ2)) ∧
  (∀ (d : Nat) (σ : Sg) (l0 l1 l2 l3 l4 l5 : Value) (x : Int32), exec d mX6_copy 129 [l0, l1, l2, l3, l4, l5] [.int x] σ = some (some (.int x), σ)) :=
  ⟨fun d σ S l0 l1 l2 l3 l4 l5 => ex_getr (idx := 10) (ci := 6) (ff := 0) (n := 11) (hh := 346) (by decide +kernel),
  fun d σ S l0 l2 l3 l4 l5 x => ex_iload_n (show decode mX6_copy.2.1 78 = .ok (.iload_n 1, 1) by decide +kernel) rfl,
  fun d σ S l0 l1 l3 l4 l5 x => ex_iload_n (show decode mX6_copy.2.1 79 = .ok (.iload_n 2, 1) by decide +kernel) rfl,
  fun d σ S l0 l1 l2 l3 l4 x => ex_iload (show decode mX6_copy.2.1 80 = .ok (.iload 5, 2) by decide +kernel) rfl,
  fun d σ l0 l1 l2 l3 l4 l5 x0 x1 x2 => ex_iv (hs := [405, 407, 3, 408, 95]) (show decode mX6_copy.2.1 82 = .ok (.invokevirtual 80, 3) by decide +kernel) lkV_6_80 ⟨rfl, Nat.le_of_ble_eq_true rfl, Nat.le_of_ble_eq_true rfl, fun _ => rfl⟩ rfl rfl,
  fun d σ S l0 l1 l2 l3 l4 l5 x => ex_zeq (show decode mX6_copy.2.1 85 = .ok (.ifCond .eq 18, 3) by decide +kernel) (by decide),
  fun d σ S l1 l2 l3 l4 l5 k => ex_aload_n (show decode mX6_copy.2.1 88 = .ok (.aload_n 0, 1) by decide +kernel) rfl,
  fun d σ S l0 l1 l2 l3 l4 l5 => ex_getr (idx := 10) (ci := 6) (ff := 0) (n := 11) (hh := 346) (by decide +kernel),
  fun d σ S l0 l1 l2 l4 l5 x => ex_iload_n (show decode mX6_copy.2.1 92 = .ok (.iload_n 3, 1) by decide +kernel) rfl,
  fun d σ S l0 l1 l2 l3 l5 x => ex_iload (show decode mX6_copy.2.1 93 = .ok (.iload 4, 2) by decide +kernel) rfl,
  fun d σ S l0 l1 l2 l3 l4 x => ex_iload (show decode mX6_copy.2.1 95 = .ok (.iload 5, 2) by decide +kernel) rfl,
  fun d σ l0 l1 l2 l3 l4 l5 x0 x1 x2 => ex_iv (hs := [405, 407, 3, 408, 95]) (show decode mX6_copy.2.1 97 = .ok (.invokevirtual 80, 3) by decide +kernel) lkV_6_80 ⟨rfl, Nat.le_of_ble_eq_true rfl, Nat.le_of_ble_eq_true rfl, fun _ => rfl⟩ rfl rfl,
  fun d σ S l0 l1 l2 l3 l4 l5 x => ex_zne (show decode mX6_copy.2.1 100 = .ok (.ifCond .ne 9, 3) by decide +kernel) (by decide),
  fun d σ S l1 l2 l3 l4 l5 k => ex_aload_n (show decode mX6_copy.2.1 103 = .ok (.aload_n 0, 1) by decide +kernel) rfl,
  fun d σ S l0 l1 l2 l3 l4 l5 => ex_iconst (show decode mX6_copy.2.1 104 = .ok (.iconst 2, 1) by decide +kernel) (by decide +kernel),
  fun d σ l0 l1 l2 l3 l4 l5 x0 => ex_iv (hs := [388, 390, 0, 391, 94]) (show decode mX6_copy.2.1 105 = .ok (.invokevirtual 65, 3) by decide +kernel) lkV_6_65 ⟨rfl, Nat.le_of_ble_eq_true rfl, Nat.le_of_ble_eq_true rfl, fun _ => rfl⟩ rfl rfl,
  fun d σ l0 l1 l2 l3 l4 l5 x => ex_iret (show decode mX6_copy.2.1 108 = .ok (.ireturn, 1) by decide +kernel) rfl,
  fun d σ S l1 l2 l3 l4 l5 k => ex_aload_n (show decode mX6_copy.2.1 109 = .ok (.aload_n 0, 1) by decide +kernel) rfl,
  fun d σ S l0 l1 l2 l3 l4 l5 => ex_getr (idx := 10) (ci := 6) (ff := 0) (n := 11) (hh := 346) (by decide +kernel),
  fun d σ S l0 l2 l3 l4 l5 x => ex_iload_n (show decode mX6_copy.2.1 113 = .ok (.iload_n 1, 1) by decide +kernel) rfl,
  fun d σ S l0 l1 l3 l4 l5 x => ex_iload_n (show decode mX6_copy.2.1 114 = .ok (.iload_n 2, 1) by decide +kernel) rfl,
  fun d σ S l0 l1 l2 l4 l5 x => ex_iload_n (show decode mX6_copy.2.1 115 = .ok (.iload_n 3, 1) by decide +kernel) rfl,
  fun d σ S l0 l1 l2 l3 l5 x => ex_iload (show decode mX6_copy.2.1 116 = .ok (.iload 4, 2) by decide +kernel) rfl,
  fun d σ S l0 l1 l2 l3 l4 x => ex_iload (show decode mX6_copy.2.1 118 = .ok (.iload 5, 2) by decide +kernel) rfl,
  fun d σ l0 l1 l2 l3 l4 l5 x0 x1 x2 x3 x4 => ex_iv (hs := [417, 419, 5, 420, 95]) (show decode mX6_copy.2.1 120 = .ok (.invokevirtual 92, 3) by decide +kernel) lkV_6_92 ⟨rfl, Nat.le_of_ble_eq_true rfl, Nat.le_of_ble_eq_true rfl, fun _ => rfl⟩ rfl rfl,
  fun d σ S l1 l2 l3 l4 l5 k => ex_aload_n (show decode mX6_copy.2.1 123 = .ok (.aload_n 0, 1) by decide +kernel) rfl,
  fun d σ S l0 l1 l2 l3 l4 x => ex_iload (show decode mX6_copy.2.1 124 = .ok (.iload 5, 2) by decide +kernel) rfl,
  fun d σ l0 l1 l2 l3 l4 l5 x0 => ex_iv (hs := [397, 399, 2, 400, 94]) (show decode mX6_copy.2.1 126 = .ok (.invokevirtual 73, 3) by decide +kernel) lkV_6_73 ⟨rfl, Nat.le_of_ble_eq_true rfl, Nat.le_of_ble_eq_true rfl, fun _ => rfl⟩ rfl rfl,
  fun d σ l0 l1 l2 l3 l4 l5 x => ex_iret (show decode mX6_copy.2.1 129 = .ok (.ireturn, 1) by decide +kernel) rfl⟩
theorem aX6_copy_0 : ∀ (d : Nat) (a1 : Int32) (a2 : Int32) (a3 : Int32) (a4 : Int32) (a5 : Int32) (σ : Sg), cal (d + 1) mX6_copy [.ref 0, .int a1, .int a2, .int a3, .int a4, .int a5] σ = exec d mX6_copy 0 [.ref 0, .int a1, .int a2, .int a3, .int a4, .int a5] [] σ := fun _ _ _ _ _ _ _ => rfl
theorem kX6_drop : (∀ (d : Nat) (σ : Sg) (S : List Value) (l0 : Value) (x : Int32), exec d mX6_drop 0 [l0, .int x] S σ = exec d mX6_drop 1 [l0, .int x] (.int x :: S) σ) ∧
  (∀ (d : Nat) (σ : Sg) (l0 l1 : Value) (x0 : Int32), exec d mX6_drop 1 [l0, l1] [.int x0] σ = kb (cal d mX6_isRow [.int x0] σ) (fun rs σ2 => exec d mX6_drop 4 [l0, l1] (rs ++ []) σ2)) ∧
  (∀ (d : Nat) (σ : Sg) (S : List Value) (l0 l1 : Value) (x : Int32), exec d mX6_drop 4 [l0, l1] (.int x :: S) σ = if x = nI 0 then exec d mX6_drop 7 [l0, l1] S σ else exec d mX6_drop 10 [l0, l1] S σ) ∧
  (∀ (d : Nat) (σ : Sg) (S : List Value) (l0 l1 : Value), exec d mX6_drop 7 [l0, l1] S σ = exec d mX6_drop 9 [l0, l1] (.int ((-1000001)) :: S) σ) ∧
  (∀ (d : Nat) (σ : Sg) (l0 l1 : Value) (x : Int32), exec d mX6_drop 9 [l0, l1] [.int x] σ = some (some (.int x), σ)) ∧
  (∀ (d : Nat) (σ : Sg) (S : List Value) (l1 : Value) (k : Nat), exec d mX6_drop 10 [.ref k, l1] S σ = exec d mX6_drop 11 [.ref k, l1] (.ref k :: S) σ) ∧
  (∀ (d : Nat) (σ : Sg) (S : List Value) (l0 l1 : Value), exec d mX6_drop 11 [l0, l1] (.ref 0 :: S) σ = exec d mX6_drop 14 [l0, l1] (.ref 1 :: S) σ) ∧
  (∀ (d : Nat) (σ : Sg) (S : List Value) (l0 l1 : Value), exec d mX6_drop 14 [l0, l1] (.ref 1 :: S) σ = exec d mX6_drop 17 [l0, l1] (.ref 2 :: S) σ) ∧
  (∀ (d : Nat) (σ : Sg) (S : List Value) (l0 : Value) (x : Int32), exec d mX6_drop 17 [l0, .int x] S σ = exec d mX6_drop 18 [l0, .int x] (.int x :: S) σ) ∧
  (∀ (d : Nat) (σ : Sg) (S : List Value) (l0 l1 : Value) (x : Int32), exec d mX6_drop 18 [l0, l1] (.int x :: .ref 2 :: S) σ = if inb x 8 = true then exec d mX6_drop 19 [l0, l1] (.int (σ 2 x.toNatClampNeg) :: S) σ else none) ∧
  (∀ (d : Nat) (σ : Sg) (S : List Value) (l0 l1 : Value) (x : Int32), exec d mX6_drop 19 [l0, l1] (.int x :: S) σ = if x = nI 0 then exec d mX6_drop 22 [l0, l1] S σ else exec d mX6_drop 28 [l0, l1] S σ) ∧
  (∀ (d : Nat) (σ : Sg) (S : List Value) (l1 : Value) (k : Nat), exec d mX6_drop 22 [.ref k, l1] S σ = exec d mX6_drop 23 [.ref k, l1] (.ref k :: S) σ) ∧
  (∀ (d : Nat) (σ : Sg) (S : List Value) (l0 l1 : Value), exec d mX6_drop 23 [l0, l1] S σ = exec d mX6_drop 24 [l0, l1] (.int (nI 1) :: S) σ) ∧
  (∀ (d : Nat) (σ : Sg) (l0 l1 : Value) (x0 : Int32), exec d mX6_drop 24 [l0, l1] [.int x0, .ref 0] σ = kb (cal d mX6_finding [.ref 0, .int x0] σ) (fun rs σ2 => exec d mX6_drop 27 [l0, l1] (rs ++ []) σ2)) ∧
  (∀ (d : Nat) (σ : Sg) (l0 l1 : Value) (x : Int32), exec d mX6_drop 27 [l0, l1] [.int x] σ = some (some (.int x), σ)) ∧
  (∀ (d : Nat) (σ : Sg) (S : List Value) (l1 : Value) (k : Nat), exec d mX6_drop 28 [.ref k, l1] S σ = exec d mX6_drop 29 [.ref k, l1] (.ref k :: S) σ) ∧
  (∀ (d : Nat) (σ : Sg) (S : List Value) (l0 l1 : Value), exec d mX6_drop 29 [l0, l1] (.ref 0 :: S) σ = exec d mX6_drop 32 [l0, l1] (.ref 1 :: S) σ) ∧
  (∀ (d : Nat) (σ : Sg) (S : List Value) (l0 l1 : Value), exec d mX6_drop 32 [l0, l1] (.ref 1 :: S) σ = exec d mX6_drop 35 [l0, l1] (.ref 2 :: S) σ) ∧
  (∀ (d : Nat) (σ : Sg) (S : List Value) (l0 : Value) (x : Int32), exec d mX6_drop 35 [l0, .int x] S σ = exec d mX6_drop 36 [l0, .int x] (.int x :: S) σ) ∧
  (∀ (d : Nat) (σ : Sg) (S : List Value) (l0 l1 : Value), exec d mX6_drop 36 [l0, l1] S σ = exec d mX6_drop 37 [l0, l1] (.int (nI 0) :: S) σ) ∧
  (∀ (d : Nat) (σ : Sg) (S : List Value) (l0 l1 : Value) (x y : Int32), exec d mX6_drop 37 [l0, l1] (.int y :: .int x :: .ref 2 :: S) σ = if inb x 8 = true ∧ b01 y = true then exec d mX6_drop 38 [l0, l1] S (up σ 2 x.toNatClampNeg y) else none) ∧
  (∀ (d : Nat) (σ : Sg) (S : List Value) (l1 : Value) (k : Nat), exec d mX6_drop 38 [.ref k, l1] S σ = exec d mX6_drop 39 [.ref k, l1] (.ref k :: S) σ) ∧
  (∀ (d : Nat) (σ : Sg) (S : List Value) (l1 : Value) (k : Nat), exec d mX6_drop 39 [.ref k, l1] S σ = exec d mX6_drop 40 [.ref k, l1] (.ref k :: S) σ) ∧
  (∀ (d : Nat) (σ : Sg) (S : List Value) (l0 l1 : Value), exec d mX6_drop 40 [l0, l1] (.ref 0 :: S) σ = exec d mX6_drop 43 [l0, l1] (.ref 1 :: S) σ) ∧
  (∀ (d : Nat) (σ : Sg) (S : List Value) (l0 l1 : Value), exec d mX6_drop 43 [l0, l1] (.ref 1 :: S) σ = exec d mX6_drop 46 [l0, l1] (.ref 4 :: S) σ) ∧
  (∀ (d : Nat) (σ : Sg) (S : List Value) (l0 : Value) (x : Int32), exec d mX6_drop 46 [l0, .int x] S σ = exec d mX6_drop 47 [l0, .int x] (.int x :: S) σ) ∧
  (∀ (d : Nat) (σ : Sg) (S : List Value) (l0 l1 : Value) (x : Int32), exec d mX6_drop 47 [l0, l1] (.int x :: .ref 4 :: S) σ = if inb x 8 = true then exec d mX6_drop 48 [l0, l1] (.int (σ 4 x.toNatClampNeg) :: S) σ else none) ∧
  (∀ (d : Nat) (σ : Sg) (l0 l1 : Value) (x0 : Int32), exec d mX6_drop 48 [l0, l1] [.int x0, .ref 0] σ = kb (cal d mX6_clean [.ref 0, .int x0] σ) (fun rs σ2 => exec d mX6_drop 51 [l0, l1] (rs ++ []) σ2)) ∧
  (∀ (d : Nat) (σ : Sg) (l0 l1 : Value) (x : Int32), exec d mX6_drop 51 [l0, l1] [.int x] σ = some (some (.int x), σ)) :=
  ⟨fun d σ S l0 x => ex_iload_n (show decode mX6_drop.2.1 0 = .ok (.iload_n 1, 1) by decide +kernel) rfl,
  fun d σ l0 l1 x0 => ex_is (hs := [384, 385, 386, 94]) (show decode mX6_drop.2.1 1 = .ok (.invokestatic 60, 3) by decide +kernel) lkS_6_60 ⟨rfl, Nat.le_of_ble_eq_true rfl, Nat.le_of_ble_eq_true rfl, fun q => nomatch q⟩ rfl rfl,
  fun d σ S l0 l1 x => ex_zne (show decode mX6_drop.2.1 4 = .ok (.ifCond .ne 6, 3) by decide +kernel) (by decide),
  fun d σ S l0 l1 => ex_ldc (hh := 387) (show decode mX6_drop.2.1 7 = .ok (.ldc 64, 2) by decide +kernel) (by decide +kernel),
  fun d σ l0 l1 x => ex_iret (show decode mX6_drop.2.1 9 = .ok (.ireturn, 1) by decide +kernel) rfl,
  fun d σ S l1 k => ex_aload_n (show decode mX6_drop.2.1 10 = .ok (.aload_n 0, 1) by decide +kernel) rfl,
  fun d σ S l0 l1 => ex_getr (idx := 10) (ci := 6) (ff := 0) (n := 11) (hh := 346) (by decide +kernel),
  fun d σ S l0 l1 => ex_getr (idx := 76) (ci := 3) (ff := 0) (n := 4) (hh := 120) (by decide +kernel),
  fun d σ S l0 x => ex_iload_n (show decode mX6_drop.2.1 17 = .ok (.iload_n 1, 1) by decide +kernel) rfl,
  fun d σ S l0 l1 x => ex_bald (by decide +kernel),
  fun d σ S l0 l1 x => ex_zne (show decode mX6_drop.2.1 19 = .ok (.ifCond .ne 9, 3) by decide +kernel) (by decide),
  fun d σ S l1 k => ex_aload_n (show decode mX6_drop.2.1 22 = .ok (.aload_n 0, 1) by decide +kernel) rfl,
  fun d σ S l0 l1 => ex_iconst (show decode mX6_drop.2.1 23 = .ok (.iconst 1, 1) by decide +kernel) (by decide +kernel),
  fun d σ l0 l1 x0 => ex_iv (hs := [388, 390, 0, 391, 94]) (show decode mX6_drop.2.1 24 = .ok (.invokevirtual 65, 3) by decide +kernel) lkV_6_65 ⟨rfl, Nat.le_of_ble_eq_true rfl, Nat.le_of_ble_eq_true rfl, fun _ => rfl⟩ rfl rfl,
  fun d σ l0 l1 x => ex_iret (show decode mX6_drop.2.1 27 = .ok (.ireturn, 1) by decide +kernel) rfl,
  fun d σ S l1 k => ex_aload_n (show decode mX6_drop.2.1 28 = .ok (.aload_n 0, 1) by decide +kernel) rfl,
  fun d σ S l0 l1 => ex_getr (idx := 10) (ci := 6) (ff := 0) (n := 11) (hh := 346) (by decide +kernel),
  fun d σ S l0 l1 => ex_getr (idx := 76) (ci := 3) (ff := 0) (n := 4) (hh := 120) (by decide +kernel),
  fun d σ S l0 x => ex_iload_n (show decode mX6_drop.2.1 35 = .ok (.iload_n 1, 1) by decide +kernel) rfl,
  fun d σ S l0 l1 => ex_iconst (show decode mX6_drop.2.1 36 = .ok (.iconst 0, 1) by decide +kernel) (by decide +kernel),
  fun d σ S l0 l1 x y => ex_bast (by decide +kernel),
  fun d σ S l1 k => ex_aload_n (show decode mX6_drop.2.1 38 = .ok (.aload_n 0, 1) by decide +kernel) rfl,
  fun d σ S l1 k => ex_aload_n (show decode mX6_drop.2.1 39 = .ok (.aload_n 0, 1) by decide +kernel) rfl,
  fun d σ S l0 l1 => ex_getr (idx := 10) (ci := 6) (ff := 0) (n := 11) (hh := 346) (by decide +kernel),
  fun d σ S l0 l1 => ex_getr (idx := 96) (ci := 3) (ff := 2) (n := 4) (hh := 124) (by decide +kernel),
  fun d σ S l0 x => ex_iload_n (show decode mX6_drop.2.1 46 = .ok (.iload_n 1, 1) by decide +kernel) rfl,
  fun d σ S l0 l1 x => ex_iald (by decide +kernel),
  fun d σ l0 l1 x0 => ex_iv (hs := [397, 399, 2, 400, 94]) (show decode mX6_drop.2.1 48 = .ok (.invokevirtual 73, 3) by decide +kernel) lkV_6_73 ⟨rfl, Nat.le_of_ble_eq_true rfl, Nat.le_of_ble_eq_true rfl, fun _ => rfl⟩ rfl rfl,
  fun d σ l0 l1 x => ex_iret (show decode mX6_drop.2.1 51 = .ok (.ireturn, 1) by decide +kernel) rfl⟩
theorem aX6_drop_0 : ∀ (d : Nat) (a1 : Int32) (σ : Sg), cal (d + 1) mX6_drop [.ref 0, .int a1] σ = exec d mX6_drop 0 [.ref 0, .int a1] [] σ := fun _ _ _ => rfl
theorem kX6_feed : (∀ (d : Nat) (σ : Sg) (S : List Value) (l0 : Value) (x : Int32), exec d mX6_feed 0 [l0, .int x] S σ = exec d mX6_feed 1 [l0, .int x] (.int x :: S) σ) ∧
  (∀ (d : Nat) (σ : Sg) (S : List Value) (l0 l1 : Value) (x : Int32), exec d mX6_feed 1 [l0, l1] (.int x :: S) σ = if x < nI 0 then exec d mX6_feed 11 [l0, l1] S σ else exec d mX6_feed 4 [l0, l1] S σ) ∧
  (∀ (d : Nat) (σ : Sg) (S : List Value) (l0 : Value) (x : Int32), exec d mX6_feed 4 [l0, .int x] S σ = exec d mX6_feed 5 [l0, .int x] (.int x :: S) σ) ∧
  (∀ (d : Nat) (σ : Sg) (S : List Value) (l0 l1 : Value), exec d mX6_feed 5 [l0, l1] S σ = exec d mX6_feed 8 [l0, l1] (.int (nI 255) :: S) σ) ∧
  (∀ (d : Nat) (σ : Sg) (S : List Value) (l0 l1 : Value) (x y : Int32), exec d mX6_feed 8 [l0, l1] (.int y :: .int x :: S) σ = if x ≤ y then exec d mX6_feed 14 [l0, l1] S σ else exec d mX6_feed 11 [l0, l1] S σ) ∧
  (∀ (d : Nat) (σ : Sg) (S : List Value) (l0 l1 : Value), exec d mX6_feed 11 [l0, l1] S σ = exec d mX6_feed 13 [l0, l1] (.int ((-1000001)) :: S) σ) ∧
  (∀ (d : Nat) (σ : Sg) (l0 l1 : Value) (x : Int32), exec d mX6_feed 13 [l0, l1] [.int x] σ = some (some (.int x), σ)) ∧
  (∀ (d : Nat) (σ : Sg) (S : List Value) (l1 : Value) (k : Nat), exec d mX6_feed 14 [.ref k, l1] S σ = exec d mX6_feed 15 [.ref k, l1] (.ref k :: S) σ) ∧
  (∀ (d : Nat) (σ : Sg) (S : List Value) (l0 l1 : Value), exec d mX6_feed 15 [l0, l1] (.ref 0 :: S) σ = exec d mX6_feed 18 [l0, l1] (.ref 6 :: S) σ) ∧
  (∀ (d : Nat) (σ : Sg) (S : List Value) (l0 l1 : Value), exec d mX6_feed 18 [l0, l1] (.ref 6 :: S) σ = exec d mX6_feed 21 [l0, l1] (.int (σ 6 1) :: S) σ) ∧
  (∀ (d : Nat) (σ : Sg) (S : List Value) (l0 l1 : Value), exec d mX6_feed 21 [l0, l1] S σ = exec d mX6_feed 23 [l0, l1] (.int (nI 120) :: S) σ) ∧
  (∀ (d : Nat) (σ : Sg) (S : List Value) (l0 l1 : Value) (x y : Int32), exec d mX6_feed 23 [l0, l1] (.int y :: .int x :: S) σ = if x < y then exec d mX6_feed 29 [l0, l1] S σ else exec d mX6_feed 26 [l0, l1] S σ) ∧
  (∀ (d : Nat) (σ : Sg) (S : List Value) (l0 l1 : Value), exec d mX6_feed 26 [l0, l1] S σ = exec d mX6_feed 28 [l0, l1] (.int ((-1000003)) :: S) σ) ∧
  (∀ (d : Nat) (σ : Sg) (l0 l1 : Value) (x : Int32), exec d mX6_feed 28 [l0, l1] [.int x] σ = some (some (.int x), σ)) ∧
  (∀ (d : Nat) (σ : Sg) (S : List Value) (l1 : Value) (k : Nat), exec d mX6_feed 29 [.ref k, l1] S σ = exec d mX6_feed 30 [.ref k, l1] (.ref k :: S) σ) ∧
  (∀ (d : Nat) (σ : Sg) (S : List Value) (l0 l1 : Value), exec d mX6_feed 30 [l0, l1] (.ref 0 :: S) σ = exec d mX6_feed 33 [l0, l1] (.ref 6 :: S) σ) ∧
  (∀ (d : Nat) (σ : Sg) (S : List Value) (l0 : Value) (x : Int32), exec d mX6_feed 33 [l0, .int x] S σ = exec d mX6_feed 34 [l0, .int x] (.int x :: S) σ) ∧
  (∀ (d : Nat) (σ : Sg) (l0 l1 : Value) (x0 : Int32), exec d mX6_feed 34 [l0, l1] [.int x0, .ref 6] σ = kb (cal d mX4_append [.ref 6, .int x0] σ) (fun rs σ2 => exec d mX6_feed 37 [l0, l1] (rs ++ []) σ2)) ∧
  (∀ (d : Nat) (σ : Sg) (l0 l1 : Value) (x : Int32), exec d mX6_feed 37 [l0, l1] [.int x] σ = some (some (.int x), σ)) :=
  ⟨fun d σ S l0 x => ex_iload_n (show decode mX6_feed.2.1 0 = .ok (.iload_n 1, 1) by decide +kernel) rfl,
  fun d σ S l0 l1 x => ex_zlt (show decode mX6_feed.2.1 1 = .ok (.ifCond .lt 10, 3) by decide +kernel) (by decide),
  fun d σ S l0 x => ex_iload_n (show decode mX6_feed.2.1 4 = .ok (.iload_n 1, 1) by decide +kernel) rfl,
  fun d σ S l0 l1 => ex_sipush (show decode mX6_feed.2.1 5 = .ok (.sipush 255, 3) by decide +kernel) (by decide +kernel),
  fun d σ S l0 l1 x y => ex_cle (show decode mX6_feed.2.1 8 = .ok (.if_icmp .le 6, 3) by decide +kernel) (by decide),
  fun d σ S l0 l1 => ex_ldc (hh := 387) (show decode mX6_feed.2.1 11 = .ok (.ldc 64, 2) by decide +kernel) (by decide +kernel),
  fun d σ l0 l1 x => ex_iret (show decode mX6_feed.2.1 13 = .ok (.ireturn, 1) by decide +kernel) rfl,
  fun d σ S l1 k => ex_aload_n (show decode mX6_feed.2.1 14 = .ok (.aload_n 0, 1) by decide +kernel) rfl,
  fun d σ S l0 l1 => ex_getr (idx := 19) (ci := 6) (ff := 1) (n := 11) (hh := 347) (by decide +kernel),
  fun d σ S l0 l1 => ex_get (idx := 99) (ci := 4) (ff := 1) (n := 9) (hh := 145) (by decide +kernel),
  fun d σ S l0 l1 => ex_bipush (show decode mX6_feed.2.1 21 = .ok (.bipush 120, 2) by decide +kernel) (by decide +kernel),
  fun d σ S l0 l1 x y => ex_clt (show decode mX6_feed.2.1 23 = .ok (.if_icmp .lt 6, 3) by decide +kernel) (by decide),
  fun d σ S l0 l1 => ex_ldc (hh := 432) (show decode mX6_feed.2.1 26 = .ok (.ldc 103, 2) by decide +kernel) (by decide +kernel),
  fun d σ l0 l1 x => ex_iret (show decode mX6_feed.2.1 28 = .ok (.ireturn, 1) by decide +kernel) rfl,
  fun d σ S l1 k => ex_aload_n (show decode mX6_feed.2.1 29 = .ok (.aload_n 0, 1) by decide +kernel) rfl,
  fun d σ S l0 l1 => ex_getr (idx := 19) (ci := 6) (ff := 1) (n := 11) (hh := 347) (by decide +kernel),
  fun d σ S l0 x => ex_iload_n (show decode mX6_feed.2.1 33 = .ok (.iload_n 1, 1) by decide +kernel) rfl,
  fun d σ l0 l1 x0 => ex_iv (hs := [433, 435, 6, 436, 96]) (show decode mX6_feed.2.1 34 = .ok (.invokevirtual 104, 3) by decide +kernel) lkV_6_104 ⟨rfl, Nat.le_of_ble_eq_true rfl, Nat.le_of_ble_eq_true rfl, fun _ => rfl⟩ rfl rfl,
  fun d σ l0 l1 x => ex_iret (show decode mX6_feed.2.1 37 = .ok (.ireturn, 1) by decide +kernel) rfl⟩
theorem aX6_feed_0 : ∀ (d : Nat) (a1 : Int32) (σ : Sg), cal (d + 1) mX6_feed [.ref 0, .int a1] σ = exec d mX6_feed 0 [.ref 0, .int a1] [] σ := fun _ _ _ => rfl
theorem kX6_trial : (∀ (d : Nat) (σ : Sg) (S : List Value) (l1 : Value) (k : Nat), exec d mX6_trial 0 [.ref k, l1] S σ = exec d mX6_trial 1 [.ref k, l1] (.ref k :: S) σ) ∧
  (∀ (d : Nat) (σ : Sg) (S : List Value) (l0 l1 : Value), exec d mX6_trial 1 [l0, l1] (.ref 0 :: S) σ = exec d mX6_trial 4 [l0, l1] (.ref 6 :: S) σ) ∧
  (∀ (d : Nat) (σ : Sg) (S : List Value) (l1 : Value) (k : Nat), exec d mX6_trial 4 [.ref k, l1] S σ = exec d mX6_trial 5 [.ref k, l1] (.ref k :: S) σ) ∧
  (∀ (d : Nat) (σ : Sg) (S : List Value) (l0 l1 : Value), exec d mX6_trial 5 [l0, l1] (.ref 0 :: S) σ = exec d mX6_trial 8 [l0, l1] (.ref 35 :: S) σ) ∧
  (∀ (d : Nat) (σ : Sg) (l0 l1 : Value), exec d mX6_trial 8 [l0, l1] [.ref 35, .ref 6] σ = kb (cal d mX4_readInto [.ref 6, .ref 35] σ) (fun rs σ2 => exec d mX6_trial 11 [l0, l1] (rs ++ []) σ2)) ∧
  (∀ (d : Nat) (σ : Sg) (S : List Value) (l1 : Value) (k : Nat) (x : Int32), exec d mX6_trial 11 [.ref k, l1] (.int x :: S) σ = exec d mX6_trial 12 [.ref k, .int x] S σ) ∧
  (∀ (d : Nat) (σ : Sg) (S : List Value) (l1 : Value) (k : Nat), exec d mX6_trial 12 [.ref k, l1] S σ = exec d mX6_trial 13 [.ref k, l1] (.ref k :: S) σ) ∧
  (∀ (d : Nat) (σ : Sg) (S : List Value) (l0 l1 : Value), exec d mX6_trial 13 [l0, l1] (.ref 0 :: S) σ = exec d mX6_trial 16 [l0, l1] (.ref 6 :: S) σ) ∧
  (∀ (d : Nat) (σ : Sg) (S : List Value) (l0 l1 : Value), exec d mX6_trial 16 [l0, l1] S σ = exec d mX6_trial 17 [l0, l1] (.int (nI 0) :: S) σ) ∧
  (∀ (d : Nat) (σ : Sg) (S : List Value) (l0 l1 : Value) (x : Int32), exec d mX6_trial 17 [l0, l1] (.int x :: .ref 6 :: S) σ = exec d mX6_trial 20 [l0, l1] S (up σ 6 1 x)) ∧
  (∀ (d : Nat) (σ : Sg) (S : List Value) (l0 : Value) (x : Int32), exec d mX6_trial 20 [l0, .int x] S σ = exec d mX6_trial 21 [l0, .int x] (.int x :: S) σ) ∧
  (∀ (d : Nat) (σ : Sg) (S : List Value) (l0 l1 : Value) (x : Int32), exec d mX6_trial 21 [l0, l1] (.int x :: S) σ = if x = nI 0 then exec d mX6_trial 24 [l0, l1] S σ else exec d mX6_trial 46 [l0, l1] S σ) ∧
  (∀ (d : Nat) (σ : Sg) (S : List Value) (l1 : Value) (k : Nat), exec d mX6_trial 24 [.ref k, l1] S σ = exec d mX6_trial 25 [.ref k, l1] (.ref k :: S) σ) ∧
  (∀ (d : Nat) (σ : Sg) (S : List Value) (l1 : Value) (k : Nat), exec d mX6_trial 25 [.ref k, l1] S σ = exec d mX6_trial 26 [.ref k, l1] (.ref k :: S) σ) ∧
  (∀ (d : Nat) (σ : Sg) (S : List Value) (l0 l1 : Value), exec d mX6_trial 26 [l0, l1] (.ref 0 :: S) σ = exec d mX6_trial 29 [l0, l1] (.ref 6 :: S) σ) ∧
  (∀ (d : Nat) (σ : Sg) (S : List Value) (l0 l1 : Value), exec d mX6_trial 29 [l0, l1] (.ref 6 :: S) σ = exec d mX6_trial 32 [l0, l1] (.int (σ 6 3) :: S) σ) ∧
  (∀ (d : Nat) (σ : Sg) (S : List Value) (l0 l1 : Value) (x : Int32), exec d mX6_trial 32 [l0, l1] (.int x :: .ref 0 :: S) σ = exec d mX6_trial 35 [l0, l1] S (up σ 0 9 x)) ∧
  (∀ (d : Nat) (σ : Sg) (S : List Value) (l0 l1 : Value), exec d mX6_trial 35 [l0, l1] S σ = exec d mX6_trial 37 [l0, l1] (.int ((-1000100)) :: S) σ) ∧
  (∀ (d : Nat) (σ : Sg) (S : List Value) (l1 : Value) (k : Nat), exec d mX6_trial 37 [.ref k, l1] S σ = exec d mX6_trial 38 [.ref k, l1] (.ref k :: S) σ) ∧
  (∀ (d : Nat) (σ : Sg) (S : List Value) (l0 l1 : Value), exec d mX6_trial 38 [l0, l1] (.ref 0 :: S) σ = exec d mX6_trial 41 [l0, l1] (.ref 6 :: S) σ) ∧
  (∀ (d : Nat) (σ : Sg) (S : List Value) (l0 l1 : Value), exec d mX6_trial 41 [l0, l1] (.ref 6 :: S) σ = exec d mX6_trial 44 [l0, l1] (.int (σ 6 4) :: S) σ) ∧
  (∀ (d : Nat) (σ : Sg) (S : List Value) (l0 l1 : Value) (x y : Int32), exec d mX6_trial 44 [l0, l1] (.int y :: .int x :: S) σ = exec d mX6_trial 45 [l0, l1] (.int (x - y) :: S) σ) ∧
  (∀ (d : Nat) (σ : Sg) (l0 l1 : Value) (x : Int32), exec d mX6_trial 45 [l0, l1] [.int x] σ = some (some (.int x), σ)) ∧
  (∀ (d : Nat) (σ : Sg) (S : List Value) (l1 : Value) (k : Nat), exec d mX6_trial 46 [.ref k, l1] S σ = exec d mX6_trial 47 [.ref k, l1] (.ref k :: S) σ) ∧
  (∀ (d : Nat) (σ : Sg) (S : List Value) (l0 l1 : Value), exec d mX6_trial 47 [l0, l1] (.ref 0 :: S) σ = exec d mX6_trial 50 [l0, l1] (.ref 8 :: S) σ) ∧
  (∀ (d : Nat) (σ : Sg) (S : List Value) (l1 : Value) (k : Nat), exec d mX6_trial 50 [.ref k, l1] S σ = exec d mX6_trial 51 [.ref k, l1] (.ref k :: S) σ) ∧
  (∀ (d : Nat) (σ : Sg) (S : List Value) (l0 l1 : Value), exec d mX6_trial 51 [l0, l1] (.ref 0 :: S) σ = exec d mX6_trial 54 [l0, l1] (.ref 35 :: S) σ) ∧
  (∀ (d : Nat) (σ : Sg) (l0 l1 : Value), exec d mX6_trial 54 [l0, l1] [.ref 35, .ref 8] σ = kb (cal d mX5_copyFrom [.ref 8, .ref 35] σ) (fun rs σ2 => exec d mX6_trial 57 [l0, l1] (rs ++ []) σ2)) ∧
  (∀ (d : Nat) (σ : Sg) (S : List Value) (l1 : Value) (k : Nat), exec d mX6_trial 57 [.ref k, l1] S σ = exec d mX6_trial 58 [.ref k, l1] (.ref k :: S) σ) ∧
  (∀ (d : Nat) (σ : Sg) (S : List Value) (l0 l1 : Value), exec d mX6_trial 58 [l0, l1] (.ref 0 :: S) σ = exec d mX6_trial 61 [l0, l1] (.ref 44 :: S) σ) ∧
  (∀ (d : Nat) (σ : Sg) (l0 l1 : Value), exec d mX6_trial 61 [l0, l1] [.ref 44] σ = kb (cal d mX0_forget [.ref 44] σ) (fun rs σ2 => exec d mX6_trial 64 [l0, l1] (rs ++ []) σ2)) ∧
  (∀ (d : Nat) (σ : Sg) (S : List Value) (l1 : Value) (k : Nat), exec d mX6_trial 64 [.ref k, l1] S σ = exec d mX6_trial 65 [.ref k, l1] (.ref k :: S) σ) ∧
  (∀ (d : Nat) (σ : Sg) (S : List Value) (l0 l1 : Value), exec d mX6_trial 65 [l0, l1] (.ref 0 :: S) σ = exec d mX6_trial 68 [l0, l1] (.ref 8 :: S) σ) ∧
  (∀ (d : Nat) (σ : Sg) (S : List Value) (l0 l1 : Value), exec d mX6_trial 68 [l0, l1] (.ref 8 :: S) σ = exec d mX6_trial 71 [l0, l1] (.int (σ 8 4) :: S) σ) ∧
  (∀ (d : Nat) (σ : Sg) (l0 l1 : Value) (x : Int32), exec d mX6_trial 71 [l0, l1] [.int x] σ = some (some (.int x), σ)) :=
  ⟨fun d σ S l1 k => ex_aload_n (show decode mX6_trial.2.1 0 = .ok (.aload_n 0, 1) by decide +kernel) rfl,
  fun d σ S l0 l1 => ex_getr (idx := 19) (ci := 6) (ff := 1) (n := 11) (hh := 347) (by decide +kernel),
  fun d σ S l1 k => ex_aload_n (show decode mX6_trial.2.1 4 = .ok (.aload_n 0, 1) by decide +kernel) rfl,
  fun d σ S l0 l1 => ex_getr (idx := 36) (ci := 6) (ff := 5) (n := 11) (hh := 351) (by decide +kernel),
  fun d σ l0 l1 => ex_iv (hs := [441, 443, 7, 444, 96]) (show decode mX6_trial.2.1 8 = .ok (.invokevirtual 107, 3) by decide +kernel) lkV_6_107 ⟨rfl, Nat.le_of_ble_eq_true rfl, Nat.le_of_ble_eq_true rfl, fun _ => rfl⟩ rfl rfl,
  fun d σ S l1 k x => ex_istore_n (show decode mX6_trial.2.1 11 = .ok (.istore_n 1, 1) by decide +kernel) (Nat.le_of_ble_eq_true rfl) rfl,
  fun d σ S l1 k => ex_aload_n (show decode mX6_trial.2.1 12 = .ok (.aload_n 0, 1) by decide +kernel) rfl,
  fun d σ S l0 l1 => ex_getr (idx := 19) (ci := 6) (ff := 1) (n := 11) (hh := 347) (by decide +kernel),
  fun d σ S l0 l1 => ex_iconst (show decode mX6_trial.2.1 16 = .ok (.iconst 0, 1) by decide +kernel) (by decide +kernel),
  fun d σ S l0 l1 x => ex_put (idx := 99) (ci := 4) (ff := 1) (n := 9) (hh := 145) (by decide +kernel),
  fun d σ S l0 x => ex_iload_n (show decode mX6_trial.2.1 20 = .ok (.iload_n 1, 1) by decide +kernel) rfl,
  fun d σ S l0 l1 x => ex_zne (show decode mX6_trial.2.1 21 = .ok (.ifCond .ne 25, 3) by decide +kernel) (by decide),
  fun d σ S l1 k => ex_aload_n (show decode mX6_trial.2.1 24 = .ok (.aload_n 0, 1) by decide +kernel) rfl,
  fun d σ S l1 k => ex_aload_n (show decode mX6_trial.2.1 25 = .ok (.aload_n 0, 1) by decide +kernel) rfl,
  fun d σ S l0 l1 => ex_getr (idx := 19) (ci := 6) (ff := 1) (n := 11) (hh := 347) (by decide +kernel),
  fun d σ S l0 l1 => ex_get (idx := 111) (ci := 4) (ff := 3) (n := 9) (hh := 147) (by decide +kernel),
  fun d σ S l0 l1 x => ex_put (idx := 114) (ci := 6) (ff := 9) (n := 11) (hh := 355) (by decide +kernel),
  fun d σ S l0 l1 => ex_ldc (hh := 502) (show decode mX6_trial.2.1 35 = .ok (.ldc 117, 2) by decide +kernel) (by decide +kernel),
  fun d σ S l1 k => ex_aload_n (show decode mX6_trial.2.1 37 = .ok (.aload_n 0, 1) by decide +kernel) rfl,
  fun d σ S l0 l1 => ex_getr (idx := 19) (ci := 6) (ff := 1) (n := 11) (hh := 347) (by decide +kernel),
  fun d σ S l0 l1 => ex_get (idx := 118) (ci := 4) (ff := 4) (n := 9) (hh := 149) (by decide +kernel),
  fun d σ S l0 l1 x y => ex_isub (show decode mX6_trial.2.1 44 = .ok (.isub, 1) by decide +kernel),
  fun d σ l0 l1 x => ex_iret (show decode mX6_trial.2.1 45 = .ok (.ireturn, 1) by decide +kernel) rfl,
  fun d σ S l1 k => ex_aload_n (show decode mX6_trial.2.1 46 = .ok (.aload_n 0, 1) by decide +kernel) rfl,
  fun d σ S l0 l1 => ex_getr (idx := 26) (ci := 6) (ff := 2) (n := 11) (hh := 348) (by decide +kernel),
  fun d σ S l1 k => ex_aload_n (show decode mX6_trial.2.1 50 = .ok (.aload_n 0, 1) by decide +kernel) rfl,
  fun d σ S l0 l1 => ex_getr (idx := 36) (ci := 6) (ff := 5) (n := 11) (hh := 351) (by decide +kernel),
  fun d σ l0 l1 => ex_iv (hs := [503, 505, 20, 506, 97]) (show decode mX6_trial.2.1 54 = .ok (.invokevirtual 121, 3) by decide +kernel) lkV_6_121 ⟨rfl, Nat.le_of_ble_eq_true rfl, Nat.le_of_ble_eq_true rfl, fun _ => rfl⟩ rfl rfl,
  fun d σ S l1 k => ex_aload_n (show decode mX6_trial.2.1 57 = .ok (.aload_n 0, 1) by decide +kernel) rfl,
  fun d σ S l0 l1 => ex_getr (idx := 42) (ci := 6) (ff := 6) (n := 11) (hh := 352) (by decide +kernel),
  fun d σ l0 l1 => ex_iv (hs := [507, 509, 21, 510, 98]) (show decode mX6_trial.2.1 61 = .ok (.invokevirtual 125, 3) by decide +kernel) lkV_6_125 ⟨rfl, Nat.le_of_ble_eq_true rfl, Nat.le_of_ble_eq_true rfl, fun _ => rfl⟩ rfl rfl,
  fun d σ S l1 k => ex_aload_n (show decode mX6_trial.2.1 64 = .ok (.aload_n 0, 1) by decide +kernel) rfl,
  fun d σ S l0 l1 => ex_getr (idx := 26) (ci := 6) (ff := 2) (n := 11) (hh := 348) (by decide +kernel),
  fun d σ S l0 l1 => ex_get (idx := 128) (ci := 5) (ff := 4) (n := 17) (hh := 201) (by decide +kernel),
  fun d σ l0 l1 x => ex_iret (show decode mX6_trial.2.1 71 = .ok (.ireturn, 1) by decide +kernel) rfl⟩
theorem aX6_trial_0 : ∀ (d : Nat)  (σ : Sg), cal (d + 1) mX6_trial [.ref 0] σ = exec d mX6_trial 0 [.ref 0, uu] [] σ := fun _ _ => rfl
theorem kX6_fault : (∀ (d : Nat) (σ : Sg) (S : List Value) (k : Nat), exec d mX6_fault 0 [.ref k] S σ = exec d mX6_fault 1 [.ref k] (.ref k :: S) σ) ∧
  (∀ (d : Nat) (σ : Sg) (S : List Value) (l0 : Value), exec d mX6_fault 1 [l0] (.ref 0 :: S) σ = exec d mX6_fault 4 [l0] (.int (σ 0 9) :: S) σ) ∧
  (∀ (d : Nat) (σ : Sg) (l0 : Value) (x : Int32), exec d mX6_fault 4 [l0] [.int x] σ = some (some (.int x), σ)) :=
  ⟨fun d σ S k => ex_aload_n (show decode mX6_fault.2.1 0 = .ok (.aload_n 0, 1) by decide +kernel) rfl,
  fun d σ S l0 => ex_get (idx := 114) (ci := 6) (ff := 9) (n := 11) (hh := 355) (by decide +kernel),
  fun d σ l0 x => ex_iret (show decode mX6_fault.2.1 4 = .ok (.ireturn, 1) by decide +kernel) rfl⟩
theorem aX6_fault_0 : ∀ (d : Nat)  (σ : Sg), cal (d + 1) mX6_fault [.ref 0] σ = exec d mX6_fault 0 [.ref 0] [] σ := fun _ _ => rfl
theorem kX6_undo : (∀ (d : Nat) (σ : Sg) (S : List Value) (k : Nat), exec d mX6_undo 0 [.ref k] S σ = exec d mX6_undo 1 [.ref k] (.ref k :: S) σ) ∧
  (∀ (d : Nat) (σ : Sg) (S : List Value) (l0 : Value), exec d mX6_undo 1 [l0] (.ref 0 :: S) σ = exec d mX6_undo 4 [l0] (.ref 44 :: S) σ) ∧
  (∀ (d : Nat) (σ : Sg) (S : List Value) (l0 : Value), exec d mX6_undo 4 [l0] (.ref 44 :: S) σ = exec d mX6_undo 7 [l0] (.int (σ 44 1) :: S) σ) ∧
  (∀ (d : Nat) (σ : Sg) (S : List Value) (l0 : Value) (x : Int32), exec d mX6_undo 7 [l0] (.int x :: S) σ = if nI 0 < x then exec d mX6_undo 13 [l0] S σ else exec d mX6_undo 10 [l0] S σ) ∧
  (∀ (d : Nat) (σ : Sg) (S : List Value) (l0 : Value), exec d mX6_undo 10 [l0] S σ = exec d mX6_undo 12 [l0] (.int ((-1000002)) :: S) σ) ∧
  (∀ (d : Nat) (σ : Sg) (l0 : Value) (x : Int32), exec d mX6_undo 12 [l0] [.int x] σ = some (some (.int x), σ)) ∧
  (∀ (d : Nat) (σ : Sg) (S : List Value) (k : Nat), exec d mX6_undo 13 [.ref k] S σ = exec d mX6_undo 14 [.ref k] (.ref k :: S) σ) ∧
  (∀ (d : Nat) (σ : Sg) (S : List Value) (l0 : Value), exec d mX6_undo 14 [l0] (.ref 0 :: S) σ = exec d mX6_undo 17 [l0] (.ref 44 :: S) σ) ∧
  (∀ (d : Nat) (σ : Sg) (S : List Value) (k : Nat), exec d mX6_undo 17 [.ref k] S σ = exec d mX6_undo 18 [.ref k] (.ref k :: S) σ) ∧
  (∀ (d : Nat) (σ : Sg) (S : List Value) (l0 : Value), exec d mX6_undo 18 [l0] (.ref 0 :: S) σ = exec d mX6_undo 21 [l0] (.ref 8 :: S) σ) ∧
  (∀ (d : Nat) (σ : Sg) (l0 : Value), exec d mX6_undo 21 [l0] [.ref 8, .ref 44] σ = kb (cal d mX0_takeBack [.ref 44, .ref 8] σ) (fun rs σ2 => exec d mX6_undo 24 [l0] (rs ++ []) σ2)) ∧
  (∀ (d : Nat) (σ : Sg) (l0 : Value) (x : Int32), exec d mX6_undo 24 [l0] [.int x] σ = some (some (.int x), σ)) :=
  ⟨fun d σ S k => ex_aload_n (show decode mX6_undo.2.1 0 = .ok (.aload_n 0, 1) by decide +kernel) rfl,
  fun d σ S l0 => ex_getr (idx := 42) (ci := 6) (ff := 6) (n := 11) (hh := 352) (by decide +kernel),
  fun d σ S l0 => ex_get (idx := 131) (ci := 0) (ff := 1) (n := 3) (hh := 280) (by decide +kernel),
  fun d σ S l0 x => ex_zgt (show decode mX6_undo.2.1 7 = .ok (.ifCond .gt 6, 3) by decide +kernel) (by decide),
  fun d σ S l0 => ex_ldc (hh := 519) (show decode mX6_undo.2.1 10 = .ok (.ldc 134, 2) by decide +kernel) (by decide +kernel),
  fun d σ l0 x => ex_iret (show decode mX6_undo.2.1 12 = .ok (.ireturn, 1) by decide +kernel) rfl,
  fun d σ S k => ex_aload_n (show decode mX6_undo.2.1 13 = .ok (.aload_n 0, 1) by decide +kernel) rfl,
  fun d σ S l0 => ex_getr (idx := 42) (ci := 6) (ff := 6) (n := 11) (hh := 352) (by decide +kernel),
  fun d σ S k => ex_aload_n (show decode mX6_undo.2.1 17 = .ok (.aload_n 0, 1) by decide +kernel) rfl,
  fun d σ S l0 => ex_getr (idx := 26) (ci := 6) (ff := 2) (n := 11) (hh := 348) (by decide +kernel),
  fun d σ l0 => ex_iv (hs := [520, 522, 22, 523, 98]) (show decode mX6_undo.2.1 21 = .ok (.invokevirtual 135, 3) by decide +kernel) lkV_6_135 ⟨rfl, Nat.le_of_ble_eq_true rfl, Nat.le_of_ble_eq_true rfl, fun _ => rfl⟩ rfl rfl,
  fun d σ l0 x => ex_iret (show decode mX6_undo.2.1 24 = .ok (.ireturn, 1) by decide +kernel) rfl⟩
theorem aX6_undo_0 : ∀ (d : Nat)  (σ : Sg), cal (d + 1) mX6_undo [.ref 0] σ = exec d mX6_undo 0 [.ref 0] [] σ := fun _ _ => rfl
theorem kX6_make : (∀ (d : Nat) (σ : Sg) (S : List Value) (l1 : Value) (k : Nat), exec d mX6_make 0 [.ref k, l1] S σ = exec d mX6_make 1 [.ref k, l1] (.ref k :: S) σ) ∧
  (∀ (d : Nat) (σ : Sg) (S : List Value) (l0 : Value) (x : Int32), exec d mX6_make 1 [l0, .int x] S σ = exec d mX6_make 2 [l0, .int x] (.int x :: S) σ) ∧
  (∀ (d : Nat) (σ : Sg) (l0 l1 : Value) (x0 : Int32), exec d mX6_make 2 [l0, l1] [.int x0, .ref 0] σ = kb (cal d mX6_isPart [.ref 0, .int x0] σ) (fun rs σ2 => exec d mX6_make 5 [l0, l1] (rs ++ []) σ2)) ∧
  (∀ (d : Nat) (σ : Sg) (S : List Value) (l0 l1 : Value) (x : Int32), exec d mX6_make 5 [l0, l1] (.int x :: S) σ = if x = nI 0 then exec d mX6_make 8 [l0, l1] S σ else exec d mX6_make 11 [l0, l1] S σ) ∧
  (∀ (d : Nat) (σ : Sg) (S : List Value) (l0 l1 : Value), exec d mX6_make 8 [l0, l1] S σ = exec d mX6_make 10 [l0, l1] (.int ((-1000001)) :: S) σ) ∧
  (∀ (d : Nat) (σ : Sg) (l0 l1 : Value) (x : Int32), exec d mX6_make 10 [l0, l1] [.int x] σ = some (some (.int x), σ)) ∧
  (∀ (d : Nat) (σ : Sg) (S : List Value) (l1 : Value) (k : Nat), exec d mX6_make 11 [.ref k, l1] S σ = exec d mX6_make 12 [.ref k, l1] (.ref k :: S) σ) ∧
  (∀ (d : Nat) (σ : Sg) (S : List Value) (l0 l1 : Value), exec d mX6_make 12 [l0, l1] (.ref 0 :: S) σ = exec d mX6_make 15 [l0, l1] (.ref 8 :: S) σ) ∧
  (∀ (d : Nat) (σ : Sg) (S : List Value) (l0 : Value) (x : Int32), exec d mX6_make 15 [l0, .int x] S σ = exec d mX6_make 16 [l0, .int x] (.int x :: S) σ) ∧
  (∀ (d : Nat) (σ : Sg) (l0 l1 : Value) (x0 : Int32), exec d mX6_make 16 [l0, l1] [.int x0, .ref 8] σ = kb (cal d mX5_mayBuild [.ref 8, .int x0] σ) (fun rs σ2 => exec d mX6_make 19 [l0, l1] (rs ++ []) σ2)) ∧
  (∀ (d : Nat) (σ : Sg) (S : List Value) (l0 l1 : Value) (x : Int32), exec d mX6_make 19 [l0, l1] (.int x :: S) σ = if x = nI 0 then exec d mX6_make 22 [l0, l1] S σ else exec d mX6_make 25 [l0, l1] S σ) ∧
  (∀ (d : Nat) (σ : Sg) (S : List Value) (l0 l1 : Value), exec d mX6_make 22 [l0, l1] S σ = exec d mX6_make 24 [l0, l1] (.int ((-1000002)) :: S) σ) ∧
  (∀ (d : Nat) (σ : Sg) (l0 l1 : Value) (x : Int32), exec d mX6_make 24 [l0, l1] [.int x] σ = some (some (.int x), σ)) ∧
  (∀ (d : Nat) (σ : Sg) (S : List Value) (l1 : Value) (k : Nat), exec d mX6_make 25 [.ref k, l1] S σ = exec d mX6_make 26 [.ref k, l1] (.ref k :: S) σ) ∧
  (∀ (d : Nat) (σ : Sg) (S : List Value) (l0 l1 : Value), exec d mX6_make 26 [l0, l1] (.ref 0 :: S) σ = exec d mX6_make 29 [l0, l1] (.ref 44 :: S) σ) ∧
  (∀ (d : Nat) (σ : Sg) (S : List Value) (l1 : Value) (k : Nat), exec d mX6_make 29 [.ref k, l1] S σ = exec d mX6_make 30 [.ref k, l1] (.ref k :: S) σ) ∧
  (∀ (d : Nat) (σ : Sg) (S : List Value) (l0 l1 : Value), exec d mX6_make 30 [l0, l1] (.ref 0 :: S) σ = exec d mX6_make 33 [l0, l1] (.ref 8 :: S) σ) ∧
  (∀ (d : Nat) (σ : Sg) (l0 l1 : Value), exec d mX6_make 33 [l0, l1] [.ref 8, .ref 44] σ = kb (cal d mX0_keep [.ref 44, .ref 8] σ) (fun rs σ2 => exec d mX6_make 36 [l0, l1] (rs ++ []) σ2)) ∧
  (∀ (d : Nat) (σ : Sg) (S : List Value) (l1 : Value) (k : Nat), exec d mX6_make 36 [.ref k, l1] S σ = exec d mX6_make 37 [.ref k, l1] (.ref k :: S) σ) ∧
  (∀ (d : Nat) (σ : Sg) (S : List Value) (l0 l1 : Value), exec d mX6_make 37 [l0, l1] (.ref 0 :: S) σ = exec d mX6_make 40 [l0, l1] (.ref 8 :: S) σ) ∧
  (∀ (d : Nat) (σ : Sg) (S : List Value) (l0 : Value) (x : Int32), exec d mX6_make 40 [l0, .int x] S σ = exec d mX6_make 41 [l0, .int x] (.int x :: S) σ) ∧
  (∀ (d : Nat) (σ : Sg) (l0 l1 : Value) (x0 : Int32), exec d mX6_make 41 [l0, l1] [.int x0, .ref 8] σ = kb (cal d mX5_build [.ref 8, .int x0] σ) (fun rs σ2 => exec d mX6_make 44 [l0, l1] (rs ++ []) σ2)) ∧
  (∀ (d : Nat) (σ : Sg) (l0 l1 : Value) (x : Int32), exec d mX6_make 44 [l0, l1] [.int x] σ = some (some (.int x), σ)) :=
  ⟨fun d σ S l1 k => ex_aload_n (show decode mX6_make.2.1 0 = .ok (.aload_n 0, 1) by decide +kernel) rfl,
  fun d σ S l0 x => ex_iload_n (show decode mX6_make.2.1 1 = .ok (.iload_n 1, 1) by decide +kernel) rfl,
  fun d σ l0 l1 x0 => ex_iv (hs := [528, 530, 23, 531, 94]) (show decode mX6_make.2.1 2 = .ok (.invokevirtual 139, 3) by decide +kernel) lkV_6_139 ⟨rfl, Nat.le_of_ble_eq_true rfl, Nat.le_of_ble_eq_true rfl, fun _ => rfl⟩ rfl rfl,
  fun d σ S l0 l1 x => ex_zne (show decode mX6_make.2.1 5 = .ok (.ifCond .ne 6, 3) by decide +kernel) (by decide),
  fun d σ S l0 l1 => ex_ldc (hh := 387) (show decode mX6_make.2.1 8 = .ok (.ldc 64, 2) by decide +kernel) (by decide +kernel),
  fun d σ l0 l1 x => ex_iret (show decode mX6_make.2.1 10 = .ok (.ireturn, 1) by decide +kernel) rfl,
  fun d σ S l1 k => ex_aload_n (show decode mX6_make.2.1 11 = .ok (.aload_n 0, 1) by decide +kernel) rfl,
  fun d σ S l0 l1 => ex_getr (idx := 26) (ci := 6) (ff := 2) (n := 11) (hh := 348) (by decide +kernel),
  fun d σ S l0 x => ex_iload_n (show decode mX6_make.2.1 15 = .ok (.iload_n 1, 1) by decide +kernel) rfl,
  fun d σ l0 l1 x0 => ex_iv (hs := [532, 534, 24, 535, 97]) (show decode mX6_make.2.1 16 = .ok (.invokevirtual 142, 3) by decide +kernel) lkV_6_142 ⟨rfl, Nat.le_of_ble_eq_true rfl, Nat.le_of_ble_eq_true rfl, fun _ => rfl⟩ rfl rfl,
  fun d σ S l0 l1 x => ex_zne (show decode mX6_make.2.1 19 = .ok (.ifCond .ne 6, 3) by decide +kernel) (by decide),
  fun d σ S l0 l1 => ex_ldc (hh := 519) (show decode mX6_make.2.1 22 = .ok (.ldc 134, 2) by decide +kernel) (by decide +kernel),
  fun d σ l0 l1 x => ex_iret (show decode mX6_make.2.1 24 = .ok (.ireturn, 1) by decide +kernel) rfl,
  fun d σ S l1 k => ex_aload_n (show decode mX6_make.2.1 25 = .ok (.aload_n 0, 1) by decide +kernel) rfl,
  fun d σ S l0 l1 => ex_getr (idx := 42) (ci := 6) (ff := 6) (n := 11) (hh := 352) (by decide +kernel),
  fun d σ S l1 k => ex_aload_n (show decode mX6_make.2.1 29 = .ok (.aload_n 0, 1) by decide +kernel) rfl,
  fun d σ S l0 l1 => ex_getr (idx := 26) (ci := 6) (ff := 2) (n := 11) (hh := 348) (by decide +kernel),
  fun d σ l0 l1 => ex_iv (hs := [546, 548, 26, 549, 98]) (show decode mX6_make.2.1 33 = .ok (.invokevirtual 145, 3) by decide +kernel) lkV_6_145 ⟨rfl, Nat.le_of_ble_eq_true rfl, Nat.le_of_ble_eq_true rfl, fun _ => rfl⟩ rfl rfl,
  fun d σ S l1 k => ex_aload_n (show decode mX6_make.2.1 36 = .ok (.aload_n 0, 1) by decide +kernel) rfl,
  fun d σ S l0 l1 => ex_getr (idx := 26) (ci := 6) (ff := 2) (n := 11) (hh := 348) (by decide +kernel),
  fun d σ S l0 x => ex_iload_n (show decode mX6_make.2.1 40 = .ok (.iload_n 1, 1) by decide +kernel) rfl,
  fun d σ l0 l1 x0 => ex_iv (hs := [553, 555, 27, 556, 97]) (show decode mX6_make.2.1 41 = .ok (.invokevirtual 148, 3) by decide +kernel) lkV_6_148 ⟨rfl, Nat.le_of_ble_eq_true rfl, Nat.le_of_ble_eq_true rfl, fun _ => rfl⟩ rfl rfl,
  fun d σ l0 l1 x => ex_iret (show decode mX6_make.2.1 44 = .ok (.ireturn, 1) by decide +kernel) rfl⟩
theorem aX6_make_0 : ∀ (d : Nat) (a1 : Int32) (σ : Sg), cal (d + 1) mX6_make [.ref 0, .int a1] σ = exec d mX6_make 0 [.ref 0, .int a1] [] σ := fun _ _ _ => rfl
theorem kX6_mend_0 : (∀ (d : Nat) (σ : Sg) (S : List Value) (l1 : Value) (k : Nat), exec d mX6_mend 0 [.ref k, l1] S σ = exec d mX6_mend 1 [.ref k, l1] (.ref k :: S) σ) ∧
  (∀ (d : Nat) (σ : Sg) (S : List Value) (l0 : Value) (x : Int32), exec d mX6_mend 1 [l0, .int x] S σ = exec d mX6_mend 2 [l0, .int x] (.int x :: S) σ) ∧
  (∀ (d : Nat) (σ : Sg) (l0 l1 : Value) (x0 : Int32), exec d mX6_mend 2 [l0, l1] [.int x0, .ref 0] σ = kb (cal d mX6_isPart [.ref 0, .int x0] σ) (fun rs σ2 => exec d mX6_mend 5 [l0, l1] (rs ++ []) σ2)) ∧
  (∀ (d : Nat) (σ : Sg) (S : List Value) (l0 l1 : Value) (x : Int32), exec d mX6_mend 5 [l0, l1] (.int x :: S) σ = if x = nI 0 then exec d mX6_mend 8 [l0, l1] S σ else exec d mX6_mend 11 [l0, l1] S σ) ∧
  (∀ (d : Nat) (σ : Sg) (S : List Value) (l0 l1 : Value), exec d mX6_mend 8 [l0, l1] S σ = exec d mX6_mend 10 [l0, l1] (.int ((-1000001)) :: S) σ) ∧
  (∀ (d : Nat) (σ : Sg) (l0 l1 : Value) (x : Int32), exec d mX6_mend 10 [l0, l1] [.int x] σ = some (some (.int x), σ)) ∧
  (∀ (d : Nat) (σ : Sg) (S : List Value) (l1 : Value) (k : Nat), exec d mX6_mend 11 [.ref k, l1] S σ = exec d mX6_mend 12 [.ref k, l1] (.ref k :: S) σ) ∧
  (∀ (d : Nat) (σ : Sg) (S : List Value) (l0 l1 : Value), exec d mX6_mend 12 [l0, l1] (.ref 0 :: S) σ = exec d mX6_mend 15 [l0, l1] (.ref 8 :: S) σ) ∧
  (∀ (d : Nat) (σ : Sg) (S : List Value) (l0 l1 : Value), exec d mX6_mend 15 [l0, l1] (.ref 8 :: S) σ = exec d mX6_mend 18 [l0, l1] (.int (σ 8 7) :: S) σ) ∧
  (∀ (d : Nat) (σ : Sg) (S : List Value) (l0 : Value) (x : Int32), exec d mX6_mend 18 [l0, .int x] S σ = exec d mX6_mend 19 [l0, .int x] (.int x :: S) σ) ∧
  (∀ (d : Nat) (σ : Sg) (l0 l1 : Value) (x0 x1 : Int32), exec d mX6_mend 19 [l0, l1] [.int x0, .int x1] σ = kb (cal d mX6_bit [.int x1, .int x0] σ) (fun rs σ2 => exec d mX6_mend 22 [l0, l1] (rs ++ []) σ2)) ∧
  (∀ (d : Nat) (σ : Sg) (S : List Value) (l0 l1 : Value) (x : Int32), exec d mX6_mend 22 [l0, l1] (.int x :: S) σ = if x = nI 0 then exec d mX6_mend 43 [l0, l1] S σ else exec d mX6_mend 25 [l0, l1] S σ) ∧
  (∀ (d : Nat) (σ : Sg) (S : List Value) (l1 : Value) (k : Nat), exec d mX6_mend 25 [.ref k, l1] S σ = exec d mX6_mend 26 [.ref k, l1] (.ref k :: S) σ) ∧
  (∀ (d : Nat) (σ : Sg) (S : List Value) (l0 l1 : Value), exec d mX6_mend 26 [l0, l1] (.ref 0 :: S) σ = exec d mX6_mend 29 [l0, l1] (.ref 8 :: S) σ) ∧
  (∀ (d : Nat) (σ : Sg) (S : List Value) (l0 l1 : Value), exec d mX6_mend 29 [l0, l1] (.ref 8 :: S) σ = exec d mX6_mend 32 [l0, l1] (.int (σ 8 2) :: S) σ) ∧
  (∀ (d : Nat) (σ : Sg) (S : List Value) (l1 : Value) (k : Nat), exec d mX6_mend 32 [.ref k, l1] S σ = exec d mX6_mend 33 [.ref k, l1] (.ref k :: S) σ) ∧
  (∀ (d : Nat) (σ : Sg) (S : List Value) (l0 l1 : Value), exec d mX6_mend 33 [l0, l1] (.ref 0 :: S) σ = exec d mX6_mend 36 [l0, l1] (.ref 8 :: S) σ) ∧
  (∀ (d : Nat) (σ : Sg) (S : List Value) (l0 : Value) (x : Int32), exec d mX6_mend 36 [l0, .int x] S σ = exec d mX6_mend 37 [l0, .int x] (.int x :: S) σ) ∧
  (∀ (d : Nat) (σ : Sg) (l0 l1 : Value) (x0 x2 : Int32), exec d mX6_mend 37 [l0, l1] [.int x0, .ref 8, .int x2] σ = kb (cal d mX5_mendingDays [.ref 8, .int x0] σ) (fun rs σ2 => exec d mX6_mend 40 [l0, l1] (rs ++ [.int x2]) σ2)) ∧
  (∀ (d : Nat) (σ : Sg) (S : List Value) (l0 l1 : Value) (x y : Int32), exec d mX6_mend 40 [l0, l1] (.int y :: .int x :: S) σ = if y ≤ x then exec d mX6_mend 46 [l0, l1] S σ else exec d mX6_mend 43 [l0, l1] S σ) ∧
  (∀ (d : Nat) (σ : Sg) (S : List Value) (l0 l1 : Value), exec d mX6_mend 43 [l0, l1] S σ = exec d mX6_mend 45 [l0, l1] (.int ((-1000002)) :: S) σ) ∧
  (∀ (d : Nat) (σ : Sg) (l0 l1 : Value) (x : Int32), exec d mX6_mend 45 [l0, l1] [.int x] σ = some (some (.int x), σ)) ∧
  (∀ (d : Nat) (σ : Sg) (S : List Value) (l1 : Value) (k : Nat), exec d mX6_mend 46 [.ref k, l1] S σ = exec d mX6_mend 47 [.ref k, l1] (.ref k :: S) σ) ∧
  (∀ (d : Nat) (σ : Sg) (S : List Value) (l0 l1 : Value), exec d mX6_mend 47 [l0, l1] (.ref 0 :: S) σ = exec d mX6_mend 50 [l0, l1] (.ref 44 :: S) σ) ∧
  (∀ (d : Nat) (σ : Sg) (S : List Value) (l1 : Value) (k : Nat), exec d mX6_mend 50 [.ref k, l1] S σ = exec d mX6_mend 51 [.ref k, l1] (.ref k :: S) σ) ∧
  (∀ (d : Nat) (σ : Sg) (S : List Value) (l0 l1 : Value), exec d mX6_mend 51 [l0, l1] (.ref 0 :: S) σ = exec d mX6_mend 54 [l0, l1] (.ref 8 :: S) σ) ∧
  (∀ (d : Nat) (σ : Sg) (l0 l1 : Value), exec d mX6_mend 54 [l0, l1] [.ref 8, .ref 44] σ = kb (cal d mX0_keep [.ref 44, .ref 8] σ) (fun rs σ2 => exec d mX6_mend 57 [l0, l1] (rs ++ []) σ2)) ∧
  (∀ (d : Nat) (σ : Sg) (S : List Value) (l1 : Value) (k : Nat), exec d mX6_mend 57 [.ref k, l1] S σ = exec d mX6_mend 58 [.ref k, l1] (.ref k :: S) σ) ∧
  (∀ (d : Nat) (σ : Sg) (S : List Value) (l0 l1 : Value), exec d mX6_mend 58 [l0, l1] (.ref 0 :: S) σ = exec d mX6_mend 61 [l0, l1] (.ref 8 :: S) σ) ∧
  (∀ (d : Nat) (σ : Sg) (S : List Value) (l0 l1 : Value) (k : Nat), exec d mX6_mend 61 [l0, l1] (.ref k :: S) σ = exec d mX6_mend 62 [l0, l1] (.ref k :: .ref k :: S) σ) ∧
  (∀ (d : Nat) (σ : Sg) (S : List Value) (l0 l1 : Value), exec d mX6_mend 62 [l0, l1] (.ref 8 :: S) σ = exec d mX6_mend 65 [l0, l1] (.int (σ 8 2) :: S) σ) ∧
  (∀ (d : Nat) (σ : Sg) (S : List Value) (l1 : Value) (k : Nat), exec d mX6_mend 65 [.ref k, l1] S σ = exec d mX6_mend 66 [.ref k, l1] (.ref k :: S) σ) ∧
  (∀ (d : Nat) (σ : Sg) (S : List Value) (l0 l1 : Value), exec d mX6_mend 66 [l0, l1] (.ref 0 :: S) σ = exec d mX6_mend 69 [l0, l1] (.ref 8 :: S) σ) ∧
  (∀ (d : Nat) (σ : Sg) (S : List Value) (l0 : Value) (x : Int32), exec d mX6_mend 69 [l0, .int x] S σ = exec d mX6_mend 70 [l0, .int x] (.int x :: S) σ) ∧
  (∀ (d : Nat) (σ : Sg) (l0 l1 : Value) (x0 x2 : Int32), exec d mX6_mend 70 [l0, l1] [.int x0, .ref 8, .int x2, .ref 8] σ = kb (cal d mX5_mendingDays [.ref 8, .int x0] σ) (fun rs σ2 => exec d mX6_mend 73 [l0, l1] (rs ++ [.int x2, .ref 8]) σ2)) ∧
  (∀ (d : Nat) (σ : Sg) (S : List Value) (l0 l1 : Value) (x y : Int32), exec d mX6_mend 73 [l0, l1] (.int y :: .int x :: S) σ = exec d mX6_mend 74 [l0, l1] (.int (x - y) :: S) σ) ∧
  (∀ (d : Nat) (σ : Sg) (S : List Value) (l0 l1 : Value) (x : Int32), exec d mX6_mend 74 [l0, l1] (.int x :: .ref 8 :: S) σ = exec d mX6_mend 77 [l0, l1] S (up σ 8 2 x)) ∧
  (∀ (d : Nat) (σ : Sg) (S : List Value) (l1 : Value) (k : Nat), exec d mX6_mend 77 [.ref k, l1] S σ = exec d mX6_mend 78 [.ref k, l1] (.ref k :: S) σ) ∧
  (∀ (d : Nat) (σ : Sg) (S : List Value) (l0 l1 : Value), exec d mX6_mend 78 [l0, l1] (.ref 0 :: S) σ = exec d mX6_mend 81 [l0, l1] (.ref 8 :: S) σ) ∧
  (∀ (d : Nat) (σ : Sg) (S : List Value) (l0 l1 : Value) (k : Nat), exec d mX6_mend 81 [l0, l1] (.ref k :: S) σ = exec d mX6_mend 82 [l0, l1] (.ref k :: .ref k :: S) σ) :=
  ⟨fun d σ S l1 k => ex_aload_n (show decode mX6_mend.2.1 0 = .ok (.aload_n 0, 1) by decide +kernel) rfl,
  fun d σ S l0 x => ex_iload_n (show decode mX6_mend.2.1 1 = .ok (.iload_n 1, 1) by decide +kernel) rfl,
  fun d σ l0 l1 x0 => ex_iv (hs := [528, 530, 23, 531, 94]) (show decode mX6_mend.2.1 2 = .ok (.invokevirtual 139, 3) by decide +kernel) lkV_6_139 ⟨rfl, Nat.le_of_ble_eq_true rfl, Nat.le_of_ble_eq_true rfl, fun _ => rfl⟩ rfl rfl,
  fun d σ S l0 l1 x => ex_zne (show decode mX6_mend.2.1 5 = .ok (.ifCond .ne 6, 3) by decide +kernel) (by decide),
  fun d σ S l0 l1 => ex_ldc (hh := 387) (show decode mX6_mend.2.1 8 = .ok (.ldc 64, 2) by decide +kernel) (by decide +kernel),
  fun d σ l0 l1 x => ex_iret (show decode mX6_mend.2.1 10 = .ok (.ireturn, 1) by decide +kernel) rfl,
  fun d σ S l1 k => ex_aload_n (show decode mX6_mend.2.1 11 = .ok (.aload_n 0, 1) by decide +kernel) rfl,
  fun d σ S l0 l1 => ex_getr (idx := 26) (ci := 6) (ff := 2) (n := 11) (hh := 348) (by decide +kernel),
  fun d σ S l0 l1 => ex_get (idx := 151) (ci := 5) (ff := 7) (n := 17) (hh := 212) (by decide +kernel),
  fun d σ S l0 x => ex_iload_n (show decode mX6_mend.2.1 18 = .ok (.iload_n 1, 1) by decide +kernel) rfl,
  fun d σ l0 l1 x0 x1 => ex_is (hs := [568, 537, 538, 94]) (show decode mX6_mend.2.1 19 = .ok (.invokestatic 154, 3) by decide +kernel) lkS_6_154 ⟨rfl, Nat.le_of_ble_eq_true rfl, Nat.le_of_ble_eq_true rfl, fun q => nomatch q⟩ rfl rfl,
  fun d σ S l0 l1 x => ex_zeq (show decode mX6_mend.2.1 22 = .ok (.ifCond .eq 21, 3) by decide +kernel) (by decide),
  fun d σ S l1 k => ex_aload_n (show decode mX6_mend.2.1 25 = .ok (.aload_n 0, 1) by decide +kernel) rfl,
  fun d σ S l0 l1 => ex_getr (idx := 26) (ci := 6) (ff := 2) (n := 11) (hh := 348) (by decide +kernel),
  fun d σ S l0 l1 => ex_get (idx := 158) (ci := 5) (ff := 2) (n := 17) (hh := 192) (by decide +kernel),
  fun d σ S l1 k => ex_aload_n (show decode mX6_mend.2.1 32 = .ok (.aload_n 0, 1) by decide +kernel) rfl,
  fun d σ S l0 l1 => ex_getr (idx := 26) (ci := 6) (ff := 2) (n := 11) (hh := 348) (by decide +kernel),
  fun d σ S l0 x => ex_iload_n (show decode mX6_mend.2.1 36 = .ok (.iload_n 1, 1) by decide +kernel) rfl,
  fun d σ l0 l1 x0 x2 => ex_iv (hs := [569, 571, 28, 572, 97]) (show decode mX6_mend.2.1 37 = .ok (.invokevirtual 161, 3) by decide +kernel) lkV_6_161 ⟨rfl, Nat.le_of_ble_eq_true rfl, Nat.le_of_ble_eq_true rfl, fun _ => rfl⟩ rfl rfl,
  fun d σ S l0 l1 x y => ex_cge (show decode mX6_mend.2.1 40 = .ok (.if_icmp .ge 6, 3) by decide +kernel) (by decide),
  fun d σ S l0 l1 => ex_ldc (hh := 519) (show decode mX6_mend.2.1 43 = .ok (.ldc 134, 2) by decide +kernel) (by decide +kernel),
  fun d σ l0 l1 x => ex_iret (show decode mX6_mend.2.1 45 = .ok (.ireturn, 1) by decide +kernel) rfl,
  fun d σ S l1 k => ex_aload_n (show decode mX6_mend.2.1 46 = .ok (.aload_n 0, 1) by decide +kernel) rfl,
  fun d σ S l0 l1 => ex_getr (idx := 42) (ci := 6) (ff := 6) (n := 11) (hh := 352) (by decide +kernel),
  fun d σ S l1 k => ex_aload_n (show decode mX6_mend.2.1 50 = .ok (.aload_n 0, 1) by decide +kernel) rfl,
  fun d σ S l0 l1 => ex_getr (idx := 26) (ci := 6) (ff := 2) (n := 11) (hh := 348) (by decide +kernel),
  fun d σ l0 l1 => ex_iv (hs := [546, 548, 26, 549, 98]) (show decode mX6_mend.2.1 54 = .ok (.invokevirtual 145, 3) by decide +kernel) lkV_6_145 ⟨rfl, Nat.le_of_ble_eq_true rfl, Nat.le_of_ble_eq_true rfl, fun _ => rfl⟩ rfl rfl,
  fun d σ S l1 k => ex_aload_n (show decode mX6_mend.2.1 57 = .ok (.aload_n 0, 1) by decide +kernel) rfl,
  fun d σ S l0 l1 => ex_getr (idx := 26) (ci := 6) (ff := 2) (n := 11) (hh := 348) (by decide +kernel),
  fun d σ S l0 l1 k => ex_dup (show decode mX6_mend.2.1 61 = .ok (.dup, 1) by decide +kernel) rfl,
  fun d σ S l0 l1 => ex_get (idx := 158) (ci := 5) (ff := 2) (n := 17) (hh := 192) (by decide +kernel),
  fun d σ S l1 k => ex_aload_n (show decode mX6_mend.2.1 65 = .ok (.aload_n 0, 1) by decide +kernel) rfl,
  fun d σ S l0 l1 => ex_getr (idx := 26) (ci := 6) (ff := 2) (n := 11) (hh := 348) (by decide +kernel),
  fun d σ S l0 x => ex_iload_n (show decode mX6_mend.2.1 69 = .ok (.iload_n 1, 1) by decide +kernel) rfl,
  fun d σ l0 l1 x0 x2 => ex_iv (hs := [569, 571, 28, 572, 97]) (show decode mX6_mend.2.1 70 = .ok (.invokevirtual 161, 3) by decide +kernel) lkV_6_161 ⟨rfl, Nat.le_of_ble_eq_true rfl, Nat.le_of_ble_eq_true rfl, fun _ => rfl⟩ rfl rfl,
  fun d σ S l0 l1 x y => ex_isub (show decode mX6_mend.2.1 73 = .ok (.isub, 1) by decide +kernel),
  fun d σ S l0 l1 x => ex_put (idx := 158) (ci := 5) (ff := 2) (n := 17) (hh := 192) (by decide +kernel),
  fun d σ S l1 k => ex_aload_n (show decode mX6_mend.2.1 77 = .ok (.aload_n 0, 1) by decide +kernel) rfl,
  fun d σ S l0 l1 => ex_getr (idx := 26) (ci := 6) (ff := 2) (n := 11) (hh := 348) (by decide +kernel),
  fun d σ S l0 l1 k => ex_dup (show decode mX6_mend.2.1 81 = .ok (.dup, 1) by decide +kernel) rfl⟩
theorem kX6_mend_1 : (∀ (d : Nat) (σ : Sg) (S : List Value) (l0 l1 : Value), exec d mX6_mend 82 [l0, l1] (.ref 8 :: S) σ = exec d mX6_mend 85 [l0, l1] (.int (σ 8 7) :: S) σ) ∧
  (∀ (d : Nat) (σ : Sg) (S : List Value) (l0 l1 : Value), exec d mX6_mend 85 [l0, l1] S σ = exec d mX6_mend 86 [l0, l1] (.int (nI 1) :: S) σ) ∧
  (∀ (d : Nat) (σ : Sg) (S : List Value) (l0 : Value) (x : Int32), exec d mX6_mend 86 [l0, .int x] S σ = exec d mX6_mend 87 [l0, .int x] (.int x :: S) σ) ∧
  (∀ (d : Nat) (σ : Sg) (S : List Value) (l0 l1 : Value) (x y : Int32), exec d mX6_mend 87 [l0, l1] (.int y :: .int x :: S) σ = exec d mX6_mend 88 [l0, l1] (.int (x <<< (y &&& 31)) :: S) σ) ∧
  (∀ (d : Nat) (σ : Sg) (S : List Value) (l0 l1 : Value), exec d mX6_mend 88 [l0, l1] S σ = exec d mX6_mend 89 [l0, l1] (.int ((-1)) :: S) σ) ∧
  (∀ (d : Nat) (σ : Sg) (S : List Value) (l0 l1 : Value) (x y : Int32), exec d mX6_mend 89 [l0, l1] (.int y :: .int x :: S) σ = exec d mX6_mend 90 [l0, l1] (.int (x ^^^ y) :: S) σ) ∧
  (∀ (d : Nat) (σ : Sg) (S : List Value) (l0 l1 : Value) (x y : Int32), exec d mX6_mend 90 [l0, l1] (.int y :: .int x :: S) σ = exec d mX6_mend 91 [l0, l1] (.int (x &&& y) :: S) σ) ∧
  (∀ (d : Nat) (σ : Sg) (S : List Value) (l0 l1 : Value) (x : Int32), exec d mX6_mend 91 [l0, l1] (.int x :: .ref 8 :: S) σ = exec d mX6_mend 94 [l0, l1] S (up σ 8 7 x)) ∧
  (∀ (d : Nat) (σ : Sg) (S : List Value) (l1 : Value) (k : Nat), exec d mX6_mend 94 [.ref k, l1] S σ = exec d mX6_mend 95 [.ref k, l1] (.ref k :: S) σ) ∧
  (∀ (d : Nat) (σ : Sg) (S : List Value) (l0 l1 : Value), exec d mX6_mend 95 [l0, l1] (.ref 0 :: S) σ = exec d mX6_mend 98 [l0, l1] (.ref 8 :: S) σ) ∧
  (∀ (d : Nat) (σ : Sg) (S : List Value) (l0 l1 : Value), exec d mX6_mend 98 [l0, l1] (.ref 8 :: S) σ = exec d mX6_mend 101 [l0, l1] (.int (σ 8 2) :: S) σ) ∧
  (∀ (d : Nat) (σ : Sg) (l0 l1 : Value) (x : Int32), exec d mX6_mend 101 [l0, l1] [.int x] σ = some (some (.int x), σ)) :=
  ⟨fun d σ S l0 l1 => ex_get (idx := 151) (ci := 5) (ff := 7) (n := 17) (hh := 212) (by decide +kernel),
  fun d σ S l0 l1 => ex_iconst (show decode mX6_mend.2.1 85 = .ok (.iconst 1, 1) by decide +kernel) (by decide +kernel),
  fun d σ S l0 x => ex_iload_n (show decode mX6_mend.2.1 86 = .ok (.iload_n 1, 1) by decide +kernel) rfl,
  fun d σ S l0 l1 x y => ex_ishl (show decode mX6_mend.2.1 87 = .ok (.ishl, 1) by decide +kernel),
  fun d σ S l0 l1 => ex_iconst (show decode mX6_mend.2.1 88 = .ok (.iconst (-1), 1) by decide +kernel) (by decide +kernel),
  fun d σ S l0 l1 x y => ex_ixor (show decode mX6_mend.2.1 89 = .ok (.ixor, 1) by decide +kernel),
  fun d σ S l0 l1 x y => ex_iand (show decode mX6_mend.2.1 90 = .ok (.iand, 1) by decide +kernel),
  fun d σ S l0 l1 x => ex_put (idx := 151) (ci := 5) (ff := 7) (n := 17) (hh := 212) (by decide +kernel),
  fun d σ S l1 k => ex_aload_n (show decode mX6_mend.2.1 94 = .ok (.aload_n 0, 1) by decide +kernel) rfl,
  fun d σ S l0 l1 => ex_getr (idx := 26) (ci := 6) (ff := 2) (n := 11) (hh := 348) (by decide +kernel),
  fun d σ S l0 l1 => ex_get (idx := 158) (ci := 5) (ff := 2) (n := 17) (hh := 192) (by decide +kernel),
  fun d σ l0 l1 x => ex_iret (show decode mX6_mend.2.1 101 = .ok (.ireturn, 1) by decide +kernel) rfl⟩
theorem aX6_mend_0 : ∀ (d : Nat) (a1 : Int32) (σ : Sg), cal (d + 1) mX6_mend [.ref 0, .int a1] σ = exec d mX6_mend 0 [.ref 0, .int a1] [] σ := fun _ _ _ => rfl
theorem kX6_feast_0 : (∀ (d : Nat) (σ : Sg) (S : List Value) (l1 : Value) (k : Nat), exec d mX6_feast 0 [.ref k, l1] S σ = exec d mX6_feast 1 [.ref k, l1] (.ref k :: S) σ) ∧
  (∀ (d : Nat) (σ : Sg) (S : List Value) (l0 : Value) (x : Int32), exec d mX6_feast 1 [l0, .int x] S σ = exec d mX6_feast 2 [l0, .int x] (.int x :: S) σ) ∧
  (∀ (d : Nat) (σ : Sg) (l0 l1 : Value) (x0 : Int32), exec d mX6_feast 2 [l0, l1] [.int x0, .ref 0] σ = kb (cal d mX6_isElder [.ref 0, .int x0] σ) (fun rs σ2 => exec d mX6_feast 5 [l0, l1] (rs ++ []) σ2)) ∧
  (∀ (d : Nat) (σ : Sg) (S : List Value) (l0 l1 : Value) (x : Int32), exec d mX6_feast 5 [l0, l1] (.int x :: S) σ = if x = nI 0 then exec d mX6_feast 8 [l0, l1] S σ else exec d mX6_feast 11 [l0, l1] S σ) ∧
  (∀ (d : Nat) (σ : Sg) (S : List Value) (l0 l1 : Value), exec d mX6_feast 8 [l0, l1] S σ = exec d mX6_feast 10 [l0, l1] (.int ((-1000001)) :: S) σ) ∧
  (∀ (d : Nat) (σ : Sg) (l0 l1 : Value) (x : Int32), exec d mX6_feast 10 [l0, l1] [.int x] σ = some (some (.int x), σ)) ∧
  (∀ (d : Nat) (σ : Sg) (S : List Value) (l1 : Value) (k : Nat), exec d mX6_feast 11 [.ref k, l1] S σ = exec d mX6_feast 12 [.ref k, l1] (.ref k :: S) σ) ∧
  (∀ (d : Nat) (σ : Sg) (S : List Value) (l0 l1 : Value), exec d mX6_feast 12 [l0, l1] (.ref 0 :: S) σ = exec d mX6_feast 15 [l0, l1] (.ref 8 :: S) σ) ∧
  (∀ (d : Nat) (σ : Sg) (S : List Value) (l0 l1 : Value), exec d mX6_feast 15 [l0, l1] (.ref 8 :: S) σ = exec d mX6_feast 18 [l0, l1] (.int (σ 8 8) :: S) σ) ∧
  (∀ (d : Nat) (σ : Sg) (S : List Value) (l0 : Value) (x : Int32), exec d mX6_feast 18 [l0, .int x] S σ = exec d mX6_feast 19 [l0, .int x] (.int x :: S) σ) ∧
  (∀ (d : Nat) (σ : Sg) (l0 l1 : Value) (x0 x1 : Int32), exec d mX6_feast 19 [l0, l1] [.int x0, .int x1] σ = kb (cal d mX6_bit [.int x1, .int x0] σ) (fun rs σ2 => exec d mX6_feast 22 [l0, l1] (rs ++ []) σ2)) ∧
  (∀ (d : Nat) (σ : Sg) (S : List Value) (l0 l1 : Value), exec d mX6_feast 22 [l0, l1] S σ = exec d mX6_feast 23 [l0, l1] (.int (nI 1) :: S) σ) ∧
  (∀ (d : Nat) (σ : Sg) (S : List Value) (l0 l1 : Value) (x y : Int32), exec d mX6_feast 23 [l0, l1] (.int y :: .int x :: S) σ = if x = y then exec d mX6_feast 45 [l0, l1] S σ else exec d mX6_feast 26 [l0, l1] S σ) ∧
  (∀ (d : Nat) (σ : Sg) (S : List Value) (l1 : Value) (k : Nat), exec d mX6_feast 26 [.ref k, l1] S σ = exec d mX6_feast 27 [.ref k, l1] (.ref k :: S) σ) ∧
  (∀ (d : Nat) (σ : Sg) (S : List Value) (l0 l1 : Value), exec d mX6_feast 27 [l0, l1] (.ref 0 :: S) σ = exec d mX6_feast 30 [l0, l1] (.ref 8 :: S) σ) ∧
  (∀ (d : Nat) (σ : Sg) (S : List Value) (l0 l1 : Value), exec d mX6_feast 30 [l0, l1] (.ref 8 :: S) σ = exec d mX6_feast 33 [l0, l1] (.int (σ 8 3) :: S) σ) ∧
  (∀ (d : Nat) (σ : Sg) (S : List Value) (l1 : Value) (k : Nat), exec d mX6_feast 33 [.ref k, l1] S σ = exec d mX6_feast 34 [.ref k, l1] (.ref k :: S) σ) ∧
  (∀ (d : Nat) (σ : Sg) (S : List Value) (l0 l1 : Value), exec d mX6_feast 34 [l0, l1] (.ref 0 :: S) σ = exec d mX6_feast 37 [l0, l1] (.ref 8 :: S) σ) ∧
  (∀ (d : Nat) (σ : Sg) (S : List Value) (l0 l1 : Value), exec d mX6_feast 37 [l0, l1] (.ref 8 :: S) σ = exec d mX6_feast 40 [l0, l1] (.ref 15 :: S) σ) ∧
  (∀ (d : Nat) (σ : Sg) (S : List Value) (l0 : Value) (x : Int32), exec d mX6_feast 40 [l0, .int x] S σ = exec d mX6_feast 41 [l0, .int x] (.int x :: S) σ) ∧
  (∀ (d : Nat) (σ : Sg) (S : List Value) (l0 l1 : Value) (x : Int32), exec d mX6_feast 41 [l0, l1] (.int x :: .ref 15 :: S) σ = if inb x 5 = true then exec d mX6_feast 42 [l0, l1] (.int (σ 15 x.toNatClampNeg) :: S) σ else none) ∧
  (∀ (d : Nat) (σ : Sg) (S : List Value) (l0 l1 : Value) (x y : Int32), exec d mX6_feast 42 [l0, l1] (.int y :: .int x :: S) σ = if y ≤ x then exec d mX6_feast 48 [l0, l1] S σ else exec d mX6_feast 45 [l0, l1] S σ) ∧
  (∀ (d : Nat) (σ : Sg) (S : List Value) (l0 l1 : Value), exec d mX6_feast 45 [l0, l1] S σ = exec d mX6_feast 47 [l0, l1] (.int ((-1000002)) :: S) σ) ∧
  (∀ (d : Nat) (σ : Sg) (l0 l1 : Value) (x : Int32), exec d mX6_feast 47 [l0, l1] [.int x] σ = some (some (.int x), σ)) ∧
  (∀ (d : Nat) (σ : Sg) (S : List Value) (l1 : Value) (k : Nat), exec d mX6_feast 48 [.ref k, l1] S σ = exec d mX6_feast 49 [.ref k, l1] (.ref k :: S) σ) ∧
  (∀ (d : Nat) (σ : Sg) (S : List Value) (l0 l1 : Value), exec d mX6_feast 49 [l0, l1] (.ref 0 :: S) σ = exec d mX6_feast 52 [l0, l1] (.ref 44 :: S) σ) ∧
  (∀ (d : Nat) (σ : Sg) (S : List Value) (l1 : Value) (k : Nat), exec d mX6_feast 52 [.ref k, l1] S σ = exec d mX6_feast 53 [.ref k, l1] (.ref k :: S) σ) ∧
  (∀ (d : Nat) (σ : Sg) (S : List Value) (l0 l1 : Value), exec d mX6_feast 53 [l0, l1] (.ref 0 :: S) σ = exec d mX6_feast 56 [l0, l1] (.ref 8 :: S) σ) ∧
  (∀ (d : Nat) (σ : Sg) (l0 l1 : Value), exec d mX6_feast 56 [l0, l1] [.ref 8, .ref 44] σ = kb (cal d mX0_keep [.ref 44, .ref 8] σ) (fun rs σ2 => exec d mX6_feast 59 [l0, l1] (rs ++ []) σ2)) ∧
  (∀ (d : Nat) (σ : Sg) (S : List Value) (l1 : Value) (k : Nat), exec d mX6_feast 59 [.ref k, l1] S σ = exec d mX6_feast 60 [.ref k, l1] (.ref k :: S) σ) ∧
  (∀ (d : Nat) (σ : Sg) (S : List Value) (l0 l1 : Value), exec d mX6_feast 60 [l0, l1] (.ref 0 :: S) σ = exec d mX6_feast 63 [l0, l1] (.ref 8 :: S) σ) ∧
  (∀ (d : Nat) (σ : Sg) (S : List Value) (l0 l1 : Value) (k : Nat), exec d mX6_feast 63 [l0, l1] (.ref k :: S) σ = exec d mX6_feast 64 [l0, l1] (.ref k :: .ref k :: S) σ) ∧
  (∀ (d : Nat) (σ : Sg) (S : List Value) (l0 l1 : Value), exec d mX6_feast 64 [l0, l1] (.ref 8 :: S) σ = exec d mX6_feast 67 [l0, l1] (.int (σ 8 3) :: S) σ) ∧
  (∀ (d : Nat) (σ : Sg) (S : List Value) (l1 : Value) (k : Nat), exec d mX6_feast 67 [.ref k, l1] S σ = exec d mX6_feast 68 [.ref k, l1] (.ref k :: S) σ) ∧
  (∀ (d : Nat) (σ : Sg) (S : List Value) (l0 l1 : Value), exec d mX6_feast 68 [l0, l1] (.ref 0 :: S) σ = exec d mX6_feast 71 [l0, l1] (.ref 8 :: S) σ) ∧
  (∀ (d : Nat) (σ : Sg) (S : List Value) (l0 l1 : Value), exec d mX6_feast 71 [l0, l1] (.ref 8 :: S) σ = exec d mX6_feast 74 [l0, l1] (.ref 15 :: S) σ) ∧
  (∀ (d : Nat) (σ : Sg) (S : List Value) (l0 : Value) (x : Int32), exec d mX6_feast 74 [l0, .int x] S σ = exec d mX6_feast 75 [l0, .int x] (.int x :: S) σ) ∧
  (∀ (d : Nat) (σ : Sg) (S : List Value) (l0 l1 : Value) (x : Int32), exec d mX6_feast 75 [l0, l1] (.int x :: .ref 15 :: S) σ = if inb x 5 = true then exec d mX6_feast 76 [l0, l1] (.int (σ 15 x.toNatClampNeg) :: S) σ else none) ∧
  (∀ (d : Nat) (σ : Sg) (S : List Value) (l0 l1 : Value) (x y : Int32), exec d mX6_feast 76 [l0, l1] (.int y :: .int x :: S) σ = exec d mX6_feast 77 [l0, l1] (.int (x - y) :: S) σ) ∧
  (∀ (d : Nat) (σ : Sg) (S : List Value) (l0 l1 : Value) (x : Int32), exec d mX6_feast 77 [l0, l1] (.int x :: .ref 8 :: S) σ = exec d mX6_feast 80 [l0, l1] S (up σ 8 3 x)) :=
  ⟨fun d σ S l1 k => ex_aload_n (show decode mX6_feast.2.1 0 = .ok (.aload_n 0, 1) by decide +kernel) rfl,
  fun d σ S l0 x => ex_iload_n (show decode mX6_feast.2.1 1 = .ok (.iload_n 1, 1) by decide +kernel) rfl,
  fun d σ l0 l1 x0 => ex_iv (hs := [577, 579, 29, 580, 94]) (show decode mX6_feast.2.1 2 = .ok (.invokevirtual 164, 3) by decide +kernel) lkV_6_164 ⟨rfl, Nat.le_of_ble_eq_true rfl, Nat.le_of_ble_eq_true rfl, fun _ => rfl⟩ rfl rfl,
  fun d σ S l0 l1 x => ex_zne (show decode mX6_feast.2.1 5 = .ok (.ifCond .ne 6, 3) by decide +kernel) (by decide),
  fun d σ S l0 l1 => ex_ldc (hh := 387) (show decode mX6_feast.2.1 8 = .ok (.ldc 64, 2) by decide +kernel) (by decide +kernel),
  fun d σ l0 l1 x => ex_iret (show decode mX6_feast.2.1 10 = .ok (.ireturn, 1) by decide +kernel) rfl,
  fun d σ S l1 k => ex_aload_n (show decode mX6_feast.2.1 11 = .ok (.aload_n 0, 1) by decide +kernel) rfl,
  fun d σ S l0 l1 => ex_getr (idx := 26) (ci := 6) (ff := 2) (n := 11) (hh := 348) (by decide +kernel),
  fun d σ S l0 l1 => ex_get (idx := 167) (ci := 5) (ff := 8) (n := 17) (hh := 215) (by decide +kernel),
  fun d σ S l0 x => ex_iload_n (show decode mX6_feast.2.1 18 = .ok (.iload_n 1, 1) by decide +kernel) rfl,
  fun d σ l0 l1 x0 x1 => ex_is (hs := [568, 537, 538, 94]) (show decode mX6_feast.2.1 19 = .ok (.invokestatic 154, 3) by decide +kernel) lkS_6_154 ⟨rfl, Nat.le_of_ble_eq_true rfl, Nat.le_of_ble_eq_true rfl, fun q => nomatch q⟩ rfl rfl,
  fun d σ S l0 l1 => ex_iconst (show decode mX6_feast.2.1 22 = .ok (.iconst 1, 1) by decide +kernel) (by decide +kernel),
  fun d σ S l0 l1 x y => ex_ceq (show decode mX6_feast.2.1 23 = .ok (.if_icmp .eq 22, 3) by decide +kernel) (by decide),
  fun d σ S l1 k => ex_aload_n (show decode mX6_feast.2.1 26 = .ok (.aload_n 0, 1) by decide +kernel) rfl,
  fun d σ S l0 l1 => ex_getr (idx := 26) (ci := 6) (ff := 2) (n := 11) (hh := 348) (by decide +kernel),
  fun d σ S l0 l1 => ex_get (idx := 170) (ci := 5) (ff := 3) (n := 17) (hh := 197) (by decide +kernel),
  fun d σ S l1 k => ex_aload_n (show decode mX6_feast.2.1 33 = .ok (.aload_n 0, 1) by decide +kernel) rfl,
  fun d σ S l0 l1 => ex_getr (idx := 26) (ci := 6) (ff := 2) (n := 11) (hh := 348) (by decide +kernel),
  fun d σ S l0 l1 => ex_getr (idx := 173) (ci := 5) (ff := 15) (n := 17) (hh := 235) (by decide +kernel),
  fun d σ S l0 x => ex_iload_n (show decode mX6_feast.2.1 40 = .ok (.iload_n 1, 1) by decide +kernel) rfl,
  fun d σ S l0 l1 x => ex_iald (by decide +kernel),
  fun d σ S l0 l1 x y => ex_cge (show decode mX6_feast.2.1 42 = .ok (.if_icmp .ge 6, 3) by decide +kernel) (by decide),
  fun d σ S l0 l1 => ex_ldc (hh := 519) (show decode mX6_feast.2.1 45 = .ok (.ldc 134, 2) by decide +kernel) (by decide +kernel),
  fun d σ l0 l1 x => ex_iret (show decode mX6_feast.2.1 47 = .ok (.ireturn, 1) by decide +kernel) rfl,
  fun d σ S l1 k => ex_aload_n (show decode mX6_feast.2.1 48 = .ok (.aload_n 0, 1) by decide +kernel) rfl,
  fun d σ S l0 l1 => ex_getr (idx := 42) (ci := 6) (ff := 6) (n := 11) (hh := 352) (by decide +kernel),
  fun d σ S l1 k => ex_aload_n (show decode mX6_feast.2.1 52 = .ok (.aload_n 0, 1) by decide +kernel) rfl,
  fun d σ S l0 l1 => ex_getr (idx := 26) (ci := 6) (ff := 2) (n := 11) (hh := 348) (by decide +kernel),
  fun d σ l0 l1 => ex_iv (hs := [546, 548, 26, 549, 98]) (show decode mX6_feast.2.1 56 = .ok (.invokevirtual 145, 3) by decide +kernel) lkV_6_145 ⟨rfl, Nat.le_of_ble_eq_true rfl, Nat.le_of_ble_eq_true rfl, fun _ => rfl⟩ rfl rfl,
  fun d σ S l1 k => ex_aload_n (show decode mX6_feast.2.1 59 = .ok (.aload_n 0, 1) by decide +kernel) rfl,
  fun d σ S l0 l1 => ex_getr (idx := 26) (ci := 6) (ff := 2) (n := 11) (hh := 348) (by decide +kernel),
  fun d σ S l0 l1 k => ex_dup (show decode mX6_feast.2.1 63 = .ok (.dup, 1) by decide +kernel) rfl,
  fun d σ S l0 l1 => ex_get (idx := 170) (ci := 5) (ff := 3) (n := 17) (hh := 197) (by decide +kernel),
  fun d σ S l1 k => ex_aload_n (show decode mX6_feast.2.1 67 = .ok (.aload_n 0, 1) by decide +kernel) rfl,
  fun d σ S l0 l1 => ex_getr (idx := 26) (ci := 6) (ff := 2) (n := 11) (hh := 348) (by decide +kernel),
  fun d σ S l0 l1 => ex_getr (idx := 173) (ci := 5) (ff := 15) (n := 17) (hh := 235) (by decide +kernel),
  fun d σ S l0 x => ex_iload_n (show decode mX6_feast.2.1 74 = .ok (.iload_n 1, 1) by decide +kernel) rfl,
  fun d σ S l0 l1 x => ex_iald (by decide +kernel),
  fun d σ S l0 l1 x y => ex_isub (show decode mX6_feast.2.1 76 = .ok (.isub, 1) by decide +kernel),
  fun d σ S l0 l1 x => ex_put (idx := 170) (ci := 5) (ff := 3) (n := 17) (hh := 197) (by decide +kernel)⟩
theorem kX6_feast_1 : (∀ (d : Nat) (σ : Sg) (S : List Value) (l1 : Value) (k : Nat), exec d mX6_feast 80 [.ref k, l1] S σ = exec d mX6_feast 81 [.ref k, l1] (.ref k :: S) σ) ∧
  (∀ (d : Nat) (σ : Sg) (S : List Value) (l0 l1 : Value), exec d mX6_feast 81 [l0, l1] (.ref 0 :: S) σ = exec d mX6_feast 84 [l0, l1] (.ref 8 :: S) σ) ∧
  (∀ (d : Nat) (σ : Sg) (S : List Value) (l0 l1 : Value) (k : Nat), exec d mX6_feast 84 [l0, l1] (.ref k :: S) σ = exec d mX6_feast 85 [l0, l1] (.ref k :: .ref k :: S) σ) ∧
  (∀ (d : Nat) (σ : Sg) (S : List Value) (l0 l1 : Value), exec d mX6_feast 85 [l0, l1] (.ref 8 :: S) σ = exec d mX6_feast 88 [l0, l1] (.int (σ 8 8) :: S) σ) ∧
  (∀ (d : Nat) (σ : Sg) (S : List Value) (l0 l1 : Value), exec d mX6_feast 88 [l0, l1] S σ = exec d mX6_feast 89 [l0, l1] (.int (nI 1) :: S) σ) ∧
  (∀ (d : Nat) (σ : Sg) (S : List Value) (l0 : Value) (x : Int32), exec d mX6_feast 89 [l0, .int x] S σ = exec d mX6_feast 90 [l0, .int x] (.int x :: S) σ) ∧
  (∀ (d : Nat) (σ : Sg) (S : List Value) (l0 l1 : Value) (x y : Int32), exec d mX6_feast 90 [l0, l1] (.int y :: .int x :: S) σ = exec d mX6_feast 91 [l0, l1] (.int (x <<< (y &&& 31)) :: S) σ) ∧
  (∀ (d : Nat) (σ : Sg) (S : List Value) (l0 l1 : Value) (x y : Int32), exec d mX6_feast 91 [l0, l1] (.int y :: .int x :: S) σ = exec d mX6_feast 92 [l0, l1] (.int (x ||| y) :: S) σ) ∧
  (∀ (d : Nat) (σ : Sg) (S : List Value) (l0 l1 : Value) (x : Int32), exec d mX6_feast 92 [l0, l1] (.int x :: .ref 8 :: S) σ = exec d mX6_feast 95 [l0, l1] S (up σ 8 8 x)) ∧
  (∀ (d : Nat) (σ : Sg) (S : List Value) (l1 : Value) (k : Nat), exec d mX6_feast 95 [.ref k, l1] S σ = exec d mX6_feast 96 [.ref k, l1] (.ref k :: S) σ) ∧
  (∀ (d : Nat) (σ : Sg) (S : List Value) (l0 l1 : Value), exec d mX6_feast 96 [l0, l1] (.ref 0 :: S) σ = exec d mX6_feast 99 [l0, l1] (.ref 8 :: S) σ) ∧
  (∀ (d : Nat) (σ : Sg) (S : List Value) (l0 l1 : Value), exec d mX6_feast 99 [l0, l1] (.ref 8 :: S) σ = exec d mX6_feast 102 [l0, l1] (.int (σ 8 3) :: S) σ) ∧
  (∀ (d : Nat) (σ : Sg) (l0 l1 : Value) (x : Int32), exec d mX6_feast 102 [l0, l1] [.int x] σ = some (some (.int x), σ)) :=
  ⟨fun d σ S l1 k => ex_aload_n (show decode mX6_feast.2.1 80 = .ok (.aload_n 0, 1) by decide +kernel) rfl,
  fun d σ S l0 l1 => ex_getr (idx := 26) (ci := 6) (ff := 2) (n := 11) (hh := 348) (by decide +kernel),
  fun d σ S l0 l1 k => ex_dup (show decode mX6_feast.2.1 84 = .ok (.dup, 1) by decide +kernel) rfl,
  fun d σ S l0 l1 => ex_get (idx := 167) (ci := 5) (ff := 8) (n := 17) (hh := 215) (by decide +kernel),
  fun d σ S l0 l1 => ex_iconst (show decode mX6_feast.2.1 88 = .ok (.iconst 1, 1) by decide +kernel) (by decide +kernel),
  fun d σ S l0 x => ex_iload_n (show decode mX6_feast.2.1 89 = .ok (.iload_n 1, 1) by decide +kernel) rfl,
  fun d σ S l0 l1 x y => ex_ishl (show decode mX6_feast.2.1 90 = .ok (.ishl, 1) by decide +kernel),
  fun d σ S l0 l1 x y => ex_ior (show decode mX6_feast.2.1 91 = .ok (.ior, 1) by decide +kernel),
  fun d σ S l0 l1 x => ex_put (idx := 167) (ci := 5) (ff := 8) (n := 17) (hh := 215) (by decide +kernel),
  fun d σ S l1 k => ex_aload_n (show decode mX6_feast.2.1 95 = .ok (.aload_n 0, 1) by decide +kernel) rfl,
  fun d σ S l0 l1 => ex_getr (idx := 26) (ci := 6) (ff := 2) (n := 11) (hh := 348) (by decide +kernel),
  fun d σ S l0 l1 => ex_get (idx := 170) (ci := 5) (ff := 3) (n := 17) (hh := 197) (by decide +kernel),
  fun d σ l0 l1 x => ex_iret (show decode mX6_feast.2.1 102 = .ok (.ireturn, 1) by decide +kernel) rfl⟩
theorem aX6_feast_0 : ∀ (d : Nat) (a1 : Int32) (σ : Sg), cal (d + 1) mX6_feast [.ref 0, .int a1] σ = exec d mX6_feast 0 [.ref 0, .int a1] [] σ := fun _ _ _ => rfl
theorem kX6_idle_0 : (∀ (d : Nat) (σ : Sg) (S : List Value) (l1 l2 : Value) (k : Nat), exec d mX6_idle 0 [.ref k, l1, l2] S σ = exec d mX6_idle 1 [.ref k, l1, l2] (.ref k :: S) σ) ∧
  (∀ (d : Nat) (σ : Sg) (S : List Value) (l0 l1 l2 : Value), exec d mX6_idle 1 [l0, l1, l2] (.ref 0 :: S) σ = exec d mX6_idle 4 [l0, l1, l2] (.ref 8 :: S) σ) ∧
  (∀ (d : Nat) (σ : Sg) (S : List Value) (l0 l1 l2 : Value), exec d mX6_idle 4 [l0, l1, l2] (.ref 8 :: S) σ = exec d mX6_idle 7 [l0, l1, l2] (.int (σ 8 0) :: S) σ) ∧
  (∀ (d : Nat) (σ : Sg) (S : List Value) (l0 l1 l2 : Value) (x : Int32), exec d mX6_idle 7 [l0, l1, l2] (.int x :: S) σ = if x = nI 0 then exec d mX6_idle 10 [l0, l1, l2] S σ else exec d mX6_idle 13 [l0, l1, l2] S σ) ∧
  (∀ (d : Nat) (σ : Sg) (S : List Value) (l0 l1 l2 : Value), exec d mX6_idle 10 [l0, l1, l2] S σ = exec d mX6_idle 12 [l0, l1, l2] (.int ((-1000002)) :: S) σ) ∧
  (∀ (d : Nat) (σ : Sg) (l0 l1 l2 : Value) (x : Int32), exec d mX6_idle 12 [l0, l1, l2] [.int x] σ = some (some (.int x), σ)) ∧
  (∀ (d : Nat) (σ : Sg) (S : List Value) (l0 l2 : Value) (x : Int32), exec d mX6_idle 13 [l0, .int x, l2] S σ = exec d mX6_idle 14 [l0, .int x, l2] (.int x :: S) σ) ∧
  (∀ (d : Nat) (σ : Sg) (S : List Value) (l0 l1 l2 : Value), exec d mX6_idle 14 [l0, l1, l2] S σ = exec d mX6_idle 15 [l0, l1, l2] (.int (nI 1) :: S) σ) ∧
  (∀ (d : Nat) (σ : Sg) (S : List Value) (l0 l1 l2 : Value) (x y : Int32), exec d mX6_idle 15 [l0, l1, l2] (.int y :: .int x :: S) σ = if x < y then exec d mX6_idle 24 [l0, l1, l2] S σ else exec d mX6_idle 18 [l0, l1, l2] S σ) ∧
  (∀ (d : Nat) (σ : Sg) (S : List Value) (l0 l2 : Value) (x : Int32), exec d mX6_idle 18 [l0, .int x, l2] S σ = exec d mX6_idle 19 [l0, .int x, l2] (.int x :: S) σ) ∧
  (∀ (d : Nat) (σ : Sg) (S : List Value) (l0 l1 l2 : Value), exec d mX6_idle 19 [l0, l1, l2] S σ = exec d mX6_idle 21 [l0, l1, l2] (.int (nI 20) :: S) σ) ∧
  (∀ (d : Nat) (σ : Sg) (S : List Value) (l0 l1 l2 : Value) (x y : Int32), exec d mX6_idle 21 [l0, l1, l2] (.int y :: .int x :: S) σ = if x ≤ y then exec d mX6_idle 27 [l0, l1, l2] S σ else exec d mX6_idle 24 [l0, l1, l2] S σ) ∧
  (∀ (d : Nat) (σ : Sg) (S : List Value) (l0 l1 l2 : Value), exec d mX6_idle 24 [l0, l1, l2] S σ = exec d mX6_idle 26 [l0, l1, l2] (.int ((-1000001)) :: S) σ) ∧
  (∀ (d : Nat) (σ : Sg) (l0 l1 l2 : Value) (x : Int32), exec d mX6_idle 26 [l0, l1, l2] [.int x] σ = some (some (.int x), σ)) ∧
  (∀ (d : Nat) (σ : Sg) (S : List Value) (l1 l2 : Value) (k : Nat), exec d mX6_idle 27 [.ref k, l1, l2] S σ = exec d mX6_idle 28 [.ref k, l1, l2] (.ref k :: S) σ) ∧
  (∀ (d : Nat) (σ : Sg) (S : List Value) (l0 l1 l2 : Value), exec d mX6_idle 28 [l0, l1, l2] (.ref 0 :: S) σ = exec d mX6_idle 31 [l0, l1, l2] (.ref 8 :: S) σ) ∧
  (∀ (d : Nat) (σ : Sg) (S : List Value) (l0 l1 l2 : Value), exec d mX6_idle 31 [l0, l1, l2] (.ref 8 :: S) σ = exec d mX6_idle 34 [l0, l1, l2] (.int (σ 8 2) :: S) σ) ∧
  (∀ (d : Nat) (σ : Sg) (S : List Value) (l0 l2 : Value) (x : Int32), exec d mX6_idle 34 [l0, .int x, l2] S σ = exec d mX6_idle 35 [l0, .int x, l2] (.int x :: S) σ) ∧
  (∀ (d : Nat) (σ : Sg) (S : List Value) (l0 l1 l2 : Value) (x y : Int32), exec d mX6_idle 35 [l0, l1, l2] (.int y :: .int x :: S) σ = if y ≤ x then exec d mX6_idle 41 [l0, l1, l2] S σ else exec d mX6_idle 38 [l0, l1, l2] S σ) ∧
  (∀ (d : Nat) (σ : Sg) (S : List Value) (l0 l1 l2 : Value), exec d mX6_idle 38 [l0, l1, l2] S σ = exec d mX6_idle 40 [l0, l1, l2] (.int ((-1000002)) :: S) σ) ∧
  (∀ (d : Nat) (σ : Sg) (l0 l1 l2 : Value) (x : Int32), exec d mX6_idle 40 [l0, l1, l2] [.int x] σ = some (some (.int x), σ)) ∧
  (∀ (d : Nat) (σ : Sg) (S : List Value) (l0 l1 l2 : Value), exec d mX6_idle 41 [l0, l1, l2] S σ = exec d mX6_idle 42 [l0, l1, l2] (.int (nI 0) :: S) σ) ∧
  (∀ (d : Nat) (σ : Sg) (S : List Value) (l0 l2 : Value) (x y : Int32), exec d mX6_idle 42 [l0, .int y, l2] (.int x :: S) σ = exec d mX6_idle 43 [l0, .int y, .int x] S σ) ∧
  (∀ (d : Nat) (σ : Sg) (S : List Value) (l0 l2 : Value) (x : Int32), exec d mX6_idle 44 [l0, .int x, l2] S σ = exec d mX6_idle 45 [l0, .int x, l2] (.int x :: S) σ) ∧
  (∀ (d : Nat) (σ : Sg) (S : List Value) (l0 l1 l2 : Value) (x y : Int32), exec d mX6_idle 45 [l0, l1, l2] (.int y :: .int x :: S) σ = if y ≤ x then exec d mX6_idle 78 [l0, l1, l2] S σ else exec d mX6_idle 48 [l0, l1, l2] S σ) ∧
  (∀ (d : Nat) (σ : Sg) (S : List Value) (l1 l2 : Value) (k : Nat), exec d mX6_idle 48 [.ref k, l1, l2] S σ = exec d mX6_idle 49 [.ref k, l1, l2] (.ref k :: S) σ) ∧
  (∀ (d : Nat) (σ : Sg) (S : List Value) (l0 l1 l2 : Value), exec d mX6_idle 49 [l0, l1, l2] (.ref 0 :: S) σ = exec d mX6_idle 52 [l0, l1, l2] (.ref 44 :: S) σ) ∧
  (∀ (d : Nat) (σ : Sg) (S : List Value) (l1 l2 : Value) (k : Nat), exec d mX6_idle 52 [.ref k, l1, l2] S σ = exec d mX6_idle 53 [.ref k, l1, l2] (.ref k :: S) σ) ∧
  (∀ (d : Nat) (σ : Sg) (S : List Value) (l0 l1 l2 : Value), exec d mX6_idle 53 [l0, l1, l2] (.ref 0 :: S) σ = exec d mX6_idle 56 [l0, l1, l2] (.ref 8 :: S) σ) ∧
  (∀ (d : Nat) (σ : Sg) (l0 l1 l2 : Value), exec d mX6_idle 56 [l0, l1, l2] [.ref 8, .ref 44] σ = kb (cal d mX0_keep [.ref 44, .ref 8] σ) (fun rs σ2 => exec d mX6_idle 59 [l0, l1, l2] (rs ++ []) σ2)) ∧
  (∀ (d : Nat) (σ : Sg) (S : List Value) (l1 l2 : Value) (k : Nat), exec d mX6_idle 59 [.ref k, l1, l2] S σ = exec d mX6_idle 60 [.ref k, l1, l2] (.ref k :: S) σ) ∧
  (∀ (d : Nat) (σ : Sg) (S : List Value) (l0 l1 l2 : Value), exec d mX6_idle 60 [l0, l1, l2] (.ref 0 :: S) σ = exec d mX6_idle 63 [l0, l1, l2] (.ref 8 :: S) σ) ∧
  (∀ (d : Nat) (σ : Sg) (S : List Value) (l0 l1 l2 : Value) (k : Nat), exec d mX6_idle 63 [l0, l1, l2] (.ref k :: S) σ = exec d mX6_idle 64 [l0, l1, l2] (.ref k :: .ref k :: S) σ) ∧
  (∀ (d : Nat) (σ : Sg) (S : List Value) (l0 l1 l2 : Value), exec d mX6_idle 64 [l0, l1, l2] (.ref 8 :: S) σ = exec d mX6_idle 67 [l0, l1, l2] (.int (σ 8 2) :: S) σ) ∧
  (∀ (d : Nat) (σ : Sg) (S : List Value) (l0 l1 l2 : Value), exec d mX6_idle 67 [l0, l1, l2] S σ = exec d mX6_idle 68 [l0, l1, l2] (.int (nI 1) :: S) σ) ∧
  (∀ (d : Nat) (σ : Sg) (S : List Value) (l0 l1 l2 : Value) (x y : Int32), exec d mX6_idle 68 [l0, l1, l2] (.int y :: .int x :: S) σ = exec d mX6_idle 69 [l0, l1, l2] (.int (x - y) :: S) σ) ∧
  (∀ (d : Nat) (σ : Sg) (S : List Value) (l0 l1 l2 : Value) (x : Int32), exec d mX6_idle 69 [l0, l1, l2] (.int x :: .ref 8 :: S) σ = exec d mX6_idle 72 [l0, l1, l2] S (up σ 8 2 x)) ∧
  (∀ (d : Nat) (σ : Sg) (S : List Value) (l0 : Value) (x y : Int32), exec d mX6_idle 72 [l0, .int y, .int x] S σ = exec d mX6_idle 75 [l0, .int y, .int (x + nI 1)] S σ) ∧
  (∀ (d : Nat) (σ : Sg) (S : List Value) (l0 l1 l2 : Value), exec d mX6_idle 75 [l0, l1, l2] S σ = exec d mX6_idle 43 [l0, l1, l2] S σ) ∧
  (∀ (d : Nat) (σ : Sg) (S : List Value) (l1 l2 : Value) (k : Nat), exec d mX6_idle 78 [.ref k, l1, l2] S σ = exec d mX6_idle 79 [.ref k, l1, l2] (.ref k :: S) σ) :=
  ⟨fun d σ S l1 l2 k => ex_aload_n (show decode mX6_idle.2.1 0 = .ok (.aload_n 0, 1) by decide +kernel) rfl,
  fun d σ S l0 l1 l2 => ex_getr (idx := 26) (ci := 6) (ff := 2) (n := 11) (hh := 348) (by decide +kernel),
  fun d σ S l0 l1 l2 => ex_get (idx := 176) (ci := 5) (ff := 0) (n := 17) (hh := 182) (by decide +kernel),
  fun d σ S l0 l1 l2 x => ex_zne (show decode mX6_idle.2.1 7 = .ok (.ifCond .ne 6, 3) by decide +kernel) (by decide),
  fun d σ S l0 l1 l2 => ex_ldc (hh := 519) (show decode mX6_idle.2.1 10 = .ok (.ldc 134, 2) by decide +kernel) (by decide +kernel),
  fun d σ l0 l1 l2 x => ex_iret (show decode mX6_idle.2.1 12 = .ok (.ireturn, 1) by decide +kernel) rfl,
  fun d σ S l0 l2 x => ex_iload_n (show decode mX6_idle.2.1 13 = .ok (.iload_n 1, 1) by decide +kernel) rfl,
  fun d σ S l0 l1 l2 => ex_iconst (show decode mX6_idle.2.1 14 = .ok (.iconst 1, 1) by decide +kernel) (by decide +kernel),
  fun d σ S l0 l1 l2 x y => ex_clt (show decode mX6_idle.2.1 15 = .ok (.if_icmp .lt 9, 3) by decide +kernel) (by decide),
  fun d σ S l0 l2 x => ex_iload_n (show decode mX6_idle.2.1 18 = .ok (.iload_n 1, 1) by decide +kernel) rfl,
  fun d σ S l0 l1 l2 => ex_bipush (show decode mX6_idle.2.1 19 = .ok (.bipush 20, 2) by decide +kernel) (by decide +kernel),
  fun d σ S l0 l1 l2 x y => ex_cle (show decode mX6_idle.2.1 21 = .ok (.if_icmp .le 6, 3) by decide +kernel) (by decide),
  fun d σ S l0 l1 l2 => ex_ldc (hh := 387) (show decode mX6_idle.2.1 24 = .ok (.ldc 64, 2) by decide +kernel) (by decide +kernel),
  fun d σ l0 l1 l2 x => ex_iret (show decode mX6_idle.2.1 26 = .ok (.ireturn, 1) by decide +kernel) rfl,
  fun d σ S l1 l2 k => ex_aload_n (show decode mX6_idle.2.1 27 = .ok (.aload_n 0, 1) by decide +kernel) rfl,
  fun d σ S l0 l1 l2 => ex_getr (idx := 26) (ci := 6) (ff := 2) (n := 11) (hh := 348) (by decide +kernel),
  fun d σ S l0 l1 l2 => ex_get (idx := 158) (ci := 5) (ff := 2) (n := 17) (hh := 192) (by decide +kernel),
  fun d σ S l0 l2 x => ex_iload_n (show decode mX6_idle.2.1 34 = .ok (.iload_n 1, 1) by decide +kernel) rfl,
  fun d σ S l0 l1 l2 x y => ex_cge (show decode mX6_idle.2.1 35 = .ok (.if_icmp .ge 6, 3) by decide +kernel) (by decide),
  fun d σ S l0 l1 l2 => ex_ldc (hh := 519) (show decode mX6_idle.2.1 38 = .ok (.ldc 134, 2) by decide +kernel) (by decide +kernel),
  fun d σ l0 l1 l2 x => ex_iret (show decode mX6_idle.2.1 40 = .ok (.ireturn, 1) by decide +kernel) rfl,
  fun d σ S l0 l1 l2 => ex_iconst (show decode mX6_idle.2.1 41 = .ok (.iconst 0, 1) by decide +kernel) (by decide +kernel),
  fun d σ S l0 l2 x y => ex_istore_n (show decode mX6_idle.2.1 42 = .ok (.istore_n 2, 1) by decide +kernel) (Nat.le_of_ble_eq_true rfl) rfl,
  fun d σ S l0 l2 x => ex_iload_n (show decode mX6_idle.2.1 44 = .ok (.iload_n 1, 1) by decide +kernel) rfl,
  fun d σ S l0 l1 l2 x y => ex_cge (show decode mX6_idle.2.1 45 = .ok (.if_icmp .ge 33, 3) by decide +kernel) (by decide),
  fun d σ S l1 l2 k => ex_aload_n (show decode mX6_idle.2.1 48 = .ok (.aload_n 0, 1) by decide +kernel) rfl,
  fun d σ S l0 l1 l2 => ex_getr (idx := 42) (ci := 6) (ff := 6) (n := 11) (hh := 352) (by decide +kernel),
  fun d σ S l1 l2 k => ex_aload_n (show decode mX6_idle.2.1 52 = .ok (.aload_n 0, 1) by decide +kernel) rfl,
  fun d σ S l0 l1 l2 => ex_getr (idx := 26) (ci := 6) (ff := 2) (n := 11) (hh := 348) (by decide +kernel),
  fun d σ l0 l1 l2 => ex_iv (hs := [546, 548, 26, 549, 98]) (show decode mX6_idle.2.1 56 = .ok (.invokevirtual 145, 3) by decide +kernel) lkV_6_145 ⟨rfl, Nat.le_of_ble_eq_true rfl, Nat.le_of_ble_eq_true rfl, fun _ => rfl⟩ rfl rfl,
  fun d σ S l1 l2 k => ex_aload_n (show decode mX6_idle.2.1 59 = .ok (.aload_n 0, 1) by decide +kernel) rfl,
  fun d σ S l0 l1 l2 => ex_getr (idx := 26) (ci := 6) (ff := 2) (n := 11) (hh := 348) (by decide +kernel),
  fun d σ S l0 l1 l2 k => ex_dup (show decode mX6_idle.2.1 63 = .ok (.dup, 1) by decide +kernel) rfl,
  fun d σ S l0 l1 l2 => ex_get (idx := 158) (ci := 5) (ff := 2) (n := 17) (hh := 192) (by decide +kernel),
  fun d σ S l0 l1 l2 => ex_iconst (show decode mX6_idle.2.1 67 = .ok (.iconst 1, 1) by decide +kernel) (by decide +kernel),
  fun d σ S l0 l1 l2 x y => ex_isub (show decode mX6_idle.2.1 68 = .ok (.isub, 1) by decide +kernel),
  fun d σ S l0 l1 l2 x => ex_put (idx := 158) (ci := 5) (ff := 2) (n := 17) (hh := 192) (by decide +kernel),
  fun d σ S l0 x y => ex_iinc (show decode mX6_idle.2.1 72 = .ok (.iinc 2 1, 3) by decide +kernel) rfl (by decide +kernel) (Nat.le_of_ble_eq_true rfl) rfl,
  fun d σ S l0 l1 l2 => ex_goto (show decode mX6_idle.2.1 75 = .ok (.goto (-32), 3) by decide +kernel) (by decide),
  fun d σ S l1 l2 k => ex_aload_n (show decode mX6_idle.2.1 78 = .ok (.aload_n 0, 1) by decide +kernel) rfl⟩
theorem kX6_idle_1 : (∀ (d : Nat) (σ : Sg) (S : List Value) (l0 l1 l2 : Value), exec d mX6_idle 79 [l0, l1, l2] (.ref 0 :: S) σ = exec d mX6_idle 82 [l0, l1, l2] (.ref 8 :: S) σ) ∧
  (∀ (d : Nat) (σ : Sg) (S : List Value) (l0 l1 l2 : Value), exec d mX6_idle 82 [l0, l1, l2] (.ref 8 :: S) σ = exec d mX6_idle 85 [l0, l1, l2] (.int (σ 8 2) :: S) σ) ∧
  (∀ (d : Nat) (σ : Sg) (l0 l1 l2 : Value) (x : Int32), exec d mX6_idle 85 [l0, l1, l2] [.int x] σ = some (some (.int x), σ)) :=
  ⟨fun d σ S l0 l1 l2 => ex_getr (idx := 26) (ci := 6) (ff := 2) (n := 11) (hh := 348) (by decide +kernel),
  fun d σ S l0 l1 l2 => ex_get (idx := 158) (ci := 5) (ff := 2) (n := 17) (hh := 192) (by decide +kernel),
  fun d σ l0 l1 l2 x => ex_iret (show decode mX6_idle.2.1 85 = .ok (.ireturn, 1) by decide +kernel) rfl⟩
theorem hX6_idle_43 : ∀ (d : Nat) (σ : Sg) (S : List Value) (l0 l1 : Value) (x : Int32), exec d mX6_idle 43 [l0, l1, .int x] S σ = exec d mX6_idle 44 [l0, l1, .int x] (.int x :: S) σ := fun d σ S l0 l1 x => ex_iload_n (show decode mX6_idle.2.1 43 = .ok (.iload_n 2, 1) by decide +kernel) rfl
theorem aX6_idle_0 : ∀ (d : Nat) (a1 : Int32) (σ : Sg), cal (d + 1) mX6_idle [.ref 0, .int a1] σ = exec d mX6_idle 0 [.ref 0, .int a1, uu] [] σ := fun _ _ _ => rfl
theorem kX6_lesson_0 : (∀ (d : Nat) (σ : Sg) (S : List Value) (k : Nat), exec d mX6_lesson 0 [.ref k] S σ = exec d mX6_lesson 1 [.ref k] (.ref k :: S) σ) ∧
  (∀ (d : Nat) (σ : Sg) (S : List Value) (l0 : Value), exec d mX6_lesson 1 [l0] (.ref 0 :: S) σ = exec d mX6_lesson 4 [l0] (.ref 8 :: S) σ) ∧
  (∀ (d : Nat) (σ : Sg) (S : List Value) (l0 : Value), exec d mX6_lesson 4 [l0] (.ref 8 :: S) σ = exec d mX6_lesson 7 [l0] (.int (σ 8 0) :: S) σ) ∧
  (∀ (d : Nat) (σ : Sg) (S : List Value) (l0 : Value) (x : Int32), exec d mX6_lesson 7 [l0] (.int x :: S) σ = if x = nI 0 then exec d mX6_lesson 44 [l0] S σ else exec d mX6_lesson 10 [l0] S σ) ∧
  (∀ (d : Nat) (σ : Sg) (S : List Value) (k : Nat), exec d mX6_lesson 10 [.ref k] S σ = exec d mX6_lesson 11 [.ref k] (.ref k :: S) σ) ∧
  (∀ (d : Nat) (σ : Sg) (S : List Value) (l0 : Value), exec d mX6_lesson 11 [l0] (.ref 0 :: S) σ = exec d mX6_lesson 14 [l0] (.ref 8 :: S) σ) ∧
  (∀ (d : Nat) (σ : Sg) (S : List Value) (l0 : Value), exec d mX6_lesson 14 [l0] (.ref 8 :: S) σ = exec d mX6_lesson 17 [l0] (.int (σ 8 3) :: S) σ) ∧
  (∀ (d : Nat) (σ : Sg) (S : List Value) (l0 : Value), exec d mX6_lesson 17 [l0] S σ = exec d mX6_lesson 18 [l0] (.int (nI 3) :: S) σ) ∧
  (∀ (d : Nat) (σ : Sg) (S : List Value) (l0 : Value) (x y : Int32), exec d mX6_lesson 18 [l0] (.int y :: .int x :: S) σ = if x < y then exec d mX6_lesson 44 [l0] S σ else exec d mX6_lesson 21 [l0] S σ) ∧
  (∀ (d : Nat) (σ : Sg) (S : List Value) (k : Nat), exec d mX6_lesson 21 [.ref k] S σ = exec d mX6_lesson 22 [.ref k] (.ref k :: S) σ) ∧
  (∀ (d : Nat) (σ : Sg) (S : List Value) (l0 : Value), exec d mX6_lesson 22 [l0] (.ref 0 :: S) σ = exec d mX6_lesson 25 [l0] (.ref 8 :: S) σ) ∧
  (∀ (d : Nat) (σ : Sg) (S : List Value) (l0 : Value), exec d mX6_lesson 25 [l0] (.ref 8 :: S) σ = exec d mX6_lesson 28 [l0] (.int (σ 8 2) :: S) σ) ∧
  (∀ (d : Nat) (σ : Sg) (S : List Value) (l0 : Value), exec d mX6_lesson 28 [l0] S σ = exec d mX6_lesson 29 [l0] (.int (nI 1) :: S) σ) ∧
  (∀ (d : Nat) (σ : Sg) (S : List Value) (l0 : Value) (x y : Int32), exec d mX6_lesson 29 [l0] (.int y :: .int x :: S) σ = if x < y then exec d mX6_lesson 44 [l0] S σ else exec d mX6_lesson 32 [l0] S σ) ∧
  (∀ (d : Nat) (σ : Sg) (S : List Value) (k : Nat), exec d mX6_lesson 32 [.ref k] S σ = exec d mX6_lesson 33 [.ref k] (.ref k :: S) σ) ∧
  (∀ (d : Nat) (σ : Sg) (S : List Value) (l0 : Value), exec d mX6_lesson 33 [l0] (.ref 0 :: S) σ = exec d mX6_lesson 36 [l0] (.ref 8 :: S) σ) ∧
  (∀ (d : Nat) (σ : Sg) (S : List Value) (l0 : Value), exec d mX6_lesson 36 [l0] (.ref 8 :: S) σ = exec d mX6_lesson 39 [l0] (.int (σ 8 1) :: S) σ) ∧
  (∀ (d : Nat) (σ : Sg) (S : List Value) (l0 : Value), exec d mX6_lesson 39 [l0] S σ = exec d mX6_lesson 41 [l0] (.int (nI 20) :: S) σ) ∧
  (∀ (d : Nat) (σ : Sg) (S : List Value) (l0 : Value) (x y : Int32), exec d mX6_lesson 41 [l0] (.int y :: .int x :: S) σ = if x < y then exec d mX6_lesson 47 [l0] S σ else exec d mX6_lesson 44 [l0] S σ) ∧
  (∀ (d : Nat) (σ : Sg) (S : List Value) (l0 : Value), exec d mX6_lesson 44 [l0] S σ = exec d mX6_lesson 46 [l0] (.int ((-1000002)) :: S) σ) ∧
  (∀ (d : Nat) (σ : Sg) (l0 : Value) (x : Int32), exec d mX6_lesson 46 [l0] [.int x] σ = some (some (.int x), σ)) ∧
  (∀ (d : Nat) (σ : Sg) (S : List Value) (k : Nat), exec d mX6_lesson 47 [.ref k] S σ = exec d mX6_lesson 48 [.ref k] (.ref k :: S) σ) ∧
  (∀ (d : Nat) (σ : Sg) (S : List Value) (l0 : Value), exec d mX6_lesson 48 [l0] (.ref 0 :: S) σ = exec d mX6_lesson 51 [l0] (.ref 44 :: S) σ) ∧
  (∀ (d : Nat) (σ : Sg) (S : List Value) (k : Nat), exec d mX6_lesson 51 [.ref k] S σ = exec d mX6_lesson 52 [.ref k] (.ref k :: S) σ) ∧
  (∀ (d : Nat) (σ : Sg) (S : List Value) (l0 : Value), exec d mX6_lesson 52 [l0] (.ref 0 :: S) σ = exec d mX6_lesson 55 [l0] (.ref 8 :: S) σ) ∧
  (∀ (d : Nat) (σ : Sg) (l0 : Value), exec d mX6_lesson 55 [l0] [.ref 8, .ref 44] σ = kb (cal d mX0_keep [.ref 44, .ref 8] σ) (fun rs σ2 => exec d mX6_lesson 58 [l0] (rs ++ []) σ2)) ∧
  (∀ (d : Nat) (σ : Sg) (S : List Value) (k : Nat), exec d mX6_lesson 58 [.ref k] S σ = exec d mX6_lesson 59 [.ref k] (.ref k :: S) σ) ∧
  (∀ (d : Nat) (σ : Sg) (S : List Value) (l0 : Value), exec d mX6_lesson 59 [l0] (.ref 0 :: S) σ = exec d mX6_lesson 62 [l0] (.ref 8 :: S) σ) ∧
  (∀ (d : Nat) (σ : Sg) (S : List Value) (l0 : Value) (k : Nat), exec d mX6_lesson 62 [l0] (.ref k :: S) σ = exec d mX6_lesson 63 [l0] (.ref k :: .ref k :: S) σ) ∧
  (∀ (d : Nat) (σ : Sg) (S : List Value) (l0 : Value), exec d mX6_lesson 63 [l0] (.ref 8 :: S) σ = exec d mX6_lesson 66 [l0] (.int (σ 8 3) :: S) σ) ∧
  (∀ (d : Nat) (σ : Sg) (S : List Value) (l0 : Value), exec d mX6_lesson 66 [l0] S σ = exec d mX6_lesson 67 [l0] (.int (nI 3) :: S) σ) ∧
  (∀ (d : Nat) (σ : Sg) (S : List Value) (l0 : Value) (x y : Int32), exec d mX6_lesson 67 [l0] (.int y :: .int x :: S) σ = exec d mX6_lesson 68 [l0] (.int (x - y) :: S) σ) ∧
  (∀ (d : Nat) (σ : Sg) (S : List Value) (l0 : Value) (x : Int32), exec d mX6_lesson 68 [l0] (.int x :: .ref 8 :: S) σ = exec d mX6_lesson 71 [l0] S (up σ 8 3 x)) ∧
  (∀ (d : Nat) (σ : Sg) (S : List Value) (k : Nat), exec d mX6_lesson 71 [.ref k] S σ = exec d mX6_lesson 72 [.ref k] (.ref k :: S) σ) ∧
  (∀ (d : Nat) (σ : Sg) (S : List Value) (l0 : Value), exec d mX6_lesson 72 [l0] (.ref 0 :: S) σ = exec d mX6_lesson 75 [l0] (.ref 8 :: S) σ) ∧
  (∀ (d : Nat) (σ : Sg) (S : List Value) (l0 : Value) (k : Nat), exec d mX6_lesson 75 [l0] (.ref k :: S) σ = exec d mX6_lesson 76 [l0] (.ref k :: .ref k :: S) σ) ∧
  (∀ (d : Nat) (σ : Sg) (S : List Value) (l0 : Value), exec d mX6_lesson 76 [l0] (.ref 8 :: S) σ = exec d mX6_lesson 79 [l0] (.int (σ 8 2) :: S) σ) ∧
  (∀ (d : Nat) (σ : Sg) (S : List Value) (l0 : Value), exec d mX6_lesson 79 [l0] S σ = exec d mX6_lesson 80 [l0] (.int (nI 1) :: S) σ) ∧
  (∀ (d : Nat) (σ : Sg) (S : List Value) (l0 : Value) (x y : Int32), exec d mX6_lesson 80 [l0] (.int y :: .int x :: S) σ = exec d mX6_lesson 81 [l0] (.int (x - y) :: S) σ) ∧
  (∀ (d : Nat) (σ : Sg) (S : List Value) (l0 : Value) (x : Int32), exec d mX6_lesson 81 [l0] (.int x :: .ref 8 :: S) σ = exec d mX6_lesson 84 [l0] S (up σ 8 2 x)) :=
  ⟨fun d σ S k => ex_aload_n (show decode mX6_lesson.2.1 0 = .ok (.aload_n 0, 1) by decide +kernel) rfl,
  fun d σ S l0 => ex_getr (idx := 26) (ci := 6) (ff := 2) (n := 11) (hh := 348) (by decide +kernel),
  fun d σ S l0 => ex_get (idx := 176) (ci := 5) (ff := 0) (n := 17) (hh := 182) (by decide +kernel),
  fun d σ S l0 x => ex_zeq (show decode mX6_lesson.2.1 7 = .ok (.ifCond .eq 37, 3) by decide +kernel) (by decide),
  fun d σ S k => ex_aload_n (show decode mX6_lesson.2.1 10 = .ok (.aload_n 0, 1) by decide +kernel) rfl,
  fun d σ S l0 => ex_getr (idx := 26) (ci := 6) (ff := 2) (n := 11) (hh := 348) (by decide +kernel),
  fun d σ S l0 => ex_get (idx := 170) (ci := 5) (ff := 3) (n := 17) (hh := 197) (by decide +kernel),
  fun d σ S l0 => ex_iconst (show decode mX6_lesson.2.1 17 = .ok (.iconst 3, 1) by decide +kernel) (by decide +kernel),
  fun d σ S l0 x y => ex_clt (show decode mX6_lesson.2.1 18 = .ok (.if_icmp .lt 26, 3) by decide +kernel) (by decide),
  fun d σ S k => ex_aload_n (show decode mX6_lesson.2.1 21 = .ok (.aload_n 0, 1) by decide +kernel) rfl,
  fun d σ S l0 => ex_getr (idx := 26) (ci := 6) (ff := 2) (n := 11) (hh := 348) (by decide +kernel),
  fun d σ S l0 => ex_get (idx := 158) (ci := 5) (ff := 2) (n := 17) (hh := 192) (by decide +kernel),
  fun d σ S l0 => ex_iconst (show decode mX6_lesson.2.1 28 = .ok (.iconst 1, 1) by decide +kernel) (by decide +kernel),
  fun d σ S l0 x y => ex_clt (show decode mX6_lesson.2.1 29 = .ok (.if_icmp .lt 15, 3) by decide +kernel) (by decide),
  fun d σ S k => ex_aload_n (show decode mX6_lesson.2.1 32 = .ok (.aload_n 0, 1) by decide +kernel) rfl,
  fun d σ S l0 => ex_getr (idx := 26) (ci := 6) (ff := 2) (n := 11) (hh := 348) (by decide +kernel),
  fun d σ S l0 => ex_get (idx := 180) (ci := 5) (ff := 1) (n := 17) (hh := 187) (by decide +kernel),
  fun d σ S l0 => ex_bipush (show decode mX6_lesson.2.1 39 = .ok (.bipush 20, 2) by decide +kernel) (by decide +kernel),
  fun d σ S l0 x y => ex_clt (show decode mX6_lesson.2.1 41 = .ok (.if_icmp .lt 6, 3) by decide +kernel) (by decide),
  fun d σ S l0 => ex_ldc (hh := 519) (show decode mX6_lesson.2.1 44 = .ok (.ldc 134, 2) by decide +kernel) (by decide +kernel),
  fun d σ l0 x => ex_iret (show decode mX6_lesson.2.1 46 = .ok (.ireturn, 1) by decide +kernel) rfl,
  fun d σ S k => ex_aload_n (show decode mX6_lesson.2.1 47 = .ok (.aload_n 0, 1) by decide +kernel) rfl,
  fun d σ S l0 => ex_getr (idx := 42) (ci := 6) (ff := 6) (n := 11) (hh := 352) (by decide +kernel),
  fun d σ S k => ex_aload_n (show decode mX6_lesson.2.1 51 = .ok (.aload_n 0, 1) by decide +kernel) rfl,
  fun d σ S l0 => ex_getr (idx := 26) (ci := 6) (ff := 2) (n := 11) (hh := 348) (by decide +kernel),
  fun d σ l0 => ex_iv (hs := [546, 548, 26, 549, 98]) (show decode mX6_lesson.2.1 55 = .ok (.invokevirtual 145, 3) by decide +kernel) lkV_6_145 ⟨rfl, Nat.le_of_ble_eq_true rfl, Nat.le_of_ble_eq_true rfl, fun _ => rfl⟩ rfl rfl,
  fun d σ S k => ex_aload_n (show decode mX6_lesson.2.1 58 = .ok (.aload_n 0, 1) by decide +kernel) rfl,
  fun d σ S l0 => ex_getr (idx := 26) (ci := 6) (ff := 2) (n := 11) (hh := 348) (by decide +kernel),
  fun d σ S l0 k => ex_dup (show decode mX6_lesson.2.1 62 = .ok (.dup, 1) by decide +kernel) rfl,
  fun d σ S l0 => ex_get (idx := 170) (ci := 5) (ff := 3) (n := 17) (hh := 197) (by decide +kernel),
  fun d σ S l0 => ex_iconst (show decode mX6_lesson.2.1 66 = .ok (.iconst 3, 1) by decide +kernel) (by decide +kernel),
  fun d σ S l0 x y => ex_isub (show decode mX6_lesson.2.1 67 = .ok (.isub, 1) by decide +kernel),
  fun d σ S l0 x => ex_put (idx := 170) (ci := 5) (ff := 3) (n := 17) (hh := 197) (by decide +kernel),
  fun d σ S k => ex_aload_n (show decode mX6_lesson.2.1 71 = .ok (.aload_n 0, 1) by decide +kernel) rfl,
  fun d σ S l0 => ex_getr (idx := 26) (ci := 6) (ff := 2) (n := 11) (hh := 348) (by decide +kernel),
  fun d σ S l0 k => ex_dup (show decode mX6_lesson.2.1 75 = .ok (.dup, 1) by decide +kernel) rfl,
  fun d σ S l0 => ex_get (idx := 158) (ci := 5) (ff := 2) (n := 17) (hh := 192) (by decide +kernel),
  fun d σ S l0 => ex_iconst (show decode mX6_lesson.2.1 79 = .ok (.iconst 1, 1) by decide +kernel) (by decide +kernel),
  fun d σ S l0 x y => ex_isub (show decode mX6_lesson.2.1 80 = .ok (.isub, 1) by decide +kernel),
  fun d σ S l0 x => ex_put (idx := 158) (ci := 5) (ff := 2) (n := 17) (hh := 192) (by decide +kernel)⟩
theorem kX6_lesson_1 : (∀ (d : Nat) (σ : Sg) (S : List Value) (k : Nat), exec d mX6_lesson 84 [.ref k] S σ = exec d mX6_lesson 85 [.ref k] (.ref k :: S) σ) ∧
  (∀ (d : Nat) (σ : Sg) (S : List Value) (l0 : Value), exec d mX6_lesson 85 [l0] (.ref 0 :: S) σ = exec d mX6_lesson 88 [l0] (.ref 8 :: S) σ) ∧
  (∀ (d : Nat) (σ : Sg) (S : List Value) (l0 : Value) (k : Nat), exec d mX6_lesson 88 [l0] (.ref k :: S) σ = exec d mX6_lesson 89 [l0] (.ref k :: .ref k :: S) σ) ∧
  (∀ (d : Nat) (σ : Sg) (S : List Value) (l0 : Value), exec d mX6_lesson 89 [l0] (.ref 8 :: S) σ = exec d mX6_lesson 92 [l0] (.int (σ 8 1) :: S) σ) ∧
  (∀ (d : Nat) (σ : Sg) (S : List Value) (l0 : Value), exec d mX6_lesson 92 [l0] S σ = exec d mX6_lesson 93 [l0] (.int (nI 1) :: S) σ) ∧
  (∀ (d : Nat) (σ : Sg) (S : List Value) (l0 : Value) (x y : Int32), exec d mX6_lesson 93 [l0] (.int y :: .int x :: S) σ = exec d mX6_lesson 94 [l0] (.int (x + y) :: S) σ) ∧
  (∀ (d : Nat) (σ : Sg) (S : List Value) (l0 : Value) (x : Int32), exec d mX6_lesson 94 [l0] (.int x :: .ref 8 :: S) σ = exec d mX6_lesson 97 [l0] S (up σ 8 1 x)) ∧
  (∀ (d : Nat) (σ : Sg) (S : List Value) (k : Nat), exec d mX6_lesson 97 [.ref k] S σ = exec d mX6_lesson 98 [.ref k] (.ref k :: S) σ) ∧
  (∀ (d : Nat) (σ : Sg) (S : List Value) (l0 : Value), exec d mX6_lesson 98 [l0] (.ref 0 :: S) σ = exec d mX6_lesson 101 [l0] (.ref 8 :: S) σ) ∧
  (∀ (d : Nat) (σ : Sg) (S : List Value) (l0 : Value), exec d mX6_lesson 101 [l0] (.ref 8 :: S) σ = exec d mX6_lesson 104 [l0] (.int (σ 8 1) :: S) σ) ∧
  (∀ (d : Nat) (σ : Sg) (l0 : Value) (x : Int32), exec d mX6_lesson 104 [l0] [.int x] σ = some (some (.int x), σ)) :=
  ⟨fun d σ S k => ex_aload_n (show decode mX6_lesson.2.1 84 = .ok (.aload_n 0, 1) by decide +kernel) rfl,
  fun d σ S l0 => ex_getr (idx := 26) (ci := 6) (ff := 2) (n := 11) (hh := 348) (by decide +kernel),
  fun d σ S l0 k => ex_dup (show decode mX6_lesson.2.1 88 = .ok (.dup, 1) by decide +kernel) rfl,
  fun d σ S l0 => ex_get (idx := 180) (ci := 5) (ff := 1) (n := 17) (hh := 187) (by decide +kernel),
  fun d σ S l0 => ex_iconst (show decode mX6_lesson.2.1 92 = .ok (.iconst 1, 1) by decide +kernel) (by decide +kernel),
  fun d σ S l0 x y => ex_iadd (show decode mX6_lesson.2.1 93 = .ok (.iadd, 1) by decide +kernel),
  fun d σ S l0 x => ex_put (idx := 180) (ci := 5) (ff := 1) (n := 17) (hh := 187) (by decide +kernel),
  fun d σ S k => ex_aload_n (show decode mX6_lesson.2.1 97 = .ok (.aload_n 0, 1) by decide +kernel) rfl,
  fun d σ S l0 => ex_getr (idx := 26) (ci := 6) (ff := 2) (n := 11) (hh := 348) (by decide +kernel),
  fun d σ S l0 => ex_get (idx := 180) (ci := 5) (ff := 1) (n := 17) (hh := 187) (by decide +kernel),
  fun d σ l0 x => ex_iret (show decode mX6_lesson.2.1 104 = .ok (.ireturn, 1) by decide +kernel) rfl⟩
theorem aX6_lesson_0 : ∀ (d : Nat)  (σ : Sg), cal (d + 1) mX6_lesson [.ref 0] σ = exec d mX6_lesson 0 [.ref 0] [] σ := fun _ _ => rfl
theorem kX6_part_0 : (∀ (d : Nat) (σ : Sg) (S : List Value) (l1 l2 : Value) (k : Nat), exec d mX6_part 0 [.ref k, l1, l2] S σ = exec d mX6_part 1 [.ref k, l1, l2] (.ref k :: S) σ) ∧
  (∀ (d : Nat) (σ : Sg) (S : List Value) (l0 l2 : Value) (x : Int32), exec d mX6_part 1 [l0, .int x, l2] S σ = exec d mX6_part 2 [l0, .int x, l2] (.int x :: S) σ) ∧
  (∀ (d : Nat) (σ : Sg) (l0 l1 l2 : Value) (x0 : Int32), exec d mX6_part 2 [l0, l1, l2] [.int x0, .ref 0] σ = kb (cal d mX6_isPart [.ref 0, .int x0] σ) (fun rs σ2 => exec d mX6_part 5 [l0, l1, l2] (rs ++ []) σ2)) ∧
  (∀ (d : Nat) (σ : Sg) (S : List Value) (l0 l1 l2 : Value) (x : Int32), exec d mX6_part 5 [l0, l1, l2] (.int x :: S) σ = if x = nI 0 then exec d mX6_part 8 [l0, l1, l2] S σ else exec d mX6_part 11 [l0, l1, l2] S σ) ∧
  (∀ (d : Nat) (σ : Sg) (S : List Value) (l0 l1 l2 : Value), exec d mX6_part 8 [l0, l1, l2] S σ = exec d mX6_part 10 [l0, l1, l2] (.int ((-1000001)) :: S) σ) ∧
  (∀ (d : Nat) (σ : Sg) (l0 l1 l2 : Value) (x : Int32), exec d mX6_part 10 [l0, l1, l2] [.int x] σ = some (some (.int x), σ)) ∧
  (∀ (d : Nat) (σ : Sg) (S : List Value) (l0 l1 : Value) (x : Int32), exec d mX6_part 11 [l0, l1, .int x] S σ = exec d mX6_part 12 [l0, l1, .int x] (.int x :: S) σ) ∧
  (∀ (d : Nat) (σ : Sg) (S : List Value) (l0 l1 l2 : Value) (x : Int32), exec d mX6_part 12 [l0, l1, l2] (.int x :: S) σ = (if x = nI 0 then exec d mX6_part 60 [l0, l1, l2] S σ else (if x = nI 1 then exec d mX6_part 70 [l0, l1, l2] S σ else (if x = nI 2 then exec d mX6_part 80 [l0, l1, l2] S σ else (if x = nI 3 then exec d mX6_part 109 [l0, l1, l2] S σ else (if x = nI 4 then exec d mX6_part 121 [l0, l1, l2] S σ else (if x = nI 5 then exec d mX6_part 133 [l0, l1, l2] S σ else (if x = nI 6 then exec d mX6_part 171 [l0, l1, l2] S σ else (if x = nI 7 then exec d mX6_part 208 [l0, l1, l2] S σ else exec d mX6_part 225 [l0, l1, l2] S σ))))))))) ∧
  (∀ (d : Nat) (σ : Sg) (S : List Value) (l1 l2 : Value) (k : Nat), exec d mX6_part 60 [.ref k, l1, l2] S σ = exec d mX6_part 61 [.ref k, l1, l2] (.ref k :: S) σ) ∧
  (∀ (d : Nat) (σ : Sg) (S : List Value) (l0 l1 l2 : Value), exec d mX6_part 61 [l0, l1, l2] (.ref 0 :: S) σ = exec d mX6_part 64 [l0, l1, l2] (.ref 8 :: S) σ) ∧
  (∀ (d : Nat) (σ : Sg) (S : List Value) (l0 l1 l2 : Value), exec d mX6_part 64 [l0, l1, l2] (.ref 8 :: S) σ = exec d mX6_part 67 [l0, l1, l2] (.ref 10 :: S) σ) ∧
  (∀ (d : Nat) (σ : Sg) (S : List Value) (l0 l2 : Value) (x : Int32), exec d mX6_part 67 [l0, .int x, l2] S σ = exec d mX6_part 68 [l0, .int x, l2] (.int x :: S) σ) ∧
  (∀ (d : Nat) (σ : Sg) (S : List Value) (l0 l1 l2 : Value) (x : Int32), exec d mX6_part 68 [l0, l1, l2] (.int x :: .ref 10 :: S) σ = if inb x 7 = true then exec d mX6_part 69 [l0, l1, l2] (.int (σ 10 x.toNatClampNeg) :: S) σ else none) ∧
  (∀ (d : Nat) (σ : Sg) (l0 l1 l2 : Value) (x : Int32), exec d mX6_part 69 [l0, l1, l2] [.int x] σ = some (some (.int x), σ)) ∧
  (∀ (d : Nat) (σ : Sg) (S : List Value) (l1 l2 : Value) (k : Nat), exec d mX6_part 70 [.ref k, l1, l2] S σ = exec d mX6_part 71 [.ref k, l1, l2] (.ref k :: S) σ) ∧
  (∀ (d : Nat) (σ : Sg) (S : List Value) (l0 l1 l2 : Value), exec d mX6_part 71 [l0, l1, l2] (.ref 0 :: S) σ = exec d mX6_part 74 [l0, l1, l2] (.ref 8 :: S) σ) ∧
  (∀ (d : Nat) (σ : Sg) (S : List Value) (l0 l1 l2 : Value), exec d mX6_part 74 [l0, l1, l2] (.ref 8 :: S) σ = exec d mX6_part 77 [l0, l1, l2] (.ref 11 :: S) σ) ∧
  (∀ (d : Nat) (σ : Sg) (S : List Value) (l0 l2 : Value) (x : Int32), exec d mX6_part 77 [l0, .int x, l2] S σ = exec d mX6_part 78 [l0, .int x, l2] (.int x :: S) σ) ∧
  (∀ (d : Nat) (σ : Sg) (S : List Value) (l0 l1 l2 : Value) (x : Int32), exec d mX6_part 78 [l0, l1, l2] (.int x :: .ref 11 :: S) σ = if inb x 7 = true then exec d mX6_part 79 [l0, l1, l2] (.int (σ 11 x.toNatClampNeg) :: S) σ else none) ∧
  (∀ (d : Nat) (σ : Sg) (l0 l1 l2 : Value) (x : Int32), exec d mX6_part 79 [l0, l1, l2] [.int x] σ = some (some (.int x), σ)) ∧
  (∀ (d : Nat) (σ : Sg) (S : List Value) (l1 l2 : Value) (k : Nat), exec d mX6_part 80 [.ref k, l1, l2] S σ = exec d mX6_part 81 [.ref k, l1, l2] (.ref k :: S) σ) ∧
  (∀ (d : Nat) (σ : Sg) (S : List Value) (l0 l1 l2 : Value), exec d mX6_part 81 [l0, l1, l2] (.ref 0 :: S) σ = exec d mX6_part 84 [l0, l1, l2] (.ref 8 :: S) σ) ∧
  (∀ (d : Nat) (σ : Sg) (S : List Value) (l0 l1 l2 : Value), exec d mX6_part 84 [l0, l1, l2] (.ref 8 :: S) σ = exec d mX6_part 87 [l0, l1, l2] (.ref 12 :: S) σ) ∧
  (∀ (d : Nat) (σ : Sg) (S : List Value) (l0 l2 : Value) (x : Int32), exec d mX6_part 87 [l0, .int x, l2] S σ = exec d mX6_part 88 [l0, .int x, l2] (.int x :: S) σ) ∧
  (∀ (d : Nat) (σ : Sg) (S : List Value) (l0 l1 l2 : Value) (x : Int32), exec d mX6_part 88 [l0, l1, l2] (.int x :: .ref 12 :: S) σ = if inb x 7 = true then exec d mX6_part 89 [l0, l1, l2] (.int (σ 12 x.toNatClampNeg) :: S) σ else none) ∧
  (∀ (d : Nat) (σ : Sg) (S : List Value) (l0 l1 l2 : Value), exec d mX6_part 89 [l0, l1, l2] S σ = exec d mX6_part 91 [l0, l1, l2] (.int (nI 7) :: S) σ) ∧
  (∀ (d : Nat) (σ : Sg) (S : List Value) (l0 l1 l2 : Value) (x y : Int32), exec d mX6_part 91 [l0, l1, l2] (.int y :: .int x :: S) σ = if x = y then exec d mX6_part 94 [l0, l1, l2] S σ else exec d mX6_part 99 [l0, l1, l2] S σ) ∧
  (∀ (d : Nat) (σ : Sg) (S : List Value) (l0 l1 l2 : Value), exec d mX6_part 94 [l0, l1, l2] S σ = exec d mX6_part 96 [l0, l1, l2] (.int ((-1000000)) :: S) σ) ∧
  (∀ (d : Nat) (σ : Sg) (S : List Value) (l0 l1 l2 : Value), exec d mX6_part 96 [l0, l1, l2] S σ = exec d mX6_part 108 [l0, l1, l2] S σ) ∧
  (∀ (d : Nat) (σ : Sg) (S : List Value) (l1 l2 : Value) (k : Nat), exec d mX6_part 99 [.ref k, l1, l2] S σ = exec d mX6_part 100 [.ref k, l1, l2] (.ref k :: S) σ) ∧
  (∀ (d : Nat) (σ : Sg) (S : List Value) (l0 l1 l2 : Value), exec d mX6_part 100 [l0, l1, l2] (.ref 0 :: S) σ = exec d mX6_part 103 [l0, l1, l2] (.ref 8 :: S) σ) ∧
  (∀ (d : Nat) (σ : Sg) (S : List Value) (l0 l1 l2 : Value), exec d mX6_part 103 [l0, l1, l2] (.ref 8 :: S) σ = exec d mX6_part 106 [l0, l1, l2] (.ref 12 :: S) σ) ∧
  (∀ (d : Nat) (σ : Sg) (S : List Value) (l0 l2 : Value) (x : Int32), exec d mX6_part 106 [l0, .int x, l2] S σ = exec d mX6_part 107 [l0, .int x, l2] (.int x :: S) σ) ∧
  (∀ (d : Nat) (σ : Sg) (S : List Value) (l0 l1 l2 : Value) (x : Int32), exec d mX6_part 107 [l0, l1, l2] (.int x :: .ref 12 :: S) σ = if inb x 7 = true then exec d mX6_part 108 [l0, l1, l2] (.int (σ 12 x.toNatClampNeg) :: S) σ else none) ∧
  (∀ (d : Nat) (σ : Sg) (l0 l1 l2 : Value) (x : Int32), exec d mX6_part 108 [l0, l1, l2] [.int x] σ = some (some (.int x), σ)) ∧
  (∀ (d : Nat) (σ : Sg) (S : List Value) (l1 l2 : Value) (k : Nat), exec d mX6_part 109 [.ref k, l1, l2] S σ = exec d mX6_part 110 [.ref k, l1, l2] (.ref k :: S) σ) ∧
  (∀ (d : Nat) (σ : Sg) (S : List Value) (l0 l1 l2 : Value), exec d mX6_part 110 [l0, l1, l2] (.ref 0 :: S) σ = exec d mX6_part 113 [l0, l1, l2] (.ref 8 :: S) σ) ∧
  (∀ (d : Nat) (σ : Sg) (S : List Value) (l0 l1 l2 : Value), exec d mX6_part 113 [l0, l1, l2] (.ref 8 :: S) σ = exec d mX6_part 116 [l0, l1, l2] (.int (σ 8 6) :: S) σ) ∧
  (∀ (d : Nat) (σ : Sg) (S : List Value) (l0 l2 : Value) (x : Int32), exec d mX6_part 116 [l0, .int x, l2] S σ = exec d mX6_part 117 [l0, .int x, l2] (.int x :: S) σ) ∧
  (∀ (d : Nat) (σ : Sg) (l0 l1 l2 : Value) (x0 x1 : Int32), exec d mX6_part 117 [l0, l1, l2] [.int x0, .int x1] σ = kb (cal d mX6_bit [.int x1, .int x0] σ) (fun rs σ2 => exec d mX6_part 120 [l0, l1, l2] (rs ++ []) σ2)) :=
  ⟨fun d σ S l1 l2 k => ex_aload_n (show decode mX6_part.2.1 0 = .ok (.aload_n 0, 1) by decide +kernel) rfl,
  fun d σ S l0 l2 x => ex_iload_n (show decode mX6_part.2.1 1 = .ok (.iload_n 1, 1) by decide +kernel) rfl,
  fun d σ l0 l1 l2 x0 => ex_iv (hs := [528, 530, 23, 531, 94]) (show decode mX6_part.2.1 2 = .ok (.invokevirtual 139, 3) by decide +kernel) lkV_6_139 ⟨rfl, Nat.le_of_ble_eq_true rfl, Nat.le_of_ble_eq_true rfl, fun _ => rfl⟩ rfl rfl,
  fun d σ S l0 l1 l2 x => ex_zne (show decode mX6_part.2.1 5 = .ok (.ifCond .ne 6, 3) by decide +kernel) (by decide),
  fun d σ S l0 l1 l2 => ex_ldc (hh := 387) (show decode mX6_part.2.1 8 = .ok (.ldc 64, 2) by decide +kernel) (by decide +kernel),
  fun d σ l0 l1 l2 x => ex_iret (show decode mX6_part.2.1 10 = .ok (.ireturn, 1) by decide +kernel) rfl,
  fun d σ S l0 l1 x => ex_iload_n (show decode mX6_part.2.1 11 = .ok (.iload_n 2, 1) by decide +kernel) rfl,
  fun d σ S l0 l1 l2 x => ex_tsw (lo := 0) (df := 225) (ts := [60, 70, 80, 109, 121, 133, 171, 208]) (show decode mX6_part.2.1 12 = .ok (.tableswitch 213 0 7 #[48, 58, 68, 97, 109, 121, 159, 196], 48) by decide +kernel) (by decide) (by decide) (by decide) (by decide),
  fun d σ S l1 l2 k => ex_aload_n (show decode mX6_part.2.1 60 = .ok (.aload_n 0, 1) by decide +kernel) rfl,
  fun d σ S l0 l1 l2 => ex_getr (idx := 26) (ci := 6) (ff := 2) (n := 11) (hh := 348) (by decide +kernel),
  fun d σ S l0 l1 l2 => ex_getr (idx := 183) (ci := 5) (ff := 10) (n := 17) (hh := 223) (by decide +kernel),
  fun d σ S l0 l2 x => ex_iload_n (show decode mX6_part.2.1 67 = .ok (.iload_n 1, 1) by decide +kernel) rfl,
  fun d σ S l0 l1 l2 x => ex_iald (by decide +kernel),
  fun d σ l0 l1 l2 x => ex_iret (show decode mX6_part.2.1 69 = .ok (.ireturn, 1) by decide +kernel) rfl,
  fun d σ S l1 l2 k => ex_aload_n (show decode mX6_part.2.1 70 = .ok (.aload_n 0, 1) by decide +kernel) rfl,
  fun d σ S l0 l1 l2 => ex_getr (idx := 26) (ci := 6) (ff := 2) (n := 11) (hh := 348) (by decide +kernel),
  fun d σ S l0 l1 l2 => ex_getr (idx := 186) (ci := 5) (ff := 11) (n := 17) (hh := 227) (by decide +kernel),
  fun d σ S l0 l2 x => ex_iload_n (show decode mX6_part.2.1 77 = .ok (.iload_n 1, 1) by decide +kernel) rfl,
  fun d σ S l0 l1 l2 x => ex_iald (by decide +kernel),
  fun d σ l0 l1 l2 x => ex_iret (show decode mX6_part.2.1 79 = .ok (.ireturn, 1) by decide +kernel) rfl,
  fun d σ S l1 l2 k => ex_aload_n (show decode mX6_part.2.1 80 = .ok (.aload_n 0, 1) by decide +kernel) rfl,
  fun d σ S l0 l1 l2 => ex_getr (idx := 26) (ci := 6) (ff := 2) (n := 11) (hh := 348) (by decide +kernel),
  fun d σ S l0 l1 l2 => ex_getr (idx := 189) (ci := 5) (ff := 12) (n := 17) (hh := 229) (by decide +kernel),
  fun d σ S l0 l2 x => ex_iload_n (show decode mX6_part.2.1 87 = .ok (.iload_n 1, 1) by decide +kernel) rfl,
  fun d σ S l0 l1 l2 x => ex_iald (by decide +kernel),
  fun d σ S l0 l1 l2 => ex_bipush (show decode mX6_part.2.1 89 = .ok (.bipush 7, 2) by decide +kernel) (by decide +kernel),
  fun d σ S l0 l1 l2 x y => ex_cne (show decode mX6_part.2.1 91 = .ok (.if_icmp .ne 8, 3) by decide +kernel) (by decide),
  fun d σ S l0 l1 l2 => ex_ldc (hh := 593) (show decode mX6_part.2.1 94 = .ok (.ldc 192, 2) by decide +kernel) (by decide +kernel),
  fun d σ S l0 l1 l2 => ex_goto (show decode mX6_part.2.1 96 = .ok (.goto 12, 3) by decide +kernel) (by decide),
  fun d σ S l1 l2 k => ex_aload_n (show decode mX6_part.2.1 99 = .ok (.aload_n 0, 1) by decide +kernel) rfl,
  fun d σ S l0 l1 l2 => ex_getr (idx := 26) (ci := 6) (ff := 2) (n := 11) (hh := 348) (by decide +kernel),
  fun d σ S l0 l1 l2 => ex_getr (idx := 189) (ci := 5) (ff := 12) (n := 17) (hh := 229) (by decide +kernel),
  fun d σ S l0 l2 x => ex_iload_n (show decode mX6_part.2.1 106 = .ok (.iload_n 1, 1) by decide +kernel) rfl,
  fun d σ S l0 l1 l2 x => ex_iald (by decide +kernel),
  fun d σ l0 l1 l2 x => ex_iret (show decode mX6_part.2.1 108 = .ok (.ireturn, 1) by decide +kernel) rfl,
  fun d σ S l1 l2 k => ex_aload_n (show decode mX6_part.2.1 109 = .ok (.aload_n 0, 1) by decide +kernel) rfl,
  fun d σ S l0 l1 l2 => ex_getr (idx := 26) (ci := 6) (ff := 2) (n := 11) (hh := 348) (by decide +kernel),
  fun d σ S l0 l1 l2 => ex_get (idx := 193) (ci := 5) (ff := 6) (n := 17) (hh := 208) (by decide +kernel),
  fun d σ S l0 l2 x => ex_iload_n (show decode mX6_part.2.1 116 = .ok (.iload_n 1, 1) by decide +kernel) rfl,
  fun d σ l0 l1 l2 x0 x1 => ex_is (hs := [568, 537, 538, 94]) (show decode mX6_part.2.1 117 = .ok (.invokestatic 154, 3) by decide +kernel) lkS_6_154 ⟨rfl, Nat.le_of_ble_eq_true rfl, Nat.le_of_ble_eq_true rfl, fun q => nomatch q⟩ rfl rfl⟩
theorem kX6_part_1 : (∀ (d : Nat) (σ : Sg) (l0 l1 l2 : Value) (x : Int32), exec d mX6_part 120 [l0, l1, l2] [.int x] σ = some (some (.int x), σ)) ∧
  (∀ (d : Nat) (σ : Sg) (S : List Value) (l1 l2 : Value) (k : Nat), exec d mX6_part 121 [.ref k, l1, l2] S σ = exec d mX6_part 122 [.ref k, l1, l2] (.ref k :: S) σ) ∧
  (∀ (d : Nat) (σ : Sg) (S : List Value) (l0 l1 l2 : Value), exec d mX6_part 122 [l0, l1, l2] (.ref 0 :: S) σ = exec d mX6_part 125 [l0, l1, l2] (.ref 8 :: S) σ) ∧
  (∀ (d : Nat) (σ : Sg) (S : List Value) (l0 l1 l2 : Value), exec d mX6_part 125 [l0, l1, l2] (.ref 8 :: S) σ = exec d mX6_part 128 [l0, l1, l2] (.int (σ 8 7) :: S) σ) ∧
  (∀ (d : Nat) (σ : Sg) (S : List Value) (l0 l2 : Value) (x : Int32), exec d mX6_part 128 [l0, .int x, l2] S σ = exec d mX6_part 129 [l0, .int x, l2] (.int x :: S) σ) ∧
  (∀ (d : Nat) (σ : Sg) (l0 l1 l2 : Value) (x0 x1 : Int32), exec d mX6_part 129 [l0, l1, l2] [.int x0, .int x1] σ = kb (cal d mX6_bit [.int x1, .int x0] σ) (fun rs σ2 => exec d mX6_part 132 [l0, l1, l2] (rs ++ []) σ2)) ∧
  (∀ (d : Nat) (σ : Sg) (l0 l1 l2 : Value) (x : Int32), exec d mX6_part 132 [l0, l1, l2] [.int x] σ = some (some (.int x), σ)) ∧
  (∀ (d : Nat) (σ : Sg) (S : List Value) (l1 l2 : Value) (k : Nat), exec d mX6_part 133 [.ref k, l1, l2] S σ = exec d mX6_part 134 [.ref k, l1, l2] (.ref k :: S) σ) ∧
  (∀ (d : Nat) (σ : Sg) (S : List Value) (l0 l1 l2 : Value), exec d mX6_part 134 [l0, l1, l2] (.ref 0 :: S) σ = exec d mX6_part 137 [l0, l1, l2] (.ref 8 :: S) σ) ∧
  (∀ (d : Nat) (σ : Sg) (S : List Value) (l0 l1 l2 : Value), exec d mX6_part 137 [l0, l1, l2] (.ref 8 :: S) σ = exec d mX6_part 140 [l0, l1, l2] (.ref 9 :: S) σ) ∧
  (∀ (d : Nat) (σ : Sg) (S : List Value) (l0 l2 : Value) (x : Int32), exec d mX6_part 140 [l0, .int x, l2] S σ = exec d mX6_part 141 [l0, .int x, l2] (.int x :: S) σ) ∧
  (∀ (d : Nat) (σ : Sg) (S : List Value) (l0 l1 l2 : Value) (x : Int32), exec d mX6_part 141 [l0, l1, l2] (.int x :: .ref 9 :: S) σ = if inb x 7 = true then exec d mX6_part 142 [l0, l1, l2] (.int (σ 9 x.toNatClampNeg) :: S) σ else none) ∧
  (∀ (d : Nat) (σ : Sg) (S : List Value) (l1 l2 : Value) (k : Nat), exec d mX6_part 142 [.ref k, l1, l2] S σ = exec d mX6_part 143 [.ref k, l1, l2] (.ref k :: S) σ) ∧
  (∀ (d : Nat) (σ : Sg) (S : List Value) (l0 l1 l2 : Value), exec d mX6_part 143 [l0, l1, l2] (.ref 0 :: S) σ = exec d mX6_part 146 [l0, l1, l2] (.ref 8 :: S) σ) ∧
  (∀ (d : Nat) (σ : Sg) (S : List Value) (l0 l1 l2 : Value), exec d mX6_part 146 [l0, l1, l2] (.ref 8 :: S) σ = exec d mX6_part 149 [l0, l1, l2] (.ref 10 :: S) σ) ∧
  (∀ (d : Nat) (σ : Sg) (S : List Value) (l0 l2 : Value) (x : Int32), exec d mX6_part 149 [l0, .int x, l2] S σ = exec d mX6_part 150 [l0, .int x, l2] (.int x :: S) σ) ∧
  (∀ (d : Nat) (σ : Sg) (S : List Value) (l0 l1 l2 : Value) (x : Int32), exec d mX6_part 150 [l0, l1, l2] (.int x :: .ref 10 :: S) σ = if inb x 7 = true then exec d mX6_part 151 [l0, l1, l2] (.int (σ 10 x.toNatClampNeg) :: S) σ else none) ∧
  (∀ (d : Nat) (σ : Sg) (S : List Value) (l1 l2 : Value) (k : Nat), exec d mX6_part 151 [.ref k, l1, l2] S σ = exec d mX6_part 152 [.ref k, l1, l2] (.ref k :: S) σ) ∧
  (∀ (d : Nat) (σ : Sg) (S : List Value) (l0 l1 l2 : Value), exec d mX6_part 152 [l0, l1, l2] (.ref 0 :: S) σ = exec d mX6_part 155 [l0, l1, l2] (.ref 8 :: S) σ) ∧
  (∀ (d : Nat) (σ : Sg) (S : List Value) (l0 l1 l2 : Value), exec d mX6_part 155 [l0, l1, l2] (.ref 8 :: S) σ = exec d mX6_part 158 [l0, l1, l2] (.ref 11 :: S) σ) ∧
  (∀ (d : Nat) (σ : Sg) (S : List Value) (l0 l2 : Value) (x : Int32), exec d mX6_part 158 [l0, .int x, l2] S σ = exec d mX6_part 159 [l0, .int x, l2] (.int x :: S) σ) ∧
  (∀ (d : Nat) (σ : Sg) (S : List Value) (l0 l1 l2 : Value) (x : Int32), exec d mX6_part 159 [l0, l1, l2] (.int x :: .ref 11 :: S) σ = if inb x 7 = true then exec d mX6_part 160 [l0, l1, l2] (.int (σ 11 x.toNatClampNeg) :: S) σ else none) ∧
  (∀ (d : Nat) (σ : Sg) (S : List Value) (l1 l2 : Value) (k : Nat), exec d mX6_part 160 [.ref k, l1, l2] S σ = exec d mX6_part 161 [.ref k, l1, l2] (.ref k :: S) σ) ∧
  (∀ (d : Nat) (σ : Sg) (S : List Value) (l0 l1 l2 : Value), exec d mX6_part 161 [l0, l1, l2] (.ref 0 :: S) σ = exec d mX6_part 164 [l0, l1, l2] (.ref 8 :: S) σ) ∧
  (∀ (d : Nat) (σ : Sg) (S : List Value) (l0 l1 l2 : Value), exec d mX6_part 164 [l0, l1, l2] (.ref 8 :: S) σ = exec d mX6_part 167 [l0, l1, l2] (.int (σ 8 1) :: S) σ) ∧
  (∀ (d : Nat) (σ : Sg) (l0 l1 l2 : Value) (x0 x1 x2 x3 : Int32), exec d mX6_part 167 [l0, l1, l2] [.int x0, .int x1, .int x2, .int x3] σ = kb (cal d mX6_taken [.int x3, .int x2, .int x1, .int x0] σ) (fun rs σ2 => exec d mX6_part 170 [l0, l1, l2] (rs ++ []) σ2)) ∧
  (∀ (d : Nat) (σ : Sg) (l0 l1 l2 : Value) (x : Int32), exec d mX6_part 170 [l0, l1, l2] [.int x] σ = some (some (.int x), σ)) ∧
  (∀ (d : Nat) (σ : Sg) (S : List Value) (l1 l2 : Value) (k : Nat), exec d mX6_part 171 [.ref k, l1, l2] S σ = exec d mX6_part 172 [.ref k, l1, l2] (.ref k :: S) σ) ∧
  (∀ (d : Nat) (σ : Sg) (S : List Value) (l0 l1 l2 : Value), exec d mX6_part 172 [l0, l1, l2] (.ref 0 :: S) σ = exec d mX6_part 175 [l0, l1, l2] (.ref 8 :: S) σ) ∧
  (∀ (d : Nat) (σ : Sg) (S : List Value) (l0 l1 l2 : Value), exec d mX6_part 175 [l0, l1, l2] (.ref 8 :: S) σ = exec d mX6_part 178 [l0, l1, l2] (.ref 9 :: S) σ) ∧
  (∀ (d : Nat) (σ : Sg) (S : List Value) (l0 l2 : Value) (x : Int32), exec d mX6_part 178 [l0, .int x, l2] S σ = exec d mX6_part 179 [l0, .int x, l2] (.int x :: S) σ) ∧
  (∀ (d : Nat) (σ : Sg) (S : List Value) (l0 l1 l2 : Value) (x : Int32), exec d mX6_part 179 [l0, l1, l2] (.int x :: .ref 9 :: S) σ = if inb x 7 = true then exec d mX6_part 180 [l0, l1, l2] (.int (σ 9 x.toNatClampNeg) :: S) σ else none) ∧
  (∀ (d : Nat) (σ : Sg) (S : List Value) (l1 l2 : Value) (k : Nat), exec d mX6_part 180 [.ref k, l1, l2] S σ = exec d mX6_part 181 [.ref k, l1, l2] (.ref k :: S) σ) ∧
  (∀ (d : Nat) (σ : Sg) (S : List Value) (l0 l1 l2 : Value), exec d mX6_part 181 [l0, l1, l2] (.ref 0 :: S) σ = exec d mX6_part 184 [l0, l1, l2] (.ref 8 :: S) σ) ∧
  (∀ (d : Nat) (σ : Sg) (S : List Value) (l0 l1 l2 : Value), exec d mX6_part 184 [l0, l1, l2] (.ref 8 :: S) σ = exec d mX6_part 187 [l0, l1, l2] (.ref 10 :: S) σ) ∧
  (∀ (d : Nat) (σ : Sg) (S : List Value) (l0 l2 : Value) (x : Int32), exec d mX6_part 187 [l0, .int x, l2] S σ = exec d mX6_part 188 [l0, .int x, l2] (.int x :: S) σ) ∧
  (∀ (d : Nat) (σ : Sg) (S : List Value) (l0 l1 l2 : Value) (x : Int32), exec d mX6_part 188 [l0, l1, l2] (.int x :: .ref 10 :: S) σ = if inb x 7 = true then exec d mX6_part 189 [l0, l1, l2] (.int (σ 10 x.toNatClampNeg) :: S) σ else none) ∧
  (∀ (d : Nat) (σ : Sg) (S : List Value) (l1 l2 : Value) (k : Nat), exec d mX6_part 189 [.ref k, l1, l2] S σ = exec d mX6_part 190 [.ref k, l1, l2] (.ref k :: S) σ) ∧
  (∀ (d : Nat) (σ : Sg) (S : List Value) (l0 l1 l2 : Value), exec d mX6_part 190 [l0, l1, l2] (.ref 0 :: S) σ = exec d mX6_part 193 [l0, l1, l2] (.ref 8 :: S) σ) ∧
  (∀ (d : Nat) (σ : Sg) (S : List Value) (l0 l1 l2 : Value), exec d mX6_part 193 [l0, l1, l2] (.ref 8 :: S) σ = exec d mX6_part 196 [l0, l1, l2] (.int (σ 8 1) :: S) σ) :=
  ⟨fun d σ l0 l1 l2 x => ex_iret (show decode mX6_part.2.1 120 = .ok (.ireturn, 1) by decide +kernel) rfl,
  fun d σ S l1 l2 k => ex_aload_n (show decode mX6_part.2.1 121 = .ok (.aload_n 0, 1) by decide +kernel) rfl,
  fun d σ S l0 l1 l2 => ex_getr (idx := 26) (ci := 6) (ff := 2) (n := 11) (hh := 348) (by decide +kernel),
  fun d σ S l0 l1 l2 => ex_get (idx := 151) (ci := 5) (ff := 7) (n := 17) (hh := 212) (by decide +kernel),
  fun d σ S l0 l2 x => ex_iload_n (show decode mX6_part.2.1 128 = .ok (.iload_n 1, 1) by decide +kernel) rfl,
  fun d σ l0 l1 l2 x0 x1 => ex_is (hs := [568, 537, 538, 94]) (show decode mX6_part.2.1 129 = .ok (.invokestatic 154, 3) by decide +kernel) lkS_6_154 ⟨rfl, Nat.le_of_ble_eq_true rfl, Nat.le_of_ble_eq_true rfl, fun q => nomatch q⟩ rfl rfl,
  fun d σ l0 l1 l2 x => ex_iret (show decode mX6_part.2.1 132 = .ok (.ireturn, 1) by decide +kernel) rfl,
  fun d σ S l1 l2 k => ex_aload_n (show decode mX6_part.2.1 133 = .ok (.aload_n 0, 1) by decide +kernel) rfl,
  fun d σ S l0 l1 l2 => ex_getr (idx := 26) (ci := 6) (ff := 2) (n := 11) (hh := 348) (by decide +kernel),
  fun d σ S l0 l1 l2 => ex_getr (idx := 196) (ci := 5) (ff := 9) (n := 17) (hh := 219) (by decide +kernel),
  fun d σ S l0 l2 x => ex_iload_n (show decode mX6_part.2.1 140 = .ok (.iload_n 1, 1) by decide +kernel) rfl,
  fun d σ S l0 l1 l2 x => ex_iald (by decide +kernel),
  fun d σ S l1 l2 k => ex_aload_n (show decode mX6_part.2.1 142 = .ok (.aload_n 0, 1) by decide +kernel) rfl,
  fun d σ S l0 l1 l2 => ex_getr (idx := 26) (ci := 6) (ff := 2) (n := 11) (hh := 348) (by decide +kernel),
  fun d σ S l0 l1 l2 => ex_getr (idx := 183) (ci := 5) (ff := 10) (n := 17) (hh := 223) (by decide +kernel),
  fun d σ S l0 l2 x => ex_iload_n (show decode mX6_part.2.1 149 = .ok (.iload_n 1, 1) by decide +kernel) rfl,
  fun d σ S l0 l1 l2 x => ex_iald (by decide +kernel),
  fun d σ S l1 l2 k => ex_aload_n (show decode mX6_part.2.1 151 = .ok (.aload_n 0, 1) by decide +kernel) rfl,
  fun d σ S l0 l1 l2 => ex_getr (idx := 26) (ci := 6) (ff := 2) (n := 11) (hh := 348) (by decide +kernel),
  fun d σ S l0 l1 l2 => ex_getr (idx := 186) (ci := 5) (ff := 11) (n := 17) (hh := 227) (by decide +kernel),
  fun d σ S l0 l2 x => ex_iload_n (show decode mX6_part.2.1 158 = .ok (.iload_n 1, 1) by decide +kernel) rfl,
  fun d σ S l0 l1 l2 x => ex_iald (by decide +kernel),
  fun d σ S l1 l2 k => ex_aload_n (show decode mX6_part.2.1 160 = .ok (.aload_n 0, 1) by decide +kernel) rfl,
  fun d σ S l0 l1 l2 => ex_getr (idx := 26) (ci := 6) (ff := 2) (n := 11) (hh := 348) (by decide +kernel),
  fun d σ S l0 l1 l2 => ex_get (idx := 180) (ci := 5) (ff := 1) (n := 17) (hh := 187) (by decide +kernel),
  fun d σ l0 l1 l2 x0 x1 x2 x3 => ex_is (hs := [594, 544, 545, 94]) (show decode mX6_part.2.1 167 = .ok (.invokestatic 199, 3) by decide +kernel) lkS_6_199 ⟨rfl, Nat.le_of_ble_eq_true rfl, Nat.le_of_ble_eq_true rfl, fun q => nomatch q⟩ rfl rfl,
  fun d σ l0 l1 l2 x => ex_iret (show decode mX6_part.2.1 170 = .ok (.ireturn, 1) by decide +kernel) rfl,
  fun d σ S l1 l2 k => ex_aload_n (show decode mX6_part.2.1 171 = .ok (.aload_n 0, 1) by decide +kernel) rfl,
  fun d σ S l0 l1 l2 => ex_getr (idx := 26) (ci := 6) (ff := 2) (n := 11) (hh := 348) (by decide +kernel),
  fun d σ S l0 l1 l2 => ex_getr (idx := 196) (ci := 5) (ff := 9) (n := 17) (hh := 219) (by decide +kernel),
  fun d σ S l0 l2 x => ex_iload_n (show decode mX6_part.2.1 178 = .ok (.iload_n 1, 1) by decide +kernel) rfl,
  fun d σ S l0 l1 l2 x => ex_iald (by decide +kernel),
  fun d σ S l1 l2 k => ex_aload_n (show decode mX6_part.2.1 180 = .ok (.aload_n 0, 1) by decide +kernel) rfl,
  fun d σ S l0 l1 l2 => ex_getr (idx := 26) (ci := 6) (ff := 2) (n := 11) (hh := 348) (by decide +kernel),
  fun d σ S l0 l1 l2 => ex_getr (idx := 183) (ci := 5) (ff := 10) (n := 17) (hh := 223) (by decide +kernel),
  fun d σ S l0 l2 x => ex_iload_n (show decode mX6_part.2.1 187 = .ok (.iload_n 1, 1) by decide +kernel) rfl,
  fun d σ S l0 l1 l2 x => ex_iald (by decide +kernel),
  fun d σ S l1 l2 k => ex_aload_n (show decode mX6_part.2.1 189 = .ok (.aload_n 0, 1) by decide +kernel) rfl,
  fun d σ S l0 l1 l2 => ex_getr (idx := 26) (ci := 6) (ff := 2) (n := 11) (hh := 348) (by decide +kernel),
  fun d σ S l0 l1 l2 => ex_get (idx := 180) (ci := 5) (ff := 1) (n := 17) (hh := 187) (by decide +kernel)⟩
theorem kX6_part_2 : (∀ (d : Nat) (σ : Sg) (l0 l1 l2 : Value) (x0 x1 x2 : Int32), exec d mX6_part 196 [l0, l1, l2] [.int x0, .int x1, .int x2] σ = kb (cal d mX6_flawed [.int x2, .int x1, .int x0] σ) (fun rs σ2 => exec d mX6_part 199 [l0, l1, l2] (rs ++ []) σ2)) ∧
  (∀ (d : Nat) (σ : Sg) (S : List Value) (l0 l1 l2 : Value) (x : Int32), exec d mX6_part 199 [l0, l1, l2] (.int x :: S) σ = if x = nI 0 then exec d mX6_part 206 [l0, l1, l2] S σ else exec d mX6_part 202 [l0, l1, l2] S σ) ∧
  (∀ (d : Nat) (σ : Sg) (S : List Value) (l0 l1 l2 : Value), exec d mX6_part 202 [l0, l1, l2] S σ = exec d mX6_part 203 [l0, l1, l2] (.int (nI 1) :: S) σ) ∧
  (∀ (d : Nat) (σ : Sg) (S : List Value) (l0 l1 l2 : Value), exec d mX6_part 203 [l0, l1, l2] S σ = exec d mX6_part 207 [l0, l1, l2] S σ) ∧
  (∀ (d : Nat) (σ : Sg) (S : List Value) (l0 l1 l2 : Value), exec d mX6_part 206 [l0, l1, l2] S σ = exec d mX6_part 207 [l0, l1, l2] (.int (nI 0) :: S) σ) ∧
  (∀ (d : Nat) (σ : Sg) (l0 l1 l2 : Value) (x : Int32), exec d mX6_part 207 [l0, l1, l2] [.int x] σ = some (some (.int x), σ)) ∧
  (∀ (d : Nat) (σ : Sg) (S : List Value) (l1 l2 : Value) (k : Nat), exec d mX6_part 208 [.ref k, l1, l2] S σ = exec d mX6_part 209 [.ref k, l1, l2] (.ref k :: S) σ) ∧
  (∀ (d : Nat) (σ : Sg) (S : List Value) (l0 l1 l2 : Value), exec d mX6_part 209 [l0, l1, l2] (.ref 0 :: S) σ = exec d mX6_part 212 [l0, l1, l2] (.ref 8 :: S) σ) ∧
  (∀ (d : Nat) (σ : Sg) (S : List Value) (l0 l2 : Value) (x : Int32), exec d mX6_part 212 [l0, .int x, l2] S σ = exec d mX6_part 213 [l0, .int x, l2] (.int x :: S) σ) ∧
  (∀ (d : Nat) (σ : Sg) (l0 l1 l2 : Value) (x0 : Int32), exec d mX6_part 213 [l0, l1, l2] [.int x0, .ref 8] σ = kb (cal d mX5_mayBuild [.ref 8, .int x0] σ) (fun rs σ2 => exec d mX6_part 216 [l0, l1, l2] (rs ++ []) σ2)) ∧
  (∀ (d : Nat) (σ : Sg) (S : List Value) (l0 l1 l2 : Value) (x : Int32), exec d mX6_part 216 [l0, l1, l2] (.int x :: S) σ = if x = nI 0 then exec d mX6_part 223 [l0, l1, l2] S σ else exec d mX6_part 219 [l0, l1, l2] S σ) ∧
  (∀ (d : Nat) (σ : Sg) (S : List Value) (l0 l1 l2 : Value), exec d mX6_part 219 [l0, l1, l2] S σ = exec d mX6_part 220 [l0, l1, l2] (.int (nI 1) :: S) σ) ∧
  (∀ (d : Nat) (σ : Sg) (S : List Value) (l0 l1 l2 : Value), exec d mX6_part 220 [l0, l1, l2] S σ = exec d mX6_part 224 [l0, l1, l2] S σ) ∧
  (∀ (d : Nat) (σ : Sg) (S : List Value) (l0 l1 l2 : Value), exec d mX6_part 223 [l0, l1, l2] S σ = exec d mX6_part 224 [l0, l1, l2] (.int (nI 0) :: S) σ) ∧
  (∀ (d : Nat) (σ : Sg) (l0 l1 l2 : Value) (x : Int32), exec d mX6_part 224 [l0, l1, l2] [.int x] σ = some (some (.int x), σ)) ∧
  (∀ (d : Nat) (σ : Sg) (S : List Value) (l0 l1 l2 : Value), exec d mX6_part 225 [l0, l1, l2] S σ = exec d mX6_part 227 [l0, l1, l2] (.int ((-1000001)) :: S) σ) ∧
  (∀ (d : Nat) (σ : Sg) (l0 l1 l2 : Value) (x : Int32), exec d mX6_part 227 [l0, l1, l2] [.int x] σ = some (some (.int x), σ)) :=
  ⟨fun d σ l0 l1 l2 x0 x1 x2 => ex_is (hs := [595, 558, 559, 94]) (show decode mX6_part.2.1 196 = .ok (.invokestatic 203, 3) by decide +kernel) lkS_6_203 ⟨rfl, Nat.le_of_ble_eq_true rfl, Nat.le_of_ble_eq_true rfl, fun q => nomatch q⟩ rfl rfl,
  fun d σ S l0 l1 l2 x => ex_zeq (show decode mX6_part.2.1 199 = .ok (.ifCond .eq 7, 3) by decide +kernel) (by decide),
  fun d σ S l0 l1 l2 => ex_iconst (show decode mX6_part.2.1 202 = .ok (.iconst 1, 1) by decide +kernel) (by decide +kernel),
  fun d σ S l0 l1 l2 => ex_goto (show decode mX6_part.2.1 203 = .ok (.goto 4, 3) by decide +kernel) (by decide),
  fun d σ S l0 l1 l2 => ex_iconst (show decode mX6_part.2.1 206 = .ok (.iconst 0, 1) by decide +kernel) (by decide +kernel),
  fun d σ l0 l1 l2 x => ex_iret (show decode mX6_part.2.1 207 = .ok (.ireturn, 1) by decide +kernel) rfl,
  fun d σ S l1 l2 k => ex_aload_n (show decode mX6_part.2.1 208 = .ok (.aload_n 0, 1) by decide +kernel) rfl,
  fun d σ S l0 l1 l2 => ex_getr (idx := 26) (ci := 6) (ff := 2) (n := 11) (hh := 348) (by decide +kernel),
  fun d σ S l0 l2 x => ex_iload_n (show decode mX6_part.2.1 212 = .ok (.iload_n 1, 1) by decide +kernel) rfl,
  fun d σ l0 l1 l2 x0 => ex_iv (hs := [532, 534, 24, 535, 97]) (show decode mX6_part.2.1 213 = .ok (.invokevirtual 142, 3) by decide +kernel) lkV_6_142 ⟨rfl, Nat.le_of_ble_eq_true rfl, Nat.le_of_ble_eq_true rfl, fun _ => rfl⟩ rfl rfl,
  fun d σ S l0 l1 l2 x => ex_zeq (show decode mX6_part.2.1 216 = .ok (.ifCond .eq 7, 3) by decide +kernel) (by decide),
  fun d σ S l0 l1 l2 => ex_iconst (show decode mX6_part.2.1 219 = .ok (.iconst 1, 1) by decide +kernel) (by decide +kernel),
  fun d σ S l0 l1 l2 => ex_goto (show decode mX6_part.2.1 220 = .ok (.goto 4, 3) by decide +kernel) (by decide),
  fun d σ S l0 l1 l2 => ex_iconst (show decode mX6_part.2.1 223 = .ok (.iconst 0, 1) by decide +kernel) (by decide +kernel),
  fun d σ l0 l1 l2 x => ex_iret (show decode mX6_part.2.1 224 = .ok (.ireturn, 1) by decide +kernel) rfl,
  fun d σ S l0 l1 l2 => ex_ldc (hh := 387) (show decode mX6_part.2.1 225 = .ok (.ldc 64, 2) by decide +kernel) (by decide +kernel),
  fun d σ l0 l1 l2 x => ex_iret (show decode mX6_part.2.1 227 = .ok (.ireturn, 1) by decide +kernel) rfl⟩
theorem aX6_part_0 : ∀ (d : Nat) (a1 : Int32) (a2 : Int32) (σ : Sg), cal (d + 1) mX6_part [.ref 0, .int a1, .int a2] σ = exec d mX6_part 0 [.ref 0, .int a1, .int a2] [] σ := fun _ _ _ _ => rfl
theorem kX6_elder_0 : (∀ (d : Nat) (σ : Sg) (S : List Value) (l1 l2 : Value) (k : Nat), exec d mX6_elder 0 [.ref k, l1, l2] S σ = exec d mX6_elder 1 [.ref k, l1, l2] (.ref k :: S) σ) ∧
  (∀ (d : Nat) (σ : Sg) (S : List Value) (l0 l2 : Value) (x : Int32), exec d mX6_elder 1 [l0, .int x, l2] S σ = exec d mX6_elder 2 [l0, .int x, l2] (.int x :: S) σ) ∧
  (∀ (d : Nat) (σ : Sg) (l0 l1 l2 : Value) (x0 : Int32), exec d mX6_elder 2 [l0, l1, l2] [.int x0, .ref 0] σ = kb (cal d mX6_isElder [.ref 0, .int x0] σ) (fun rs σ2 => exec d mX6_elder 5 [l0, l1, l2] (rs ++ []) σ2)) ∧
  (∀ (d : Nat) (σ : Sg) (S : List Value) (l0 l1 l2 : Value) (x : Int32), exec d mX6_elder 5 [l0, l1, l2] (.int x :: S) σ = if x = nI 0 then exec d mX6_elder 8 [l0, l1, l2] S σ else exec d mX6_elder 11 [l0, l1, l2] S σ) ∧
  (∀ (d : Nat) (σ : Sg) (S : List Value) (l0 l1 l2 : Value), exec d mX6_elder 8 [l0, l1, l2] S σ = exec d mX6_elder 10 [l0, l1, l2] (.int ((-1000001)) :: S) σ) ∧
  (∀ (d : Nat) (σ : Sg) (l0 l1 l2 : Value) (x : Int32), exec d mX6_elder 10 [l0, l1, l2] [.int x] σ = some (some (.int x), σ)) ∧
  (∀ (d : Nat) (σ : Sg) (S : List Value) (l0 l1 : Value) (x : Int32), exec d mX6_elder 11 [l0, l1, .int x] S σ = exec d mX6_elder 12 [l0, l1, .int x] (.int x :: S) σ) ∧
  (∀ (d : Nat) (σ : Sg) (S : List Value) (l0 l1 l2 : Value) (x : Int32), exec d mX6_elder 12 [l0, l1, l2] (.int x :: S) σ = (if x = nI 0 then exec d mX6_elder 52 [l0, l1, l2] S σ else (if x = nI 1 then exec d mX6_elder 62 [l0, l1, l2] S σ else (if x = nI 2 then exec d mX6_elder 72 [l0, l1, l2] S σ else (if x = nI 3 then exec d mX6_elder 82 [l0, l1, l2] S σ else (if x = nI 4 then exec d mX6_elder 94 [l0, l1, l2] S σ else (if x = nI 5 then exec d mX6_elder 110 [l0, l1, l2] S σ else exec d mX6_elder 136 [l0, l1, l2] S σ))))))) ∧
  (∀ (d : Nat) (σ : Sg) (S : List Value) (l1 l2 : Value) (k : Nat), exec d mX6_elder 52 [.ref k, l1, l2] S σ = exec d mX6_elder 53 [.ref k, l1, l2] (.ref k :: S) σ) ∧
  (∀ (d : Nat) (σ : Sg) (S : List Value) (l0 l1 l2 : Value), exec d mX6_elder 53 [l0, l1, l2] (.ref 0 :: S) σ = exec d mX6_elder 56 [l0, l1, l2] (.ref 8 :: S) σ) ∧
  (∀ (d : Nat) (σ : Sg) (S : List Value) (l0 l1 l2 : Value), exec d mX6_elder 56 [l0, l1, l2] (.ref 8 :: S) σ = exec d mX6_elder 59 [l0, l1, l2] (.ref 13 :: S) σ) ∧
  (∀ (d : Nat) (σ : Sg) (S : List Value) (l0 l2 : Value) (x : Int32), exec d mX6_elder 59 [l0, .int x, l2] S σ = exec d mX6_elder 60 [l0, .int x, l2] (.int x :: S) σ) ∧
  (∀ (d : Nat) (σ : Sg) (S : List Value) (l0 l1 l2 : Value) (x : Int32), exec d mX6_elder 60 [l0, l1, l2] (.int x :: .ref 13 :: S) σ = if inb x 5 = true then exec d mX6_elder 61 [l0, l1, l2] (.int (σ 13 x.toNatClampNeg) :: S) σ else none) ∧
  (∀ (d : Nat) (σ : Sg) (l0 l1 l2 : Value) (x : Int32), exec d mX6_elder 61 [l0, l1, l2] [.int x] σ = some (some (.int x), σ)) ∧
  (∀ (d : Nat) (σ : Sg) (S : List Value) (l1 l2 : Value) (k : Nat), exec d mX6_elder 62 [.ref k, l1, l2] S σ = exec d mX6_elder 63 [.ref k, l1, l2] (.ref k :: S) σ) ∧
  (∀ (d : Nat) (σ : Sg) (S : List Value) (l0 l1 l2 : Value), exec d mX6_elder 63 [l0, l1, l2] (.ref 0 :: S) σ = exec d mX6_elder 66 [l0, l1, l2] (.ref 8 :: S) σ) ∧
  (∀ (d : Nat) (σ : Sg) (S : List Value) (l0 l1 l2 : Value), exec d mX6_elder 66 [l0, l1, l2] (.ref 8 :: S) σ = exec d mX6_elder 69 [l0, l1, l2] (.ref 14 :: S) σ) ∧
  (∀ (d : Nat) (σ : Sg) (S : List Value) (l0 l2 : Value) (x : Int32), exec d mX6_elder 69 [l0, .int x, l2] S σ = exec d mX6_elder 70 [l0, .int x, l2] (.int x :: S) σ) ∧
  (∀ (d : Nat) (σ : Sg) (S : List Value) (l0 l1 l2 : Value) (x : Int32), exec d mX6_elder 70 [l0, l1, l2] (.int x :: .ref 14 :: S) σ = if inb x 5 = true then exec d mX6_elder 71 [l0, l1, l2] (.int (σ 14 x.toNatClampNeg) :: S) σ else none) ∧
  (∀ (d : Nat) (σ : Sg) (l0 l1 l2 : Value) (x : Int32), exec d mX6_elder 71 [l0, l1, l2] [.int x] σ = some (some (.int x), σ)) ∧
  (∀ (d : Nat) (σ : Sg) (S : List Value) (l1 l2 : Value) (k : Nat), exec d mX6_elder 72 [.ref k, l1, l2] S σ = exec d mX6_elder 73 [.ref k, l1, l2] (.ref k :: S) σ) ∧
  (∀ (d : Nat) (σ : Sg) (S : List Value) (l0 l1 l2 : Value), exec d mX6_elder 73 [l0, l1, l2] (.ref 0 :: S) σ = exec d mX6_elder 76 [l0, l1, l2] (.ref 8 :: S) σ) ∧
  (∀ (d : Nat) (σ : Sg) (S : List Value) (l0 l1 l2 : Value), exec d mX6_elder 76 [l0, l1, l2] (.ref 8 :: S) σ = exec d mX6_elder 79 [l0, l1, l2] (.ref 15 :: S) σ) ∧
  (∀ (d : Nat) (σ : Sg) (S : List Value) (l0 l2 : Value) (x : Int32), exec d mX6_elder 79 [l0, .int x, l2] S σ = exec d mX6_elder 80 [l0, .int x, l2] (.int x :: S) σ) ∧
  (∀ (d : Nat) (σ : Sg) (S : List Value) (l0 l1 l2 : Value) (x : Int32), exec d mX6_elder 80 [l0, l1, l2] (.int x :: .ref 15 :: S) σ = if inb x 5 = true then exec d mX6_elder 81 [l0, l1, l2] (.int (σ 15 x.toNatClampNeg) :: S) σ else none) ∧
  (∀ (d : Nat) (σ : Sg) (l0 l1 l2 : Value) (x : Int32), exec d mX6_elder 81 [l0, l1, l2] [.int x] σ = some (some (.int x), σ)) ∧
  (∀ (d : Nat) (σ : Sg) (S : List Value) (l1 l2 : Value) (k : Nat), exec d mX6_elder 82 [.ref k, l1, l2] S σ = exec d mX6_elder 83 [.ref k, l1, l2] (.ref k :: S) σ) ∧
  (∀ (d : Nat) (σ : Sg) (S : List Value) (l0 l1 l2 : Value), exec d mX6_elder 83 [l0, l1, l2] (.ref 0 :: S) σ = exec d mX6_elder 86 [l0, l1, l2] (.ref 8 :: S) σ) ∧
  (∀ (d : Nat) (σ : Sg) (S : List Value) (l0 l1 l2 : Value), exec d mX6_elder 86 [l0, l1, l2] (.ref 8 :: S) σ = exec d mX6_elder 89 [l0, l1, l2] (.int (σ 8 8) :: S) σ) ∧
  (∀ (d : Nat) (σ : Sg) (S : List Value) (l0 l2 : Value) (x : Int32), exec d mX6_elder 89 [l0, .int x, l2] S σ = exec d mX6_elder 90 [l0, .int x, l2] (.int x :: S) σ) ∧
  (∀ (d : Nat) (σ : Sg) (l0 l1 l2 : Value) (x0 x1 : Int32), exec d mX6_elder 90 [l0, l1, l2] [.int x0, .int x1] σ = kb (cal d mX6_bit [.int x1, .int x0] σ) (fun rs σ2 => exec d mX6_elder 93 [l0, l1, l2] (rs ++ []) σ2)) ∧
  (∀ (d : Nat) (σ : Sg) (l0 l1 l2 : Value) (x : Int32), exec d mX6_elder 93 [l0, l1, l2] [.int x] σ = some (some (.int x), σ)) ∧
  (∀ (d : Nat) (σ : Sg) (S : List Value) (l1 l2 : Value) (k : Nat), exec d mX6_elder 94 [.ref k, l1, l2] S σ = exec d mX6_elder 95 [.ref k, l1, l2] (.ref k :: S) σ) ∧
  (∀ (d : Nat) (σ : Sg) (S : List Value) (l0 l1 l2 : Value), exec d mX6_elder 95 [l0, l1, l2] (.ref 0 :: S) σ = exec d mX6_elder 98 [l0, l1, l2] (.ref 8 :: S) σ) ∧
  (∀ (d : Nat) (σ : Sg) (S : List Value) (l0 l2 : Value) (x : Int32), exec d mX6_elder 98 [l0, .int x, l2] S σ = exec d mX6_elder 99 [l0, .int x, l2] (.int x :: S) σ) ∧
  (∀ (d : Nat) (σ : Sg) (S : List Value) (l1 l2 : Value) (k : Nat), exec d mX6_elder 99 [.ref k, l1, l2] S σ = exec d mX6_elder 100 [.ref k, l1, l2] (.ref k :: S) σ) ∧
  (∀ (d : Nat) (σ : Sg) (S : List Value) (l0 l1 l2 : Value), exec d mX6_elder 100 [l0, l1, l2] (.ref 0 :: S) σ = exec d mX6_elder 103 [l0, l1, l2] (.ref 8 :: S) σ) ∧
  (∀ (d : Nat) (σ : Sg) (S : List Value) (l0 l1 l2 : Value), exec d mX6_elder 103 [l0, l1, l2] (.ref 8 :: S) σ = exec d mX6_elder 106 [l0, l1, l2] (.int (σ 8 7) :: S) σ) ∧
  (∀ (d : Nat) (σ : Sg) (l0 l1 l2 : Value) (x0 x1 : Int32), exec d mX6_elder 106 [l0, l1, l2] [.int x0, .int x1, .ref 8] σ = kb (cal d mX5_finds [.ref 8, .int x1, .int x0] σ) (fun rs σ2 => exec d mX6_elder 109 [l0, l1, l2] (rs ++ []) σ2)) ∧
  (∀ (d : Nat) (σ : Sg) (l0 l1 l2 : Value) (x : Int32), exec d mX6_elder 109 [l0, l1, l2] [.int x] σ = some (some (.int x), σ)) :=
  ⟨fun d σ S l1 l2 k => ex_aload_n (show decode mX6_elder.2.1 0 = .ok (.aload_n 0, 1) by decide +kernel) rfl,
  fun d σ S l0 l2 x => ex_iload_n (show decode mX6_elder.2.1 1 = .ok (.iload_n 1, 1) by decide +kernel) rfl,
  fun d σ l0 l1 l2 x0 => ex_iv (hs := [577, 579, 29, 580, 94]) (show decode mX6_elder.2.1 2 = .ok (.invokevirtual 164, 3) by decide +kernel) lkV_6_164 ⟨rfl, Nat.le_of_ble_eq_true rfl, Nat.le_of_ble_eq_true rfl, fun _ => rfl⟩ rfl rfl,
  fun d σ S l0 l1 l2 x => ex_zne (show decode mX6_elder.2.1 5 = .ok (.ifCond .ne 6, 3) by decide +kernel) (by decide),
  fun d σ S l0 l1 l2 => ex_ldc (hh := 387) (show decode mX6_elder.2.1 8 = .ok (.ldc 64, 2) by decide +kernel) (by decide +kernel),
  fun d σ l0 l1 l2 x => ex_iret (show decode mX6_elder.2.1 10 = .ok (.ireturn, 1) by decide +kernel) rfl,
  fun d σ S l0 l1 x => ex_iload_n (show decode mX6_elder.2.1 11 = .ok (.iload_n 2, 1) by decide +kernel) rfl,
  fun d σ S l0 l1 l2 x => ex_tsw (lo := 0) (df := 136) (ts := [52, 62, 72, 82, 94, 110]) (show decode mX6_elder.2.1 12 = .ok (.tableswitch 124 0 5 #[40, 50, 60, 70, 82, 98], 40) by decide +kernel) (by decide) (by decide) (by decide) (by decide),
  fun d σ S l1 l2 k => ex_aload_n (show decode mX6_elder.2.1 52 = .ok (.aload_n 0, 1) by decide +kernel) rfl,
  fun d σ S l0 l1 l2 => ex_getr (idx := 26) (ci := 6) (ff := 2) (n := 11) (hh := 348) (by decide +kernel),
  fun d σ S l0 l1 l2 => ex_getr (idx := 206) (ci := 5) (ff := 13) (n := 17) (hh := 231) (by decide +kernel),
  fun d σ S l0 l2 x => ex_iload_n (show decode mX6_elder.2.1 59 = .ok (.iload_n 1, 1) by decide +kernel) rfl,
  fun d σ S l0 l1 l2 x => ex_iald (by decide +kernel),
  fun d σ l0 l1 l2 x => ex_iret (show decode mX6_elder.2.1 61 = .ok (.ireturn, 1) by decide +kernel) rfl,
  fun d σ S l1 l2 k => ex_aload_n (show decode mX6_elder.2.1 62 = .ok (.aload_n 0, 1) by decide +kernel) rfl,
  fun d σ S l0 l1 l2 => ex_getr (idx := 26) (ci := 6) (ff := 2) (n := 11) (hh := 348) (by decide +kernel),
  fun d σ S l0 l1 l2 => ex_getr (idx := 209) (ci := 5) (ff := 14) (n := 17) (hh := 233) (by decide +kernel),
  fun d σ S l0 l2 x => ex_iload_n (show decode mX6_elder.2.1 69 = .ok (.iload_n 1, 1) by decide +kernel) rfl,
  fun d σ S l0 l1 l2 x => ex_iald (by decide +kernel),
  fun d σ l0 l1 l2 x => ex_iret (show decode mX6_elder.2.1 71 = .ok (.ireturn, 1) by decide +kernel) rfl,
  fun d σ S l1 l2 k => ex_aload_n (show decode mX6_elder.2.1 72 = .ok (.aload_n 0, 1) by decide +kernel) rfl,
  fun d σ S l0 l1 l2 => ex_getr (idx := 26) (ci := 6) (ff := 2) (n := 11) (hh := 348) (by decide +kernel),
  fun d σ S l0 l1 l2 => ex_getr (idx := 173) (ci := 5) (ff := 15) (n := 17) (hh := 235) (by decide +kernel),
  fun d σ S l0 l2 x => ex_iload_n (show decode mX6_elder.2.1 79 = .ok (.iload_n 1, 1) by decide +kernel) rfl,
  fun d σ S l0 l1 l2 x => ex_iald (by decide +kernel),
  fun d σ l0 l1 l2 x => ex_iret (show decode mX6_elder.2.1 81 = .ok (.ireturn, 1) by decide +kernel) rfl,
  fun d σ S l1 l2 k => ex_aload_n (show decode mX6_elder.2.1 82 = .ok (.aload_n 0, 1) by decide +kernel) rfl,
  fun d σ S l0 l1 l2 => ex_getr (idx := 26) (ci := 6) (ff := 2) (n := 11) (hh := 348) (by decide +kernel),
  fun d σ S l0 l1 l2 => ex_get (idx := 167) (ci := 5) (ff := 8) (n := 17) (hh := 215) (by decide +kernel),
  fun d σ S l0 l2 x => ex_iload_n (show decode mX6_elder.2.1 89 = .ok (.iload_n 1, 1) by decide +kernel) rfl,
  fun d σ l0 l1 l2 x0 x1 => ex_is (hs := [568, 537, 538, 94]) (show decode mX6_elder.2.1 90 = .ok (.invokestatic 154, 3) by decide +kernel) lkS_6_154 ⟨rfl, Nat.le_of_ble_eq_true rfl, Nat.le_of_ble_eq_true rfl, fun q => nomatch q⟩ rfl rfl,
  fun d σ l0 l1 l2 x => ex_iret (show decode mX6_elder.2.1 93 = .ok (.ireturn, 1) by decide +kernel) rfl,
  fun d σ S l1 l2 k => ex_aload_n (show decode mX6_elder.2.1 94 = .ok (.aload_n 0, 1) by decide +kernel) rfl,
  fun d σ S l0 l1 l2 => ex_getr (idx := 26) (ci := 6) (ff := 2) (n := 11) (hh := 348) (by decide +kernel),
  fun d σ S l0 l2 x => ex_iload_n (show decode mX6_elder.2.1 98 = .ok (.iload_n 1, 1) by decide +kernel) rfl,
  fun d σ S l1 l2 k => ex_aload_n (show decode mX6_elder.2.1 99 = .ok (.aload_n 0, 1) by decide +kernel) rfl,
  fun d σ S l0 l1 l2 => ex_getr (idx := 26) (ci := 6) (ff := 2) (n := 11) (hh := 348) (by decide +kernel),
  fun d σ S l0 l1 l2 => ex_get (idx := 151) (ci := 5) (ff := 7) (n := 17) (hh := 212) (by decide +kernel),
  fun d σ l0 l1 l2 x0 x1 => ex_iv (hs := [600, 602, 30, 603, 97]) (show decode mX6_elder.2.1 106 = .ok (.invokevirtual 212, 3) by decide +kernel) lkV_6_212 ⟨rfl, Nat.le_of_ble_eq_true rfl, Nat.le_of_ble_eq_true rfl, fun _ => rfl⟩ rfl rfl,
  fun d σ l0 l1 l2 x => ex_iret (show decode mX6_elder.2.1 109 = .ok (.ireturn, 1) by decide +kernel) rfl⟩
theorem kX6_elder_1 : (∀ (d : Nat) (σ : Sg) (S : List Value) (l1 l2 : Value) (k : Nat), exec d mX6_elder 110 [.ref k, l1, l2] S σ = exec d mX6_elder 111 [.ref k, l1, l2] (.ref k :: S) σ) ∧
  (∀ (d : Nat) (σ : Sg) (S : List Value) (l0 l1 l2 : Value), exec d mX6_elder 111 [l0, l1, l2] (.ref 0 :: S) σ = exec d mX6_elder 114 [l0, l1, l2] (.ref 8 :: S) σ) ∧
  (∀ (d : Nat) (σ : Sg) (S : List Value) (l1 l2 : Value) (k : Nat), exec d mX6_elder 114 [.ref k, l1, l2] S σ = exec d mX6_elder 115 [.ref k, l1, l2] (.ref k :: S) σ) ∧
  (∀ (d : Nat) (σ : Sg) (S : List Value) (l0 l1 l2 : Value), exec d mX6_elder 115 [l0, l1, l2] (.ref 0 :: S) σ = exec d mX6_elder 118 [l0, l1, l2] (.ref 8 :: S) σ) ∧
  (∀ (d : Nat) (σ : Sg) (S : List Value) (l0 l1 l2 : Value), exec d mX6_elder 118 [l0, l1, l2] (.ref 8 :: S) σ = exec d mX6_elder 121 [l0, l1, l2] (.int (σ 8 7) :: S) σ) ∧
  (∀ (d : Nat) (σ : Sg) (S : List Value) (l1 l2 : Value) (k : Nat), exec d mX6_elder 121 [.ref k, l1, l2] S σ = exec d mX6_elder 122 [.ref k, l1, l2] (.ref k :: S) σ) ∧
  (∀ (d : Nat) (σ : Sg) (S : List Value) (l0 l1 l2 : Value), exec d mX6_elder 122 [l0, l1, l2] (.ref 0 :: S) σ = exec d mX6_elder 125 [l0, l1, l2] (.ref 8 :: S) σ) ∧
  (∀ (d : Nat) (σ : Sg) (S : List Value) (l0 l1 l2 : Value), exec d mX6_elder 125 [l0, l1, l2] (.ref 8 :: S) σ = exec d mX6_elder 128 [l0, l1, l2] (.int (σ 8 8) :: S) σ) ∧
  (∀ (d : Nat) (σ : Sg) (l0 l1 l2 : Value) (x0 x1 : Int32), exec d mX6_elder 128 [l0, l1, l2] [.int x0, .int x1, .ref 8] σ = kb (cal d mX5_votes [.ref 8, .int x1, .int x0] σ) (fun rs σ2 => exec d mX6_elder 131 [l0, l1, l2] (rs ++ []) σ2)) ∧
  (∀ (d : Nat) (σ : Sg) (S : List Value) (l0 l2 : Value) (x : Int32), exec d mX6_elder 131 [l0, .int x, l2] S σ = exec d mX6_elder 132 [l0, .int x, l2] (.int x :: S) σ) ∧
  (∀ (d : Nat) (σ : Sg) (l0 l1 l2 : Value) (x0 x1 : Int32), exec d mX6_elder 132 [l0, l1, l2] [.int x0, .int x1] σ = kb (cal d mX6_bit [.int x1, .int x0] σ) (fun rs σ2 => exec d mX6_elder 135 [l0, l1, l2] (rs ++ []) σ2)) ∧
  (∀ (d : Nat) (σ : Sg) (l0 l1 l2 : Value) (x : Int32), exec d mX6_elder 135 [l0, l1, l2] [.int x] σ = some (some (.int x), σ)) ∧
  (∀ (d : Nat) (σ : Sg) (S : List Value) (l0 l1 l2 : Value), exec d mX6_elder 136 [l0, l1, l2] S σ = exec d mX6_elder 138 [l0, l1, l2] (.int ((-1000001)) :: S) σ) ∧
  (∀ (d : Nat) (σ : Sg) (l0 l1 l2 : Value) (x : Int32), exec d mX6_elder 138 [l0, l1, l2] [.int x] σ = some (some (.int x), σ)) :=
  ⟨fun d σ S l1 l2 k => ex_aload_n (show decode mX6_elder.2.1 110 = .ok (.aload_n 0, 1) by decide +kernel) rfl,
  fun d σ S l0 l1 l2 => ex_getr (idx := 26) (ci := 6) (ff := 2) (n := 11) (hh := 348) (by decide +kernel),
  fun d σ S l1 l2 k => ex_aload_n (show decode mX6_elder.2.1 114 = .ok (.aload_n 0, 1) by decide +kernel) rfl,
  fun d σ S l0 l1 l2 => ex_getr (idx := 26) (ci := 6) (ff := 2) (n := 11) (hh := 348) (by decide +kernel),
  fun d σ S l0 l1 l2 => ex_get (idx := 151) (ci := 5) (ff := 7) (n := 17) (hh := 212) (by decide +kernel),
  fun d σ S l1 l2 k => ex_aload_n (show decode mX6_elder.2.1 121 = .ok (.aload_n 0, 1) by decide +kernel) rfl,
  fun d σ S l0 l1 l2 => ex_getr (idx := 26) (ci := 6) (ff := 2) (n := 11) (hh := 348) (by decide +kernel),
  fun d σ S l0 l1 l2 => ex_get (idx := 167) (ci := 5) (ff := 8) (n := 17) (hh := 215) (by decide +kernel),
  fun d σ l0 l1 l2 x0 x1 => ex_iv (hs := [610, 612, 31, 613, 97]) (show decode mX6_elder.2.1 128 = .ok (.invokevirtual 215, 3) by decide +kernel) lkV_6_215 ⟨rfl, Nat.le_of_ble_eq_true rfl, Nat.le_of_ble_eq_true rfl, fun _ => rfl⟩ rfl rfl,
  fun d σ S l0 l2 x => ex_iload_n (show decode mX6_elder.2.1 131 = .ok (.iload_n 1, 1) by decide +kernel) rfl,
  fun d σ l0 l1 l2 x0 x1 => ex_is (hs := [568, 537, 538, 94]) (show decode mX6_elder.2.1 132 = .ok (.invokestatic 154, 3) by decide +kernel) lkS_6_154 ⟨rfl, Nat.le_of_ble_eq_true rfl, Nat.le_of_ble_eq_true rfl, fun q => nomatch q⟩ rfl rfl,
  fun d σ l0 l1 l2 x => ex_iret (show decode mX6_elder.2.1 135 = .ok (.ireturn, 1) by decide +kernel) rfl,
  fun d σ S l0 l1 l2 => ex_ldc (hh := 387) (show decode mX6_elder.2.1 136 = .ok (.ldc 64, 2) by decide +kernel) (by decide +kernel),
  fun d σ l0 l1 l2 x => ex_iret (show decode mX6_elder.2.1 138 = .ok (.ireturn, 1) by decide +kernel) rfl⟩
theorem aX6_elder_0 : ∀ (d : Nat) (a1 : Int32) (a2 : Int32) (σ : Sg), cal (d + 1) mX6_elder [.ref 0, .int a1, .int a2] σ = exec d mX6_elder 0 [.ref 0, .int a1, .int a2] [] σ := fun _ _ _ _ => rfl
theorem kX6_stand_0 : (∀ (d : Nat) (σ : Sg) (S : List Value) (l1 : Value) (k : Nat), exec d mX6_stand 0 [.ref k, l1] S σ = exec d mX6_stand 1 [.ref k, l1] (.ref k :: S) σ) ∧
  (∀ (d : Nat) (σ : Sg) (S : List Value) (l0 l1 : Value), exec d mX6_stand 1 [l0, l1] (.ref 0 :: S) σ = exec d mX6_stand 4 [l0, l1] (.ref 8 :: S) σ) ∧
  (∀ (d : Nat) (σ : Sg) (S : List Value) (l0 l1 : Value), exec d mX6_stand 4 [l0, l1] (.ref 8 :: S) σ = exec d mX6_stand 7 [l0, l1] (.int (σ 8 0) :: S) σ) ∧
  (∀ (d : Nat) (σ : Sg) (S : List Value) (l0 l1 : Value) (x : Int32), exec d mX6_stand 7 [l0, l1] (.int x :: S) σ = if x = nI 0 then exec d mX6_stand 10 [l0, l1] S σ else exec d mX6_stand 13 [l0, l1] S σ) ∧
  (∀ (d : Nat) (σ : Sg) (S : List Value) (l0 l1 : Value), exec d mX6_stand 10 [l0, l1] S σ = exec d mX6_stand 12 [l0, l1] (.int ((-1000002)) :: S) σ) ∧
  (∀ (d : Nat) (σ : Sg) (l0 l1 : Value) (x : Int32), exec d mX6_stand 12 [l0, l1] [.int x] σ = some (some (.int x), σ)) ∧
  (∀ (d : Nat) (σ : Sg) (S : List Value) (l0 : Value) (x : Int32), exec d mX6_stand 13 [l0, .int x] S σ = exec d mX6_stand 14 [l0, .int x] (.int x :: S) σ) ∧
  (∀ (d : Nat) (σ : Sg) (S : List Value) (l0 l1 : Value) (x : Int32), exec d mX6_stand 14 [l0, l1] (.int x :: S) σ = (if x = nI 0 then exec d mX6_stand 56 [l0, l1] S σ else (if x = nI 1 then exec d mX6_stand 64 [l0, l1] S σ else (if x = nI 2 then exec d mX6_stand 72 [l0, l1] S σ else (if x = nI 3 then exec d mX6_stand 80 [l0, l1] S σ else (if x = nI 4 then exec d mX6_stand 88 [l0, l1] S σ else (if x = nI 5 then exec d mX6_stand 96 [l0, l1] S σ else (if x = nI 6 then exec d mX6_stand 118 [l0, l1] S σ else exec d mX6_stand 134 [l0, l1] S σ)))))))) ∧
  (∀ (d : Nat) (σ : Sg) (S : List Value) (l1 : Value) (k : Nat), exec d mX6_stand 56 [.ref k, l1] S σ = exec d mX6_stand 57 [.ref k, l1] (.ref k :: S) σ) ∧
  (∀ (d : Nat) (σ : Sg) (S : List Value) (l0 l1 : Value), exec d mX6_stand 57 [l0, l1] (.ref 0 :: S) σ = exec d mX6_stand 60 [l0, l1] (.ref 8 :: S) σ) ∧
  (∀ (d : Nat) (σ : Sg) (S : List Value) (l0 l1 : Value), exec d mX6_stand 60 [l0, l1] (.ref 8 :: S) σ = exec d mX6_stand 63 [l0, l1] (.int (σ 8 1) :: S) σ) ∧
  (∀ (d : Nat) (σ : Sg) (l0 l1 : Value) (x : Int32), exec d mX6_stand 63 [l0, l1] [.int x] σ = some (some (.int x), σ)) ∧
  (∀ (d : Nat) (σ : Sg) (S : List Value) (l1 : Value) (k : Nat), exec d mX6_stand 64 [.ref k, l1] S σ = exec d mX6_stand 65 [.ref k, l1] (.ref k :: S) σ) ∧
  (∀ (d : Nat) (σ : Sg) (S : List Value) (l0 l1 : Value), exec d mX6_stand 65 [l0, l1] (.ref 0 :: S) σ = exec d mX6_stand 68 [l0, l1] (.ref 8 :: S) σ) ∧
  (∀ (d : Nat) (σ : Sg) (S : List Value) (l0 l1 : Value), exec d mX6_stand 68 [l0, l1] (.ref 8 :: S) σ = exec d mX6_stand 71 [l0, l1] (.int (σ 8 2) :: S) σ) ∧
  (∀ (d : Nat) (σ : Sg) (l0 l1 : Value) (x : Int32), exec d mX6_stand 71 [l0, l1] [.int x] σ = some (some (.int x), σ)) ∧
  (∀ (d : Nat) (σ : Sg) (S : List Value) (l1 : Value) (k : Nat), exec d mX6_stand 72 [.ref k, l1] S σ = exec d mX6_stand 73 [.ref k, l1] (.ref k :: S) σ) ∧
  (∀ (d : Nat) (σ : Sg) (S : List Value) (l0 l1 : Value), exec d mX6_stand 73 [l0, l1] (.ref 0 :: S) σ = exec d mX6_stand 76 [l0, l1] (.ref 8 :: S) σ) ∧
  (∀ (d : Nat) (σ : Sg) (S : List Value) (l0 l1 : Value), exec d mX6_stand 76 [l0, l1] (.ref 8 :: S) σ = exec d mX6_stand 79 [l0, l1] (.int (σ 8 3) :: S) σ) ∧
  (∀ (d : Nat) (σ : Sg) (l0 l1 : Value) (x : Int32), exec d mX6_stand 79 [l0, l1] [.int x] σ = some (some (.int x), σ)) ∧
  (∀ (d : Nat) (σ : Sg) (S : List Value) (l1 : Value) (k : Nat), exec d mX6_stand 80 [.ref k, l1] S σ = exec d mX6_stand 81 [.ref k, l1] (.ref k :: S) σ) ∧
  (∀ (d : Nat) (σ : Sg) (S : List Value) (l0 l1 : Value), exec d mX6_stand 81 [l0, l1] (.ref 0 :: S) σ = exec d mX6_stand 84 [l0, l1] (.ref 8 :: S) σ) ∧
  (∀ (d : Nat) (σ : Sg) (S : List Value) (l0 l1 : Value), exec d mX6_stand 84 [l0, l1] (.ref 8 :: S) σ = exec d mX6_stand 87 [l0, l1] (.int (σ 8 6) :: S) σ) ∧
  (∀ (d : Nat) (σ : Sg) (l0 l1 : Value) (x : Int32), exec d mX6_stand 87 [l0, l1] [.int x] σ = some (some (.int x), σ)) ∧
  (∀ (d : Nat) (σ : Sg) (S : List Value) (l1 : Value) (k : Nat), exec d mX6_stand 88 [.ref k, l1] S σ = exec d mX6_stand 89 [.ref k, l1] (.ref k :: S) σ) ∧
  (∀ (d : Nat) (σ : Sg) (S : List Value) (l0 l1 : Value), exec d mX6_stand 89 [l0, l1] (.ref 0 :: S) σ = exec d mX6_stand 92 [l0, l1] (.ref 8 :: S) σ) ∧
  (∀ (d : Nat) (σ : Sg) (S : List Value) (l0 l1 : Value), exec d mX6_stand 92 [l0, l1] (.ref 8 :: S) σ = exec d mX6_stand 95 [l0, l1] (.int (σ 8 7) :: S) σ) ∧
  (∀ (d : Nat) (σ : Sg) (l0 l1 : Value) (x : Int32), exec d mX6_stand 95 [l0, l1] [.int x] σ = some (some (.int x), σ)) ∧
  (∀ (d : Nat) (σ : Sg) (S : List Value) (l1 : Value) (k : Nat), exec d mX6_stand 96 [.ref k, l1] S σ = exec d mX6_stand 97 [.ref k, l1] (.ref k :: S) σ) ∧
  (∀ (d : Nat) (σ : Sg) (S : List Value) (l0 l1 : Value), exec d mX6_stand 97 [l0, l1] (.ref 0 :: S) σ = exec d mX6_stand 100 [l0, l1] (.ref 8 :: S) σ) ∧
  (∀ (d : Nat) (σ : Sg) (S : List Value) (l1 : Value) (k : Nat), exec d mX6_stand 100 [.ref k, l1] S σ = exec d mX6_stand 101 [.ref k, l1] (.ref k :: S) σ) ∧
  (∀ (d : Nat) (σ : Sg) (S : List Value) (l0 l1 : Value), exec d mX6_stand 101 [l0, l1] (.ref 0 :: S) σ = exec d mX6_stand 104 [l0, l1] (.ref 8 :: S) σ) ∧
  (∀ (d : Nat) (σ : Sg) (S : List Value) (l0 l1 : Value), exec d mX6_stand 104 [l0, l1] (.ref 8 :: S) σ = exec d mX6_stand 107 [l0, l1] (.int (σ 8 7) :: S) σ) ∧
  (∀ (d : Nat) (σ : Sg) (S : List Value) (l1 : Value) (k : Nat), exec d mX6_stand 107 [.ref k, l1] S σ = exec d mX6_stand 108 [.ref k, l1] (.ref k :: S) σ) ∧
  (∀ (d : Nat) (σ : Sg) (S : List Value) (l0 l1 : Value), exec d mX6_stand 108 [l0, l1] (.ref 0 :: S) σ = exec d mX6_stand 111 [l0, l1] (.ref 8 :: S) σ) ∧
  (∀ (d : Nat) (σ : Sg) (S : List Value) (l0 l1 : Value), exec d mX6_stand 111 [l0, l1] (.ref 8 :: S) σ = exec d mX6_stand 114 [l0, l1] (.int (σ 8 8) :: S) σ) ∧
  (∀ (d : Nat) (σ : Sg) (l0 l1 : Value) (x0 x1 : Int32), exec d mX6_stand 114 [l0, l1] [.int x0, .int x1, .ref 8] σ = kb (cal d mX5_votes [.ref 8, .int x1, .int x0] σ) (fun rs σ2 => exec d mX6_stand 117 [l0, l1] (rs ++ []) σ2)) ∧
  (∀ (d : Nat) (σ : Sg) (l0 l1 : Value) (x : Int32), exec d mX6_stand 117 [l0, l1] [.int x] σ = some (some (.int x), σ)) ∧
  (∀ (d : Nat) (σ : Sg) (S : List Value) (l1 : Value) (k : Nat), exec d mX6_stand 118 [.ref k, l1] S σ = exec d mX6_stand 119 [.ref k, l1] (.ref k :: S) σ) ∧
  (∀ (d : Nat) (σ : Sg) (S : List Value) (l0 l1 : Value), exec d mX6_stand 119 [l0, l1] (.ref 0 :: S) σ = exec d mX6_stand 122 [l0, l1] (.ref 8 :: S) σ) :=
  ⟨fun d σ S l1 k => ex_aload_n (show decode mX6_stand.2.1 0 = .ok (.aload_n 0, 1) by decide +kernel) rfl,
  fun d σ S l0 l1 => ex_getr (idx := 26) (ci := 6) (ff := 2) (n := 11) (hh := 348) (by decide +kernel),
  fun d σ S l0 l1 => ex_get (idx := 176) (ci := 5) (ff := 0) (n := 17) (hh := 182) (by decide +kernel),
  fun d σ S l0 l1 x => ex_zne (show decode mX6_stand.2.1 7 = .ok (.ifCond .ne 6, 3) by decide +kernel) (by decide),
  fun d σ S l0 l1 => ex_ldc (hh := 519) (show decode mX6_stand.2.1 10 = .ok (.ldc 134, 2) by decide +kernel) (by decide +kernel),
  fun d σ l0 l1 x => ex_iret (show decode mX6_stand.2.1 12 = .ok (.ireturn, 1) by decide +kernel) rfl,
  fun d σ S l0 x => ex_iload_n (show decode mX6_stand.2.1 13 = .ok (.iload_n 1, 1) by decide +kernel) rfl,
  fun d σ S l0 l1 x => ex_tsw (lo := 0) (df := 134) (ts := [56, 64, 72, 80, 88, 96, 118]) (show decode mX6_stand.2.1 14 = .ok (.tableswitch 120 0 6 #[42, 50, 58, 66, 74, 82, 104], 42) by decide +kernel) (by decide) (by decide) (by decide) (by decide),
  fun d σ S l1 k => ex_aload_n (show decode mX6_stand.2.1 56 = .ok (.aload_n 0, 1) by decide +kernel) rfl,
  fun d σ S l0 l1 => ex_getr (idx := 26) (ci := 6) (ff := 2) (n := 11) (hh := 348) (by decide +kernel),
  fun d σ S l0 l1 => ex_get (idx := 180) (ci := 5) (ff := 1) (n := 17) (hh := 187) (by decide +kernel),
  fun d σ l0 l1 x => ex_iret (show decode mX6_stand.2.1 63 = .ok (.ireturn, 1) by decide +kernel) rfl,
  fun d σ S l1 k => ex_aload_n (show decode mX6_stand.2.1 64 = .ok (.aload_n 0, 1) by decide +kernel) rfl,
  fun d σ S l0 l1 => ex_getr (idx := 26) (ci := 6) (ff := 2) (n := 11) (hh := 348) (by decide +kernel),
  fun d σ S l0 l1 => ex_get (idx := 158) (ci := 5) (ff := 2) (n := 17) (hh := 192) (by decide +kernel),
  fun d σ l0 l1 x => ex_iret (show decode mX6_stand.2.1 71 = .ok (.ireturn, 1) by decide +kernel) rfl,
  fun d σ S l1 k => ex_aload_n (show decode mX6_stand.2.1 72 = .ok (.aload_n 0, 1) by decide +kernel) rfl,
  fun d σ S l0 l1 => ex_getr (idx := 26) (ci := 6) (ff := 2) (n := 11) (hh := 348) (by decide +kernel),
  fun d σ S l0 l1 => ex_get (idx := 170) (ci := 5) (ff := 3) (n := 17) (hh := 197) (by decide +kernel),
  fun d σ l0 l1 x => ex_iret (show decode mX6_stand.2.1 79 = .ok (.ireturn, 1) by decide +kernel) rfl,
  fun d σ S l1 k => ex_aload_n (show decode mX6_stand.2.1 80 = .ok (.aload_n 0, 1) by decide +kernel) rfl,
  fun d σ S l0 l1 => ex_getr (idx := 26) (ci := 6) (ff := 2) (n := 11) (hh := 348) (by decide +kernel),
  fun d σ S l0 l1 => ex_get (idx := 193) (ci := 5) (ff := 6) (n := 17) (hh := 208) (by decide +kernel),
  fun d σ l0 l1 x => ex_iret (show decode mX6_stand.2.1 87 = .ok (.ireturn, 1) by decide +kernel) rfl,
  fun d σ S l1 k => ex_aload_n (show decode mX6_stand.2.1 88 = .ok (.aload_n 0, 1) by decide +kernel) rfl,
  fun d σ S l0 l1 => ex_getr (idx := 26) (ci := 6) (ff := 2) (n := 11) (hh := 348) (by decide +kernel),
  fun d σ S l0 l1 => ex_get (idx := 151) (ci := 5) (ff := 7) (n := 17) (hh := 212) (by decide +kernel),
  fun d σ l0 l1 x => ex_iret (show decode mX6_stand.2.1 95 = .ok (.ireturn, 1) by decide +kernel) rfl,
  fun d σ S l1 k => ex_aload_n (show decode mX6_stand.2.1 96 = .ok (.aload_n 0, 1) by decide +kernel) rfl,
  fun d σ S l0 l1 => ex_getr (idx := 26) (ci := 6) (ff := 2) (n := 11) (hh := 348) (by decide +kernel),
  fun d σ S l1 k => ex_aload_n (show decode mX6_stand.2.1 100 = .ok (.aload_n 0, 1) by decide +kernel) rfl,
  fun d σ S l0 l1 => ex_getr (idx := 26) (ci := 6) (ff := 2) (n := 11) (hh := 348) (by decide +kernel),
  fun d σ S l0 l1 => ex_get (idx := 151) (ci := 5) (ff := 7) (n := 17) (hh := 212) (by decide +kernel),
  fun d σ S l1 k => ex_aload_n (show decode mX6_stand.2.1 107 = .ok (.aload_n 0, 1) by decide +kernel) rfl,
  fun d σ S l0 l1 => ex_getr (idx := 26) (ci := 6) (ff := 2) (n := 11) (hh := 348) (by decide +kernel),
  fun d σ S l0 l1 => ex_get (idx := 167) (ci := 5) (ff := 8) (n := 17) (hh := 215) (by decide +kernel),
  fun d σ l0 l1 x0 x1 => ex_iv (hs := [610, 612, 31, 613, 97]) (show decode mX6_stand.2.1 114 = .ok (.invokevirtual 215, 3) by decide +kernel) lkV_6_215 ⟨rfl, Nat.le_of_ble_eq_true rfl, Nat.le_of_ble_eq_true rfl, fun _ => rfl⟩ rfl rfl,
  fun d σ l0 l1 x => ex_iret (show decode mX6_stand.2.1 117 = .ok (.ireturn, 1) by decide +kernel) rfl,
  fun d σ S l1 k => ex_aload_n (show decode mX6_stand.2.1 118 = .ok (.aload_n 0, 1) by decide +kernel) rfl,
  fun d σ S l0 l1 => ex_getr (idx := 26) (ci := 6) (ff := 2) (n := 11) (hh := 348) (by decide +kernel)⟩
theorem kX6_stand_1 : (∀ (d : Nat) (σ : Sg) (l0 l1 : Value), exec d mX6_stand 122 [l0, l1] [.ref 8] σ = kb (cal d mX5_passes [.ref 8] σ) (fun rs σ2 => exec d mX6_stand 125 [l0, l1] (rs ++ []) σ2)) ∧
  (∀ (d : Nat) (σ : Sg) (S : List Value) (l0 l1 : Value) (x : Int32), exec d mX6_stand 125 [l0, l1] (.int x :: S) σ = if x = nI 0 then exec d mX6_stand 132 [l0, l1] S σ else exec d mX6_stand 128 [l0, l1] S σ) ∧
  (∀ (d : Nat) (σ : Sg) (S : List Value) (l0 l1 : Value), exec d mX6_stand 128 [l0, l1] S σ = exec d mX6_stand 129 [l0, l1] (.int (nI 1) :: S) σ) ∧
  (∀ (d : Nat) (σ : Sg) (S : List Value) (l0 l1 : Value), exec d mX6_stand 129 [l0, l1] S σ = exec d mX6_stand 133 [l0, l1] S σ) ∧
  (∀ (d : Nat) (σ : Sg) (S : List Value) (l0 l1 : Value), exec d mX6_stand 132 [l0, l1] S σ = exec d mX6_stand 133 [l0, l1] (.int (nI 0) :: S) σ) ∧
  (∀ (d : Nat) (σ : Sg) (l0 l1 : Value) (x : Int32), exec d mX6_stand 133 [l0, l1] [.int x] σ = some (some (.int x), σ)) ∧
  (∀ (d : Nat) (σ : Sg) (S : List Value) (l0 l1 : Value), exec d mX6_stand 134 [l0, l1] S σ = exec d mX6_stand 136 [l0, l1] (.int ((-1000001)) :: S) σ) ∧
  (∀ (d : Nat) (σ : Sg) (l0 l1 : Value) (x : Int32), exec d mX6_stand 136 [l0, l1] [.int x] σ = some (some (.int x), σ)) :=
  ⟨fun d σ l0 l1 => ex_iv (hs := [619, 621, 32, 622, 97]) (show decode mX6_stand.2.1 122 = .ok (.invokevirtual 218, 3) by decide +kernel) lkV_6_218 ⟨rfl, Nat.le_of_ble_eq_true rfl, Nat.le_of_ble_eq_true rfl, fun _ => rfl⟩ rfl rfl,
  fun d σ S l0 l1 x => ex_zeq (show decode mX6_stand.2.1 125 = .ok (.ifCond .eq 7, 3) by decide +kernel) (by decide),
  fun d σ S l0 l1 => ex_iconst (show decode mX6_stand.2.1 128 = .ok (.iconst 1, 1) by decide +kernel) (by decide +kernel),
  fun d σ S l0 l1 => ex_goto (show decode mX6_stand.2.1 129 = .ok (.goto 4, 3) by decide +kernel) (by decide),
  fun d σ S l0 l1 => ex_iconst (show decode mX6_stand.2.1 132 = .ok (.iconst 0, 1) by decide +kernel) (by decide +kernel),
  fun d σ l0 l1 x => ex_iret (show decode mX6_stand.2.1 133 = .ok (.ireturn, 1) by decide +kernel) rfl,
  fun d σ S l0 l1 => ex_ldc (hh := 387) (show decode mX6_stand.2.1 134 = .ok (.ldc 64, 2) by decide +kernel) (by decide +kernel),
  fun d σ l0 l1 x => ex_iret (show decode mX6_stand.2.1 136 = .ok (.ireturn, 1) by decide +kernel) rfl⟩
theorem aX6_stand_0 : ∀ (d : Nat) (a1 : Int32) (σ : Sg), cal (d + 1) mX6_stand [.ref 0, .int a1] σ = exec d mX6_stand 0 [.ref 0, .int a1] [] σ := fun _ _ _ => rfl
theorem kX6_fewest_0 : (∀ (d : Nat) (σ : Sg) (S : List Value) (l1 : Value) (k : Nat), exec d mX6_fewest 0 [.ref k, l1] S σ = exec d mX6_fewest 1 [.ref k, l1] (.ref k :: S) σ) ∧
  (∀ (d : Nat) (σ : Sg) (S : List Value) (l0 l1 : Value), exec d mX6_fewest 1 [l0, l1] (.ref 0 :: S) σ = exec d mX6_fewest 4 [l0, l1] (.ref 8 :: S) σ) ∧
  (∀ (d : Nat) (σ : Sg) (S : List Value) (l0 l1 : Value), exec d mX6_fewest 4 [l0, l1] (.ref 8 :: S) σ = exec d mX6_fewest 7 [l0, l1] (.int (σ 8 0) :: S) σ) ∧
  (∀ (d : Nat) (σ : Sg) (S : List Value) (l0 l1 : Value) (x : Int32), exec d mX6_fewest 7 [l0, l1] (.int x :: S) σ = if x = nI 0 then exec d mX6_fewest 10 [l0, l1] S σ else exec d mX6_fewest 13 [l0, l1] S σ) ∧
  (∀ (d : Nat) (σ : Sg) (S : List Value) (l0 l1 : Value), exec d mX6_fewest 10 [l0, l1] S σ = exec d mX6_fewest 12 [l0, l1] (.int ((-1000002)) :: S) σ) ∧
  (∀ (d : Nat) (σ : Sg) (l0 l1 : Value) (x : Int32), exec d mX6_fewest 12 [l0, l1] [.int x] σ = some (some (.int x), σ)) ∧
  (∀ (d : Nat) (σ : Sg) (S : List Value) (l0 : Value) (x : Int32), exec d mX6_fewest 13 [l0, .int x] S σ = exec d mX6_fewest 14 [l0, .int x] (.int x :: S) σ) ∧
  (∀ (d : Nat) (σ : Sg) (S : List Value) (l0 l1 : Value) (x : Int32), exec d mX6_fewest 14 [l0, l1] (.int x :: S) σ = if x < nI 0 then exec d mX6_fewest 22 [l0, l1] S σ else exec d mX6_fewest 17 [l0, l1] S σ) ∧
  (∀ (d : Nat) (σ : Sg) (S : List Value) (l0 : Value) (x : Int32), exec d mX6_fewest 17 [l0, .int x] S σ = exec d mX6_fewest 18 [l0, .int x] (.int x :: S) σ) ∧
  (∀ (d : Nat) (σ : Sg) (S : List Value) (l0 l1 : Value), exec d mX6_fewest 18 [l0, l1] S σ = exec d mX6_fewest 19 [l0, l1] (.int (nI 2) :: S) σ) ∧
  (∀ (d : Nat) (σ : Sg) (S : List Value) (l0 l1 : Value) (x y : Int32), exec d mX6_fewest 19 [l0, l1] (.int y :: .int x :: S) σ = if x ≤ y then exec d mX6_fewest 25 [l0, l1] S σ else exec d mX6_fewest 22 [l0, l1] S σ) ∧
  (∀ (d : Nat) (σ : Sg) (S : List Value) (l0 l1 : Value), exec d mX6_fewest 22 [l0, l1] S σ = exec d mX6_fewest 24 [l0, l1] (.int ((-1000001)) :: S) σ) ∧
  (∀ (d : Nat) (σ : Sg) (l0 l1 : Value) (x : Int32), exec d mX6_fewest 24 [l0, l1] [.int x] σ = some (some (.int x), σ)) ∧
  (∀ (d : Nat) (σ : Sg) (S : List Value) (l1 : Value) (k : Nat), exec d mX6_fewest 25 [.ref k, l1] S σ = exec d mX6_fewest 26 [.ref k, l1] (.ref k :: S) σ) ∧
  (∀ (d : Nat) (σ : Sg) (S : List Value) (l0 l1 : Value), exec d mX6_fewest 26 [l0, l1] (.ref 0 :: S) σ = exec d mX6_fewest 29 [l0, l1] (.ref 46 :: S) σ) ∧
  (∀ (d : Nat) (σ : Sg) (S : List Value) (l1 : Value) (k : Nat), exec d mX6_fewest 29 [.ref k, l1] S σ = exec d mX6_fewest 30 [.ref k, l1] (.ref k :: S) σ) ∧
  (∀ (d : Nat) (σ : Sg) (S : List Value) (l0 l1 : Value), exec d mX6_fewest 30 [l0, l1] (.ref 0 :: S) σ = exec d mX6_fewest 33 [l0, l1] (.ref 8 :: S) σ) ∧
  (∀ (d : Nat) (σ : Sg) (S : List Value) (l0 l1 : Value), exec d mX6_fewest 33 [l0, l1] S σ = exec d mX6_fewest 34 [l0, l1] (.int (nI 0) :: S) σ) ∧
  (∀ (d : Nat) (σ : Sg) (l0 l1 : Value) (x0 : Int32), exec d mX6_fewest 34 [l0, l1] [.int x0, .ref 8, .ref 46] σ = kb (cal d mX2_reckon [.ref 46, .ref 8, .int x0] σ) (fun rs σ2 => exec d mX6_fewest 37 [l0, l1] (rs ++ []) σ2)) ∧
  (∀ (d : Nat) (σ : Sg) (S : List Value) (l1 : Value) (k : Nat), exec d mX6_fewest 37 [.ref k, l1] S σ = exec d mX6_fewest 38 [.ref k, l1] (.ref k :: S) σ) ∧
  (∀ (d : Nat) (σ : Sg) (S : List Value) (l0 l1 : Value), exec d mX6_fewest 38 [l0, l1] (.ref 0 :: S) σ = exec d mX6_fewest 41 [l0, l1] (.ref 46 :: S) σ) ∧
  (∀ (d : Nat) (σ : Sg) (S : List Value) (l0 l1 : Value), exec d mX6_fewest 41 [l0, l1] (.ref 46 :: S) σ = exec d mX6_fewest 44 [l0, l1] (.int (σ 46 2) :: S) σ) ∧
  (∀ (d : Nat) (σ : Sg) (S : List Value) (l0 l1 : Value) (x : Int32), exec d mX6_fewest 44 [l0, l1] (.int x :: S) σ = if x = nI 0 then exec d mX6_fewest 47 [l0, l1] S σ else exec d mX6_fewest 50 [l0, l1] S σ) ∧
  (∀ (d : Nat) (σ : Sg) (S : List Value) (l0 l1 : Value), exec d mX6_fewest 47 [l0, l1] S σ = exec d mX6_fewest 49 [l0, l1] (.int ((-1000000)) :: S) σ) ∧
  (∀ (d : Nat) (σ : Sg) (l0 l1 : Value) (x : Int32), exec d mX6_fewest 49 [l0, l1] [.int x] σ = some (some (.int x), σ)) ∧
  (∀ (d : Nat) (σ : Sg) (S : List Value) (l0 : Value) (x : Int32), exec d mX6_fewest 50 [l0, .int x] S σ = exec d mX6_fewest 51 [l0, .int x] (.int x :: S) σ) ∧
  (∀ (d : Nat) (σ : Sg) (S : List Value) (l0 l1 : Value) (x : Int32), exec d mX6_fewest 51 [l0, l1] (.int x :: S) σ = if x = nI 0 then exec d mX6_fewest 54 [l0, l1] S σ else exec d mX6_fewest 62 [l0, l1] S σ) ∧
  (∀ (d : Nat) (σ : Sg) (S : List Value) (l1 : Value) (k : Nat), exec d mX6_fewest 54 [.ref k, l1] S σ = exec d mX6_fewest 55 [.ref k, l1] (.ref k :: S) σ) ∧
  (∀ (d : Nat) (σ : Sg) (S : List Value) (l0 l1 : Value), exec d mX6_fewest 55 [l0, l1] (.ref 0 :: S) σ = exec d mX6_fewest 58 [l0, l1] (.ref 46 :: S) σ) ∧
  (∀ (d : Nat) (σ : Sg) (S : List Value) (l0 l1 : Value), exec d mX6_fewest 58 [l0, l1] (.ref 46 :: S) σ = exec d mX6_fewest 61 [l0, l1] (.int (σ 46 3) :: S) σ) ∧
  (∀ (d : Nat) (σ : Sg) (l0 l1 : Value) (x : Int32), exec d mX6_fewest 61 [l0, l1] [.int x] σ = some (some (.int x), σ)) ∧
  (∀ (d : Nat) (σ : Sg) (S : List Value) (l0 : Value) (x : Int32), exec d mX6_fewest 62 [l0, .int x] S σ = exec d mX6_fewest 63 [l0, .int x] (.int x :: S) σ) ∧
  (∀ (d : Nat) (σ : Sg) (S : List Value) (l0 l1 : Value), exec d mX6_fewest 63 [l0, l1] S σ = exec d mX6_fewest 64 [l0, l1] (.int (nI 1) :: S) σ) ∧
  (∀ (d : Nat) (σ : Sg) (S : List Value) (l0 l1 : Value) (x y : Int32), exec d mX6_fewest 64 [l0, l1] (.int y :: .int x :: S) σ = if x = y then exec d mX6_fewest 67 [l0, l1] S σ else exec d mX6_fewest 75 [l0, l1] S σ) ∧
  (∀ (d : Nat) (σ : Sg) (S : List Value) (l1 : Value) (k : Nat), exec d mX6_fewest 67 [.ref k, l1] S σ = exec d mX6_fewest 68 [.ref k, l1] (.ref k :: S) σ) ∧
  (∀ (d : Nat) (σ : Sg) (S : List Value) (l0 l1 : Value), exec d mX6_fewest 68 [l0, l1] (.ref 0 :: S) σ = exec d mX6_fewest 71 [l0, l1] (.ref 46 :: S) σ) ∧
  (∀ (d : Nat) (σ : Sg) (S : List Value) (l0 l1 : Value), exec d mX6_fewest 71 [l0, l1] (.ref 46 :: S) σ = exec d mX6_fewest 74 [l0, l1] (.int (σ 46 4) :: S) σ) ∧
  (∀ (d : Nat) (σ : Sg) (l0 l1 : Value) (x : Int32), exec d mX6_fewest 74 [l0, l1] [.int x] σ = some (some (.int x), σ)) ∧
  (∀ (d : Nat) (σ : Sg) (S : List Value) (l1 : Value) (k : Nat), exec d mX6_fewest 75 [.ref k, l1] S σ = exec d mX6_fewest 76 [.ref k, l1] (.ref k :: S) σ) ∧
  (∀ (d : Nat) (σ : Sg) (S : List Value) (l0 l1 : Value), exec d mX6_fewest 76 [l0, l1] (.ref 0 :: S) σ = exec d mX6_fewest 79 [l0, l1] (.ref 46 :: S) σ) :=
  ⟨fun d σ S l1 k => ex_aload_n (show decode mX6_fewest.2.1 0 = .ok (.aload_n 0, 1) by decide +kernel) rfl,
  fun d σ S l0 l1 => ex_getr (idx := 26) (ci := 6) (ff := 2) (n := 11) (hh := 348) (by decide +kernel),
  fun d σ S l0 l1 => ex_get (idx := 176) (ci := 5) (ff := 0) (n := 17) (hh := 182) (by decide +kernel),
  fun d σ S l0 l1 x => ex_zne (show decode mX6_fewest.2.1 7 = .ok (.ifCond .ne 6, 3) by decide +kernel) (by decide),
  fun d σ S l0 l1 => ex_ldc (hh := 519) (show decode mX6_fewest.2.1 10 = .ok (.ldc 134, 2) by decide +kernel) (by decide +kernel),
  fun d σ l0 l1 x => ex_iret (show decode mX6_fewest.2.1 12 = .ok (.ireturn, 1) by decide +kernel) rfl,
  fun d σ S l0 x => ex_iload_n (show decode mX6_fewest.2.1 13 = .ok (.iload_n 1, 1) by decide +kernel) rfl,
  fun d σ S l0 l1 x => ex_zlt (show decode mX6_fewest.2.1 14 = .ok (.ifCond .lt 8, 3) by decide +kernel) (by decide),
  fun d σ S l0 x => ex_iload_n (show decode mX6_fewest.2.1 17 = .ok (.iload_n 1, 1) by decide +kernel) rfl,
  fun d σ S l0 l1 => ex_iconst (show decode mX6_fewest.2.1 18 = .ok (.iconst 2, 1) by decide +kernel) (by decide +kernel),
  fun d σ S l0 l1 x y => ex_cle (show decode mX6_fewest.2.1 19 = .ok (.if_icmp .le 6, 3) by decide +kernel) (by decide),
  fun d σ S l0 l1 => ex_ldc (hh := 387) (show decode mX6_fewest.2.1 22 = .ok (.ldc 64, 2) by decide +kernel) (by decide +kernel),
  fun d σ l0 l1 x => ex_iret (show decode mX6_fewest.2.1 24 = .ok (.ireturn, 1) by decide +kernel) rfl,
  fun d σ S l1 k => ex_aload_n (show decode mX6_fewest.2.1 25 = .ok (.aload_n 0, 1) by decide +kernel) rfl,
  fun d σ S l0 l1 => ex_getr (idx := 49) (ci := 6) (ff := 7) (n := 11) (hh := 353) (by decide +kernel),
  fun d σ S l1 k => ex_aload_n (show decode mX6_fewest.2.1 29 = .ok (.aload_n 0, 1) by decide +kernel) rfl,
  fun d σ S l0 l1 => ex_getr (idx := 26) (ci := 6) (ff := 2) (n := 11) (hh := 348) (by decide +kernel),
  fun d σ S l0 l1 => ex_iconst (show decode mX6_fewest.2.1 33 = .ok (.iconst 0, 1) by decide +kernel) (by decide +kernel),
  fun d σ l0 l1 x0 => ex_iv (hs := [632, 634, 34, 635, 99]) (show decode mX6_fewest.2.1 34 = .ok (.invokevirtual 222, 3) by decide +kernel) lkV_6_222 ⟨rfl, Nat.le_of_ble_eq_true rfl, Nat.le_of_ble_eq_true rfl, fun _ => rfl⟩ rfl rfl,
  fun d σ S l1 k => ex_aload_n (show decode mX6_fewest.2.1 37 = .ok (.aload_n 0, 1) by decide +kernel) rfl,
  fun d σ S l0 l1 => ex_getr (idx := 49) (ci := 6) (ff := 7) (n := 11) (hh := 353) (by decide +kernel),
  fun d σ S l0 l1 => ex_get (idx := 226) (ci := 2) (ff := 2) (n := 6) (hh := 299) (by decide +kernel),
  fun d σ S l0 l1 x => ex_zne (show decode mX6_fewest.2.1 44 = .ok (.ifCond .ne 6, 3) by decide +kernel) (by decide),
  fun d σ S l0 l1 => ex_ldc (hh := 593) (show decode mX6_fewest.2.1 47 = .ok (.ldc 192, 2) by decide +kernel) (by decide +kernel),
  fun d σ l0 l1 x => ex_iret (show decode mX6_fewest.2.1 49 = .ok (.ireturn, 1) by decide +kernel) rfl,
  fun d σ S l0 x => ex_iload_n (show decode mX6_fewest.2.1 50 = .ok (.iload_n 1, 1) by decide +kernel) rfl,
  fun d σ S l0 l1 x => ex_zne (show decode mX6_fewest.2.1 51 = .ok (.ifCond .ne 11, 3) by decide +kernel) (by decide),
  fun d σ S l1 k => ex_aload_n (show decode mX6_fewest.2.1 54 = .ok (.aload_n 0, 1) by decide +kernel) rfl,
  fun d σ S l0 l1 => ex_getr (idx := 49) (ci := 6) (ff := 7) (n := 11) (hh := 353) (by decide +kernel),
  fun d σ S l0 l1 => ex_get (idx := 229) (ci := 2) (ff := 3) (n := 6) (hh := 301) (by decide +kernel),
  fun d σ l0 l1 x => ex_iret (show decode mX6_fewest.2.1 61 = .ok (.ireturn, 1) by decide +kernel) rfl,
  fun d σ S l0 x => ex_iload_n (show decode mX6_fewest.2.1 62 = .ok (.iload_n 1, 1) by decide +kernel) rfl,
  fun d σ S l0 l1 => ex_iconst (show decode mX6_fewest.2.1 63 = .ok (.iconst 1, 1) by decide +kernel) (by decide +kernel),
  fun d σ S l0 l1 x y => ex_cne (show decode mX6_fewest.2.1 64 = .ok (.if_icmp .ne 11, 3) by decide +kernel) (by decide),
  fun d σ S l1 k => ex_aload_n (show decode mX6_fewest.2.1 67 = .ok (.aload_n 0, 1) by decide +kernel) rfl,
  fun d σ S l0 l1 => ex_getr (idx := 49) (ci := 6) (ff := 7) (n := 11) (hh := 353) (by decide +kernel),
  fun d σ S l0 l1 => ex_get (idx := 232) (ci := 2) (ff := 4) (n := 6) (hh := 303) (by decide +kernel),
  fun d σ l0 l1 x => ex_iret (show decode mX6_fewest.2.1 74 = .ok (.ireturn, 1) by decide +kernel) rfl,
  fun d σ S l1 k => ex_aload_n (show decode mX6_fewest.2.1 75 = .ok (.aload_n 0, 1) by decide +kernel) rfl,
  fun d σ S l0 l1 => ex_getr (idx := 49) (ci := 6) (ff := 7) (n := 11) (hh := 353) (by decide +kernel)⟩
theorem kX6_fewest_1 : (∀ (d : Nat) (σ : Sg) (S : List Value) (l0 l1 : Value), exec d mX6_fewest 79 [l0, l1] (.ref 46 :: S) σ = exec d mX6_fewest 82 [l0, l1] (.int (σ 46 5) :: S) σ) ∧
  (∀ (d : Nat) (σ : Sg) (S : List Value) (l0 l1 : Value), exec d mX6_fewest 82 [l0, l1] S σ = exec d mX6_fewest 84 [l0, l1] (.int (nI 7) :: S) σ) ∧
  (∀ (d : Nat) (σ : Sg) (S : List Value) (l0 l1 : Value) (x y : Int32), exec d mX6_fewest 84 [l0, l1] (.int y :: .int x :: S) σ = if x = y then exec d mX6_fewest 87 [l0, l1] S σ else exec d mX6_fewest 92 [l0, l1] S σ) ∧
  (∀ (d : Nat) (σ : Sg) (S : List Value) (l0 l1 : Value), exec d mX6_fewest 87 [l0, l1] S σ = exec d mX6_fewest 89 [l0, l1] (.int ((-1000000)) :: S) σ) ∧
  (∀ (d : Nat) (σ : Sg) (S : List Value) (l0 l1 : Value), exec d mX6_fewest 89 [l0, l1] S σ = exec d mX6_fewest 99 [l0, l1] S σ) ∧
  (∀ (d : Nat) (σ : Sg) (S : List Value) (l1 : Value) (k : Nat), exec d mX6_fewest 92 [.ref k, l1] S σ = exec d mX6_fewest 93 [.ref k, l1] (.ref k :: S) σ) ∧
  (∀ (d : Nat) (σ : Sg) (S : List Value) (l0 l1 : Value), exec d mX6_fewest 93 [l0, l1] (.ref 0 :: S) σ = exec d mX6_fewest 96 [l0, l1] (.ref 46 :: S) σ) ∧
  (∀ (d : Nat) (σ : Sg) (S : List Value) (l0 l1 : Value), exec d mX6_fewest 96 [l0, l1] (.ref 46 :: S) σ = exec d mX6_fewest 99 [l0, l1] (.int (σ 46 5) :: S) σ) ∧
  (∀ (d : Nat) (σ : Sg) (l0 l1 : Value) (x : Int32), exec d mX6_fewest 99 [l0, l1] [.int x] σ = some (some (.int x), σ)) :=
  ⟨fun d σ S l0 l1 => ex_get (idx := 233) (ci := 2) (ff := 5) (n := 6) (hh := 305) (by decide +kernel),
  fun d σ S l0 l1 => ex_bipush (show decode mX6_fewest.2.1 82 = .ok (.bipush 7, 2) by decide +kernel) (by decide +kernel),
  fun d σ S l0 l1 x y => ex_cne (show decode mX6_fewest.2.1 84 = .ok (.if_icmp .ne 8, 3) by decide +kernel) (by decide),
  fun d σ S l0 l1 => ex_ldc (hh := 593) (show decode mX6_fewest.2.1 87 = .ok (.ldc 192, 2) by decide +kernel) (by decide +kernel),
  fun d σ S l0 l1 => ex_goto (show decode mX6_fewest.2.1 89 = .ok (.goto 10, 3) by decide +kernel) (by decide),
  fun d σ S l1 k => ex_aload_n (show decode mX6_fewest.2.1 92 = .ok (.aload_n 0, 1) by decide +kernel) rfl,
  fun d σ S l0 l1 => ex_getr (idx := 49) (ci := 6) (ff := 7) (n := 11) (hh := 353) (by decide +kernel),
  fun d σ S l0 l1 => ex_get (idx := 233) (ci := 2) (ff := 5) (n := 6) (hh := 305) (by decide +kernel),
  fun d σ l0 l1 x => ex_iret (show decode mX6_fewest.2.1 99 = .ok (.ireturn, 1) by decide +kernel) rfl⟩
theorem aX6_fewest_0 : ∀ (d : Nat) (a1 : Int32) (σ : Sg), cal (d + 1) mX6_fewest [.ref 0, .int a1] σ = exec d mX6_fewest 0 [.ref 0, .int a1] [] σ := fun _ _ _ => rfl
theorem kX6_can : (∀ (d : Nat) (σ : Sg) (S : List Value) (k : Nat), exec d mX6_can 0 [.ref k] S σ = exec d mX6_can 1 [.ref k] (.ref k :: S) σ) ∧
  (∀ (d : Nat) (σ : Sg) (S : List Value) (l0 : Value), exec d mX6_can 1 [l0] (.ref 0 :: S) σ = exec d mX6_can 4 [l0] (.ref 8 :: S) σ) ∧
  (∀ (d : Nat) (σ : Sg) (S : List Value) (l0 : Value), exec d mX6_can 4 [l0] (.ref 8 :: S) σ = exec d mX6_can 7 [l0] (.int (σ 8 0) :: S) σ) ∧
  (∀ (d : Nat) (σ : Sg) (S : List Value) (l0 : Value) (x : Int32), exec d mX6_can 7 [l0] (.int x :: S) σ = if x = nI 0 then exec d mX6_can 10 [l0] S σ else exec d mX6_can 13 [l0] S σ) ∧
  (∀ (d : Nat) (σ : Sg) (S : List Value) (l0 : Value), exec d mX6_can 10 [l0] S σ = exec d mX6_can 12 [l0] (.int ((-1000002)) :: S) σ) ∧
  (∀ (d : Nat) (σ : Sg) (l0 : Value) (x : Int32), exec d mX6_can 12 [l0] [.int x] σ = some (some (.int x), σ)) ∧
  (∀ (d : Nat) (σ : Sg) (S : List Value) (k : Nat), exec d mX6_can 13 [.ref k] S σ = exec d mX6_can 14 [.ref k] (.ref k :: S) σ) ∧
  (∀ (d : Nat) (σ : Sg) (S : List Value) (l0 : Value), exec d mX6_can 14 [l0] (.ref 0 :: S) σ = exec d mX6_can 17 [l0] (.ref 46 :: S) σ) ∧
  (∀ (d : Nat) (σ : Sg) (S : List Value) (k : Nat), exec d mX6_can 17 [.ref k] S σ = exec d mX6_can 18 [.ref k] (.ref k :: S) σ) ∧
  (∀ (d : Nat) (σ : Sg) (S : List Value) (l0 : Value), exec d mX6_can 18 [l0] (.ref 0 :: S) σ = exec d mX6_can 21 [l0] (.ref 8 :: S) σ) ∧
  (∀ (d : Nat) (σ : Sg) (S : List Value) (l0 : Value), exec d mX6_can 21 [l0] S σ = exec d mX6_can 22 [l0] (.int (nI 0) :: S) σ) ∧
  (∀ (d : Nat) (σ : Sg) (l0 : Value) (x0 : Int32), exec d mX6_can 22 [l0] [.int x0, .ref 8, .ref 46] σ = kb (cal d mX2_reckon [.ref 46, .ref 8, .int x0] σ) (fun rs σ2 => exec d mX6_can 25 [l0] (rs ++ []) σ2)) ∧
  (∀ (d : Nat) (σ : Sg) (S : List Value) (k : Nat), exec d mX6_can 25 [.ref k] S σ = exec d mX6_can 26 [.ref k] (.ref k :: S) σ) ∧
  (∀ (d : Nat) (σ : Sg) (S : List Value) (l0 : Value), exec d mX6_can 26 [l0] (.ref 0 :: S) σ = exec d mX6_can 29 [l0] (.ref 46 :: S) σ) ∧
  (∀ (d : Nat) (σ : Sg) (S : List Value) (l0 : Value), exec d mX6_can 29 [l0] (.ref 46 :: S) σ = exec d mX6_can 32 [l0] (.int (σ 46 1) :: S) σ) ∧
  (∀ (d : Nat) (σ : Sg) (S : List Value) (k : Nat), exec d mX6_can 32 [.ref k] S σ = exec d mX6_can 33 [.ref k] (.ref k :: S) σ) ∧
  (∀ (d : Nat) (σ : Sg) (S : List Value) (l0 : Value), exec d mX6_can 33 [l0] (.ref 0 :: S) σ = exec d mX6_can 36 [l0] (.ref 8 :: S) σ) ∧
  (∀ (d : Nat) (σ : Sg) (S : List Value) (l0 : Value), exec d mX6_can 36 [l0] (.ref 8 :: S) σ = exec d mX6_can 39 [l0] (.int (σ 8 6) :: S) σ) ∧
  (∀ (d : Nat) (σ : Sg) (S : List Value) (l0 : Value), exec d mX6_can 39 [l0] S σ = exec d mX6_can 40 [l0] (.int ((-1)) :: S) σ) ∧
  (∀ (d : Nat) (σ : Sg) (S : List Value) (l0 : Value) (x y : Int32), exec d mX6_can 40 [l0] (.int y :: .int x :: S) σ = exec d mX6_can 41 [l0] (.int (x ^^^ y) :: S) σ) ∧
  (∀ (d : Nat) (σ : Sg) (S : List Value) (l0 : Value) (x y : Int32), exec d mX6_can 41 [l0] (.int y :: .int x :: S) σ = exec d mX6_can 42 [l0] (.int (x &&& y) :: S) σ) ∧
  (∀ (d : Nat) (σ : Sg) (l0 : Value) (x : Int32), exec d mX6_can 42 [l0] [.int x] σ = some (some (.int x), σ)) :=
  ⟨fun d σ S k => ex_aload_n (show decode mX6_can.2.1 0 = .ok (.aload_n 0, 1) by decide +kernel) rfl,
  fun d σ S l0 => ex_getr (idx := 26) (ci := 6) (ff := 2) (n := 11) (hh := 348) (by decide +kernel),
  fun d σ S l0 => ex_get (idx := 176) (ci := 5) (ff := 0) (n := 17) (hh := 182) (by decide +kernel),
  fun d σ S l0 x => ex_zne (show decode mX6_can.2.1 7 = .ok (.ifCond .ne 6, 3) by decide +kernel) (by decide),
  fun d σ S l0 => ex_ldc (hh := 519) (show decode mX6_can.2.1 10 = .ok (.ldc 134, 2) by decide +kernel) (by decide +kernel),
  fun d σ l0 x => ex_iret (show decode mX6_can.2.1 12 = .ok (.ireturn, 1) by decide +kernel) rfl,
  fun d σ S k => ex_aload_n (show decode mX6_can.2.1 13 = .ok (.aload_n 0, 1) by decide +kernel) rfl,
  fun d σ S l0 => ex_getr (idx := 49) (ci := 6) (ff := 7) (n := 11) (hh := 353) (by decide +kernel),
  fun d σ S k => ex_aload_n (show decode mX6_can.2.1 17 = .ok (.aload_n 0, 1) by decide +kernel) rfl,
  fun d σ S l0 => ex_getr (idx := 26) (ci := 6) (ff := 2) (n := 11) (hh := 348) (by decide +kernel),
  fun d σ S l0 => ex_iconst (show decode mX6_can.2.1 21 = .ok (.iconst 0, 1) by decide +kernel) (by decide +kernel),
  fun d σ l0 x0 => ex_iv (hs := [632, 634, 34, 635, 99]) (show decode mX6_can.2.1 22 = .ok (.invokevirtual 222, 3) by decide +kernel) lkV_6_222 ⟨rfl, Nat.le_of_ble_eq_true rfl, Nat.le_of_ble_eq_true rfl, fun _ => rfl⟩ rfl rfl,
  fun d σ S k => ex_aload_n (show decode mX6_can.2.1 25 = .ok (.aload_n 0, 1) by decide +kernel) rfl,
  fun d σ S l0 => ex_getr (idx := 49) (ci := 6) (ff := 7) (n := 11) (hh := 353) (by decide +kernel),
  fun d σ S l0 => ex_get (idx := 236) (ci := 2) (ff := 1) (n := 6) (hh := 297) (by decide +kernel),
  fun d σ S k => ex_aload_n (show decode mX6_can.2.1 32 = .ok (.aload_n 0, 1) by decide +kernel) rfl,
  fun d σ S l0 => ex_getr (idx := 26) (ci := 6) (ff := 2) (n := 11) (hh := 348) (by decide +kernel),
  fun d σ S l0 => ex_get (idx := 193) (ci := 5) (ff := 6) (n := 17) (hh := 208) (by decide +kernel),
  fun d σ S l0 => ex_iconst (show decode mX6_can.2.1 39 = .ok (.iconst (-1), 1) by decide +kernel) (by decide +kernel),
  fun d σ S l0 x y => ex_ixor (show decode mX6_can.2.1 40 = .ok (.ixor, 1) by decide +kernel),
  fun d σ S l0 x y => ex_iand (show decode mX6_can.2.1 41 = .ok (.iand, 1) by decide +kernel),
  fun d σ l0 x => ex_iret (show decode mX6_can.2.1 42 = .ok (.ireturn, 1) by decide +kernel) rfl⟩
theorem aX6_can_0 : ∀ (d : Nat)  (σ : Sg), cal (d + 1) mX6_can [.ref 0] σ = exec d mX6_can 0 [.ref 0] [] σ := fun _ _ => rfl
theorem kX6_feasts : (∀ (d : Nat) (σ : Sg) (S : List Value) (l1 l2 : Value) (k : Nat), exec d mX6_feasts 0 [.ref k, l1, l2] S σ = exec d mX6_feasts 1 [.ref k, l1, l2] (.ref k :: S) σ) ∧
  (∀ (d : Nat) (σ : Sg) (S : List Value) (l0 l1 l2 : Value), exec d mX6_feasts 1 [l0, l1, l2] (.ref 0 :: S) σ = exec d mX6_feasts 4 [l0, l1, l2] (.ref 8 :: S) σ) ∧
  (∀ (d : Nat) (σ : Sg) (S : List Value) (l0 l1 l2 : Value), exec d mX6_feasts 4 [l0, l1, l2] (.ref 8 :: S) σ = exec d mX6_feasts 7 [l0, l1, l2] (.int (σ 8 0) :: S) σ) ∧
  (∀ (d : Nat) (σ : Sg) (S : List Value) (l0 l1 l2 : Value) (x : Int32), exec d mX6_feasts 7 [l0, l1, l2] (.int x :: S) σ = if x = nI 0 then exec d mX6_feasts 10 [l0, l1, l2] S σ else exec d mX6_feasts 13 [l0, l1, l2] S σ) ∧
  (∀ (d : Nat) (σ : Sg) (S : List Value) (l0 l1 l2 : Value), exec d mX6_feasts 10 [l0, l1, l2] S σ = exec d mX6_feasts 12 [l0, l1, l2] (.int ((-1000002)) :: S) σ) ∧
  (∀ (d : Nat) (σ : Sg) (l0 l1 l2 : Value) (x : Int32), exec d mX6_feasts 12 [l0, l1, l2] [.int x] σ = some (some (.int x), σ)) ∧
  (∀ (d : Nat) (σ : Sg) (S : List Value) (l0 l2 : Value) (x : Int32), exec d mX6_feasts 13 [l0, .int x, l2] S σ = exec d mX6_feasts 14 [l0, .int x, l2] (.int x :: S) σ) ∧
  (∀ (d : Nat) (σ : Sg) (l0 l1 l2 : Value) (x0 : Int32), exec d mX6_feasts 14 [l0, l1, l2] [.int x0] σ = kb (cal d mX6_isOneOfTwo [.int x0] σ) (fun rs σ2 => exec d mX6_feasts 17 [l0, l1, l2] (rs ++ []) σ2)) ∧
  (∀ (d : Nat) (σ : Sg) (S : List Value) (l0 l1 l2 : Value) (x : Int32), exec d mX6_feasts 17 [l0, l1, l2] (.int x :: S) σ = if x = nI 0 then exec d mX6_feasts 20 [l0, l1, l2] S σ else exec d mX6_feasts 23 [l0, l1, l2] S σ) ∧
  (∀ (d : Nat) (σ : Sg) (S : List Value) (l0 l1 l2 : Value), exec d mX6_feasts 20 [l0, l1, l2] S σ = exec d mX6_feasts 22 [l0, l1, l2] (.int ((-1000001)) :: S) σ) ∧
  (∀ (d : Nat) (σ : Sg) (l0 l1 l2 : Value) (x : Int32), exec d mX6_feasts 22 [l0, l1, l2] [.int x] σ = some (some (.int x), σ)) ∧
  (∀ (d : Nat) (σ : Sg) (S : List Value) (l1 l2 : Value) (k : Nat), exec d mX6_feasts 23 [.ref k, l1, l2] S σ = exec d mX6_feasts 24 [.ref k, l1, l2] (.ref k :: S) σ) ∧
  (∀ (d : Nat) (σ : Sg) (l0 l1 l2 : Value), exec d mX6_feasts 24 [l0, l1, l2] [.ref 0] σ = kb (cal d mX6_cheapestFeasts [.ref 0] σ) (fun rs σ2 => exec d mX6_feasts 27 [l0, l1, l2] (rs ++ []) σ2)) ∧
  (∀ (d : Nat) (σ : Sg) (S : List Value) (l0 l2 : Value) (x y : Int32), exec d mX6_feasts 27 [l0, .int y, l2] (.int x :: S) σ = exec d mX6_feasts 28 [l0, .int y, .int x] S σ) ∧
  (∀ (d : Nat) (σ : Sg) (S : List Value) (l0 l1 : Value) (x : Int32), exec d mX6_feasts 28 [l0, l1, .int x] S σ = exec d mX6_feasts 29 [l0, l1, .int x] (.int x :: S) σ) ∧
  (∀ (d : Nat) (σ : Sg) (S : List Value) (l0 l1 l2 : Value), exec d mX6_feasts 29 [l0, l1, l2] S σ = exec d mX6_feasts 31 [l0, l1, l2] (.int ((-1000000)) :: S) σ) ∧
  (∀ (d : Nat) (σ : Sg) (S : List Value) (l0 l1 l2 : Value) (x y : Int32), exec d mX6_feasts 31 [l0, l1, l2] (.int y :: .int x :: S) σ = if x = y then exec d mX6_feasts 39 [l0, l1, l2] S σ else exec d mX6_feasts 34 [l0, l1, l2] S σ) ∧
  (∀ (d : Nat) (σ : Sg) (S : List Value) (l0 l2 : Value) (x : Int32), exec d mX6_feasts 34 [l0, .int x, l2] S σ = exec d mX6_feasts 35 [l0, .int x, l2] (.int x :: S) σ) ∧
  (∀ (d : Nat) (σ : Sg) (S : List Value) (l0 l1 l2 : Value), exec d mX6_feasts 35 [l0, l1, l2] S σ = exec d mX6_feasts 36 [l0, l1, l2] (.int (nI 1) :: S) σ) ∧
  (∀ (d : Nat) (σ : Sg) (S : List Value) (l0 l1 l2 : Value) (x y : Int32), exec d mX6_feasts 36 [l0, l1, l2] (.int y :: .int x :: S) σ = if x = y then exec d mX6_feasts 39 [l0, l1, l2] S σ else exec d mX6_feasts 43 [l0, l1, l2] S σ) ∧
  (∀ (d : Nat) (σ : Sg) (S : List Value) (l0 l1 : Value) (x : Int32), exec d mX6_feasts 39 [l0, l1, .int x] S σ = exec d mX6_feasts 40 [l0, l1, .int x] (.int x :: S) σ) ∧
  (∀ (d : Nat) (σ : Sg) (S : List Value) (l0 l1 l2 : Value), exec d mX6_feasts 40 [l0, l1, l2] S σ = exec d mX6_feasts 47 [l0, l1, l2] S σ) ∧
  (∀ (d : Nat) (σ : Sg) (S : List Value) (l0 l1 : Value) (x : Int32), exec d mX6_feasts 43 [l0, l1, .int x] S σ = exec d mX6_feasts 44 [l0, l1, .int x] (.int x :: S) σ) ∧
  (∀ (d : Nat) (σ : Sg) (l0 l1 l2 : Value) (x0 : Int32), exec d mX6_feasts 44 [l0, l1, l2] [.int x0] σ = kb (cal d mJ6_bitCount_0f7a4 [.int x0] σ) (fun rs σ2 => exec d mX6_feasts 47 [l0, l1, l2] (rs ++ []) σ2)) ∧
  (∀ (d : Nat) (σ : Sg) (l0 l1 l2 : Value) (x : Int32), exec d mX6_feasts 47 [l0, l1, l2] [.int x] σ = some (some (.int x), σ)) :=
  ⟨fun d σ S l1 l2 k => ex_aload_n (show decode mX6_feasts.2.1 0 = .ok (.aload_n 0, 1) by decide +kernel) rfl,
  fun d σ S l0 l1 l2 => ex_getr (idx := 26) (ci := 6) (ff := 2) (n := 11) (hh := 348) (by decide +kernel),
  fun d σ S l0 l1 l2 => ex_get (idx := 176) (ci := 5) (ff := 0) (n := 17) (hh := 182) (by decide +kernel),
  fun d σ S l0 l1 l2 x => ex_zne (show decode mX6_feasts.2.1 7 = .ok (.ifCond .ne 6, 3) by decide +kernel) (by decide),
  fun d σ S l0 l1 l2 => ex_ldc (hh := 519) (show decode mX6_feasts.2.1 10 = .ok (.ldc 134, 2) by decide +kernel) (by decide +kernel),
  fun d σ l0 l1 l2 x => ex_iret (show decode mX6_feasts.2.1 12 = .ok (.ireturn, 1) by decide +kernel) rfl,
  fun d σ S l0 l2 x => ex_iload_n (show decode mX6_feasts.2.1 13 = .ok (.iload_n 1, 1) by decide +kernel) rfl,
  fun d σ l0 l1 l2 x0 => ex_is (hs := [669, 670, 671, 94]) (show decode mX6_feasts.2.1 14 = .ok (.invokestatic 239, 3) by decide +kernel) lkS_6_239 ⟨rfl, Nat.le_of_ble_eq_true rfl, Nat.le_of_ble_eq_true rfl, fun q => nomatch q⟩ rfl rfl,
  fun d σ S l0 l1 l2 x => ex_zne (show decode mX6_feasts.2.1 17 = .ok (.ifCond .ne 6, 3) by decide +kernel) (by decide),
  fun d σ S l0 l1 l2 => ex_ldc (hh := 387) (show decode mX6_feasts.2.1 20 = .ok (.ldc 64, 2) by decide +kernel) (by decide +kernel),
  fun d σ l0 l1 l2 x => ex_iret (show decode mX6_feasts.2.1 22 = .ok (.ireturn, 1) by decide +kernel) rfl,
  fun d σ S l1 l2 k => ex_aload_n (show decode mX6_feasts.2.1 23 = .ok (.aload_n 0, 1) by decide +kernel) rfl,
  fun d σ l0 l1 l2 => ex_iv (hs := [672, 674, 39, 675, 94]) (show decode mX6_feasts.2.1 24 = .ok (.invokevirtual 242, 3) by decide +kernel) lkV_6_242 ⟨rfl, Nat.le_of_ble_eq_true rfl, Nat.le_of_ble_eq_true rfl, fun _ => rfl⟩ rfl rfl,
  fun d σ S l0 l2 x y => ex_istore_n (show decode mX6_feasts.2.1 27 = .ok (.istore_n 2, 1) by decide +kernel) (Nat.le_of_ble_eq_true rfl) rfl,
  fun d σ S l0 l1 x => ex_iload_n (show decode mX6_feasts.2.1 28 = .ok (.iload_n 2, 1) by decide +kernel) rfl,
  fun d σ S l0 l1 l2 => ex_ldc (hh := 593) (show decode mX6_feasts.2.1 29 = .ok (.ldc 192, 2) by decide +kernel) (by decide +kernel),
  fun d σ S l0 l1 l2 x y => ex_ceq (show decode mX6_feasts.2.1 31 = .ok (.if_icmp .eq 8, 3) by decide +kernel) (by decide),
  fun d σ S l0 l2 x => ex_iload_n (show decode mX6_feasts.2.1 34 = .ok (.iload_n 1, 1) by decide +kernel) rfl,
  fun d σ S l0 l1 l2 => ex_iconst (show decode mX6_feasts.2.1 35 = .ok (.iconst 1, 1) by decide +kernel) (by decide +kernel),
  fun d σ S l0 l1 l2 x y => ex_cne (show decode mX6_feasts.2.1 36 = .ok (.if_icmp .ne 7, 3) by decide +kernel) (by decide),
  fun d σ S l0 l1 x => ex_iload_n (show decode mX6_feasts.2.1 39 = .ok (.iload_n 2, 1) by decide +kernel) rfl,
  fun d σ S l0 l1 l2 => ex_goto (show decode mX6_feasts.2.1 40 = .ok (.goto 7, 3) by decide +kernel) (by decide),
  fun d σ S l0 l1 x => ex_iload_n (show decode mX6_feasts.2.1 43 = .ok (.iload_n 2, 1) by decide +kernel) rfl,
  fun d σ l0 l1 l2 x0 => ex_is (hs := [676, 605, 606, 104]) (show decode mX6_feasts.2.1 44 = .ok (.invokestatic 246, 3) by decide +kernel) lkS_6_246 ⟨rfl, Nat.le_of_ble_eq_true rfl, Nat.le_of_ble_eq_true rfl, fun q => nomatch q⟩ rfl rfl,
  fun d σ l0 l1 l2 x => ex_iret (show decode mX6_feasts.2.1 47 = .ok (.ireturn, 1) by decide +kernel) rfl⟩
theorem aX6_feasts_0 : ∀ (d : Nat) (a1 : Int32) (σ : Sg), cal (d + 1) mX6_feasts [.ref 0, .int a1] σ = exec d mX6_feasts 0 [.ref 0, .int a1, uu] [] σ := fun _ _ _ => rfl
theorem kX6_mends : (∀ (d : Nat) (σ : Sg) (S : List Value) (l1 l2 : Value) (k : Nat), exec d mX6_mends 0 [.ref k, l1, l2] S σ = exec d mX6_mends 1 [.ref k, l1, l2] (.ref k :: S) σ) ∧
  (∀ (d : Nat) (σ : Sg) (S : List Value) (l0 l1 l2 : Value), exec d mX6_mends 1 [l0, l1, l2] (.ref 0 :: S) σ = exec d mX6_mends 4 [l0, l1, l2] (.ref 8 :: S) σ) ∧
  (∀ (d : Nat) (σ : Sg) (S : List Value) (l0 l1 l2 : Value), exec d mX6_mends 4 [l0, l1, l2] (.ref 8 :: S) σ = exec d mX6_mends 7 [l0, l1, l2] (.int (σ 8 0) :: S) σ) ∧
  (∀ (d : Nat) (σ : Sg) (S : List Value) (l0 l1 l2 : Value) (x : Int32), exec d mX6_mends 7 [l0, l1, l2] (.int x :: S) σ = if x = nI 0 then exec d mX6_mends 10 [l0, l1, l2] S σ else exec d mX6_mends 13 [l0, l1, l2] S σ) ∧
  (∀ (d : Nat) (σ : Sg) (S : List Value) (l0 l1 l2 : Value), exec d mX6_mends 10 [l0, l1, l2] S σ = exec d mX6_mends 12 [l0, l1, l2] (.int ((-1000002)) :: S) σ) ∧
  (∀ (d : Nat) (σ : Sg) (l0 l1 l2 : Value) (x : Int32), exec d mX6_mends 12 [l0, l1, l2] [.int x] σ = some (some (.int x), σ)) ∧
  (∀ (d : Nat) (σ : Sg) (S : List Value) (l0 l2 : Value) (x : Int32), exec d mX6_mends 13 [l0, .int x, l2] S σ = exec d mX6_mends 14 [l0, .int x, l2] (.int x :: S) σ) ∧
  (∀ (d : Nat) (σ : Sg) (l0 l1 l2 : Value) (x0 : Int32), exec d mX6_mends 14 [l0, l1, l2] [.int x0] σ = kb (cal d mX6_isOneOfTwo [.int x0] σ) (fun rs σ2 => exec d mX6_mends 17 [l0, l1, l2] (rs ++ []) σ2)) ∧
  (∀ (d : Nat) (σ : Sg) (S : List Value) (l0 l1 l2 : Value) (x : Int32), exec d mX6_mends 17 [l0, l1, l2] (.int x :: S) σ = if x = nI 0 then exec d mX6_mends 20 [l0, l1, l2] S σ else exec d mX6_mends 23 [l0, l1, l2] S σ) ∧
  (∀ (d : Nat) (σ : Sg) (S : List Value) (l0 l1 l2 : Value), exec d mX6_mends 20 [l0, l1, l2] S σ = exec d mX6_mends 22 [l0, l1, l2] (.int ((-1000001)) :: S) σ) ∧
  (∀ (d : Nat) (σ : Sg) (l0 l1 l2 : Value) (x : Int32), exec d mX6_mends 22 [l0, l1, l2] [.int x] σ = some (some (.int x), σ)) ∧
  (∀ (d : Nat) (σ : Sg) (S : List Value) (l1 l2 : Value) (k : Nat), exec d mX6_mends 23 [.ref k, l1, l2] S σ = exec d mX6_mends 24 [.ref k, l1, l2] (.ref k :: S) σ) ∧
  (∀ (d : Nat) (σ : Sg) (l0 l1 l2 : Value), exec d mX6_mends 24 [l0, l1, l2] [.ref 0] σ = kb (cal d mX6_leastMends [.ref 0] σ) (fun rs σ2 => exec d mX6_mends 27 [l0, l1, l2] (rs ++ []) σ2)) ∧
  (∀ (d : Nat) (σ : Sg) (S : List Value) (l0 l2 : Value) (x y : Int32), exec d mX6_mends 27 [l0, .int y, l2] (.int x :: S) σ = exec d mX6_mends 28 [l0, .int y, .int x] S σ) ∧
  (∀ (d : Nat) (σ : Sg) (S : List Value) (l0 l1 : Value) (x : Int32), exec d mX6_mends 28 [l0, l1, .int x] S σ = exec d mX6_mends 29 [l0, l1, .int x] (.int x :: S) σ) ∧
  (∀ (d : Nat) (σ : Sg) (S : List Value) (l0 l1 l2 : Value), exec d mX6_mends 29 [l0, l1, l2] S σ = exec d mX6_mends 31 [l0, l1, l2] (.int ((-1000000)) :: S) σ) ∧
  (∀ (d : Nat) (σ : Sg) (S : List Value) (l0 l1 l2 : Value) (x y : Int32), exec d mX6_mends 31 [l0, l1, l2] (.int y :: .int x :: S) σ = if x = y then exec d mX6_mends 39 [l0, l1, l2] S σ else exec d mX6_mends 34 [l0, l1, l2] S σ) ∧
  (∀ (d : Nat) (σ : Sg) (S : List Value) (l0 l2 : Value) (x : Int32), exec d mX6_mends 34 [l0, .int x, l2] S σ = exec d mX6_mends 35 [l0, .int x, l2] (.int x :: S) σ) ∧
  (∀ (d : Nat) (σ : Sg) (S : List Value) (l0 l1 l2 : Value), exec d mX6_mends 35 [l0, l1, l2] S σ = exec d mX6_mends 36 [l0, l1, l2] (.int (nI 1) :: S) σ) ∧
  (∀ (d : Nat) (σ : Sg) (S : List Value) (l0 l1 l2 : Value) (x y : Int32), exec d mX6_mends 36 [l0, l1, l2] (.int y :: .int x :: S) σ = if x = y then exec d mX6_mends 39 [l0, l1, l2] S σ else exec d mX6_mends 43 [l0, l1, l2] S σ) ∧
  (∀ (d : Nat) (σ : Sg) (S : List Value) (l0 l1 : Value) (x : Int32), exec d mX6_mends 39 [l0, l1, .int x] S σ = exec d mX6_mends 40 [l0, l1, .int x] (.int x :: S) σ) ∧
  (∀ (d : Nat) (σ : Sg) (S : List Value) (l0 l1 l2 : Value), exec d mX6_mends 40 [l0, l1, l2] S σ = exec d mX6_mends 47 [l0, l1, l2] S σ) ∧
  (∀ (d : Nat) (σ : Sg) (S : List Value) (l0 l1 : Value) (x : Int32), exec d mX6_mends 43 [l0, l1, .int x] S σ = exec d mX6_mends 44 [l0, l1, .int x] (.int x :: S) σ) ∧
  (∀ (d : Nat) (σ : Sg) (l0 l1 l2 : Value) (x0 : Int32), exec d mX6_mends 44 [l0, l1, l2] [.int x0] σ = kb (cal d mJ6_bitCount_0f7a4 [.int x0] σ) (fun rs σ2 => exec d mX6_mends 47 [l0, l1, l2] (rs ++ []) σ2)) ∧
  (∀ (d : Nat) (σ : Sg) (l0 l1 l2 : Value) (x : Int32), exec d mX6_mends 47 [l0, l1, l2] [.int x] σ = some (some (.int x), σ)) :=
  ⟨fun d σ S l1 l2 k => ex_aload_n (show decode mX6_mends.2.1 0 = .ok (.aload_n 0, 1) by decide +kernel) rfl,
  fun d σ S l0 l1 l2 => ex_getr (idx := 26) (ci := 6) (ff := 2) (n := 11) (hh := 348) (by decide +kernel),
  fun d σ S l0 l1 l2 => ex_get (idx := 176) (ci := 5) (ff := 0) (n := 17) (hh := 182) (by decide +kernel),
  fun d σ S l0 l1 l2 x => ex_zne (show decode mX6_mends.2.1 7 = .ok (.ifCond .ne 6, 3) by decide +kernel) (by decide),
  fun d σ S l0 l1 l2 => ex_ldc (hh := 519) (show decode mX6_mends.2.1 10 = .ok (.ldc 134, 2) by decide +kernel) (by decide +kernel),
  fun d σ l0 l1 l2 x => ex_iret (show decode mX6_mends.2.1 12 = .ok (.ireturn, 1) by decide +kernel) rfl,
  fun d σ S l0 l2 x => ex_iload_n (show decode mX6_mends.2.1 13 = .ok (.iload_n 1, 1) by decide +kernel) rfl,
  fun d σ l0 l1 l2 x0 => ex_is (hs := [669, 670, 671, 94]) (show decode mX6_mends.2.1 14 = .ok (.invokestatic 239, 3) by decide +kernel) lkS_6_239 ⟨rfl, Nat.le_of_ble_eq_true rfl, Nat.le_of_ble_eq_true rfl, fun q => nomatch q⟩ rfl rfl,
  fun d σ S l0 l1 l2 x => ex_zne (show decode mX6_mends.2.1 17 = .ok (.ifCond .ne 6, 3) by decide +kernel) (by decide),
  fun d σ S l0 l1 l2 => ex_ldc (hh := 387) (show decode mX6_mends.2.1 20 = .ok (.ldc 64, 2) by decide +kernel) (by decide +kernel),
  fun d σ l0 l1 l2 x => ex_iret (show decode mX6_mends.2.1 22 = .ok (.ireturn, 1) by decide +kernel) rfl,
  fun d σ S l1 l2 k => ex_aload_n (show decode mX6_mends.2.1 23 = .ok (.aload_n 0, 1) by decide +kernel) rfl,
  fun d σ l0 l1 l2 => ex_iv (hs := [686, 688, 41, 689, 94]) (show decode mX6_mends.2.1 24 = .ok (.invokevirtual 251, 3) by decide +kernel) lkV_6_251 ⟨rfl, Nat.le_of_ble_eq_true rfl, Nat.le_of_ble_eq_true rfl, fun _ => rfl⟩ rfl rfl,
  fun d σ S l0 l2 x y => ex_istore_n (show decode mX6_mends.2.1 27 = .ok (.istore_n 2, 1) by decide +kernel) (Nat.le_of_ble_eq_true rfl) rfl,
  fun d σ S l0 l1 x => ex_iload_n (show decode mX6_mends.2.1 28 = .ok (.iload_n 2, 1) by decide +kernel) rfl,
  fun d σ S l0 l1 l2 => ex_ldc (hh := 593) (show decode mX6_mends.2.1 29 = .ok (.ldc 192, 2) by decide +kernel) (by decide +kernel),
  fun d σ S l0 l1 l2 x y => ex_ceq (show decode mX6_mends.2.1 31 = .ok (.if_icmp .eq 8, 3) by decide +kernel) (by decide),
  fun d σ S l0 l2 x => ex_iload_n (show decode mX6_mends.2.1 34 = .ok (.iload_n 1, 1) by decide +kernel) rfl,
  fun d σ S l0 l1 l2 => ex_iconst (show decode mX6_mends.2.1 35 = .ok (.iconst 1, 1) by decide +kernel) (by decide +kernel),
  fun d σ S l0 l1 l2 x y => ex_cne (show decode mX6_mends.2.1 36 = .ok (.if_icmp .ne 7, 3) by decide +kernel) (by decide),
  fun d σ S l0 l1 x => ex_iload_n (show decode mX6_mends.2.1 39 = .ok (.iload_n 2, 1) by decide +kernel) rfl,
  fun d σ S l0 l1 l2 => ex_goto (show decode mX6_mends.2.1 40 = .ok (.goto 7, 3) by decide +kernel) (by decide),
  fun d σ S l0 l1 x => ex_iload_n (show decode mX6_mends.2.1 43 = .ok (.iload_n 2, 1) by decide +kernel) rfl,
  fun d σ l0 l1 l2 x0 => ex_is (hs := [676, 605, 606, 104]) (show decode mX6_mends.2.1 44 = .ok (.invokestatic 246, 3) by decide +kernel) lkS_6_246 ⟨rfl, Nat.le_of_ble_eq_true rfl, Nat.le_of_ble_eq_true rfl, fun q => nomatch q⟩ rfl rfl,
  fun d σ l0 l1 l2 x => ex_iret (show decode mX6_mends.2.1 47 = .ok (.ireturn, 1) by decide +kernel) rfl⟩
theorem aX6_mends_0 : ∀ (d : Nat) (a1 : Int32) (σ : Sg), cal (d + 1) mX6_mends [.ref 0, .int a1] σ = exec d mX6_mends 0 [.ref 0, .int a1, uu] [] σ := fun _ _ _ => rfl
theorem kX6_decides_0 : (∀ (d : Nat) (σ : Sg) (S : List Value) (l1 l2 l3 l4 : Value) (k : Nat), exec d mX6_decides 0 [.ref k, l1, l2, l3, l4] S σ = exec d mX6_decides 1 [.ref k, l1, l2, l3, l4] (.ref k :: S) σ) ∧
  (∀ (d : Nat) (σ : Sg) (S : List Value) (l0 l1 l2 l3 l4 : Value), exec d mX6_decides 1 [l0, l1, l2, l3, l4] (.ref 0 :: S) σ = exec d mX6_decides 4 [l0, l1, l2, l3, l4] (.ref 8 :: S) σ) ∧
  (∀ (d : Nat) (σ : Sg) (S : List Value) (l0 l1 l2 l3 l4 : Value), exec d mX6_decides 4 [l0, l1, l2, l3, l4] (.ref 8 :: S) σ = exec d mX6_decides 7 [l0, l1, l2, l3, l4] (.int (σ 8 0) :: S) σ) ∧
  (∀ (d : Nat) (σ : Sg) (S : List Value) (l0 l1 l2 l3 l4 : Value) (x : Int32), exec d mX6_decides 7 [l0, l1, l2, l3, l4] (.int x :: S) σ = if x = nI 0 then exec d mX6_decides 10 [l0, l1, l2, l3, l4] S σ else exec d mX6_decides 13 [l0, l1, l2, l3, l4] S σ) ∧
  (∀ (d : Nat) (σ : Sg) (S : List Value) (l0 l1 l2 l3 l4 : Value), exec d mX6_decides 10 [l0, l1, l2, l3, l4] S σ = exec d mX6_decides 12 [l0, l1, l2, l3, l4] (.int ((-1000002)) :: S) σ) ∧
  (∀ (d : Nat) (σ : Sg) (l0 l1 l2 l3 l4 : Value) (x : Int32), exec d mX6_decides 12 [l0, l1, l2, l3, l4] [.int x] σ = some (some (.int x), σ)) ∧
  (∀ (d : Nat) (σ : Sg) (S : List Value) (l1 l2 l3 l4 : Value) (k : Nat), exec d mX6_decides 13 [.ref k, l1, l2, l3, l4] S σ = exec d mX6_decides 14 [.ref k, l1, l2, l3, l4] (.ref k :: S) σ) ∧
  (∀ (d : Nat) (σ : Sg) (S : List Value) (l0 l1 l2 l3 l4 : Value), exec d mX6_decides 14 [l0, l1, l2, l3, l4] (.ref 0 :: S) σ = exec d mX6_decides 17 [l0, l1, l2, l3, l4] (.ref 8 :: S) σ) ∧
  (∀ (d : Nat) (σ : Sg) (S : List Value) (l1 l2 l3 l4 : Value) (k : Nat), exec d mX6_decides 17 [.ref k, l1, l2, l3, l4] S σ = exec d mX6_decides 18 [.ref k, l1, l2, l3, l4] (.ref k :: S) σ) ∧
  (∀ (d : Nat) (σ : Sg) (S : List Value) (l0 l1 l2 l3 l4 : Value), exec d mX6_decides 18 [l0, l1, l2, l3, l4] (.ref 0 :: S) σ = exec d mX6_decides 21 [l0, l1, l2, l3, l4] (.ref 8 :: S) σ) ∧
  (∀ (d : Nat) (σ : Sg) (S : List Value) (l0 l1 l2 l3 l4 : Value), exec d mX6_decides 21 [l0, l1, l2, l3, l4] (.ref 8 :: S) σ = exec d mX6_decides 24 [l0, l1, l2, l3, l4] (.int (σ 8 7) :: S) σ) ∧
  (∀ (d : Nat) (σ : Sg) (S : List Value) (l1 l2 l3 l4 : Value) (k : Nat), exec d mX6_decides 24 [.ref k, l1, l2, l3, l4] S σ = exec d mX6_decides 25 [.ref k, l1, l2, l3, l4] (.ref k :: S) σ) ∧
  (∀ (d : Nat) (σ : Sg) (S : List Value) (l0 l1 l2 l3 l4 : Value), exec d mX6_decides 25 [l0, l1, l2, l3, l4] (.ref 0 :: S) σ = exec d mX6_decides 28 [l0, l1, l2, l3, l4] (.ref 8 :: S) σ) ∧
  (∀ (d : Nat) (σ : Sg) (S : List Value) (l0 l1 l2 l3 l4 : Value), exec d mX6_decides 28 [l0, l1, l2, l3, l4] (.ref 8 :: S) σ = exec d mX6_decides 31 [l0, l1, l2, l3, l4] (.int (σ 8 8) :: S) σ) ∧
  (∀ (d : Nat) (σ : Sg) (l0 l1 l2 l3 l4 : Value) (x0 x1 : Int32), exec d mX6_decides 31 [l0, l1, l2, l3, l4] [.int x0, .int x1, .ref 8] σ = kb (cal d mX5_votes [.ref 8, .int x1, .int x0] σ) (fun rs σ2 => exec d mX6_decides 34 [l0, l1, l2, l3, l4] (rs ++ []) σ2)) ∧
  (∀ (d : Nat) (σ : Sg) (S : List Value) (l1 l2 l3 l4 : Value) (k : Nat) (x : Int32), exec d mX6_decides 34 [.ref k, l1, l2, l3, l4] (.int x :: S) σ = exec d mX6_decides 35 [.ref k, .int x, l2, l3, l4] S σ) ∧
  (∀ (d : Nat) (σ : Sg) (S : List Value) (l1 l2 l3 l4 : Value) (k : Nat), exec d mX6_decides 35 [.ref k, l1, l2, l3, l4] S σ = exec d mX6_decides 36 [.ref k, l1, l2, l3, l4] (.ref k :: S) σ) ∧
  (∀ (d : Nat) (σ : Sg) (S : List Value) (l0 l1 l2 l3 l4 : Value), exec d mX6_decides 36 [l0, l1, l2, l3, l4] (.ref 0 :: S) σ = exec d mX6_decides 39 [l0, l1, l2, l3, l4] (.ref 8 :: S) σ) ∧
  (∀ (d : Nat) (σ : Sg) (S : List Value) (l0 l2 l3 l4 : Value) (x : Int32), exec d mX6_decides 39 [l0, .int x, l2, l3, l4] S σ = exec d mX6_decides 40 [l0, .int x, l2, l3, l4] (.int x :: S) σ) ∧
  (∀ (d : Nat) (σ : Sg) (l0 l1 l2 l3 l4 : Value) (x0 : Int32), exec d mX6_decides 40 [l0, l1, l2, l3, l4] [.int x0, .ref 8] σ = kb (cal d mX5_wins [.ref 8, .int x0] σ) (fun rs σ2 => exec d mX6_decides 43 [l0, l1, l2, l3, l4] (rs ++ []) σ2)) ∧
  (∀ (d : Nat) (σ : Sg) (S : List Value) (l0 l2 l3 l4 : Value) (x y : Int32), exec d mX6_decides 43 [l0, .int y, l2, l3, l4] (.int x :: S) σ = exec d mX6_decides 44 [l0, .int y, .int x, l3, l4] S σ) ∧
  (∀ (d : Nat) (σ : Sg) (S : List Value) (l0 l1 l2 l3 l4 : Value), exec d mX6_decides 44 [l0, l1, l2, l3, l4] S σ = exec d mX6_decides 45 [l0, l1, l2, l3, l4] (.int (nI 0) :: S) σ) ∧
  (∀ (d : Nat) (σ : Sg) (S : List Value) (l0 l1 l3 l4 : Value) (x y : Int32), exec d mX6_decides 45 [l0, l1, .int y, l3, l4] (.int x :: S) σ = exec d mX6_decides 46 [l0, l1, .int y, .int x, l4] S σ) ∧
  (∀ (d : Nat) (σ : Sg) (S : List Value) (l0 l1 l2 l3 l4 : Value), exec d mX6_decides 46 [l0, l1, l2, l3, l4] S σ = exec d mX6_decides 47 [l0, l1, l2, l3, l4] (.int (nI 0) :: S) σ) ∧
  (∀ (d : Nat) (σ : Sg) (S : List Value) (l0 l1 l2 l4 : Value) (x y : Int32), exec d mX6_decides 47 [l0, l1, l2, .int y, l4] (.int x :: S) σ = exec d mX6_decides 49 [l0, l1, l2, .int y, .int x] S σ) ∧
  (∀ (d : Nat) (σ : Sg) (S : List Value) (l1 l2 l3 l4 : Value) (k : Nat), exec d mX6_decides 51 [.ref k, l1, l2, l3, l4] S σ = exec d mX6_decides 52 [.ref k, l1, l2, l3, l4] (.ref k :: S) σ) ∧
  (∀ (d : Nat) (σ : Sg) (S : List Value) (l0 l1 l2 l3 l4 : Value), exec d mX6_decides 52 [l0, l1, l2, l3, l4] (.ref 0 :: S) σ = exec d mX6_decides 55 [l0, l1, l2, l3, l4] (.ref 8 :: S) σ) ∧
  (∀ (d : Nat) (σ : Sg) (S : List Value) (l0 l1 l2 l3 l4 : Value), exec d mX6_decides 55 [l0, l1, l2, l3, l4] (.ref 8 :: S) σ = exec d mX6_decides 58 [l0, l1, l2, l3, l4] (.int (σ 8 5) :: S) σ) ∧
  (∀ (d : Nat) (σ : Sg) (S : List Value) (l0 l1 l2 l3 l4 : Value) (x y : Int32), exec d mX6_decides 58 [l0, l1, l2, l3, l4] (.int y :: .int x :: S) σ = if y ≤ x then exec d mX6_decides 91 [l0, l1, l2, l3, l4] S σ else exec d mX6_decides 61 [l0, l1, l2, l3, l4] S σ) ∧
  (∀ (d : Nat) (σ : Sg) (S : List Value) (l1 l2 l3 l4 : Value) (k : Nat), exec d mX6_decides 61 [.ref k, l1, l2, l3, l4] S σ = exec d mX6_decides 62 [.ref k, l1, l2, l3, l4] (.ref k :: S) σ) ∧
  (∀ (d : Nat) (σ : Sg) (S : List Value) (l0 l1 l2 l3 l4 : Value), exec d mX6_decides 62 [l0, l1, l2, l3, l4] (.ref 0 :: S) σ = exec d mX6_decides 65 [l0, l1, l2, l3, l4] (.ref 8 :: S) σ) ∧
  (∀ (d : Nat) (σ : Sg) (S : List Value) (l0 l2 l3 l4 : Value) (x : Int32), exec d mX6_decides 65 [l0, .int x, l2, l3, l4] S σ = exec d mX6_decides 66 [l0, .int x, l2, l3, l4] (.int x :: S) σ) ∧
  (∀ (d : Nat) (σ : Sg) (S : List Value) (l0 l1 l2 l3 l4 : Value), exec d mX6_decides 66 [l0, l1, l2, l3, l4] S σ = exec d mX6_decides 67 [l0, l1, l2, l3, l4] (.int (nI 1) :: S) σ) ∧
  (∀ (d : Nat) (σ : Sg) (S : List Value) (l0 l1 l2 l3 : Value) (x : Int32), exec d mX6_decides 67 [l0, l1, l2, l3, .int x] S σ = exec d mX6_decides 69 [l0, l1, l2, l3, .int x] (.int x :: S) σ) ∧
  (∀ (d : Nat) (σ : Sg) (S : List Value) (l0 l1 l2 l3 l4 : Value) (x y : Int32), exec d mX6_decides 69 [l0, l1, l2, l3, l4] (.int y :: .int x :: S) σ = exec d mX6_decides 70 [l0, l1, l2, l3, l4] (.int (x <<< (y &&& 31)) :: S) σ) ∧
  (∀ (d : Nat) (σ : Sg) (S : List Value) (l0 l1 l2 l3 l4 : Value) (x y : Int32), exec d mX6_decides 70 [l0, l1, l2, l3, l4] (.int y :: .int x :: S) σ = exec d mX6_decides 71 [l0, l1, l2, l3, l4] (.int (x ^^^ y) :: S) σ) ∧
  (∀ (d : Nat) (σ : Sg) (l0 l1 l2 l3 l4 : Value) (x0 : Int32), exec d mX6_decides 71 [l0, l1, l2, l3, l4] [.int x0, .ref 8] σ = kb (cal d mX5_wins [.ref 8, .int x0] σ) (fun rs σ2 => exec d mX6_decides 74 [l0, l1, l2, l3, l4] (rs ++ []) σ2)) ∧
  (∀ (d : Nat) (σ : Sg) (S : List Value) (l0 l1 l3 l4 : Value) (x : Int32), exec d mX6_decides 74 [l0, l1, .int x, l3, l4] S σ = exec d mX6_decides 75 [l0, l1, .int x, l3, l4] (.int x :: S) σ) ∧
  (∀ (d : Nat) (σ : Sg) (S : List Value) (l0 l1 l2 l3 l4 : Value) (x y : Int32), exec d mX6_decides 75 [l0, l1, l2, l3, l4] (.int y :: .int x :: S) σ = if x = y then exec d mX6_decides 85 [l0, l1, l2, l3, l4] S σ else exec d mX6_decides 78 [l0, l1, l2, l3, l4] S σ) ∧
  (∀ (d : Nat) (σ : Sg) (S : List Value) (l0 l1 l2 l4 : Value) (x : Int32), exec d mX6_decides 78 [l0, l1, l2, .int x, l4] S σ = exec d mX6_decides 79 [l0, l1, l2, .int x, l4] (.int x :: S) σ) :=
  ⟨fun d σ S l1 l2 l3 l4 k => ex_aload_n (show decode mX6_decides.2.1 0 = .ok (.aload_n 0, 1) by decide +kernel) rfl,
  fun d σ S l0 l1 l2 l3 l4 => ex_getr (idx := 26) (ci := 6) (ff := 2) (n := 11) (hh := 348) (by decide +kernel),
  fun d σ S l0 l1 l2 l3 l4 => ex_get (idx := 176) (ci := 5) (ff := 0) (n := 17) (hh := 182) (by decide +kernel),
  fun d σ S l0 l1 l2 l3 l4 x => ex_zne (show decode mX6_decides.2.1 7 = .ok (.ifCond .ne 6, 3) by decide +kernel) (by decide),
  fun d σ S l0 l1 l2 l3 l4 => ex_ldc (hh := 519) (show decode mX6_decides.2.1 10 = .ok (.ldc 134, 2) by decide +kernel) (by decide +kernel),
  fun d σ l0 l1 l2 l3 l4 x => ex_iret (show decode mX6_decides.2.1 12 = .ok (.ireturn, 1) by decide +kernel) rfl,
  fun d σ S l1 l2 l3 l4 k => ex_aload_n (show decode mX6_decides.2.1 13 = .ok (.aload_n 0, 1) by decide +kernel) rfl,
  fun d σ S l0 l1 l2 l3 l4 => ex_getr (idx := 26) (ci := 6) (ff := 2) (n := 11) (hh := 348) (by decide +kernel),
  fun d σ S l1 l2 l3 l4 k => ex_aload_n (show decode mX6_decides.2.1 17 = .ok (.aload_n 0, 1) by decide +kernel) rfl,
  fun d σ S l0 l1 l2 l3 l4 => ex_getr (idx := 26) (ci := 6) (ff := 2) (n := 11) (hh := 348) (by decide +kernel),
  fun d σ S l0 l1 l2 l3 l4 => ex_get (idx := 151) (ci := 5) (ff := 7) (n := 17) (hh := 212) (by decide +kernel),
  fun d σ S l1 l2 l3 l4 k => ex_aload_n (show decode mX6_decides.2.1 24 = .ok (.aload_n 0, 1) by decide +kernel) rfl,
  fun d σ S l0 l1 l2 l3 l4 => ex_getr (idx := 26) (ci := 6) (ff := 2) (n := 11) (hh := 348) (by decide +kernel),
  fun d σ S l0 l1 l2 l3 l4 => ex_get (idx := 167) (ci := 5) (ff := 8) (n := 17) (hh := 215) (by decide +kernel),
  fun d σ l0 l1 l2 l3 l4 x0 x1 => ex_iv (hs := [610, 612, 31, 613, 97]) (show decode mX6_decides.2.1 31 = .ok (.invokevirtual 215, 3) by decide +kernel) lkV_6_215 ⟨rfl, Nat.le_of_ble_eq_true rfl, Nat.le_of_ble_eq_true rfl, fun _ => rfl⟩ rfl rfl,
  fun d σ S l1 l2 l3 l4 k x => ex_istore_n (show decode mX6_decides.2.1 34 = .ok (.istore_n 1, 1) by decide +kernel) (Nat.le_of_ble_eq_true rfl) rfl,
  fun d σ S l1 l2 l3 l4 k => ex_aload_n (show decode mX6_decides.2.1 35 = .ok (.aload_n 0, 1) by decide +kernel) rfl,
  fun d σ S l0 l1 l2 l3 l4 => ex_getr (idx := 26) (ci := 6) (ff := 2) (n := 11) (hh := 348) (by decide +kernel),
  fun d σ S l0 l2 l3 l4 x => ex_iload_n (show decode mX6_decides.2.1 39 = .ok (.iload_n 1, 1) by decide +kernel) rfl,
  fun d σ l0 l1 l2 l3 l4 x0 => ex_iv (hs := [681, 626, 33, 627, 97]) (show decode mX6_decides.2.1 40 = .ok (.invokevirtual 254, 3) by decide +kernel) lkV_6_254 ⟨rfl, Nat.le_of_ble_eq_true rfl, Nat.le_of_ble_eq_true rfl, fun _ => rfl⟩ rfl rfl,
  fun d σ S l0 l2 l3 l4 x y => ex_istore_n (show decode mX6_decides.2.1 43 = .ok (.istore_n 2, 1) by decide +kernel) (Nat.le_of_ble_eq_true rfl) rfl,
  fun d σ S l0 l1 l2 l3 l4 => ex_iconst (show decode mX6_decides.2.1 44 = .ok (.iconst 0, 1) by decide +kernel) (by decide +kernel),
  fun d σ S l0 l1 l3 l4 x y => ex_istore_n (show decode mX6_decides.2.1 45 = .ok (.istore_n 3, 1) by decide +kernel) (Nat.le_of_ble_eq_true rfl) rfl,
  fun d σ S l0 l1 l2 l3 l4 => ex_iconst (show decode mX6_decides.2.1 46 = .ok (.iconst 0, 1) by decide +kernel) (by decide +kernel),
  fun d σ S l0 l1 l2 l4 x y => ex_istore (show decode mX6_decides.2.1 47 = .ok (.istore 4, 2) by decide +kernel) (Nat.le_of_ble_eq_true rfl) rfl,
  fun d σ S l1 l2 l3 l4 k => ex_aload_n (show decode mX6_decides.2.1 51 = .ok (.aload_n 0, 1) by decide +kernel) rfl,
  fun d σ S l0 l1 l2 l3 l4 => ex_getr (idx := 26) (ci := 6) (ff := 2) (n := 11) (hh := 348) (by decide +kernel),
  fun d σ S l0 l1 l2 l3 l4 => ex_get (idx := 257) (ci := 5) (ff := 5) (n := 17) (hh := 204) (by decide +kernel),
  fun d σ S l0 l1 l2 l3 l4 x y => ex_cge (show decode mX6_decides.2.1 58 = .ok (.if_icmp .ge 33, 3) by decide +kernel) (by decide),
  fun d σ S l1 l2 l3 l4 k => ex_aload_n (show decode mX6_decides.2.1 61 = .ok (.aload_n 0, 1) by decide +kernel) rfl,
  fun d σ S l0 l1 l2 l3 l4 => ex_getr (idx := 26) (ci := 6) (ff := 2) (n := 11) (hh := 348) (by decide +kernel),
  fun d σ S l0 l2 l3 l4 x => ex_iload_n (show decode mX6_decides.2.1 65 = .ok (.iload_n 1, 1) by decide +kernel) rfl,
  fun d σ S l0 l1 l2 l3 l4 => ex_iconst (show decode mX6_decides.2.1 66 = .ok (.iconst 1, 1) by decide +kernel) (by decide +kernel),
  fun d σ S l0 l1 l2 l3 x => ex_iload (show decode mX6_decides.2.1 67 = .ok (.iload 4, 2) by decide +kernel) rfl,
  fun d σ S l0 l1 l2 l3 l4 x y => ex_ishl (show decode mX6_decides.2.1 69 = .ok (.ishl, 1) by decide +kernel),
  fun d σ S l0 l1 l2 l3 l4 x y => ex_ixor (show decode mX6_decides.2.1 70 = .ok (.ixor, 1) by decide +kernel),
  fun d σ l0 l1 l2 l3 l4 x0 => ex_iv (hs := [681, 626, 33, 627, 97]) (show decode mX6_decides.2.1 71 = .ok (.invokevirtual 254, 3) by decide +kernel) lkV_6_254 ⟨rfl, Nat.le_of_ble_eq_true rfl, Nat.le_of_ble_eq_true rfl, fun _ => rfl⟩ rfl rfl,
  fun d σ S l0 l1 l3 l4 x => ex_iload_n (show decode mX6_decides.2.1 74 = .ok (.iload_n 2, 1) by decide +kernel) rfl,
  fun d σ S l0 l1 l2 l3 l4 x y => ex_ceq (show decode mX6_decides.2.1 75 = .ok (.if_icmp .eq 10, 3) by decide +kernel) (by decide),
  fun d σ S l0 l1 l2 l4 x => ex_iload_n (show decode mX6_decides.2.1 78 = .ok (.iload_n 3, 1) by decide +kernel) rfl⟩
theorem kX6_decides_1 : (∀ (d : Nat) (σ : Sg) (S : List Value) (l0 l1 l2 l3 l4 : Value), exec d mX6_decides 79 [l0, l1, l2, l3, l4] S σ = exec d mX6_decides 80 [l0, l1, l2, l3, l4] (.int (nI 1) :: S) σ) ∧
  (∀ (d : Nat) (σ : Sg) (S : List Value) (l0 l1 l2 l3 : Value) (x : Int32), exec d mX6_decides 80 [l0, l1, l2, l3, .int x] S σ = exec d mX6_decides 82 [l0, l1, l2, l3, .int x] (.int x :: S) σ) ∧
  (∀ (d : Nat) (σ : Sg) (S : List Value) (l0 l1 l2 l3 l4 : Value) (x y : Int32), exec d mX6_decides 82 [l0, l1, l2, l3, l4] (.int y :: .int x :: S) σ = exec d mX6_decides 83 [l0, l1, l2, l3, l4] (.int (x <<< (y &&& 31)) :: S) σ) ∧
  (∀ (d : Nat) (σ : Sg) (S : List Value) (l0 l1 l2 l3 l4 : Value) (x y : Int32), exec d mX6_decides 83 [l0, l1, l2, l3, l4] (.int y :: .int x :: S) σ = exec d mX6_decides 84 [l0, l1, l2, l3, l4] (.int (x ||| y) :: S) σ) ∧
  (∀ (d : Nat) (σ : Sg) (S : List Value) (l0 l1 l3 l4 : Value) (x y : Int32), exec d mX6_decides 84 [l0, l1, .int y, l3, l4] (.int x :: S) σ = exec d mX6_decides 85 [l0, l1, .int y, .int x, l4] S σ) ∧
  (∀ (d : Nat) (σ : Sg) (S : List Value) (l0 l1 l2 : Value) (x y : Int32), exec d mX6_decides 85 [l0, l1, l2, .int y, .int x] S σ = exec d mX6_decides 88 [l0, l1, l2, .int y, .int (x + nI 1)] S σ) ∧
  (∀ (d : Nat) (σ : Sg) (S : List Value) (l0 l1 l2 l3 l4 : Value), exec d mX6_decides 88 [l0, l1, l2, l3, l4] S σ = exec d mX6_decides 49 [l0, l1, l2, l3, l4] S σ) ∧
  (∀ (d : Nat) (σ : Sg) (S : List Value) (l0 l1 l2 l4 : Value) (x : Int32), exec d mX6_decides 91 [l0, l1, l2, .int x, l4] S σ = exec d mX6_decides 92 [l0, l1, l2, .int x, l4] (.int x :: S) σ) ∧
  (∀ (d : Nat) (σ : Sg) (l0 l1 l2 l3 l4 : Value) (x : Int32), exec d mX6_decides 92 [l0, l1, l2, l3, l4] [.int x] σ = some (some (.int x), σ)) :=
  ⟨fun d σ S l0 l1 l2 l3 l4 => ex_iconst (show decode mX6_decides.2.1 79 = .ok (.iconst 1, 1) by decide +kernel) (by decide +kernel),
  fun d σ S l0 l1 l2 l3 x => ex_iload (show decode mX6_decides.2.1 80 = .ok (.iload 4, 2) by decide +kernel) rfl,
  fun d σ S l0 l1 l2 l3 l4 x y => ex_ishl (show decode mX6_decides.2.1 82 = .ok (.ishl, 1) by decide +kernel),
  fun d σ S l0 l1 l2 l3 l4 x y => ex_ior (show decode mX6_decides.2.1 83 = .ok (.ior, 1) by decide +kernel),
  fun d σ S l0 l1 l3 l4 x y => ex_istore_n (show decode mX6_decides.2.1 84 = .ok (.istore_n 3, 1) by decide +kernel) (Nat.le_of_ble_eq_true rfl) rfl,
  fun d σ S l0 l1 l2 x y => ex_iinc (show decode mX6_decides.2.1 85 = .ok (.iinc 4 1, 3) by decide +kernel) rfl (by decide +kernel) (Nat.le_of_ble_eq_true rfl) rfl,
  fun d σ S l0 l1 l2 l3 l4 => ex_goto (show decode mX6_decides.2.1 88 = .ok (.goto (-39), 3) by decide +kernel) (by decide),
  fun d σ S l0 l1 l2 l4 x => ex_iload_n (show decode mX6_decides.2.1 91 = .ok (.iload_n 3, 1) by decide +kernel) rfl,
  fun d σ l0 l1 l2 l3 l4 x => ex_iret (show decode mX6_decides.2.1 92 = .ok (.ireturn, 1) by decide +kernel) rfl⟩
theorem hX6_decides_49 : ∀ (d : Nat) (σ : Sg) (S : List Value) (l0 l1 l2 l3 : Value) (x : Int32), exec d mX6_decides 49 [l0, l1, l2, l3, .int x] S σ = exec d mX6_decides 51 [l0, l1, l2, l3, .int x] (.int x :: S) σ := fun d σ S l0 l1 l2 l3 x => ex_iload (show decode mX6_decides.2.1 49 = .ok (.iload 4, 2) by decide +kernel) rfl
theorem aX6_decides_0 : ∀ (d : Nat)  (σ : Sg), cal (d + 1) mX6_decides [.ref 0] σ = exec d mX6_decides 0 [.ref 0, uu, uu, uu, uu] [] σ := fun _ _ => rfl
theorem kX6_whereIs_0 : (∀ (d : Nat) (σ : Sg) (S : List Value) (l1 l2 l3 l4 l5 l6 : Value) (k : Nat), exec d mX6_whereIs 0 [.ref k, l1, l2, l3, l4, l5, l6] S σ = exec d mX6_whereIs 1 [.ref k, l1, l2, l3, l4, l5, l6] (.ref k :: S) σ) ∧
  (∀ (d : Nat) (σ : Sg) (S : List Value) (l0 l1 l2 l3 l4 l5 l6 : Value), exec d mX6_whereIs 1 [l0, l1, l2, l3, l4, l5, l6] (.ref 0 :: S) σ = exec d mX6_whereIs 4 [l0, l1, l2, l3, l4, l5, l6] (.ref 8 :: S) σ) ∧
  (∀ (d : Nat) (σ : Sg) (S : List Value) (l0 l1 l2 l3 l4 l5 l6 : Value), exec d mX6_whereIs 4 [l0, l1, l2, l3, l4, l5, l6] (.ref 8 :: S) σ = exec d mX6_whereIs 7 [l0, l1, l2, l3, l4, l5, l6] (.int (σ 8 0) :: S) σ) ∧
  (∀ (d : Nat) (σ : Sg) (S : List Value) (l0 l1 l2 l3 l4 l5 l6 : Value) (x : Int32), exec d mX6_whereIs 7 [l0, l1, l2, l3, l4, l5, l6] (.int x :: S) σ = if x = nI 0 then exec d mX6_whereIs 10 [l0, l1, l2, l3, l4, l5, l6] S σ else exec d mX6_whereIs 13 [l0, l1, l2, l3, l4, l5, l6] S σ) ∧
  (∀ (d : Nat) (σ : Sg) (S : List Value) (l0 l1 l2 l3 l4 l5 l6 : Value), exec d mX6_whereIs 10 [l0, l1, l2, l3, l4, l5, l6] S σ = exec d mX6_whereIs 12 [l0, l1, l2, l3, l4, l5, l6] (.int ((-1000002)) :: S) σ) ∧
  (∀ (d : Nat) (σ : Sg) (l0 l1 l2 l3 l4 l5 l6 : Value) (x : Int32), exec d mX6_whereIs 12 [l0, l1, l2, l3, l4, l5, l6] [.int x] σ = some (some (.int x), σ)) ∧
  (∀ (d : Nat) (σ : Sg) (S : List Value) (l0 l2 l3 l4 l5 l6 : Value) (x : Int32), exec d mX6_whereIs 13 [l0, .int x, l2, l3, l4, l5, l6] S σ = exec d mX6_whereIs 14 [l0, .int x, l2, l3, l4, l5, l6] (.int x :: S) σ) ∧
  (∀ (d : Nat) (σ : Sg) (l0 l1 l2 l3 l4 l5 l6 : Value) (x0 : Int32), exec d mX6_whereIs 14 [l0, l1, l2, l3, l4, l5, l6] [.int x0] σ = kb (cal d mX6_isRow [.int x0] σ) (fun rs σ2 => exec d mX6_whereIs 17 [l0, l1, l2, l3, l4, l5, l6] (rs ++ []) σ2)) ∧
  (∀ (d : Nat) (σ : Sg) (S : List Value) (l0 l1 l2 l3 l4 l5 l6 : Value) (x : Int32), exec d mX6_whereIs 17 [l0, l1, l2, l3, l4, l5, l6] (.int x :: S) σ = if x = nI 0 then exec d mX6_whereIs 27 [l0, l1, l2, l3, l4, l5, l6] S σ else exec d mX6_whereIs 20 [l0, l1, l2, l3, l4, l5, l6] S σ) ∧
  (∀ (d : Nat) (σ : Sg) (S : List Value) (l0 l1 l2 l4 l5 l6 : Value) (x : Int32), exec d mX6_whereIs 20 [l0, l1, l2, .int x, l4, l5, l6] S σ = exec d mX6_whereIs 21 [l0, l1, l2, .int x, l4, l5, l6] (.int x :: S) σ) ∧
  (∀ (d : Nat) (σ : Sg) (l0 l1 l2 l3 l4 l5 l6 : Value) (x0 : Int32), exec d mX6_whereIs 21 [l0, l1, l2, l3, l4, l5, l6] [.int x0] σ = kb (cal d mX6_isOneOfTwo [.int x0] σ) (fun rs σ2 => exec d mX6_whereIs 24 [l0, l1, l2, l3, l4, l5, l6] (rs ++ []) σ2)) ∧
  (∀ (d : Nat) (σ : Sg) (S : List Value) (l0 l1 l2 l3 l4 l5 l6 : Value) (x : Int32), exec d mX6_whereIs 24 [l0, l1, l2, l3, l4, l5, l6] (.int x :: S) σ = if x = nI 0 then exec d mX6_whereIs 27 [l0, l1, l2, l3, l4, l5, l6] S σ else exec d mX6_whereIs 30 [l0, l1, l2, l3, l4, l5, l6] S σ) ∧
  (∀ (d : Nat) (σ : Sg) (S : List Value) (l0 l1 l2 l3 l4 l5 l6 : Value), exec d mX6_whereIs 27 [l0, l1, l2, l3, l4, l5, l6] S σ = exec d mX6_whereIs 29 [l0, l1, l2, l3, l4, l5, l6] (.int ((-1000001)) :: S) σ) ∧
  (∀ (d : Nat) (σ : Sg) (l0 l1 l2 l3 l4 l5 l6 : Value) (x : Int32), exec d mX6_whereIs 29 [l0, l1, l2, l3, l4, l5, l6] [.int x] σ = some (some (.int x), σ)) ∧
  (∀ (d : Nat) (σ : Sg) (S : List Value) (l1 l2 l3 l4 l5 l6 : Value) (k : Nat), exec d mX6_whereIs 30 [.ref k, l1, l2, l3, l4, l5, l6] S σ = exec d mX6_whereIs 31 [.ref k, l1, l2, l3, l4, l5, l6] (.ref k :: S) σ) ∧
  (∀ (d : Nat) (σ : Sg) (S : List Value) (l0 l1 l2 l3 l4 l5 l6 : Value), exec d mX6_whereIs 31 [l0, l1, l2, l3, l4, l5, l6] (.ref 0 :: S) σ = exec d mX6_whereIs 34 [l0, l1, l2, l3, l4, l5, l6] (.ref 1 :: S) σ) ∧
  (∀ (d : Nat) (σ : Sg) (S : List Value) (l0 l1 l2 l3 l4 l5 l6 : Value), exec d mX6_whereIs 34 [l0, l1, l2, l3, l4, l5, l6] (.ref 1 :: S) σ = exec d mX6_whereIs 37 [l0, l1, l2, l3, l4, l5, l6] (.ref 2 :: S) σ) ∧
  (∀ (d : Nat) (σ : Sg) (S : List Value) (l0 l2 l3 l4 l5 l6 : Value) (x : Int32), exec d mX6_whereIs 37 [l0, .int x, l2, l3, l4, l5, l6] S σ = exec d mX6_whereIs 38 [l0, .int x, l2, l3, l4, l5, l6] (.int x :: S) σ) ∧
  (∀ (d : Nat) (σ : Sg) (S : List Value) (l0 l1 l2 l3 l4 l5 l6 : Value) (x : Int32), exec d mX6_whereIs 38 [l0, l1, l2, l3, l4, l5, l6] (.int x :: .ref 2 :: S) σ = if inb x 8 = true then exec d mX6_whereIs 39 [l0, l1, l2, l3, l4, l5, l6] (.int (σ 2 x.toNatClampNeg) :: S) σ else none) ∧
  (∀ (d : Nat) (σ : Sg) (S : List Value) (l0 l1 l2 l3 l4 l5 l6 : Value) (x : Int32), exec d mX6_whereIs 39 [l0, l1, l2, l3, l4, l5, l6] (.int x :: S) σ = if x = nI 0 then exec d mX6_whereIs 42 [l0, l1, l2, l3, l4, l5, l6] S σ else exec d mX6_whereIs 48 [l0, l1, l2, l3, l4, l5, l6] S σ) ∧
  (∀ (d : Nat) (σ : Sg) (S : List Value) (l1 l2 l3 l4 l5 l6 : Value) (k : Nat), exec d mX6_whereIs 42 [.ref k, l1, l2, l3, l4, l5, l6] S σ = exec d mX6_whereIs 43 [.ref k, l1, l2, l3, l4, l5, l6] (.ref k :: S) σ) ∧
  (∀ (d : Nat) (σ : Sg) (S : List Value) (l0 l1 l2 l3 l4 l5 l6 : Value), exec d mX6_whereIs 43 [l0, l1, l2, l3, l4, l5, l6] S σ = exec d mX6_whereIs 44 [l0, l1, l2, l3, l4, l5, l6] (.int (nI 1) :: S) σ) ∧
  (∀ (d : Nat) (σ : Sg) (l0 l1 l2 l3 l4 l5 l6 : Value) (x0 : Int32), exec d mX6_whereIs 44 [l0, l1, l2, l3, l4, l5, l6] [.int x0, .ref 0] σ = kb (cal d mX6_finding [.ref 0, .int x0] σ) (fun rs σ2 => exec d mX6_whereIs 47 [l0, l1, l2, l3, l4, l5, l6] (rs ++ []) σ2)) ∧
  (∀ (d : Nat) (σ : Sg) (l0 l1 l2 l3 l4 l5 l6 : Value) (x : Int32), exec d mX6_whereIs 47 [l0, l1, l2, l3, l4, l5, l6] [.int x] σ = some (some (.int x), σ)) ∧
  (∀ (d : Nat) (σ : Sg) (S : List Value) (l1 l2 l3 l4 l5 l6 : Value) (k : Nat), exec d mX6_whereIs 48 [.ref k, l1, l2, l3, l4, l5, l6] S σ = exec d mX6_whereIs 49 [.ref k, l1, l2, l3, l4, l5, l6] (.ref k :: S) σ) ∧
  (∀ (d : Nat) (σ : Sg) (S : List Value) (l0 l1 l2 l3 l4 l5 l6 : Value), exec d mX6_whereIs 49 [l0, l1, l2, l3, l4, l5, l6] (.ref 0 :: S) σ = exec d mX6_whereIs 52 [l0, l1, l2, l3, l4, l5, l6] (.ref 1 :: S) σ) ∧
  (∀ (d : Nat) (σ : Sg) (S : List Value) (l0 l2 l3 l4 l5 l6 : Value) (x : Int32), exec d mX6_whereIs 52 [l0, .int x, l2, l3, l4, l5, l6] S σ = exec d mX6_whereIs 53 [l0, .int x, l2, l3, l4, l5, l6] (.int x :: S) σ) ∧
  (∀ (d : Nat) (σ : Sg) (S : List Value) (l0 l1 l3 l4 l5 l6 : Value) (x : Int32), exec d mX6_whereIs 53 [l0, l1, .int x, l3, l4, l5, l6] S σ = exec d mX6_whereIs 54 [l0, l1, .int x, l3, l4, l5, l6] (.int x :: S) σ) ∧
  (∀ (d : Nat) (σ : Sg) (S : List Value) (l1 l2 l3 l4 l5 l6 : Value) (k : Nat), exec d mX6_whereIs 54 [.ref k, l1, l2, l3, l4, l5, l6] S σ = exec d mX6_whereIs 55 [.ref k, l1, l2, l3, l4, l5, l6] (.ref k :: S) σ) ∧
  (∀ (d : Nat) (σ : Sg) (S : List Value) (l0 l1 l2 l3 l4 l5 l6 : Value), exec d mX6_whereIs 55 [l0, l1, l2, l3, l4, l5, l6] (.ref 0 :: S) σ = exec d mX6_whereIs 58 [l0, l1, l2, l3, l4, l5, l6] (.ref 8 :: S) σ) ∧
  (∀ (d : Nat) (σ : Sg) (S : List Value) (l0 l1 l2 l3 l4 l5 l6 : Value), exec d mX6_whereIs 58 [l0, l1, l2, l3, l4, l5, l6] (.ref 8 :: S) σ = exec d mX6_whereIs 61 [l0, l1, l2, l3, l4, l5, l6] (.int (σ 8 5) :: S) σ) ∧
  (∀ (d : Nat) (σ : Sg) (l0 l1 l2 l3 l4 l5 l6 : Value) (x0 x1 x2 : Int32), exec d mX6_whereIs 61 [l0, l1, l2, l3, l4, l5, l6] [.int x0, .int x1, .int x2, .ref 1] σ = kb (cal d mX3_holds [.ref 1, .int x2, .int x1, .int x0] σ) (fun rs σ2 => exec d mX6_whereIs 64 [l0, l1, l2, l3, l4, l5, l6] (rs ++ []) σ2)) ∧
  (∀ (d : Nat) (σ : Sg) (S : List Value) (l0 l1 l2 l3 l4 l5 l6 : Value) (x : Int32), exec d mX6_whereIs 64 [l0, l1, l2, l3, l4, l5, l6] (.int x :: S) σ = if x = nI 0 then exec d mX6_whereIs 67 [l0, l1, l2, l3, l4, l5, l6] S σ else exec d mX6_whereIs 73 [l0, l1, l2, l3, l4, l5, l6] S σ) ∧
  (∀ (d : Nat) (σ : Sg) (S : List Value) (l1 l2 l3 l4 l5 l6 : Value) (k : Nat), exec d mX6_whereIs 67 [.ref k, l1, l2, l3, l4, l5, l6] S σ = exec d mX6_whereIs 68 [.ref k, l1, l2, l3, l4, l5, l6] (.ref k :: S) σ) ∧
  (∀ (d : Nat) (σ : Sg) (S : List Value) (l0 l1 l2 l3 l4 l5 l6 : Value), exec d mX6_whereIs 68 [l0, l1, l2, l3, l4, l5, l6] S σ = exec d mX6_whereIs 69 [l0, l1, l2, l3, l4, l5, l6] (.int (nI 2) :: S) σ) ∧
  (∀ (d : Nat) (σ : Sg) (l0 l1 l2 l3 l4 l5 l6 : Value) (x0 : Int32), exec d mX6_whereIs 69 [l0, l1, l2, l3, l4, l5, l6] [.int x0, .ref 0] σ = kb (cal d mX6_finding [.ref 0, .int x0] σ) (fun rs σ2 => exec d mX6_whereIs 72 [l0, l1, l2, l3, l4, l5, l6] (rs ++ []) σ2)) ∧
  (∀ (d : Nat) (σ : Sg) (l0 l1 l2 l3 l4 l5 l6 : Value) (x : Int32), exec d mX6_whereIs 72 [l0, l1, l2, l3, l4, l5, l6] [.int x] σ = some (some (.int x), σ)) ∧
  (∀ (d : Nat) (σ : Sg) (S : List Value) (l0 l1 l2 l3 l4 l5 l6 : Value), exec d mX6_whereIs 73 [l0, l1, l2, l3, l4, l5, l6] S σ = exec d mX6_whereIs 74 [l0, l1, l2, l3, l4, l5, l6] (.int (nI 0) :: S) σ) ∧
  (∀ (d : Nat) (σ : Sg) (S : List Value) (l0 l1 l2 l4 l5 l6 : Value) (x y : Int32), exec d mX6_whereIs 74 [l0, l1, l2, .int y, l4, l5, l6] (.int x :: S) σ = exec d mX6_whereIs 76 [l0, l1, l2, .int y, .int x, l5, l6] S σ) ∧
  (∀ (d : Nat) (σ : Sg) (S : List Value) (l0 l1 l2 l3 l4 l5 l6 : Value), exec d mX6_whereIs 76 [l0, l1, l2, l3, l4, l5, l6] S σ = exec d mX6_whereIs 78 [l0, l1, l2, l3, l4, l5, l6] (.int ((-1000000)) :: S) σ) :=
  ⟨fun d σ S l1 l2 l3 l4 l5 l6 k => ex_aload_n (show decode mX6_whereIs.2.1 0 = .ok (.aload_n 0, 1) by decide +kernel) rfl,
  fun d σ S l0 l1 l2 l3 l4 l5 l6 => ex_getr (idx := 26) (ci := 6) (ff := 2) (n := 11) (hh := 348) (by decide +kernel),
  fun d σ S l0 l1 l2 l3 l4 l5 l6 => ex_get (idx := 176) (ci := 5) (ff := 0) (n := 17) (hh := 182) (by decide +kernel),
  fun d σ S l0 l1 l2 l3 l4 l5 l6 x => ex_zne (show decode mX6_whereIs.2.1 7 = .ok (.ifCond .ne 6, 3) by decide +kernel) (by decide),
  fun d σ S l0 l1 l2 l3 l4 l5 l6 => ex_ldc (hh := 519) (show decode mX6_whereIs.2.1 10 = .ok (.ldc 134, 2) by decide +kernel) (by decide +kernel),
  fun d σ l0 l1 l2 l3 l4 l5 l6 x => ex_iret (show decode mX6_whereIs.2.1 12 = .ok (.ireturn, 1) by decide +kernel) rfl,
  fun d σ S l0 l2 l3 l4 l5 l6 x => ex_iload_n (show decode mX6_whereIs.2.1 13 = .ok (.iload_n 1, 1) by decide +kernel) rfl,
  fun d σ l0 l1 l2 l3 l4 l5 l6 x0 => ex_is (hs := [384, 385, 386, 94]) (show decode mX6_whereIs.2.1 14 = .ok (.invokestatic 60, 3) by decide +kernel) lkS_6_60 ⟨rfl, Nat.le_of_ble_eq_true rfl, Nat.le_of_ble_eq_true rfl, fun q => nomatch q⟩ rfl rfl,
  fun d σ S l0 l1 l2 l3 l4 l5 l6 x => ex_zeq (show decode mX6_whereIs.2.1 17 = .ok (.ifCond .eq 10, 3) by decide +kernel) (by decide),
  fun d σ S l0 l1 l2 l4 l5 l6 x => ex_iload_n (show decode mX6_whereIs.2.1 20 = .ok (.iload_n 3, 1) by decide +kernel) rfl,
  fun d σ l0 l1 l2 l3 l4 l5 l6 x0 => ex_is (hs := [669, 670, 671, 94]) (show decode mX6_whereIs.2.1 21 = .ok (.invokestatic 239, 3) by decide +kernel) lkS_6_239 ⟨rfl, Nat.le_of_ble_eq_true rfl, Nat.le_of_ble_eq_true rfl, fun q => nomatch q⟩ rfl rfl,
  fun d σ S l0 l1 l2 l3 l4 l5 l6 x => ex_zne (show decode mX6_whereIs.2.1 24 = .ok (.ifCond .ne 6, 3) by decide +kernel) (by decide),
  fun d σ S l0 l1 l2 l3 l4 l5 l6 => ex_ldc (hh := 387) (show decode mX6_whereIs.2.1 27 = .ok (.ldc 64, 2) by decide +kernel) (by decide +kernel),
  fun d σ l0 l1 l2 l3 l4 l5 l6 x => ex_iret (show decode mX6_whereIs.2.1 29 = .ok (.ireturn, 1) by decide +kernel) rfl,
  fun d σ S l1 l2 l3 l4 l5 l6 k => ex_aload_n (show decode mX6_whereIs.2.1 30 = .ok (.aload_n 0, 1) by decide +kernel) rfl,
  fun d σ S l0 l1 l2 l3 l4 l5 l6 => ex_getr (idx := 10) (ci := 6) (ff := 0) (n := 11) (hh := 346) (by decide +kernel),
  fun d σ S l0 l1 l2 l3 l4 l5 l6 => ex_getr (idx := 76) (ci := 3) (ff := 0) (n := 4) (hh := 120) (by decide +kernel),
  fun d σ S l0 l2 l3 l4 l5 l6 x => ex_iload_n (show decode mX6_whereIs.2.1 37 = .ok (.iload_n 1, 1) by decide +kernel) rfl,
  fun d σ S l0 l1 l2 l3 l4 l5 l6 x => ex_bald (by decide +kernel),
  fun d σ S l0 l1 l2 l3 l4 l5 l6 x => ex_zne (show decode mX6_whereIs.2.1 39 = .ok (.ifCond .ne 9, 3) by decide +kernel) (by decide),
  fun d σ S l1 l2 l3 l4 l5 l6 k => ex_aload_n (show decode mX6_whereIs.2.1 42 = .ok (.aload_n 0, 1) by decide +kernel) rfl,
  fun d σ S l0 l1 l2 l3 l4 l5 l6 => ex_iconst (show decode mX6_whereIs.2.1 43 = .ok (.iconst 1, 1) by decide +kernel) (by decide +kernel),
  fun d σ l0 l1 l2 l3 l4 l5 l6 x0 => ex_iv (hs := [388, 390, 0, 391, 94]) (show decode mX6_whereIs.2.1 44 = .ok (.invokevirtual 65, 3) by decide +kernel) lkV_6_65 ⟨rfl, Nat.le_of_ble_eq_true rfl, Nat.le_of_ble_eq_true rfl, fun _ => rfl⟩ rfl rfl,
  fun d σ l0 l1 l2 l3 l4 l5 l6 x => ex_iret (show decode mX6_whereIs.2.1 47 = .ok (.ireturn, 1) by decide +kernel) rfl,
  fun d σ S l1 l2 l3 l4 l5 l6 k => ex_aload_n (show decode mX6_whereIs.2.1 48 = .ok (.aload_n 0, 1) by decide +kernel) rfl,
  fun d σ S l0 l1 l2 l3 l4 l5 l6 => ex_getr (idx := 10) (ci := 6) (ff := 0) (n := 11) (hh := 346) (by decide +kernel),
  fun d σ S l0 l2 l3 l4 l5 l6 x => ex_iload_n (show decode mX6_whereIs.2.1 52 = .ok (.iload_n 1, 1) by decide +kernel) rfl,
  fun d σ S l0 l1 l3 l4 l5 l6 x => ex_iload_n (show decode mX6_whereIs.2.1 53 = .ok (.iload_n 2, 1) by decide +kernel) rfl,
  fun d σ S l1 l2 l3 l4 l5 l6 k => ex_aload_n (show decode mX6_whereIs.2.1 54 = .ok (.aload_n 0, 1) by decide +kernel) rfl,
  fun d σ S l0 l1 l2 l3 l4 l5 l6 => ex_getr (idx := 26) (ci := 6) (ff := 2) (n := 11) (hh := 348) (by decide +kernel),
  fun d σ S l0 l1 l2 l3 l4 l5 l6 => ex_get (idx := 257) (ci := 5) (ff := 5) (n := 17) (hh := 204) (by decide +kernel),
  fun d σ l0 l1 l2 l3 l4 l5 l6 x0 x1 x2 => ex_iv (hs := [405, 407, 3, 408, 95]) (show decode mX6_whereIs.2.1 61 = .ok (.invokevirtual 80, 3) by decide +kernel) lkV_6_80 ⟨rfl, Nat.le_of_ble_eq_true rfl, Nat.le_of_ble_eq_true rfl, fun _ => rfl⟩ rfl rfl,
  fun d σ S l0 l1 l2 l3 l4 l5 l6 x => ex_zne (show decode mX6_whereIs.2.1 64 = .ok (.ifCond .ne 9, 3) by decide +kernel) (by decide),
  fun d σ S l1 l2 l3 l4 l5 l6 k => ex_aload_n (show decode mX6_whereIs.2.1 67 = .ok (.aload_n 0, 1) by decide +kernel) rfl,
  fun d σ S l0 l1 l2 l3 l4 l5 l6 => ex_iconst (show decode mX6_whereIs.2.1 68 = .ok (.iconst 2, 1) by decide +kernel) (by decide +kernel),
  fun d σ l0 l1 l2 l3 l4 l5 l6 x0 => ex_iv (hs := [388, 390, 0, 391, 94]) (show decode mX6_whereIs.2.1 69 = .ok (.invokevirtual 65, 3) by decide +kernel) lkV_6_65 ⟨rfl, Nat.le_of_ble_eq_true rfl, Nat.le_of_ble_eq_true rfl, fun _ => rfl⟩ rfl rfl,
  fun d σ l0 l1 l2 l3 l4 l5 l6 x => ex_iret (show decode mX6_whereIs.2.1 72 = .ok (.ireturn, 1) by decide +kernel) rfl,
  fun d σ S l0 l1 l2 l3 l4 l5 l6 => ex_iconst (show decode mX6_whereIs.2.1 73 = .ok (.iconst 0, 1) by decide +kernel) (by decide +kernel),
  fun d σ S l0 l1 l2 l4 l5 l6 x y => ex_istore (show decode mX6_whereIs.2.1 74 = .ok (.istore 4, 2) by decide +kernel) (Nat.le_of_ble_eq_true rfl) rfl,
  fun d σ S l0 l1 l2 l3 l4 l5 l6 => ex_ldc (hh := 593) (show decode mX6_whereIs.2.1 76 = .ok (.ldc 192, 2) by decide +kernel) (by decide +kernel)⟩
theorem kX6_whereIs_1 : (∀ (d : Nat) (σ : Sg) (S : List Value) (l0 l1 l2 l3 l5 l6 : Value) (x y : Int32), exec d mX6_whereIs 78 [l0, l1, l2, l3, .int y, l5, l6] (.int x :: S) σ = exec d mX6_whereIs 80 [l0, l1, l2, l3, .int y, .int x, l6] S σ) ∧
  (∀ (d : Nat) (σ : Sg) (S : List Value) (l0 l1 l2 l3 l4 l5 l6 : Value), exec d mX6_whereIs 80 [l0, l1, l2, l3, l4, l5, l6] S σ = exec d mX6_whereIs 81 [l0, l1, l2, l3, l4, l5, l6] (.int (nI 0) :: S) σ) ∧
  (∀ (d : Nat) (σ : Sg) (S : List Value) (l0 l1 l2 l3 l4 l6 : Value) (x y : Int32), exec d mX6_whereIs 81 [l0, l1, l2, l3, l4, .int y, l6] (.int x :: S) σ = exec d mX6_whereIs 83 [l0, l1, l2, l3, l4, .int y, .int x] S σ) ∧
  (∀ (d : Nat) (σ : Sg) (S : List Value) (l1 l2 l3 l4 l5 l6 : Value) (k : Nat), exec d mX6_whereIs 85 [.ref k, l1, l2, l3, l4, l5, l6] S σ = exec d mX6_whereIs 86 [.ref k, l1, l2, l3, l4, l5, l6] (.ref k :: S) σ) ∧
  (∀ (d : Nat) (σ : Sg) (S : List Value) (l0 l1 l2 l3 l4 l5 l6 : Value), exec d mX6_whereIs 86 [l0, l1, l2, l3, l4, l5, l6] (.ref 0 :: S) σ = exec d mX6_whereIs 89 [l0, l1, l2, l3, l4, l5, l6] (.ref 8 :: S) σ) ∧
  (∀ (d : Nat) (σ : Sg) (S : List Value) (l0 l1 l2 l3 l4 l5 l6 : Value), exec d mX6_whereIs 89 [l0, l1, l2, l3, l4, l5, l6] (.ref 8 :: S) σ = exec d mX6_whereIs 92 [l0, l1, l2, l3, l4, l5, l6] (.int (σ 8 6) :: S) σ) ∧
  (∀ (d : Nat) (σ : Sg) (S : List Value) (l0 l1 l2 l3 l4 l5 l6 : Value) (x y : Int32), exec d mX6_whereIs 92 [l0, l1, l2, l3, l4, l5, l6] (.int y :: .int x :: S) σ = if y < x then exec d mX6_whereIs 139 [l0, l1, l2, l3, l4, l5, l6] S σ else exec d mX6_whereIs 95 [l0, l1, l2, l3, l4, l5, l6] S σ) ∧
  (∀ (d : Nat) (σ : Sg) (S : List Value) (l0 l1 l2 l3 l4 l5 : Value) (x : Int32), exec d mX6_whereIs 95 [l0, l1, l2, l3, l4, l5, .int x] S σ = exec d mX6_whereIs 97 [l0, l1, l2, l3, l4, l5, .int x] (.int x :: S) σ) ∧
  (∀ (d : Nat) (σ : Sg) (S : List Value) (l1 l2 l3 l4 l5 l6 : Value) (k : Nat), exec d mX6_whereIs 97 [.ref k, l1, l2, l3, l4, l5, l6] S σ = exec d mX6_whereIs 98 [.ref k, l1, l2, l3, l4, l5, l6] (.ref k :: S) σ) ∧
  (∀ (d : Nat) (σ : Sg) (S : List Value) (l0 l1 l2 l3 l4 l5 l6 : Value), exec d mX6_whereIs 98 [l0, l1, l2, l3, l4, l5, l6] (.ref 0 :: S) σ = exec d mX6_whereIs 101 [l0, l1, l2, l3, l4, l5, l6] (.ref 8 :: S) σ) ∧
  (∀ (d : Nat) (σ : Sg) (S : List Value) (l0 l1 l2 l3 l4 l5 l6 : Value), exec d mX6_whereIs 101 [l0, l1, l2, l3, l4, l5, l6] (.ref 8 :: S) σ = exec d mX6_whereIs 104 [l0, l1, l2, l3, l4, l5, l6] (.int (σ 8 6) :: S) σ) ∧
  (∀ (d : Nat) (σ : Sg) (S : List Value) (l0 l1 l2 l3 l4 l5 l6 : Value), exec d mX6_whereIs 104 [l0, l1, l2, l3, l4, l5, l6] S σ = exec d mX6_whereIs 105 [l0, l1, l2, l3, l4, l5, l6] (.int ((-1)) :: S) σ) ∧
  (∀ (d : Nat) (σ : Sg) (S : List Value) (l0 l1 l2 l3 l4 l5 l6 : Value) (x y : Int32), exec d mX6_whereIs 105 [l0, l1, l2, l3, l4, l5, l6] (.int y :: .int x :: S) σ = exec d mX6_whereIs 106 [l0, l1, l2, l3, l4, l5, l6] (.int (x ^^^ y) :: S) σ) ∧
  (∀ (d : Nat) (σ : Sg) (S : List Value) (l0 l1 l2 l3 l4 l5 l6 : Value) (x y : Int32), exec d mX6_whereIs 106 [l0, l1, l2, l3, l4, l5, l6] (.int y :: .int x :: S) σ = exec d mX6_whereIs 107 [l0, l1, l2, l3, l4, l5, l6] (.int (x &&& y) :: S) σ) ∧
  (∀ (d : Nat) (σ : Sg) (S : List Value) (l0 l1 l2 l3 l4 l5 l6 : Value) (x : Int32), exec d mX6_whereIs 107 [l0, l1, l2, l3, l4, l5, l6] (.int x :: S) σ = if x = nI 0 then exec d mX6_whereIs 110 [l0, l1, l2, l3, l4, l5, l6] S σ else exec d mX6_whereIs 133 [l0, l1, l2, l3, l4, l5, l6] S σ) ∧
  (∀ (d : Nat) (σ : Sg) (S : List Value) (l1 l2 l3 l4 l5 l6 : Value) (k : Nat), exec d mX6_whereIs 110 [.ref k, l1, l2, l3, l4, l5, l6] S σ = exec d mX6_whereIs 111 [.ref k, l1, l2, l3, l4, l5, l6] (.ref k :: S) σ) ∧
  (∀ (d : Nat) (σ : Sg) (S : List Value) (l0 l2 l3 l4 l5 l6 : Value) (x : Int32), exec d mX6_whereIs 111 [l0, .int x, l2, l3, l4, l5, l6] S σ = exec d mX6_whereIs 112 [l0, .int x, l2, l3, l4, l5, l6] (.int x :: S) σ) ∧
  (∀ (d : Nat) (σ : Sg) (S : List Value) (l0 l1 l3 l4 l5 l6 : Value) (x : Int32), exec d mX6_whereIs 112 [l0, l1, .int x, l3, l4, l5, l6] S σ = exec d mX6_whereIs 113 [l0, l1, .int x, l3, l4, l5, l6] (.int x :: S) σ) ∧
  (∀ (d : Nat) (σ : Sg) (S : List Value) (l0 l1 l2 l3 l4 l5 : Value) (x : Int32), exec d mX6_whereIs 113 [l0, l1, l2, l3, l4, l5, .int x] S σ = exec d mX6_whereIs 115 [l0, l1, l2, l3, l4, l5, .int x] (.int x :: S) σ) ∧
  (∀ (d : Nat) (σ : Sg) (l0 l1 l2 l3 l4 l5 l6 : Value) (x0 x1 x2 : Int32), exec d mX6_whereIs 115 [l0, l1, l2, l3, l4, l5, l6] [.int x0, .int x1, .int x2, .ref 0] σ = kb (cal d mX6_isFoundAsTold [.ref 0, .int x2, .int x1, .int x0] σ) (fun rs σ2 => exec d mX6_whereIs 118 [l0, l1, l2, l3, l4, l5, l6] (rs ++ []) σ2)) ∧
  (∀ (d : Nat) (σ : Sg) (S : List Value) (l0 l1 l2 l3 l4 l5 l6 : Value) (x : Int32), exec d mX6_whereIs 118 [l0, l1, l2, l3, l4, l5, l6] (.int x :: S) σ = if x = nI 0 then exec d mX6_whereIs 133 [l0, l1, l2, l3, l4, l5, l6] S σ else exec d mX6_whereIs 121 [l0, l1, l2, l3, l4, l5, l6] S σ) ∧
  (∀ (d : Nat) (σ : Sg) (S : List Value) (l0 l1 l2 l3 l5 l6 : Value) (x : Int32), exec d mX6_whereIs 121 [l0, l1, l2, l3, .int x, l5, l6] S σ = exec d mX6_whereIs 123 [l0, l1, l2, l3, .int x, l5, l6] (.int x :: S) σ) ∧
  (∀ (d : Nat) (σ : Sg) (S : List Value) (l0 l1 l2 l3 l4 l5 l6 : Value) (x : Int32), exec d mX6_whereIs 123 [l0, l1, l2, l3, l4, l5, l6] (.int x :: S) σ = if x = nI 0 then exec d mX6_whereIs 126 [l0, l1, l2, l3, l4, l5, l6] S σ else exec d mX6_whereIs 130 [l0, l1, l2, l3, l4, l5, l6] S σ) ∧
  (∀ (d : Nat) (σ : Sg) (S : List Value) (l0 l1 l2 l3 l4 l5 : Value) (x : Int32), exec d mX6_whereIs 126 [l0, l1, l2, l3, l4, l5, .int x] S σ = exec d mX6_whereIs 128 [l0, l1, l2, l3, l4, l5, .int x] (.int x :: S) σ) ∧
  (∀ (d : Nat) (σ : Sg) (S : List Value) (l0 l1 l2 l3 l5 l6 : Value) (x y : Int32), exec d mX6_whereIs 128 [l0, l1, l2, l3, .int y, l5, l6] (.int x :: S) σ = exec d mX6_whereIs 130 [l0, l1, l2, l3, .int y, .int x, l6] S σ) ∧
  (∀ (d : Nat) (σ : Sg) (S : List Value) (l0 l1 l2 l5 l6 : Value) (x y : Int32), exec d mX6_whereIs 130 [l0, l1, l2, .int y, .int x, l5, l6] S σ = exec d mX6_whereIs 133 [l0, l1, l2, .int y, .int (x + nI 1), l5, l6] S σ) ∧
  (∀ (d : Nat) (σ : Sg) (S : List Value) (l0 l1 l2 l3 l4 : Value) (x y : Int32), exec d mX6_whereIs 133 [l0, l1, l2, l3, l4, .int y, .int x] S σ = exec d mX6_whereIs 136 [l0, l1, l2, l3, l4, .int y, .int (x + nI 1)] S σ) ∧
  (∀ (d : Nat) (σ : Sg) (S : List Value) (l0 l1 l2 l3 l4 l5 l6 : Value), exec d mX6_whereIs 136 [l0, l1, l2, l3, l4, l5, l6] S σ = exec d mX6_whereIs 83 [l0, l1, l2, l3, l4, l5, l6] S σ) ∧
  (∀ (d : Nat) (σ : Sg) (S : List Value) (l1 l2 l3 l4 l5 l6 : Value) (k : Nat), exec d mX6_whereIs 139 [.ref k, l1, l2, l3, l4, l5, l6] S σ = exec d mX6_whereIs 140 [.ref k, l1, l2, l3, l4, l5, l6] (.ref k :: S) σ) ∧
  (∀ (d : Nat) (σ : Sg) (S : List Value) (l0 l1 l2 l4 l5 l6 : Value) (x : Int32), exec d mX6_whereIs 140 [l0, l1, l2, .int x, l4, l5, l6] S σ = exec d mX6_whereIs 141 [l0, l1, l2, .int x, l4, l5, l6] (.int x :: S) σ) ∧
  (∀ (d : Nat) (σ : Sg) (S : List Value) (l0 l1 l2 l3 l4 l5 l6 : Value) (x : Int32), exec d mX6_whereIs 141 [l0, l1, l2, l3, l4, l5, l6] (.int x :: S) σ = if x = nI 0 then exec d mX6_whereIs 144 [l0, l1, l2, l3, l4, l5, l6] S σ else exec d mX6_whereIs 149 [l0, l1, l2, l3, l4, l5, l6] S σ) ∧
  (∀ (d : Nat) (σ : Sg) (S : List Value) (l0 l1 l2 l3 l5 l6 : Value) (x : Int32), exec d mX6_whereIs 144 [l0, l1, l2, l3, .int x, l5, l6] S σ = exec d mX6_whereIs 146 [l0, l1, l2, l3, .int x, l5, l6] (.int x :: S) σ) ∧
  (∀ (d : Nat) (σ : Sg) (S : List Value) (l0 l1 l2 l3 l4 l5 l6 : Value), exec d mX6_whereIs 146 [l0, l1, l2, l3, l4, l5, l6] S σ = exec d mX6_whereIs 151 [l0, l1, l2, l3, l4, l5, l6] S σ) ∧
  (∀ (d : Nat) (σ : Sg) (S : List Value) (l0 l1 l2 l3 l4 l6 : Value) (x : Int32), exec d mX6_whereIs 149 [l0, l1, l2, l3, l4, .int x, l6] S σ = exec d mX6_whereIs 151 [l0, l1, l2, l3, l4, .int x, l6] (.int x :: S) σ) ∧
  (∀ (d : Nat) (σ : Sg) (l0 l1 l2 l3 l4 l5 l6 : Value) (x0 : Int32), exec d mX6_whereIs 151 [l0, l1, l2, l3, l4, l5, l6] [.int x0, .ref 0] σ = kb (cal d mX6_clean [.ref 0, .int x0] σ) (fun rs σ2 => exec d mX6_whereIs 154 [l0, l1, l2, l3, l4, l5, l6] (rs ++ []) σ2)) ∧
  (∀ (d : Nat) (σ : Sg) (l0 l1 l2 l3 l4 l5 l6 : Value) (x : Int32), exec d mX6_whereIs 154 [l0, l1, l2, l3, l4, l5, l6] [.int x] σ = some (some (.int x), σ)) :=
  ⟨fun d σ S l0 l1 l2 l3 l5 l6 x y => ex_istore (show decode mX6_whereIs.2.1 78 = .ok (.istore 5, 2) by decide +kernel) (Nat.le_of_ble_eq_true rfl) rfl,
  fun d σ S l0 l1 l2 l3 l4 l5 l6 => ex_iconst (show decode mX6_whereIs.2.1 80 = .ok (.iconst 0, 1) by decide +kernel) (by decide +kernel),
  fun d σ S l0 l1 l2 l3 l4 l6 x y => ex_istore (show decode mX6_whereIs.2.1 81 = .ok (.istore 6, 2) by decide +kernel) (Nat.le_of_ble_eq_true rfl) rfl,
  fun d σ S l1 l2 l3 l4 l5 l6 k => ex_aload_n (show decode mX6_whereIs.2.1 85 = .ok (.aload_n 0, 1) by decide +kernel) rfl,
  fun d σ S l0 l1 l2 l3 l4 l5 l6 => ex_getr (idx := 26) (ci := 6) (ff := 2) (n := 11) (hh := 348) (by decide +kernel),
  fun d σ S l0 l1 l2 l3 l4 l5 l6 => ex_get (idx := 193) (ci := 5) (ff := 6) (n := 17) (hh := 208) (by decide +kernel),
  fun d σ S l0 l1 l2 l3 l4 l5 l6 x y => ex_cgt (show decode mX6_whereIs.2.1 92 = .ok (.if_icmp .gt 47, 3) by decide +kernel) (by decide),
  fun d σ S l0 l1 l2 l3 l4 l5 x => ex_iload (show decode mX6_whereIs.2.1 95 = .ok (.iload 6, 2) by decide +kernel) rfl,
  fun d σ S l1 l2 l3 l4 l5 l6 k => ex_aload_n (show decode mX6_whereIs.2.1 97 = .ok (.aload_n 0, 1) by decide +kernel) rfl,
  fun d σ S l0 l1 l2 l3 l4 l5 l6 => ex_getr (idx := 26) (ci := 6) (ff := 2) (n := 11) (hh := 348) (by decide +kernel),
  fun d σ S l0 l1 l2 l3 l4 l5 l6 => ex_get (idx := 193) (ci := 5) (ff := 6) (n := 17) (hh := 208) (by decide +kernel),
  fun d σ S l0 l1 l2 l3 l4 l5 l6 => ex_iconst (show decode mX6_whereIs.2.1 104 = .ok (.iconst (-1), 1) by decide +kernel) (by decide +kernel),
  fun d σ S l0 l1 l2 l3 l4 l5 l6 x y => ex_ixor (show decode mX6_whereIs.2.1 105 = .ok (.ixor, 1) by decide +kernel),
  fun d σ S l0 l1 l2 l3 l4 l5 l6 x y => ex_iand (show decode mX6_whereIs.2.1 106 = .ok (.iand, 1) by decide +kernel),
  fun d σ S l0 l1 l2 l3 l4 l5 l6 x => ex_zne (show decode mX6_whereIs.2.1 107 = .ok (.ifCond .ne 26, 3) by decide +kernel) (by decide),
  fun d σ S l1 l2 l3 l4 l5 l6 k => ex_aload_n (show decode mX6_whereIs.2.1 110 = .ok (.aload_n 0, 1) by decide +kernel) rfl,
  fun d σ S l0 l2 l3 l4 l5 l6 x => ex_iload_n (show decode mX6_whereIs.2.1 111 = .ok (.iload_n 1, 1) by decide +kernel) rfl,
  fun d σ S l0 l1 l3 l4 l5 l6 x => ex_iload_n (show decode mX6_whereIs.2.1 112 = .ok (.iload_n 2, 1) by decide +kernel) rfl,
  fun d σ S l0 l1 l2 l3 l4 l5 x => ex_iload (show decode mX6_whereIs.2.1 113 = .ok (.iload 6, 2) by decide +kernel) rfl,
  fun d σ l0 l1 l2 l3 l4 l5 l6 x0 x1 x2 => ex_iv (hs := [703, 705, 43, 706, 94]) (show decode mX6_whereIs.2.1 115 = .ok (.invokevirtual 260, 3) by decide +kernel) lkV_6_260 ⟨rfl, Nat.le_of_ble_eq_true rfl, Nat.le_of_ble_eq_true rfl, fun _ => rfl⟩ rfl rfl,
  fun d σ S l0 l1 l2 l3 l4 l5 l6 x => ex_zeq (show decode mX6_whereIs.2.1 118 = .ok (.ifCond .eq 15, 3) by decide +kernel) (by decide),
  fun d σ S l0 l1 l2 l3 l5 l6 x => ex_iload (show decode mX6_whereIs.2.1 121 = .ok (.iload 4, 2) by decide +kernel) rfl,
  fun d σ S l0 l1 l2 l3 l4 l5 l6 x => ex_zne (show decode mX6_whereIs.2.1 123 = .ok (.ifCond .ne 7, 3) by decide +kernel) (by decide),
  fun d σ S l0 l1 l2 l3 l4 l5 x => ex_iload (show decode mX6_whereIs.2.1 126 = .ok (.iload 6, 2) by decide +kernel) rfl,
  fun d σ S l0 l1 l2 l3 l5 l6 x y => ex_istore (show decode mX6_whereIs.2.1 128 = .ok (.istore 5, 2) by decide +kernel) (Nat.le_of_ble_eq_true rfl) rfl,
  fun d σ S l0 l1 l2 l5 l6 x y => ex_iinc (show decode mX6_whereIs.2.1 130 = .ok (.iinc 4 1, 3) by decide +kernel) rfl (by decide +kernel) (Nat.le_of_ble_eq_true rfl) rfl,
  fun d σ S l0 l1 l2 l3 l4 x y => ex_iinc (show decode mX6_whereIs.2.1 133 = .ok (.iinc 6 1, 3) by decide +kernel) rfl (by decide +kernel) (Nat.le_of_ble_eq_true rfl) rfl,
  fun d σ S l0 l1 l2 l3 l4 l5 l6 => ex_goto (show decode mX6_whereIs.2.1 136 = .ok (.goto (-53), 3) by decide +kernel) (by decide),
  fun d σ S l1 l2 l3 l4 l5 l6 k => ex_aload_n (show decode mX6_whereIs.2.1 139 = .ok (.aload_n 0, 1) by decide +kernel) rfl,
  fun d σ S l0 l1 l2 l4 l5 l6 x => ex_iload_n (show decode mX6_whereIs.2.1 140 = .ok (.iload_n 3, 1) by decide +kernel) rfl,
  fun d σ S l0 l1 l2 l3 l4 l5 l6 x => ex_zne (show decode mX6_whereIs.2.1 141 = .ok (.ifCond .ne 8, 3) by decide +kernel) (by decide),
  fun d σ S l0 l1 l2 l3 l5 l6 x => ex_iload (show decode mX6_whereIs.2.1 144 = .ok (.iload 4, 2) by decide +kernel) rfl,
  fun d σ S l0 l1 l2 l3 l4 l5 l6 => ex_goto (show decode mX6_whereIs.2.1 146 = .ok (.goto 5, 3) by decide +kernel) (by decide),
  fun d σ S l0 l1 l2 l3 l4 l6 x => ex_iload (show decode mX6_whereIs.2.1 149 = .ok (.iload 5, 2) by decide +kernel) rfl,
  fun d σ l0 l1 l2 l3 l4 l5 l6 x0 => ex_iv (hs := [397, 399, 2, 400, 94]) (show decode mX6_whereIs.2.1 151 = .ok (.invokevirtual 73, 3) by decide +kernel) lkV_6_73 ⟨rfl, Nat.le_of_ble_eq_true rfl, Nat.le_of_ble_eq_true rfl, fun _ => rfl⟩ rfl rfl,
  fun d σ l0 l1 l2 l3 l4 l5 l6 x => ex_iret (show decode mX6_whereIs.2.1 154 = .ok (.ireturn, 1) by decide +kernel) rfl⟩
theorem hX6_whereIs_83 : ∀ (d : Nat) (σ : Sg) (S : List Value) (l0 l1 l2 l3 l4 l5 : Value) (x : Int32), exec d mX6_whereIs 83 [l0, l1, l2, l3, l4, l5, .int x] S σ = exec d mX6_whereIs 85 [l0, l1, l2, l3, l4, l5, .int x] (.int x :: S) σ := fun d σ S l0 l1 l2 l3 l4 l5 x => ex_iload (show decode mX6_whereIs.2.1 83 = .ok (.iload 6, 2) by decide +kernel) rfl
theorem aX6_whereIs_0 : ∀ (d : Nat) (a1 : Int32) (a2 : Int32) (a3 : Int32) (σ : Sg), cal (d + 1) mX6_whereIs [.ref 0, .int a1, .int a2, .int a3] σ = exec d mX6_whereIs 0 [.ref 0, .int a1, .int a2, .int a3, uu, uu, uu] [] σ := fun _ _ _ _ _ => rfl
