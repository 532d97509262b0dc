/-! generated: the instructions of GuildPieceModel -/
theorem kX7_isWhole : (∀ (d : Nat) (σ : Sg) (S : List Value) (k : Nat), exec d mX7_isWhole 0 [.ref k] S σ = exec d mX7_isWhole 1 [.ref k] (.ref k :: S) σ) ∧
  (∀ (d : Nat) (σ : Sg) (S : List Value) (l0 : Value), exec d mX7_isWhole 1 [l0] (.ref 50 :: S) σ = exec d mX7_isWhole 4 [l0] (.ref 51 :: S) σ) ∧
  (∀ (d : Nat) (σ : Sg) (S : List Value) (l0 : Value), exec d mX7_isWhole 4 [l0] S σ = exec d mX7_isWhole 5 [l0] (.int (nI 3) :: S) σ) ∧
  (∀ (d : Nat) (σ : Sg) (S : List Value) (l0 : Value) (x : Int32), exec d mX7_isWhole 5 [l0] (.int x :: .ref 51 :: S) σ = if inb x 208 = true then exec d mX7_isWhole 6 [l0] (.int (σ 51 x.toNatClampNeg) :: S) σ else none) ∧
  (∀ (d : Nat) (σ : Sg) (S : List Value) (l0 : Value), exec d mX7_isWhole 6 [l0] S σ = exec d mX7_isWhole 7 [l0] (.int (nI 1) :: S) σ) ∧
  (∀ (d : Nat) (σ : Sg) (S : List Value) (k : Nat), exec d mX7_isWhole 7 [.ref k] S σ = exec d mX7_isWhole 8 [.ref k] (.ref k :: S) σ) ∧
  (∀ (d : Nat) (σ : Sg) (S : List Value) (l0 : Value), exec d mX7_isWhole 8 [l0] (.ref 50 :: S) σ = exec d mX7_isWhole 11 [l0] (.ref 51 :: S) σ) ∧
  (∀ (d : Nat) (σ : Sg) (S : List Value) (l0 : Value), exec d mX7_isWhole 11 [l0] S σ = exec d mX7_isWhole 13 [l0] (.int (nI 7) :: S) σ) ∧
  (∀ (d : Nat) (σ : Sg) (S : List Value) (l0 : Value) (x : Int32), exec d mX7_isWhole 13 [l0] (.int x :: .ref 51 :: S) σ = if inb x 208 = true then exec d mX7_isWhole 14 [l0] (.int (σ 51 x.toNatClampNeg) :: S) σ else none) ∧
  (∀ (d : Nat) (σ : Sg) (S : List Value) (l0 : Value) (x y : Int32), exec d mX7_isWhole 14 [l0] (.int y :: .int x :: S) σ = exec d mX7_isWhole 15 [l0] (.int (x <<< (y &&& 31)) :: S) σ) ∧
  (∀ (d : Nat) (σ : Sg) (S : List Value) (l0 : Value), exec d mX7_isWhole 15 [l0] S σ = exec d mX7_isWhole 16 [l0] (.int (nI 1) :: S) σ) ∧
  (∀ (d : Nat) (σ : Sg) (S : List Value) (l0 : Value) (x y : Int32), exec d mX7_isWhole 16 [l0] (.int y :: .int x :: S) σ = exec d mX7_isWhole 17 [l0] (.int (x - y) :: S) σ) ∧
  (∀ (d : Nat) (σ : Sg) (S : List Value) (l0 : Value) (x y : Int32), exec d mX7_isWhole 17 [l0] (.int y :: .int x :: S) σ = if x = y then exec d mX7_isWhole 20 [l0] S σ else exec d mX7_isWhole 24 [l0] S σ) ∧
  (∀ (d : Nat) (σ : Sg) (S : List Value) (l0 : Value), exec d mX7_isWhole 20 [l0] S σ = exec d mX7_isWhole 21 [l0] (.int (nI 1) :: S) σ) ∧
  (∀ (d : Nat) (σ : Sg) (S : List Value) (l0 : Value), exec d mX7_isWhole 21 [l0] S σ = exec d mX7_isWhole 25 [l0] S σ) ∧
  (∀ (d : Nat) (σ : Sg) (S : List Value) (l0 : Value), exec d mX7_isWhole 24 [l0] S σ = exec d mX7_isWhole 25 [l0] (.int (nI 0) :: S) σ) ∧
  (∀ (d : Nat) (σ : Sg) (l0 : Value) (x : Int32), exec d mX7_isWhole 25 [l0] [.int x] σ = if b01 x = true then some (some (.int x), σ) else none) :=
  ⟨fun d σ S k => ex_aload_n (show decode mX7_isWhole.2.1 0 = .ok (.aload_n 0, 1) by decide +kernel) rfl,
  fun d σ S l0 => ex_getr (idx := 7) (ci := 7) (ff := 0) (n := 26) (hh := 833) (by decide +kernel),
  fun d σ S l0 => ex_iconst (show decode mX7_isWhole.2.1 4 = .ok (.iconst 3, 1) by decide +kernel) (by decide +kernel),
  fun d σ S l0 x => ex_iald (by decide +kernel),
  fun d σ S l0 => ex_iconst (show decode mX7_isWhole.2.1 6 = .ok (.iconst 1, 1) by decide +kernel) (by decide +kernel),
  fun d σ S k => ex_aload_n (show decode mX7_isWhole.2.1 7 = .ok (.aload_n 0, 1) by decide +kernel) rfl,
  fun d σ S l0 => ex_getr (idx := 7) (ci := 7) (ff := 0) (n := 26) (hh := 833) (by decide +kernel),
  fun d σ S l0 => ex_bipush (show decode mX7_isWhole.2.1 11 = .ok (.bipush 7, 2) by decide +kernel) (by decide +kernel),
  fun d σ S l0 x => ex_iald (by decide +kernel),
  fun d σ S l0 x y => ex_ishl (show decode mX7_isWhole.2.1 14 = .ok (.ishl, 1) by decide +kernel),
  fun d σ S l0 => ex_iconst (show decode mX7_isWhole.2.1 15 = .ok (.iconst 1, 1) by decide +kernel) (by decide +kernel),
  fun d σ S l0 x y => ex_isub (show decode mX7_isWhole.2.1 16 = .ok (.isub, 1) by decide +kernel),
  fun d σ S l0 x y => ex_cne (show decode mX7_isWhole.2.1 17 = .ok (.if_icmp .ne 7, 3) by decide +kernel) (by decide),
  fun d σ S l0 => ex_iconst (show decode mX7_isWhole.2.1 20 = .ok (.iconst 1, 1) by decide +kernel) (by decide +kernel),
  fun d σ S l0 => ex_goto (show decode mX7_isWhole.2.1 21 = .ok (.goto 4, 3) by decide +kernel) (by decide),
  fun d σ S l0 => ex_iconst (show decode mX7_isWhole.2.1 24 = .ok (.iconst 0, 1) by decide +kernel) (by decide +kernel),
  fun d σ l0 x => ex_zret (show decode mX7_isWhole.2.1 25 = .ok (.ireturn, 1) by decide +kernel) rfl⟩
theorem aX7_isWhole_50 : ∀ (d : Nat)  (σ : Sg), cal (d + 1) mX7_isWhole [.ref 50] σ = exec d mX7_isWhole 0 [.ref 50] [] σ := fun _ _ => rfl
theorem kX7_stand : (∀ (d : Nat) (σ : Sg) (S : List Value) (l1 : Value) (k : Nat), exec d mX7_stand 0 [.ref k, l1] S σ = exec d mX7_stand 1 [.ref k, l1] (.ref k :: S) σ) ∧
  (∀ (d : Nat) (σ : Sg) (l0 l1 : Value), exec d mX7_stand 1 [l0, l1] [.ref 50] σ = kb (cal d mX7_isTrial [.ref 50] σ) (fun rs σ2 => exec d mX7_stand 4 [l0, l1] (rs ++ []) σ2)) ∧
  (∀ (d : Nat) (σ : Sg) (S : List Value) (l0 l1 : Value) (x : Int32), exec d mX7_stand 4 [l0, l1] (.int x :: S) σ = if x = nI 0 then exec d mX7_stand 7 [l0, l1] S σ else exec d mX7_stand 10 [l0, l1] S σ) ∧
  (∀ (d : Nat) (σ : Sg) (S : List Value) (l0 l1 : Value), exec d mX7_stand 7 [l0, l1] S σ = exec d mX7_stand 9 [l0, l1] (.int ((-1000002)) :: S) σ) ∧
  (∀ (d : Nat) (σ : Sg) (l0 l1 : Value) (x : Int32), exec d mX7_stand 9 [l0, l1] [.int x] σ = some (some (.int x), σ)) ∧
  (∀ (d : Nat) (σ : Sg) (S : List Value) (l0 : Value) (x : Int32), exec d mX7_stand 10 [l0, .int x] S σ = exec d mX7_stand 11 [l0, .int x] (.int x :: S) σ) ∧
  (∀ (d : Nat) (σ : Sg) (S : List Value) (l0 l1 : Value) (x : Int32), exec d mX7_stand 11 [l0, l1] (.int x :: S) σ = exec d mX7_stand 12 [l0, l1] (.long x.toInt64 :: S) σ) ∧
  (∀ (d : Nat) (σ : Sg) (S : List Value) (l0 l1 : Value), exec d mX7_stand 12 [l0, l1] S σ = exec d mX7_stand 13 [l0, l1] (.long (lN 0) :: S) σ) ∧
  (∀ (d : Nat) (σ : Sg) (S : List Value) (l0 l1 : Value), exec d mX7_stand 13 [l0, l1] S σ = exec d mX7_stand 16 [l0, l1] (.long (lN 6) :: S) σ) ∧
  (∀ (d : Nat) (σ : Sg) (l0 l1 : Value) (x0 x1 x2 : Int64), exec d mX7_stand 16 [l0, l1] [.long x0, .long x1, .long x2] σ = kb (cal d mX7_in [.long x2, .long x1, .long x0] σ) (fun rs σ2 => exec d mX7_stand 19 [l0, l1] (rs ++ []) σ2)) ∧
  (∀ (d : Nat) (σ : Sg) (S : List Value) (l0 l1 : Value) (x : Int32), exec d mX7_stand 19 [l0, l1] (.int x :: S) σ = if x = nI 0 then exec d mX7_stand 22 [l0, l1] S σ else exec d mX7_stand 25 [l0, l1] S σ) ∧
  (∀ (d : Nat) (σ : Sg) (S : List Value) (l0 l1 : Value), exec d mX7_stand 22 [l0, l1] S σ = exec d mX7_stand 24 [l0, l1] (.int ((-1000001)) :: S) σ) ∧
  (∀ (d : Nat) (σ : Sg) (l0 l1 : Value) (x : Int32), exec d mX7_stand 24 [l0, l1] [.int x] σ = some (some (.int x), σ)) ∧
  (∀ (d : Nat) (σ : Sg) (S : List Value) (l0 : Value) (x : Int32), exec d mX7_stand 25 [l0, .int x] S σ = exec d mX7_stand 26 [l0, .int x] (.int x :: S) σ) ∧
  (∀ (d : Nat) (σ : Sg) (S : List Value) (l0 l1 : Value), exec d mX7_stand 26 [l0, l1] S σ = exec d mX7_stand 27 [l0, l1] (.int (nI 5) :: S) σ) ∧
  (∀ (d : Nat) (σ : Sg) (S : List Value) (l0 l1 : Value) (x y : Int32), exec d mX7_stand 27 [l0, l1] (.int y :: .int x :: S) σ = if y ≤ x then exec d mX7_stand 39 [l0, l1] S σ else exec d mX7_stand 30 [l0, l1] S σ) ∧
  (∀ (d : Nat) (σ : Sg) (S : List Value) (l1 : Value) (k : Nat), exec d mX7_stand 30 [.ref k, l1] S σ = exec d mX7_stand 31 [.ref k, l1] (.ref k :: S) σ) ∧
  (∀ (d : Nat) (σ : Sg) (S : List Value) (l0 l1 : Value), exec d mX7_stand 31 [l0, l1] (.ref 50 :: S) σ = exec d mX7_stand 34 [l0, l1] (.ref 51 :: S) σ) ∧
  (∀ (d : Nat) (σ : Sg) (S : List Value) (l0 : Value) (x : Int32), exec d mX7_stand 34 [l0, .int x] S σ = exec d mX7_stand 35 [l0, .int x] (.int x :: S) σ) ∧
  (∀ (d : Nat) (σ : Sg) (S : List Value) (l0 l1 : Value) (x : Int32), exec d mX7_stand 35 [l0, l1] (.int x :: .ref 51 :: S) σ = if inb x 208 = true then exec d mX7_stand 36 [l0, l1] (.int (σ 51 x.toNatClampNeg) :: S) σ else none) ∧
  (∀ (d : Nat) (σ : Sg) (S : List Value) (l0 l1 : Value), exec d mX7_stand 36 [l0, l1] S σ = exec d mX7_stand 74 [l0, l1] S σ) ∧
  (∀ (d : Nat) (σ : Sg) (S : List Value) (l0 : Value) (x : Int32), exec d mX7_stand 39 [l0, .int x] S σ = exec d mX7_stand 40 [l0, .int x] (.int x :: S) σ) ∧
  (∀ (d : Nat) (σ : Sg) (S : List Value) (l0 l1 : Value), exec d mX7_stand 40 [l0, l1] S σ = exec d mX7_stand 41 [l0, l1] (.int (nI 5) :: S) σ) ∧
  (∀ (d : Nat) (σ : Sg) (S : List Value) (l0 l1 : Value) (x y : Int32), exec d mX7_stand 41 [l0, l1] (.int y :: .int x :: S) σ = if x = y then exec d mX7_stand 44 [l0, l1] S σ else exec d mX7_stand 51 [l0, l1] S σ) ∧
  (∀ (d : Nat) (σ : Sg) (S : List Value) (l1 : Value) (k : Nat), exec d mX7_stand 44 [.ref k, l1] S σ = exec d mX7_stand 45 [.ref k, l1] (.ref k :: S) σ) ∧
  (∀ (d : Nat) (σ : Sg) (l0 l1 : Value), exec d mX7_stand 45 [l0, l1] [.ref 50] σ = kb (cal d mX7_votesNow [.ref 50] σ) (fun rs σ2 => exec d mX7_stand 48 [l0, l1] (rs ++ []) σ2)) ∧
  (∀ (d : Nat) (σ : Sg) (S : List Value) (l0 l1 : Value), exec d mX7_stand 48 [l0, l1] S σ = exec d mX7_stand 74 [l0, l1] S σ) ∧
  (∀ (d : Nat) (σ : Sg) (S : List Value) (l1 : Value) (k : Nat), exec d mX7_stand 51 [.ref k, l1] S σ = exec d mX7_stand 52 [.ref k, l1] (.ref k :: S) σ) ∧
  (∀ (d : Nat) (σ : Sg) (l0 l1 : Value), exec d mX7_stand 52 [l0, l1] [.ref 50] σ = kb (cal d mX7_isWhole [.ref 50] σ) (fun rs σ2 => exec d mX7_stand 55 [l0, l1] (rs ++ []) σ2)) ∧
  (∀ (d : Nat) (σ : Sg) (S : List Value) (l0 l1 : Value) (x : Int32), exec d mX7_stand 55 [l0, l1] (.int x :: S) σ = if x = nI 0 then exec d mX7_stand 73 [l0, l1] S σ else exec d mX7_stand 58 [l0, l1] S σ) ∧
  (∀ (d : Nat) (σ : Sg) (S : List Value) (l1 : Value) (k : Nat), exec d mX7_stand 58 [.ref k, l1] S σ = exec d mX7_stand 59 [.ref k, l1] (.ref k :: S) σ) ∧
  (∀ (d : Nat) (σ : Sg) (S : List Value) (l1 : Value) (k : Nat), exec d mX7_stand 59 [.ref k, l1] S σ = exec d mX7_stand 60 [.ref k, l1] (.ref k :: S) σ) ∧
  (∀ (d : Nat) (σ : Sg) (l0 l1 : Value), exec d mX7_stand 60 [l0, l1] [.ref 50, .ref 50] σ = kb (cal d mX7_votesNow [.ref 50] σ) (fun rs σ2 => exec d mX7_stand 63 [l0, l1] (rs ++ [.ref 50]) σ2)) ∧
  (∀ (d : Nat) (σ : Sg) (l0 l1 : Value) (x0 : Int32), exec d mX7_stand 63 [l0, l1] [.int x0, .ref 50] σ = kb (cal d mX7_isMost [.ref 50, .int x0] σ) (fun rs σ2 => exec d mX7_stand 66 [l0, l1] (rs ++ []) σ2)) ∧
  (∀ (d : Nat) (σ : Sg) (S : List Value) (l0 l1 : Value) (x : Int32), exec d mX7_stand 66 [l0, l1] (.int x :: S) σ = if x = nI 0 then exec d mX7_stand 73 [l0, l1] S σ else exec d mX7_stand 69 [l0, l1] S σ) ∧
  (∀ (d : Nat) (σ : Sg) (S : List Value) (l0 l1 : Value), exec d mX7_stand 69 [l0, l1] S σ = exec d mX7_stand 70 [l0, l1] (.int (nI 1) :: S) σ) ∧
  (∀ (d : Nat) (σ : Sg) (S : List Value) (l0 l1 : Value), exec d mX7_stand 70 [l0, l1] S σ = exec d mX7_stand 74 [l0, l1] S σ) ∧
  (∀ (d : Nat) (σ : Sg) (S : List Value) (l0 l1 : Value), exec d mX7_stand 73 [l0, l1] S σ = exec d mX7_stand 74 [l0, l1] (.int (nI 0) :: S) σ) ∧
  (∀ (d : Nat) (σ : Sg) (l0 l1 : Value) (x : Int32), exec d mX7_stand 74 [l0, l1] [.int x] σ = some (some (.int x), σ)) :=
  ⟨fun d σ S l1 k => ex_aload_n (show decode mX7_stand.2.1 0 = .ok (.aload_n 0, 1) by decide +kernel) rfl,
  fun d σ l0 l1 => ex_iv (hs := [1074, 1076, 74, 1077, 101]) (show decode mX7_stand.2.1 1 = .ok (.invokevirtual 188, 3) by decide +kernel) lkV_7_188 ⟨rfl, Nat.le_of_ble_eq_true rfl, Nat.le_of_ble_eq_true rfl, fun _ => rfl⟩ rfl rfl,
  fun d σ S l0 l1 x => ex_zne (show decode mX7_stand.2.1 4 = .ok (.ifCond .ne 6, 3) by decide +kernel) (by decide),
  fun d σ S l0 l1 => ex_ldc (hh := 1009) (show decode mX7_stand.2.1 7 = .ok (.ldc 171, 2) by decide +kernel) (by decide +kernel),
  fun d σ l0 l1 x => ex_iret (show decode mX7_stand.2.1 9 = .ok (.ireturn, 1) by decide +kernel) rfl,
  fun d σ S l0 x => ex_iload_n (show decode mX7_stand.2.1 10 = .ok (.iload_n 1, 1) by decide +kernel) rfl,
  fun d σ S l0 l1 x => ex_i2l (show decode mX7_stand.2.1 11 = .ok (.i2l, 1) by decide +kernel),
  fun d σ S l0 l1 => ex_lconst (show decode mX7_stand.2.1 12 = .ok (.lconst 0, 1) by decide +kernel) (by decide +kernel),
  fun d σ S l0 l1 => ex_ldc2 (hh := 1112) (show decode mX7_stand.2.1 13 = .ok (.ldc2_w 210, 3) by decide +kernel) (by decide +kernel),
  fun d σ l0 l1 x0 x1 x2 => ex_is (hs := [920, 921, 922, 101]) (show decode mX7_stand.2.1 16 = .ok (.invokestatic 63, 3) by decide +kernel) lkS_7_63 ⟨rfl, Nat.le_of_ble_eq_true rfl, Nat.le_of_ble_eq_true rfl, fun q => nomatch q⟩ rfl rfl,
  fun d σ S l0 l1 x => ex_zne (show decode mX7_stand.2.1 19 = .ok (.ifCond .ne 6, 3) by decide +kernel) (by decide),
  fun d σ S l0 l1 => ex_ldc (hh := 924) (show decode mX7_stand.2.1 22 = .ok (.ldc 73, 2) by decide +kernel) (by decide +kernel),
  fun d σ l0 l1 x => ex_iret (show decode mX7_stand.2.1 24 = .ok (.ireturn, 1) by decide +kernel) rfl,
  fun d σ S l0 x => ex_iload_n (show decode mX7_stand.2.1 25 = .ok (.iload_n 1, 1) by decide +kernel) rfl,
  fun d σ S l0 l1 => ex_iconst (show decode mX7_stand.2.1 26 = .ok (.iconst 5, 1) by decide +kernel) (by decide +kernel),
  fun d σ S l0 l1 x y => ex_cge (show decode mX7_stand.2.1 27 = .ok (.if_icmp .ge 12, 3) by decide +kernel) (by decide),
  fun d σ S l1 k => ex_aload_n (show decode mX7_stand.2.1 30 = .ok (.aload_n 0, 1) by decide +kernel) rfl,
  fun d σ S l0 l1 => ex_getr (idx := 7) (ci := 7) (ff := 0) (n := 26) (hh := 833) (by decide +kernel),
  fun d σ S l0 x => ex_iload_n (show decode mX7_stand.2.1 34 = .ok (.iload_n 1, 1) by decide +kernel) rfl,
  fun d σ S l0 l1 x => ex_iald (by decide +kernel),
  fun d σ S l0 l1 => ex_goto (show decode mX7_stand.2.1 36 = .ok (.goto 38, 3) by decide +kernel) (by decide),
  fun d σ S l0 x => ex_iload_n (show decode mX7_stand.2.1 39 = .ok (.iload_n 1, 1) by decide +kernel) rfl,
  fun d σ S l0 l1 => ex_iconst (show decode mX7_stand.2.1 40 = .ok (.iconst 5, 1) by decide +kernel) (by decide +kernel),
  fun d σ S l0 l1 x y => ex_cne (show decode mX7_stand.2.1 41 = .ok (.if_icmp .ne 10, 3) by decide +kernel) (by decide),
  fun d σ S l1 k => ex_aload_n (show decode mX7_stand.2.1 44 = .ok (.aload_n 0, 1) by decide +kernel) rfl,
  fun d σ l0 l1 => ex_iv (hs := [1100, 1102, 77, 1103, 101]) (show decode mX7_stand.2.1 45 = .ok (.invokevirtual 206, 3) by decide +kernel) lkV_7_206 ⟨rfl, Nat.le_of_ble_eq_true rfl, Nat.le_of_ble_eq_true rfl, fun _ => rfl⟩ rfl rfl,
  fun d σ S l0 l1 => ex_goto (show decode mX7_stand.2.1 48 = .ok (.goto 26, 3) by decide +kernel) (by decide),
  fun d σ S l1 k => ex_aload_n (show decode mX7_stand.2.1 51 = .ok (.aload_n 0, 1) by decide +kernel) rfl,
  fun d σ l0 l1 => ex_iv (hs := [1113, 1115, 79, 1116, 101]) (show decode mX7_stand.2.1 52 = .ok (.invokevirtual 212, 3) by decide +kernel) lkV_7_212 ⟨rfl, Nat.le_of_ble_eq_true rfl, Nat.le_of_ble_eq_true rfl, fun _ => rfl⟩ rfl rfl,
  fun d σ S l0 l1 x => ex_zeq (show decode mX7_stand.2.1 55 = .ok (.ifCond .eq 18, 3) by decide +kernel) (by decide),
  fun d σ S l1 k => ex_aload_n (show decode mX7_stand.2.1 58 = .ok (.aload_n 0, 1) by decide +kernel) rfl,
  fun d σ S l1 k => ex_aload_n (show decode mX7_stand.2.1 59 = .ok (.aload_n 0, 1) by decide +kernel) rfl,
  fun d σ l0 l1 => ex_iv (hs := [1100, 1102, 77, 1103, 101]) (show decode mX7_stand.2.1 60 = .ok (.invokevirtual 206, 3) by decide +kernel) lkV_7_206 ⟨rfl, Nat.le_of_ble_eq_true rfl, Nat.le_of_ble_eq_true rfl, fun _ => rfl⟩ rfl rfl,
  fun d σ l0 l1 x0 => ex_iv (hs := [1117, 1119, 80, 1120, 101]) (show decode mX7_stand.2.1 63 = .ok (.invokevirtual 215, 3) by decide +kernel) lkV_7_215 ⟨rfl, Nat.le_of_ble_eq_true rfl, Nat.le_of_ble_eq_true rfl, fun _ => rfl⟩ rfl rfl,
  fun d σ S l0 l1 x => ex_zeq (show decode mX7_stand.2.1 66 = .ok (.ifCond .eq 7, 3) by decide +kernel) (by decide),
  fun d σ S l0 l1 => ex_iconst (show decode mX7_stand.2.1 69 = .ok (.iconst 1, 1) by decide +kernel) (by decide +kernel),
  fun d σ S l0 l1 => ex_goto (show decode mX7_stand.2.1 70 = .ok (.goto 4, 3) by decide +kernel) (by decide),
  fun d σ S l0 l1 => ex_iconst (show decode mX7_stand.2.1 73 = .ok (.iconst 0, 1) by decide +kernel) (by decide +kernel),
  fun d σ l0 l1 x => ex_iret (show decode mX7_stand.2.1 74 = .ok (.ireturn, 1) by decide +kernel) rfl⟩
theorem aX7_stand_50 : ∀ (d : Nat) (a1 : Int32) (σ : Sg), cal (d + 1) mX7_stand [.ref 50, .int a1] σ = exec d mX7_stand 0 [.ref 50, .int a1] [] σ := fun _ _ _ => rfl
theorem kX7_nextPart : (∀ (d : Nat) (σ : Sg) (S : List Value) (l0 l1 l3 l4 : Value) (x : Int32), exec d mX7_nextPart 0 [l0, l1, .int x, l3, l4] S σ = exec d mX7_nextPart 1 [l0, l1, .int x, l3, l4] (.int x :: S) σ) ∧
  (∀ (d : Nat) (σ : Sg) (S : List Value) (l0 l1 l2 l3 l4 : Value), exec d mX7_nextPart 1 [l0, l1, l2, l3, l4] S σ = exec d mX7_nextPart 2 [l0, l1, l2, l3, l4] (.int (nI 1) :: S) σ) ∧
  (∀ (d : Nat) (σ : Sg) (S : List Value) (l0 l1 l2 l3 l4 : Value) (x y : Int32), exec d mX7_nextPart 2 [l0, l1, l2, l3, l4] (.int y :: .int x :: S) σ = exec d mX7_nextPart 3 [l0, l1, l2, l3, l4] (.int (x + y) :: S) σ) ∧
  (∀ (d : Nat) (σ : Sg) (S : List Value) (l0 l1 l2 l4 : Value) (x y : Int32), exec d mX7_nextPart 3 [l0, l1, l2, .int y, l4] (.int x :: S) σ = exec d mX7_nextPart 5 [l0, l1, l2, .int y, .int x] S σ) ∧
  (∀ (d : Nat) (σ : Sg) (S : List Value) (l1 l2 l3 l4 : Value) (k : Nat), exec d mX7_nextPart 7 [.ref k, l1, l2, l3, l4] S σ = exec d mX7_nextPart 8 [.ref k, l1, l2, l3, l4] (.ref k :: S) σ) ∧
  (∀ (d : Nat) (σ : Sg) (S : List Value) (l0 l1 l2 l3 l4 : Value), exec d mX7_nextPart 8 [l0, l1, l2, l3, l4] (.ref 50 :: S) σ = exec d mX7_nextPart 11 [l0, l1, l2, l3, l4] (.ref 51 :: S) σ) ∧
  (∀ (d : Nat) (σ : Sg) (S : List Value) (l0 l1 l2 l3 l4 : Value), exec d mX7_nextPart 11 [l0, l1, l2, l3, l4] S σ = exec d mX7_nextPart 13 [l0, l1, l2, l3, l4] (.int (nI 7) :: S) σ) ∧
  (∀ (d : Nat) (σ : Sg) (S : List Value) (l0 l1 l2 l3 l4 : Value) (x : Int32), exec d mX7_nextPart 13 [l0, l1, l2, l3, l4] (.int x :: .ref 51 :: S) σ = if inb x 208 = true then exec d mX7_nextPart 14 [l0, l1, l2, l3, l4] (.int (σ 51 x.toNatClampNeg) :: S) σ else none) ∧
  (∀ (d : Nat) (σ : Sg) (S : List Value) (l0 l1 l2 l3 l4 : Value) (x y : Int32), exec d mX7_nextPart 14 [l0, l1, l2, l3, l4] (.int y :: .int x :: S) σ = if y ≤ x then exec d mX7_nextPart 51 [l0, l1, l2, l3, l4] S σ else exec d mX7_nextPart 17 [l0, l1, l2, l3, l4] S σ) ∧
  (∀ (d : Nat) (σ : Sg) (S : List Value) (l1 l2 l3 l4 : Value) (k : Nat), exec d mX7_nextPart 17 [.ref k, l1, l2, l3, l4] S σ = exec d mX7_nextPart 18 [.ref k, l1, l2, l3, l4] (.ref k :: S) σ) ∧
  (∀ (d : Nat) (σ : Sg) (S : List Value) (l0 l1 l2 l3 : Value) (x : Int32), exec d mX7_nextPart 18 [l0, l1, l2, l3, .int x] S σ = exec d mX7_nextPart 20 [l0, l1, l2, l3, .int x] (.int x :: S) σ) ∧
  (∀ (d : Nat) (σ : Sg) (S : List Value) (l0 l1 l2 l4 : Value) (x : Int32), exec d mX7_nextPart 20 [l0, l1, l2, .int x, l4] S σ = exec d mX7_nextPart 21 [l0, l1, l2, .int x, l4] (.int x :: S) σ) ∧
  (∀ (d : Nat) (σ : Sg) (S : List Value) (l1 l2 l3 l4 : Value) (k : Nat), exec d mX7_nextPart 21 [.ref k, l1, l2, l3, l4] S σ = exec d mX7_nextPart 22 [.ref k, l1, l2, l3, l4] (.ref k :: S) σ) ∧
  (∀ (d : Nat) (σ : Sg) (S : List Value) (l0 l1 l2 l3 l4 : Value), exec d mX7_nextPart 22 [l0, l1, l2, l3, l4] (.ref 50 :: S) σ = exec d mX7_nextPart 25 [l0, l1, l2, l3, l4] (.ref 63 :: S) σ) ∧
  (∀ (d : Nat) (σ : Sg) (S : List Value) (l0 l2 l3 l4 : Value) (x : Int32), exec d mX7_nextPart 25 [l0, .int x, l2, l3, l4] S σ = exec d mX7_nextPart 26 [l0, .int x, l2, l3, l4] (.int x :: S) σ) ∧
  (∀ (d : Nat) (σ : Sg) (S : List Value) (l0 l1 l2 l3 l4 : Value) (x : Int32), exec d mX7_nextPart 26 [l0, l1, l2, l3, l4] (.int x :: .ref 63 :: S) σ = if inb x 8 = true then exec d mX7_nextPart 27 [l0, l1, l2, l3, l4] (.int (σ 63 x.toNatClampNeg) :: S) σ else none) ∧
  (∀ (d : Nat) (σ : Sg) (S : List Value) (l1 l2 l3 l4 : Value) (k : Nat), exec d mX7_nextPart 27 [.ref k, l1, l2, l3, l4] S σ = exec d mX7_nextPart 28 [.ref k, l1, l2, l3, l4] (.ref k :: S) σ) ∧
  (∀ (d : Nat) (σ : Sg) (S : List Value) (l0 l1 l2 l3 l4 : Value), exec d mX7_nextPart 28 [l0, l1, l2, l3, l4] (.ref 50 :: S) σ = exec d mX7_nextPart 31 [l0, l1, l2, l3, l4] (.ref 61 :: S) σ) ∧
  (∀ (d : Nat) (σ : Sg) (S : List Value) (l0 l2 l3 l4 : Value) (x : Int32), exec d mX7_nextPart 31 [l0, .int x, l2, l3, l4] S σ = exec d mX7_nextPart 32 [l0, .int x, l2, l3, l4] (.int x :: S) σ) ∧
  (∀ (d : Nat) (σ : Sg) (S : List Value) (l0 l1 l2 l3 l4 : Value) (x : Int32), exec d mX7_nextPart 32 [l0, l1, l2, l3, l4] (.int x :: .ref 61 :: S) σ = if inb x 8 = true then exec d mX7_nextPart 33 [l0, l1, l2, l3, l4] (.int (σ 61 x.toNatClampNeg) :: S) σ else none) ∧
  (∀ (d : Nat) (σ : Sg) (S : List Value) (l1 l2 l3 l4 : Value) (k : Nat), exec d mX7_nextPart 33 [.ref k, l1, l2, l3, l4] S σ = exec d mX7_nextPart 34 [.ref k, l1, l2, l3, l4] (.ref k :: S) σ) ∧
  (∀ (d : Nat) (σ : Sg) (S : List Value) (l0 l1 l2 l3 l4 : Value), exec d mX7_nextPart 34 [l0, l1, l2, l3, l4] (.ref 50 :: S) σ = exec d mX7_nextPart 37 [l0, l1, l2, l3, l4] (.ref 62 :: S) σ) ∧
  (∀ (d : Nat) (σ : Sg) (S : List Value) (l0 l2 l3 l4 : Value) (x : Int32), exec d mX7_nextPart 37 [l0, .int x, l2, l3, l4] S σ = exec d mX7_nextPart 38 [l0, .int x, l2, l3, l4] (.int x :: S) σ) ∧
  (∀ (d : Nat) (σ : Sg) (S : List Value) (l0 l1 l2 l3 l4 : Value) (x : Int32), exec d mX7_nextPart 38 [l0, l1, l2, l3, l4] (.int x :: .ref 62 :: S) σ = if inb x 8 = true then exec d mX7_nextPart 39 [l0, l1, l2, l3, l4] (.int (σ 62 x.toNatClampNeg) :: S) σ else none) ∧
  (∀ (d : Nat) (σ : Sg) (l0 l1 l2 l3 l4 : Value) (x0 x1 x2 x3 x4 : Int32), exec d mX7_nextPart 39 [l0, l1, l2, l3, l4] [.int x0, .int x1, .int x2, .int x3, .int x4, .ref 50] σ = kb (cal d mX7_mayBe [.ref 50, .int x4, .int x3, .int x2, .int x1, .int x0] σ) (fun rs σ2 => exec d mX7_nextPart 42 [l0, l1, l2, l3, l4] (rs ++ []) σ2)) ∧
  (∀ (d : Nat) (σ : Sg) (S : List Value) (l0 l1 l2 l3 l4 : Value) (x : Int32), exec d mX7_nextPart 42 [l0, l1, l2, l3, l4] (.int x :: S) σ = if x = nI 0 then exec d mX7_nextPart 45 [l0, l1, l2, l3, l4] S σ else exec d mX7_nextPart 51 [l0, l1, l2, l3, l4] S σ) ∧
  (∀ (d : Nat) (σ : Sg) (S : List Value) (l0 l1 l2 : Value) (x y : Int32), exec d mX7_nextPart 45 [l0, l1, l2, .int y, .int x] S σ = exec d mX7_nextPart 48 [l0, l1, l2, .int y, .int (x + nI 1)] S σ) ∧
  (∀ (d : Nat) (σ : Sg) (S : List Value) (l0 l1 l2 l3 l4 : Value), exec d mX7_nextPart 48 [l0, l1, l2, l3, l4] S σ = exec d mX7_nextPart 5 [l0, l1, l2, l3, l4] S σ) ∧
  (∀ (d : Nat) (σ : Sg) (S : List Value) (l0 l1 l2 l3 : Value) (x : Int32), exec d mX7_nextPart 51 [l0, l1, l2, l3, .int x] S σ = exec d mX7_nextPart 53 [l0, l1, l2, l3, .int x] (.int x :: S) σ) ∧
  (∀ (d : Nat) (σ : Sg) (S : List Value) (l1 l2 l3 l4 : Value) (k : Nat), exec d mX7_nextPart 53 [.ref k, l1, l2, l3, l4] S σ = exec d mX7_nextPart 54 [.ref k, l1, l2, l3, l4] (.ref k :: S) σ) ∧
  (∀ (d : Nat) (σ : Sg) (S : List Value) (l0 l1 l2 l3 l4 : Value), exec d mX7_nextPart 54 [l0, l1, l2, l3, l4] (.ref 50 :: S) σ = exec d mX7_nextPart 57 [l0, l1, l2, l3, l4] (.ref 51 :: S) σ) ∧
  (∀ (d : Nat) (σ : Sg) (S : List Value) (l0 l1 l2 l3 l4 : Value), exec d mX7_nextPart 57 [l0, l1, l2, l3, l4] S σ = exec d mX7_nextPart 59 [l0, l1, l2, l3, l4] (.int (nI 7) :: S) σ) ∧
  (∀ (d : Nat) (σ : Sg) (S : List Value) (l0 l1 l2 l3 l4 : Value) (x : Int32), exec d mX7_nextPart 59 [l0, l1, l2, l3, l4] (.int x :: .ref 51 :: S) σ = if inb x 208 = true then exec d mX7_nextPart 60 [l0, l1, l2, l3, l4] (.int (σ 51 x.toNatClampNeg) :: S) σ else none) ∧
  (∀ (d : Nat) (σ : Sg) (S : List Value) (l0 l1 l2 l3 l4 : Value) (x y : Int32), exec d mX7_nextPart 60 [l0, l1, l2, l3, l4] (.int y :: .int x :: S) σ = if y ≤ x then exec d mX7_nextPart 68 [l0, l1, l2, l3, l4] S σ else exec d mX7_nextPart 63 [l0, l1, l2, l3, l4] S σ) ∧
  (∀ (d : Nat) (σ : Sg) (S : List Value) (l0 l1 l2 l3 : Value) (x : Int32), exec d mX7_nextPart 63 [l0, l1, l2, l3, .int x] S σ = exec d mX7_nextPart 65 [l0, l1, l2, l3, .int x] (.int x :: S) σ) ∧
  (∀ (d : Nat) (σ : Sg) (S : List Value) (l0 l1 l2 l3 l4 : Value), exec d mX7_nextPart 65 [l0, l1, l2, l3, l4] S σ = exec d mX7_nextPart 70 [l0, l1, l2, l3, l4] S σ) ∧
  (∀ (d : Nat) (σ : Sg) (S : List Value) (l0 l1 l2 l3 l4 : Value), exec d mX7_nextPart 68 [l0, l1, l2, l3, l4] S σ = exec d mX7_nextPart 70 [l0, l1, l2, l3, l4] (.int (nI 7) :: S) σ) ∧
  (∀ (d : Nat) (σ : Sg) (l0 l1 l2 l3 l4 : Value) (x : Int32), exec d mX7_nextPart 70 [l0, l1, l2, l3, l4] [.int x] σ = some (some (.int x), σ)) :=
  ⟨fun d σ S l0 l1 l3 l4 x => ex_iload_n (show decode mX7_nextPart.2.1 0 = .ok (.iload_n 2, 1) by decide +kernel) rfl,
  fun d σ S l0 l1 l2 l3 l4 => ex_iconst (show decode mX7_nextPart.2.1 1 = .ok (.iconst 1, 1) by decide +kernel) (by decide +kernel),
  fun d σ S l0 l1 l2 l3 l4 x y => ex_iadd (show decode mX7_nextPart.2.1 2 = .ok (.iadd, 1) by decide +kernel),
  fun d σ S l0 l1 l2 l4 x y => ex_istore (show decode mX7_nextPart.2.1 3 = .ok (.istore 4, 2) by decide +kernel) (Nat.le_of_ble_eq_true rfl) rfl,
  fun d σ S l1 l2 l3 l4 k => ex_aload_n (show decode mX7_nextPart.2.1 7 = .ok (.aload_n 0, 1) by decide +kernel) rfl,
  fun d σ S l0 l1 l2 l3 l4 => ex_getr (idx := 7) (ci := 7) (ff := 0) (n := 26) (hh := 833) (by decide +kernel),
  fun d σ S l0 l1 l2 l3 l4 => ex_bipush (show decode mX7_nextPart.2.1 11 = .ok (.bipush 7, 2) by decide +kernel) (by decide +kernel),
  fun d σ S l0 l1 l2 l3 l4 x => ex_iald (by decide +kernel),
  fun d σ S l0 l1 l2 l3 l4 x y => ex_cge (show decode mX7_nextPart.2.1 14 = .ok (.if_icmp .ge 37, 3) by decide +kernel) (by decide),
  fun d σ S l1 l2 l3 l4 k => ex_aload_n (show decode mX7_nextPart.2.1 17 = .ok (.aload_n 0, 1) by decide +kernel) rfl,
  fun d σ S l0 l1 l2 l3 x => ex_iload (show decode mX7_nextPart.2.1 18 = .ok (.iload 4, 2) by decide +kernel) rfl,
  fun d σ S l0 l1 l2 l4 x => ex_iload_n (show decode mX7_nextPart.2.1 20 = .ok (.iload_n 3, 1) by decide +kernel) rfl,
  fun d σ S l1 l2 l3 l4 k => ex_aload_n (show decode mX7_nextPart.2.1 21 = .ok (.aload_n 0, 1) by decide +kernel) rfl,
  fun d σ S l0 l1 l2 l3 l4 => ex_getr (idx := 47) (ci := 7) (ff := 20) (n := 26) (hh := 853) (by decide +kernel),
  fun d σ S l0 l2 l3 l4 x => ex_iload_n (show decode mX7_nextPart.2.1 25 = .ok (.iload_n 1, 1) by decide +kernel) rfl,
  fun d σ S l0 l1 l2 l3 l4 x => ex_iald (by decide +kernel),
  fun d σ S l1 l2 l3 l4 k => ex_aload_n (show decode mX7_nextPart.2.1 27 = .ok (.aload_n 0, 1) by decide +kernel) rfl,
  fun d σ S l0 l1 l2 l3 l4 => ex_getr (idx := 41) (ci := 7) (ff := 18) (n := 26) (hh := 851) (by decide +kernel),
  fun d σ S l0 l2 l3 l4 x => ex_iload_n (show decode mX7_nextPart.2.1 31 = .ok (.iload_n 1, 1) by decide +kernel) rfl,
  fun d σ S l0 l1 l2 l3 l4 x => ex_iald (by decide +kernel),
  fun d σ S l1 l2 l3 l4 k => ex_aload_n (show decode mX7_nextPart.2.1 33 = .ok (.aload_n 0, 1) by decide +kernel) rfl,
  fun d σ S l0 l1 l2 l3 l4 => ex_getr (idx := 44) (ci := 7) (ff := 19) (n := 26) (hh := 852) (by decide +kernel),
  fun d σ S l0 l2 l3 l4 x => ex_iload_n (show decode mX7_nextPart.2.1 37 = .ok (.iload_n 1, 1) by decide +kernel) rfl,
  fun d σ S l0 l1 l2 l3 l4 x => ex_iald (by decide +kernel),
  fun d σ l0 l1 l2 l3 l4 x0 x1 x2 x3 x4 => ex_iv (hs := [1022, 1024, 67, 1025, 101]) (show decode mX7_nextPart.2.1 39 = .ok (.invokevirtual 161, 3) by decide +kernel) lkV_7_161 ⟨rfl, Nat.le_of_ble_eq_true rfl, Nat.le_of_ble_eq_true rfl, fun _ => rfl⟩ rfl rfl,
  fun d σ S l0 l1 l2 l3 l4 x => ex_zne (show decode mX7_nextPart.2.1 42 = .ok (.ifCond .ne 9, 3) by decide +kernel) (by decide),
  fun d σ S l0 l1 l2 x y => ex_iinc (show decode mX7_nextPart.2.1 45 = .ok (.iinc 4 1, 3) by decide +kernel) rfl (by decide +kernel) (Nat.le_of_ble_eq_true rfl) rfl,
  fun d σ S l0 l1 l2 l3 l4 => ex_goto (show decode mX7_nextPart.2.1 48 = .ok (.goto (-43), 3) by decide +kernel) (by decide),
  fun d σ S l0 l1 l2 l3 x => ex_iload (show decode mX7_nextPart.2.1 51 = .ok (.iload 4, 2) by decide +kernel) rfl,
  fun d σ S l1 l2 l3 l4 k => ex_aload_n (show decode mX7_nextPart.2.1 53 = .ok (.aload_n 0, 1) by decide +kernel) rfl,
  fun d σ S l0 l1 l2 l3 l4 => ex_getr (idx := 7) (ci := 7) (ff := 0) (n := 26) (hh := 833) (by decide +kernel),
  fun d σ S l0 l1 l2 l3 l4 => ex_bipush (show decode mX7_nextPart.2.1 57 = .ok (.bipush 7, 2) by decide +kernel) (by decide +kernel),
  fun d σ S l0 l1 l2 l3 l4 x => ex_iald (by decide +kernel),
  fun d σ S l0 l1 l2 l3 l4 x y => ex_cge (show decode mX7_nextPart.2.1 60 = .ok (.if_icmp .ge 8, 3) by decide +kernel) (by decide),
  fun d σ S l0 l1 l2 l3 x => ex_iload (show decode mX7_nextPart.2.1 63 = .ok (.iload 4, 2) by decide +kernel) rfl,
  fun d σ S l0 l1 l2 l3 l4 => ex_goto (show decode mX7_nextPart.2.1 65 = .ok (.goto 5, 3) by decide +kernel) (by decide),
  fun d σ S l0 l1 l2 l3 l4 => ex_bipush (show decode mX7_nextPart.2.1 68 = .ok (.bipush 7, 2) by decide +kernel) (by decide +kernel),
  fun d σ l0 l1 l2 l3 l4 x => ex_iret (show decode mX7_nextPart.2.1 70 = .ok (.ireturn, 1) by decide +kernel) rfl⟩
theorem hX7_nextPart_5 : ∀ (d : Nat) (σ : Sg) (S : List Value) (l0 l1 l2 l3 : Value) (x : Int32), exec d mX7_nextPart 5 [l0, l1, l2, l3, .int x] S σ = exec d mX7_nextPart 7 [l0, l1, l2, l3, .int x] (.int x :: S) σ := fun d σ S l0 l1 l2 l3 x => ex_iload (show decode mX7_nextPart.2.1 5 = .ok (.iload 4, 2) by decide +kernel) rfl
theorem aX7_nextPart_50 : ∀ (d : Nat) (a1 : Int32) (a2 : Int32) (a3 : Int32) (σ : Sg), cal (d + 1) mX7_nextPart [.ref 50, .int a1, .int a2, .int a3] σ = exec d mX7_nextPart 0 [.ref 50, .int a1, .int a2, .int a3, uu] [] σ := fun _ _ _ _ _ => rfl
theorem kX7_goesDeeper_0 : (∀ (d : Nat) (σ : Sg) (S : List Value) (l1 l2 l3 l4 : Value) (k : Nat), exec d mX7_goesDeeper 0 [.ref k, l1, l2, l3, l4] S σ = exec d mX7_goesDeeper 1 [.ref k, l1, l2, l3, l4] (.ref k :: S) σ) ∧
  (∀ (d : Nat) (σ : Sg) (S : List Value) (l0 l1 l2 l3 l4 : Value), exec d mX7_goesDeeper 1 [l0, l1, l2, l3, l4] (.ref 50 :: S) σ = exec d mX7_goesDeeper 4 [l0, l1, l2, l3, l4] (.ref 51 :: S) σ) ∧
  (∀ (d : Nat) (σ : Sg) (S : List Value) (l0 l1 l2 l3 l4 : Value), exec d mX7_goesDeeper 4 [l0, l1, l2, l3, l4] S σ = exec d mX7_goesDeeper 6 [l0, l1, l2, l3, l4] (.int (nI 9) :: S) σ) ∧
  (∀ (d : Nat) (σ : Sg) (S : List Value) (l0 l1 l3 l4 : Value) (x : Int32), exec d mX7_goesDeeper 6 [l0, l1, .int x, l3, l4] S σ = exec d mX7_goesDeeper 7 [l0, l1, .int x, l3, l4] (.int x :: S) σ) ∧
  (∀ (d : Nat) (σ : Sg) (S : List Value) (l0 l1 l2 l3 l4 : Value) (x y : Int32), exec d mX7_goesDeeper 7 [l0, l1, l2, l3, l4] (.int y :: .int x :: S) σ = exec d mX7_goesDeeper 8 [l0, l1, l2, l3, l4] (.int (x + y) :: S) σ) ∧
  (∀ (d : Nat) (σ : Sg) (S : List Value) (l0 l1 l2 l3 l4 : Value) (x : Int32), exec d mX7_goesDeeper 8 [l0, l1, l2, l3, l4] (.int x :: .ref 51 :: S) σ = if inb x 208 = true then exec d mX7_goesDeeper 9 [l0, l1, l2, l3, l4] (.int (σ 51 x.toNatClampNeg) :: S) σ else none) ∧
  (∀ (d : Nat) (σ : Sg) (S : List Value) (l0 l1 l2 l3 l4 : Value), exec d mX7_goesDeeper 9 [l0, l1, l2, l3, l4] S σ = exec d mX7_goesDeeper 10 [l0, l1, l2, l3, l4] (.int (nI 5) :: S) σ) ∧
  (∀ (d : Nat) (σ : Sg) (S : List Value) (l0 l1 l2 l3 l4 : Value) (x y : Int32), exec d mX7_goesDeeper 10 [l0, l1, l2, l3, l4] (.int y :: .int x :: S) σ = if x = y then exec d mX7_goesDeeper 13 [l0, l1, l2, l3, l4] S σ else exec d mX7_goesDeeper 17 [l0, l1, l2, l3, l4] S σ) ∧
  (∀ (d : Nat) (σ : Sg) (S : List Value) (l0 l1 l2 l3 l4 : Value), exec d mX7_goesDeeper 13 [l0, l1, l2, l3, l4] S σ = exec d mX7_goesDeeper 14 [l0, l1, l2, l3, l4] (.int (nI 1) :: S) σ) ∧
  (∀ (d : Nat) (σ : Sg) (S : List Value) (l0 l1 l2 l3 l4 : Value), exec d mX7_goesDeeper 14 [l0, l1, l2, l3, l4] S σ = exec d mX7_goesDeeper 18 [l0, l1, l2, l3, l4] S σ) ∧
  (∀ (d : Nat) (σ : Sg) (S : List Value) (l0 l1 l2 l3 l4 : Value), exec d mX7_goesDeeper 17 [l0, l1, l2, l3, l4] S σ = exec d mX7_goesDeeper 18 [l0, l1, l2, l3, l4] (.int (nI 0) :: S) σ) ∧
  (∀ (d : Nat) (σ : Sg) (S : List Value) (l0 l1 l3 l4 : Value) (x y : Int32), exec d mX7_goesDeeper 18 [l0, l1, .int y, l3, l4] (.int x :: S) σ = exec d mX7_goesDeeper 19 [l0, l1, .int y, .int x, l4] S σ) ∧
  (∀ (d : Nat) (σ : Sg) (S : List Value) (l1 l2 l3 l4 : Value) (k : Nat), exec d mX7_goesDeeper 19 [.ref k, l1, l2, l3, l4] S σ = exec d mX7_goesDeeper 20 [.ref k, l1, l2, l3, l4] (.ref k :: S) σ) ∧
  (∀ (d : Nat) (σ : Sg) (S : List Value) (l0 l1 l3 l4 : Value) (x : Int32), exec d mX7_goesDeeper 20 [l0, l1, .int x, l3, l4] S σ = exec d mX7_goesDeeper 21 [l0, l1, .int x, l3, l4] (.int x :: S) σ) ∧
  (∀ (d : Nat) (σ : Sg) (S : List Value) (l1 l2 l3 l4 : Value) (k : Nat), exec d mX7_goesDeeper 21 [.ref k, l1, l2, l3, l4] S σ = exec d mX7_goesDeeper 22 [.ref k, l1, l2, l3, l4] (.ref k :: S) σ) ∧
  (∀ (d : Nat) (σ : Sg) (S : List Value) (l0 l1 l2 l3 l4 : Value), exec d mX7_goesDeeper 22 [l0, l1, l2, l3, l4] (.ref 50 :: S) σ = exec d mX7_goesDeeper 25 [l0, l1, l2, l3, l4] (.ref 63 :: S) σ) ∧
  (∀ (d : Nat) (σ : Sg) (S : List Value) (l0 l2 l3 l4 : Value) (x : Int32), exec d mX7_goesDeeper 25 [l0, .int x, l2, l3, l4] S σ = exec d mX7_goesDeeper 26 [l0, .int x, l2, l3, l4] (.int x :: S) σ) ∧
  (∀ (d : Nat) (σ : Sg) (S : List Value) (l0 l1 l2 l3 l4 : Value) (x : Int32), exec d mX7_goesDeeper 26 [l0, l1, l2, l3, l4] (.int x :: .ref 63 :: S) σ = if inb x 8 = true then exec d mX7_goesDeeper 27 [l0, l1, l2, l3, l4] (.int (σ 63 x.toNatClampNeg) :: S) σ else none) ∧
  (∀ (d : Nat) (σ : Sg) (l0 l1 l2 l3 l4 : Value) (x0 x1 : Int32), exec d mX7_goesDeeper 27 [l0, l1, l2, l3, l4] [.int x0, .int x1, .ref 50] σ = kb (cal d mX7_takesNow [.ref 50, .int x1, .int x0] σ) (fun rs σ2 => exec d mX7_goesDeeper 30 [l0, l1, l2, l3, l4] (rs ++ []) σ2)) ∧
  (∀ (d : Nat) (σ : Sg) (S : List Value) (l0 l1 l2 l4 : Value) (x y : Int32), exec d mX7_goesDeeper 30 [l0, l1, l2, .int y, l4] (.int x :: S) σ = exec d mX7_goesDeeper 32 [l0, l1, l2, .int y, .int x] S σ) ∧
  (∀ (d : Nat) (σ : Sg) (S : List Value) (l1 l2 l3 l4 : Value) (k : Nat), exec d mX7_goesDeeper 32 [.ref k, l1, l2, l3, l4] S σ = exec d mX7_goesDeeper 33 [.ref k, l1, l2, l3, l4] (.ref k :: S) σ) ∧
  (∀ (d : Nat) (σ : Sg) (S : List Value) (l0 l1 l2 l3 l4 : Value), exec d mX7_goesDeeper 33 [l0, l1, l2, l3, l4] (.ref 50 :: S) σ = exec d mX7_goesDeeper 36 [l0, l1, l2, l3, l4] (.ref 61 :: S) σ) ∧
  (∀ (d : Nat) (σ : Sg) (S : List Value) (l0 l2 l3 l4 : Value) (x : Int32), exec d mX7_goesDeeper 36 [l0, .int x, l2, l3, l4] S σ = exec d mX7_goesDeeper 37 [l0, .int x, l2, l3, l4] (.int x :: S) σ) ∧
  (∀ (d : Nat) (σ : Sg) (S : List Value) (l0 l1 l2 l3 l4 : Value), exec d mX7_goesDeeper 37 [l0, l1, l2, l3, l4] S σ = exec d mX7_goesDeeper 38 [l0, l1, l2, l3, l4] (.int (nI 1) :: S) σ) ∧
  (∀ (d : Nat) (σ : Sg) (S : List Value) (l0 l1 l2 l3 l4 : Value) (x y : Int32), exec d mX7_goesDeeper 38 [l0, l1, l2, l3, l4] (.int y :: .int x :: S) σ = exec d mX7_goesDeeper 39 [l0, l1, l2, l3, l4] (.int (x + y) :: S) σ) ∧
  (∀ (d : Nat) (σ : Sg) (S : List Value) (l1 l2 l3 l4 : Value) (k : Nat), exec d mX7_goesDeeper 39 [.ref k, l1, l2, l3, l4] S σ = exec d mX7_goesDeeper 40 [.ref k, l1, l2, l3, l4] (.ref k :: S) σ) ∧
  (∀ (d : Nat) (σ : Sg) (S : List Value) (l0 l1 l2 l3 l4 : Value), exec d mX7_goesDeeper 40 [l0, l1, l2, l3, l4] (.ref 50 :: S) σ = exec d mX7_goesDeeper 43 [l0, l1, l2, l3, l4] (.ref 61 :: S) σ) ∧
  (∀ (d : Nat) (σ : Sg) (S : List Value) (l0 l2 l3 l4 : Value) (x : Int32), exec d mX7_goesDeeper 43 [l0, .int x, l2, l3, l4] S σ = exec d mX7_goesDeeper 44 [l0, .int x, l2, l3, l4] (.int x :: S) σ) ∧
  (∀ (d : Nat) (σ : Sg) (S : List Value) (l0 l1 l2 l3 l4 : Value) (x : Int32), exec d mX7_goesDeeper 44 [l0, l1, l2, l3, l4] (.int x :: .ref 61 :: S) σ = if inb x 8 = true then exec d mX7_goesDeeper 45 [l0, l1, l2, l3, l4] (.int (σ 61 x.toNatClampNeg) :: S) σ else none) ∧
  (∀ (d : Nat) (σ : Sg) (S : List Value) (l0 l1 l2 l4 : Value) (x : Int32), exec d mX7_goesDeeper 45 [l0, l1, l2, .int x, l4] S σ = exec d mX7_goesDeeper 46 [l0, l1, l2, .int x, l4] (.int x :: S) σ) ∧
  (∀ (d : Nat) (σ : Sg) (S : List Value) (l0 l1 l2 l3 l4 : Value) (x : Int32), exec d mX7_goesDeeper 46 [l0, l1, l2, l3, l4] (.int x :: S) σ = if x = nI 0 then exec d mX7_goesDeeper 53 [l0, l1, l2, l3, l4] S σ else exec d mX7_goesDeeper 49 [l0, l1, l2, l3, l4] S σ) ∧
  (∀ (d : Nat) (σ : Sg) (S : List Value) (l0 l1 l2 l3 l4 : Value), exec d mX7_goesDeeper 49 [l0, l1, l2, l3, l4] S σ = exec d mX7_goesDeeper 50 [l0, l1, l2, l3, l4] (.int (nI 0) :: S) σ) ∧
  (∀ (d : Nat) (σ : Sg) (S : List Value) (l0 l1 l2 l3 l4 : Value), exec d mX7_goesDeeper 50 [l0, l1, l2, l3, l4] S σ = exec d mX7_goesDeeper 55 [l0, l1, l2, l3, l4] S σ) ∧
  (∀ (d : Nat) (σ : Sg) (S : List Value) (l0 l1 l2 l3 : Value) (x : Int32), exec d mX7_goesDeeper 53 [l0, l1, l2, l3, .int x] S σ = exec d mX7_goesDeeper 55 [l0, l1, l2, l3, .int x] (.int x :: S) σ) ∧
  (∀ (d : Nat) (σ : Sg) (S : List Value) (l0 l1 l2 l3 l4 : Value) (x y : Int32), exec d mX7_goesDeeper 55 [l0, l1, l2, l3, l4] (.int y :: .int x :: S) σ = exec d mX7_goesDeeper 56 [l0, l1, l2, l3, l4] (.int (x - y) :: S) σ) ∧
  (∀ (d : Nat) (σ : Sg) (S : List Value) (l0 l1 l2 l3 l4 : Value) (x y : Int32), exec d mX7_goesDeeper 56 [l0, l1, l2, l3, l4] (.int y :: .int x :: .ref 61 :: S) σ = if inb x 8 = true then exec d mX7_goesDeeper 57 [l0, l1, l2, l3, l4] S (up σ 61 x.toNatClampNeg y) else none) ∧
  (∀ (d : Nat) (σ : Sg) (S : List Value) (l1 l2 l3 l4 : Value) (k : Nat), exec d mX7_goesDeeper 57 [.ref k, l1, l2, l3, l4] S σ = exec d mX7_goesDeeper 58 [.ref k, l1, l2, l3, l4] (.ref k :: S) σ) ∧
  (∀ (d : Nat) (σ : Sg) (S : List Value) (l0 l1 l2 l3 l4 : Value), exec d mX7_goesDeeper 58 [l0, l1, l2, l3, l4] (.ref 50 :: S) σ = exec d mX7_goesDeeper 61 [l0, l1, l2, l3, l4] (.ref 62 :: S) σ) ∧
  (∀ (d : Nat) (σ : Sg) (S : List Value) (l0 l2 l3 l4 : Value) (x : Int32), exec d mX7_goesDeeper 61 [l0, .int x, l2, l3, l4] S σ = exec d mX7_goesDeeper 62 [l0, .int x, l2, l3, l4] (.int x :: S) σ) ∧
  (∀ (d : Nat) (σ : Sg) (S : List Value) (l0 l1 l2 l3 l4 : Value), exec d mX7_goesDeeper 62 [l0, l1, l2, l3, l4] S σ = exec d mX7_goesDeeper 63 [l0, l1, l2, l3, l4] (.int (nI 1) :: S) σ) :=
  ⟨fun d σ S l1 l2 l3 l4 k => ex_aload_n (show decode mX7_goesDeeper.2.1 0 = .ok (.aload_n 0, 1) by decide +kernel) rfl,
  fun d σ S l0 l1 l2 l3 l4 => ex_getr (idx := 7) (ci := 7) (ff := 0) (n := 26) (hh := 833) (by decide +kernel),
  fun d σ S l0 l1 l2 l3 l4 => ex_bipush (show decode mX7_goesDeeper.2.1 4 = .ok (.bipush 9, 2) by decide +kernel) (by decide +kernel),
  fun d σ S l0 l1 l3 l4 x => ex_iload_n (show decode mX7_goesDeeper.2.1 6 = .ok (.iload_n 2, 1) by decide +kernel) rfl,
  fun d σ S l0 l1 l2 l3 l4 x y => ex_iadd (show decode mX7_goesDeeper.2.1 7 = .ok (.iadd, 1) by decide +kernel),
  fun d σ S l0 l1 l2 l3 l4 x => ex_iald (by decide +kernel),
  fun d σ S l0 l1 l2 l3 l4 => ex_iconst (show decode mX7_goesDeeper.2.1 9 = .ok (.iconst 5, 1) by decide +kernel) (by decide +kernel),
  fun d σ S l0 l1 l2 l3 l4 x y => ex_cne (show decode mX7_goesDeeper.2.1 10 = .ok (.if_icmp .ne 7, 3) by decide +kernel) (by decide),
  fun d σ S l0 l1 l2 l3 l4 => ex_iconst (show decode mX7_goesDeeper.2.1 13 = .ok (.iconst 1, 1) by decide +kernel) (by decide +kernel),
  fun d σ S l0 l1 l2 l3 l4 => ex_goto (show decode mX7_goesDeeper.2.1 14 = .ok (.goto 4, 3) by decide +kernel) (by decide),
  fun d σ S l0 l1 l2 l3 l4 => ex_iconst (show decode mX7_goesDeeper.2.1 17 = .ok (.iconst 0, 1) by decide +kernel) (by decide +kernel),
  fun d σ S l0 l1 l3 l4 x y => ex_istore_n (show decode mX7_goesDeeper.2.1 18 = .ok (.istore_n 3, 1) by decide +kernel) (Nat.le_of_ble_eq_true rfl) rfl,
  fun d σ S l1 l2 l3 l4 k => ex_aload_n (show decode mX7_goesDeeper.2.1 19 = .ok (.aload_n 0, 1) by decide +kernel) rfl,
  fun d σ S l0 l1 l3 l4 x => ex_iload_n (show decode mX7_goesDeeper.2.1 20 = .ok (.iload_n 2, 1) by decide +kernel) rfl,
  fun d σ S l1 l2 l3 l4 k => ex_aload_n (show decode mX7_goesDeeper.2.1 21 = .ok (.aload_n 0, 1) by decide +kernel) rfl,
  fun d σ S l0 l1 l2 l3 l4 => ex_getr (idx := 47) (ci := 7) (ff := 20) (n := 26) (hh := 853) (by decide +kernel),
  fun d σ S l0 l2 l3 l4 x => ex_iload_n (show decode mX7_goesDeeper.2.1 25 = .ok (.iload_n 1, 1) by decide +kernel) rfl,
  fun d σ S l0 l1 l2 l3 l4 x => ex_iald (by decide +kernel),
  fun d σ l0 l1 l2 l3 l4 x0 x1 => ex_iv (hs := [1026, 1028, 68, 1029, 101]) (show decode mX7_goesDeeper.2.1 27 = .ok (.invokevirtual 154, 3) by decide +kernel) lkV_7_154 ⟨rfl, Nat.le_of_ble_eq_true rfl, Nat.le_of_ble_eq_true rfl, fun _ => rfl⟩ rfl rfl,
  fun d σ S l0 l1 l2 l4 x y => ex_istore (show decode mX7_goesDeeper.2.1 30 = .ok (.istore 4, 2) by decide +kernel) (Nat.le_of_ble_eq_true rfl) rfl,
  fun d σ S l1 l2 l3 l4 k => ex_aload_n (show decode mX7_goesDeeper.2.1 32 = .ok (.aload_n 0, 1) by decide +kernel) rfl,
  fun d σ S l0 l1 l2 l3 l4 => ex_getr (idx := 41) (ci := 7) (ff := 18) (n := 26) (hh := 851) (by decide +kernel),
  fun d σ S l0 l2 l3 l4 x => ex_iload_n (show decode mX7_goesDeeper.2.1 36 = .ok (.iload_n 1, 1) by decide +kernel) rfl,
  fun d σ S l0 l1 l2 l3 l4 => ex_iconst (show decode mX7_goesDeeper.2.1 37 = .ok (.iconst 1, 1) by decide +kernel) (by decide +kernel),
  fun d σ S l0 l1 l2 l3 l4 x y => ex_iadd (show decode mX7_goesDeeper.2.1 38 = .ok (.iadd, 1) by decide +kernel),
  fun d σ S l1 l2 l3 l4 k => ex_aload_n (show decode mX7_goesDeeper.2.1 39 = .ok (.aload_n 0, 1) by decide +kernel) rfl,
  fun d σ S l0 l1 l2 l3 l4 => ex_getr (idx := 41) (ci := 7) (ff := 18) (n := 26) (hh := 851) (by decide +kernel),
  fun d σ S l0 l2 l3 l4 x => ex_iload_n (show decode mX7_goesDeeper.2.1 43 = .ok (.iload_n 1, 1) by decide +kernel) rfl,
  fun d σ S l0 l1 l2 l3 l4 x => ex_iald (by decide +kernel),
  fun d σ S l0 l1 l2 l4 x => ex_iload_n (show decode mX7_goesDeeper.2.1 45 = .ok (.iload_n 3, 1) by decide +kernel) rfl,
  fun d σ S l0 l1 l2 l3 l4 x => ex_zeq (show decode mX7_goesDeeper.2.1 46 = .ok (.ifCond .eq 7, 3) by decide +kernel) (by decide),
  fun d σ S l0 l1 l2 l3 l4 => ex_iconst (show decode mX7_goesDeeper.2.1 49 = .ok (.iconst 0, 1) by decide +kernel) (by decide +kernel),
  fun d σ S l0 l1 l2 l3 l4 => ex_goto (show decode mX7_goesDeeper.2.1 50 = .ok (.goto 5, 3) by decide +kernel) (by decide),
  fun d σ S l0 l1 l2 l3 x => ex_iload (show decode mX7_goesDeeper.2.1 53 = .ok (.iload 4, 2) by decide +kernel) rfl,
  fun d σ S l0 l1 l2 l3 l4 x y => ex_isub (show decode mX7_goesDeeper.2.1 55 = .ok (.isub, 1) by decide +kernel),
  fun d σ S l0 l1 l2 l3 l4 x y => ex_iast (by decide +kernel),
  fun d σ S l1 l2 l3 l4 k => ex_aload_n (show decode mX7_goesDeeper.2.1 57 = .ok (.aload_n 0, 1) by decide +kernel) rfl,
  fun d σ S l0 l1 l2 l3 l4 => ex_getr (idx := 44) (ci := 7) (ff := 19) (n := 26) (hh := 852) (by decide +kernel),
  fun d σ S l0 l2 l3 l4 x => ex_iload_n (show decode mX7_goesDeeper.2.1 61 = .ok (.iload_n 1, 1) by decide +kernel) rfl,
  fun d σ S l0 l1 l2 l3 l4 => ex_iconst (show decode mX7_goesDeeper.2.1 62 = .ok (.iconst 1, 1) by decide +kernel) (by decide +kernel)⟩
theorem kX7_goesDeeper_1 : (∀ (d : Nat) (σ : Sg) (S : List Value) (l0 l1 l2 l3 l4 : Value) (x y : Int32), exec d mX7_goesDeeper 63 [l0, l1, l2, l3, l4] (.int y :: .int x :: S) σ = exec d mX7_goesDeeper 64 [l0, l1, l2, l3, l4] (.int (x + y) :: S) σ) ∧
  (∀ (d : Nat) (σ : Sg) (S : List Value) (l1 l2 l3 l4 : Value) (k : Nat), exec d mX7_goesDeeper 64 [.ref k, l1, l2, l3, l4] S σ = exec d mX7_goesDeeper 65 [.ref k, l1, l2, l3, l4] (.ref k :: S) σ) ∧
  (∀ (d : Nat) (σ : Sg) (S : List Value) (l0 l1 l2 l3 l4 : Value), exec d mX7_goesDeeper 65 [l0, l1, l2, l3, l4] (.ref 50 :: S) σ = exec d mX7_goesDeeper 68 [l0, l1, l2, l3, l4] (.ref 62 :: S) σ) ∧
  (∀ (d : Nat) (σ : Sg) (S : List Value) (l0 l2 l3 l4 : Value) (x : Int32), exec d mX7_goesDeeper 68 [l0, .int x, l2, l3, l4] S σ = exec d mX7_goesDeeper 69 [l0, .int x, l2, l3, l4] (.int x :: S) σ) ∧
  (∀ (d : Nat) (σ : Sg) (S : List Value) (l0 l1 l2 l3 l4 : Value) (x : Int32), exec d mX7_goesDeeper 69 [l0, l1, l2, l3, l4] (.int x :: .ref 62 :: S) σ = if inb x 8 = true then exec d mX7_goesDeeper 70 [l0, l1, l2, l3, l4] (.int (σ 62 x.toNatClampNeg) :: S) σ else none) ∧
  (∀ (d : Nat) (σ : Sg) (S : List Value) (l0 l1 l2 l4 : Value) (x : Int32), exec d mX7_goesDeeper 70 [l0, l1, l2, .int x, l4] S σ = exec d mX7_goesDeeper 71 [l0, l1, l2, .int x, l4] (.int x :: S) σ) ∧
  (∀ (d : Nat) (σ : Sg) (S : List Value) (l0 l1 l2 l3 l4 : Value) (x : Int32), exec d mX7_goesDeeper 71 [l0, l1, l2, l3, l4] (.int x :: S) σ = if x = nI 0 then exec d mX7_goesDeeper 79 [l0, l1, l2, l3, l4] S σ else exec d mX7_goesDeeper 74 [l0, l1, l2, l3, l4] S σ) ∧
  (∀ (d : Nat) (σ : Sg) (S : List Value) (l0 l1 l2 l3 : Value) (x : Int32), exec d mX7_goesDeeper 74 [l0, l1, l2, l3, .int x] S σ = exec d mX7_goesDeeper 76 [l0, l1, l2, l3, .int x] (.int x :: S) σ) ∧
  (∀ (d : Nat) (σ : Sg) (S : List Value) (l0 l1 l2 l3 l4 : Value), exec d mX7_goesDeeper 76 [l0, l1, l2, l3, l4] S σ = exec d mX7_goesDeeper 80 [l0, l1, l2, l3, l4] S σ) ∧
  (∀ (d : Nat) (σ : Sg) (S : List Value) (l0 l1 l2 l3 l4 : Value), exec d mX7_goesDeeper 79 [l0, l1, l2, l3, l4] S σ = exec d mX7_goesDeeper 80 [l0, l1, l2, l3, l4] (.int (nI 0) :: S) σ) ∧
  (∀ (d : Nat) (σ : Sg) (S : List Value) (l0 l1 l2 l3 l4 : Value) (x y : Int32), exec d mX7_goesDeeper 80 [l0, l1, l2, l3, l4] (.int y :: .int x :: S) σ = exec d mX7_goesDeeper 81 [l0, l1, l2, l3, l4] (.int (x - y) :: S) σ) ∧
  (∀ (d : Nat) (σ : Sg) (S : List Value) (l0 l1 l2 l3 l4 : Value) (x y : Int32), exec d mX7_goesDeeper 81 [l0, l1, l2, l3, l4] (.int y :: .int x :: .ref 62 :: S) σ = if inb x 8 = true then exec d mX7_goesDeeper 82 [l0, l1, l2, l3, l4] S (up σ 62 x.toNatClampNeg y) else none) ∧
  (∀ (d : Nat) (σ : Sg) (S : List Value) (l1 l2 l3 l4 : Value) (k : Nat), exec d mX7_goesDeeper 82 [.ref k, l1, l2, l3, l4] S σ = exec d mX7_goesDeeper 83 [.ref k, l1, l2, l3, l4] (.ref k :: S) σ) ∧
  (∀ (d : Nat) (σ : Sg) (S : List Value) (l0 l1 l2 l3 l4 : Value), exec d mX7_goesDeeper 83 [l0, l1, l2, l3, l4] (.ref 50 :: S) σ = exec d mX7_goesDeeper 86 [l0, l1, l2, l3, l4] (.ref 63 :: S) σ) ∧
  (∀ (d : Nat) (σ : Sg) (S : List Value) (l0 l2 l3 l4 : Value) (x : Int32), exec d mX7_goesDeeper 86 [l0, .int x, l2, l3, l4] S σ = exec d mX7_goesDeeper 87 [l0, .int x, l2, l3, l4] (.int x :: S) σ) ∧
  (∀ (d : Nat) (σ : Sg) (S : List Value) (l0 l1 l2 l3 l4 : Value), exec d mX7_goesDeeper 87 [l0, l1, l2, l3, l4] S σ = exec d mX7_goesDeeper 88 [l0, l1, l2, l3, l4] (.int (nI 1) :: S) σ) ∧
  (∀ (d : Nat) (σ : Sg) (S : List Value) (l0 l1 l2 l3 l4 : Value) (x y : Int32), exec d mX7_goesDeeper 88 [l0, l1, l2, l3, l4] (.int y :: .int x :: S) σ = exec d mX7_goesDeeper 89 [l0, l1, l2, l3, l4] (.int (x + y) :: S) σ) ∧
  (∀ (d : Nat) (σ : Sg) (S : List Value) (l0 l1 l2 l4 : Value) (x : Int32), exec d mX7_goesDeeper 89 [l0, l1, l2, .int x, l4] S σ = exec d mX7_goesDeeper 90 [l0, l1, l2, .int x, l4] (.int x :: S) σ) ∧
  (∀ (d : Nat) (σ : Sg) (S : List Value) (l0 l1 l2 l3 l4 : Value) (x : Int32), exec d mX7_goesDeeper 90 [l0, l1, l2, l3, l4] (.int x :: S) σ = if x = nI 0 then exec d mX7_goesDeeper 102 [l0, l1, l2, l3, l4] S σ else exec d mX7_goesDeeper 93 [l0, l1, l2, l3, l4] S σ) ∧
  (∀ (d : Nat) (σ : Sg) (S : List Value) (l1 l2 l3 l4 : Value) (k : Nat), exec d mX7_goesDeeper 93 [.ref k, l1, l2, l3, l4] S σ = exec d mX7_goesDeeper 94 [.ref k, l1, l2, l3, l4] (.ref k :: S) σ) ∧
  (∀ (d : Nat) (σ : Sg) (S : List Value) (l0 l1 l2 l3 l4 : Value), exec d mX7_goesDeeper 94 [l0, l1, l2, l3, l4] (.ref 50 :: S) σ = exec d mX7_goesDeeper 97 [l0, l1, l2, l3, l4] (.ref 63 :: S) σ) ∧
  (∀ (d : Nat) (σ : Sg) (S : List Value) (l0 l2 l3 l4 : Value) (x : Int32), exec d mX7_goesDeeper 97 [l0, .int x, l2, l3, l4] S σ = exec d mX7_goesDeeper 98 [l0, .int x, l2, l3, l4] (.int x :: S) σ) ∧
  (∀ (d : Nat) (σ : Sg) (S : List Value) (l0 l1 l2 l3 l4 : Value) (x : Int32), exec d mX7_goesDeeper 98 [l0, l1, l2, l3, l4] (.int x :: .ref 63 :: S) σ = if inb x 8 = true then exec d mX7_goesDeeper 99 [l0, l1, l2, l3, l4] (.int (σ 63 x.toNatClampNeg) :: S) σ else none) ∧
  (∀ (d : Nat) (σ : Sg) (S : List Value) (l0 l1 l2 l3 l4 : Value), exec d mX7_goesDeeper 99 [l0, l1, l2, l3, l4] S σ = exec d mX7_goesDeeper 111 [l0, l1, l2, l3, l4] S σ) ∧
  (∀ (d : Nat) (σ : Sg) (S : List Value) (l1 l2 l3 l4 : Value) (k : Nat), exec d mX7_goesDeeper 102 [.ref k, l1, l2, l3, l4] S σ = exec d mX7_goesDeeper 103 [.ref k, l1, l2, l3, l4] (.ref k :: S) σ) ∧
  (∀ (d : Nat) (σ : Sg) (S : List Value) (l0 l1 l2 l3 l4 : Value), exec d mX7_goesDeeper 103 [l0, l1, l2, l3, l4] (.ref 50 :: S) σ = exec d mX7_goesDeeper 106 [l0, l1, l2, l3, l4] (.ref 63 :: S) σ) ∧
  (∀ (d : Nat) (σ : Sg) (S : List Value) (l0 l2 l3 l4 : Value) (x : Int32), exec d mX7_goesDeeper 106 [l0, .int x, l2, l3, l4] S σ = exec d mX7_goesDeeper 107 [l0, .int x, l2, l3, l4] (.int x :: S) σ) ∧
  (∀ (d : Nat) (σ : Sg) (S : List Value) (l0 l1 l2 l3 l4 : Value) (x : Int32), exec d mX7_goesDeeper 107 [l0, l1, l2, l3, l4] (.int x :: .ref 63 :: S) σ = if inb x 8 = true then exec d mX7_goesDeeper 108 [l0, l1, l2, l3, l4] (.int (σ 63 x.toNatClampNeg) :: S) σ else none) ∧
  (∀ (d : Nat) (σ : Sg) (l0 l1 l2 l3 l4 : Value) (x0 x1 : Int32), exec d mX7_goesDeeper 108 [l0, l1, l2, l3, l4] [.int x0, .int x1, .ref 63] σ = kb (cal d mX7_more [.int x0] σ) (fun rs σ2 => exec d mX7_goesDeeper 111 [l0, l1, l2, l3, l4] (rs ++ [.int x1, .ref 63]) σ2)) ∧
  (∀ (d : Nat) (σ : Sg) (S : List Value) (l0 l1 l2 l3 l4 : Value) (x y : Int32), exec d mX7_goesDeeper 111 [l0, l1, l2, l3, l4] (.int y :: .int x :: .ref 63 :: S) σ = if inb x 8 = true then exec d mX7_goesDeeper 112 [l0, l1, l2, l3, l4] S (up σ 63 x.toNatClampNeg y) else none) ∧
  (∀ (d : Nat) (σ : Sg) (S : List Value) (l1 l2 l3 l4 : Value) (k : Nat), exec d mX7_goesDeeper 112 [.ref k, l1, l2, l3, l4] S σ = exec d mX7_goesDeeper 113 [.ref k, l1, l2, l3, l4] (.ref k :: S) σ) ∧
  (∀ (d : Nat) (σ : Sg) (S : List Value) (l0 l1 l2 l3 l4 : Value), exec d mX7_goesDeeper 113 [l0, l1, l2, l3, l4] (.ref 50 :: S) σ = exec d mX7_goesDeeper 116 [l0, l1, l2, l3, l4] (.ref 64 :: S) σ) ∧
  (∀ (d : Nat) (σ : Sg) (S : List Value) (l0 l2 l3 l4 : Value) (x : Int32), exec d mX7_goesDeeper 116 [l0, .int x, l2, l3, l4] S σ = exec d mX7_goesDeeper 117 [l0, .int x, l2, l3, l4] (.int x :: S) σ) ∧
  (∀ (d : Nat) (σ : Sg) (S : List Value) (l0 l1 l2 l3 l4 : Value), exec d mX7_goesDeeper 117 [l0, l1, l2, l3, l4] S σ = exec d mX7_goesDeeper 118 [l0, l1, l2, l3, l4] (.int (nI 1) :: S) σ) ∧
  (∀ (d : Nat) (σ : Sg) (S : List Value) (l0 l1 l2 l3 l4 : Value) (x y : Int32), exec d mX7_goesDeeper 118 [l0, l1, l2, l3, l4] (.int y :: .int x :: S) σ = exec d mX7_goesDeeper 119 [l0, l1, l2, l3, l4] (.int (x + y) :: S) σ) ∧
  (∀ (d : Nat) (σ : Sg) (S : List Value) (l1 l2 l3 l4 : Value) (k : Nat), exec d mX7_goesDeeper 119 [.ref k, l1, l2, l3, l4] S σ = exec d mX7_goesDeeper 120 [.ref k, l1, l2, l3, l4] (.ref k :: S) σ) ∧
  (∀ (d : Nat) (σ : Sg) (S : List Value) (l0 l1 l2 l3 l4 : Value), exec d mX7_goesDeeper 120 [l0, l1, l2, l3, l4] (.ref 50 :: S) σ = exec d mX7_goesDeeper 123 [l0, l1, l2, l3, l4] (.ref 64 :: S) σ) ∧
  (∀ (d : Nat) (σ : Sg) (S : List Value) (l0 l2 l3 l4 : Value) (x : Int32), exec d mX7_goesDeeper 123 [l0, .int x, l2, l3, l4] S σ = exec d mX7_goesDeeper 124 [l0, .int x, l2, l3, l4] (.int x :: S) σ) ∧
  (∀ (d : Nat) (σ : Sg) (S : List Value) (l0 l1 l2 l3 l4 : Value) (x : Int32), exec d mX7_goesDeeper 124 [l0, l1, l2, l3, l4] (.int x :: .ref 64 :: S) σ = if inb x 8 = true then exec d mX7_goesDeeper 125 [l0, l1, l2, l3, l4] (.int (σ 64 x.toNatClampNeg) :: S) σ else none) ∧
  (∀ (d : Nat) (σ : Sg) (S : List Value) (l1 l2 l3 l4 : Value) (k : Nat), exec d mX7_goesDeeper 125 [.ref k, l1, l2, l3, l4] S σ = exec d mX7_goesDeeper 126 [.ref k, l1, l2, l3, l4] (.ref k :: S) σ) :=
  ⟨fun d σ S l0 l1 l2 l3 l4 x y => ex_iadd (show decode mX7_goesDeeper.2.1 63 = .ok (.iadd, 1) by decide +kernel),
  fun d σ S l1 l2 l3 l4 k => ex_aload_n (show decode mX7_goesDeeper.2.1 64 = .ok (.aload_n 0, 1) by decide +kernel) rfl,
  fun d σ S l0 l1 l2 l3 l4 => ex_getr (idx := 44) (ci := 7) (ff := 19) (n := 26) (hh := 852) (by decide +kernel),
  fun d σ S l0 l2 l3 l4 x => ex_iload_n (show decode mX7_goesDeeper.2.1 68 = .ok (.iload_n 1, 1) by decide +kernel) rfl,
  fun d σ S l0 l1 l2 l3 l4 x => ex_iald (by decide +kernel),
  fun d σ S l0 l1 l2 l4 x => ex_iload_n (show decode mX7_goesDeeper.2.1 70 = .ok (.iload_n 3, 1) by decide +kernel) rfl,
  fun d σ S l0 l1 l2 l3 l4 x => ex_zeq (show decode mX7_goesDeeper.2.1 71 = .ok (.ifCond .eq 8, 3) by decide +kernel) (by decide),
  fun d σ S l0 l1 l2 l3 x => ex_iload (show decode mX7_goesDeeper.2.1 74 = .ok (.iload 4, 2) by decide +kernel) rfl,
  fun d σ S l0 l1 l2 l3 l4 => ex_goto (show decode mX7_goesDeeper.2.1 76 = .ok (.goto 4, 3) by decide +kernel) (by decide),
  fun d σ S l0 l1 l2 l3 l4 => ex_iconst (show decode mX7_goesDeeper.2.1 79 = .ok (.iconst 0, 1) by decide +kernel) (by decide +kernel),
  fun d σ S l0 l1 l2 l3 l4 x y => ex_isub (show decode mX7_goesDeeper.2.1 80 = .ok (.isub, 1) by decide +kernel),
  fun d σ S l0 l1 l2 l3 l4 x y => ex_iast (by decide +kernel),
  fun d σ S l1 l2 l3 l4 k => ex_aload_n (show decode mX7_goesDeeper.2.1 82 = .ok (.aload_n 0, 1) by decide +kernel) rfl,
  fun d σ S l0 l1 l2 l3 l4 => ex_getr (idx := 47) (ci := 7) (ff := 20) (n := 26) (hh := 853) (by decide +kernel),
  fun d σ S l0 l2 l3 l4 x => ex_iload_n (show decode mX7_goesDeeper.2.1 86 = .ok (.iload_n 1, 1) by decide +kernel) rfl,
  fun d σ S l0 l1 l2 l3 l4 => ex_iconst (show decode mX7_goesDeeper.2.1 87 = .ok (.iconst 1, 1) by decide +kernel) (by decide +kernel),
  fun d σ S l0 l1 l2 l3 l4 x y => ex_iadd (show decode mX7_goesDeeper.2.1 88 = .ok (.iadd, 1) by decide +kernel),
  fun d σ S l0 l1 l2 l4 x => ex_iload_n (show decode mX7_goesDeeper.2.1 89 = .ok (.iload_n 3, 1) by decide +kernel) rfl,
  fun d σ S l0 l1 l2 l3 l4 x => ex_zeq (show decode mX7_goesDeeper.2.1 90 = .ok (.ifCond .eq 12, 3) by decide +kernel) (by decide),
  fun d σ S l1 l2 l3 l4 k => ex_aload_n (show decode mX7_goesDeeper.2.1 93 = .ok (.aload_n 0, 1) by decide +kernel) rfl,
  fun d σ S l0 l1 l2 l3 l4 => ex_getr (idx := 47) (ci := 7) (ff := 20) (n := 26) (hh := 853) (by decide +kernel),
  fun d σ S l0 l2 l3 l4 x => ex_iload_n (show decode mX7_goesDeeper.2.1 97 = .ok (.iload_n 1, 1) by decide +kernel) rfl,
  fun d σ S l0 l1 l2 l3 l4 x => ex_iald (by decide +kernel),
  fun d σ S l0 l1 l2 l3 l4 => ex_goto (show decode mX7_goesDeeper.2.1 99 = .ok (.goto 12, 3) by decide +kernel) (by decide),
  fun d σ S l1 l2 l3 l4 k => ex_aload_n (show decode mX7_goesDeeper.2.1 102 = .ok (.aload_n 0, 1) by decide +kernel) rfl,
  fun d σ S l0 l1 l2 l3 l4 => ex_getr (idx := 47) (ci := 7) (ff := 20) (n := 26) (hh := 853) (by decide +kernel),
  fun d σ S l0 l2 l3 l4 x => ex_iload_n (show decode mX7_goesDeeper.2.1 106 = .ok (.iload_n 1, 1) by decide +kernel) rfl,
  fun d σ S l0 l1 l2 l3 l4 x => ex_iald (by decide +kernel),
  fun d σ l0 l1 l2 l3 l4 x0 x1 => ex_is (hs := [1055, 1056, 1057, 101]) (show decode mX7_goesDeeper.2.1 108 = .ok (.invokestatic 168, 3) by decide +kernel) lkS_7_168 ⟨rfl, Nat.le_of_ble_eq_true rfl, Nat.le_of_ble_eq_true rfl, fun q => nomatch q⟩ rfl rfl,
  fun d σ S l0 l1 l2 l3 l4 x y => ex_iast (by decide +kernel),
  fun d σ S l1 l2 l3 l4 k => ex_aload_n (show decode mX7_goesDeeper.2.1 112 = .ok (.aload_n 0, 1) by decide +kernel) rfl,
  fun d σ S l0 l1 l2 l3 l4 => ex_getr (idx := 50) (ci := 7) (ff := 21) (n := 26) (hh := 854) (by decide +kernel),
  fun d σ S l0 l2 l3 l4 x => ex_iload_n (show decode mX7_goesDeeper.2.1 116 = .ok (.iload_n 1, 1) by decide +kernel) rfl,
  fun d σ S l0 l1 l2 l3 l4 => ex_iconst (show decode mX7_goesDeeper.2.1 117 = .ok (.iconst 1, 1) by decide +kernel) (by decide +kernel),
  fun d σ S l0 l1 l2 l3 l4 x y => ex_iadd (show decode mX7_goesDeeper.2.1 118 = .ok (.iadd, 1) by decide +kernel),
  fun d σ S l1 l2 l3 l4 k => ex_aload_n (show decode mX7_goesDeeper.2.1 119 = .ok (.aload_n 0, 1) by decide +kernel) rfl,
  fun d σ S l0 l1 l2 l3 l4 => ex_getr (idx := 50) (ci := 7) (ff := 21) (n := 26) (hh := 854) (by decide +kernel),
  fun d σ S l0 l2 l3 l4 x => ex_iload_n (show decode mX7_goesDeeper.2.1 123 = .ok (.iload_n 1, 1) by decide +kernel) rfl,
  fun d σ S l0 l1 l2 l3 l4 x => ex_iald (by decide +kernel),
  fun d σ S l1 l2 l3 l4 k => ex_aload_n (show decode mX7_goesDeeper.2.1 125 = .ok (.aload_n 0, 1) by decide +kernel) rfl⟩
theorem kX7_goesDeeper_2 : (∀ (d : Nat) (σ : Sg) (S : List Value) (l0 l1 l3 l4 : Value) (x : Int32), exec d mX7_goesDeeper 126 [l0, l1, .int x, l3, l4] S σ = exec d mX7_goesDeeper 127 [l0, l1, .int x, l3, l4] (.int x :: S) σ) ∧
  (∀ (d : Nat) (σ : Sg) (S : List Value) (l1 l2 l3 l4 : Value) (k : Nat), exec d mX7_goesDeeper 127 [.ref k, l1, l2, l3, l4] S σ = exec d mX7_goesDeeper 128 [.ref k, l1, l2, l3, l4] (.ref k :: S) σ) ∧
  (∀ (d : Nat) (σ : Sg) (S : List Value) (l0 l1 l2 l3 l4 : Value), exec d mX7_goesDeeper 128 [l0, l1, l2, l3, l4] (.ref 50 :: S) σ = exec d mX7_goesDeeper 131 [l0, l1, l2, l3, l4] (.ref 63 :: S) σ) ∧
  (∀ (d : Nat) (σ : Sg) (S : List Value) (l0 l2 l3 l4 : Value) (x : Int32), exec d mX7_goesDeeper 131 [l0, .int x, l2, l3, l4] S σ = exec d mX7_goesDeeper 132 [l0, .int x, l2, l3, l4] (.int x :: S) σ) ∧
  (∀ (d : Nat) (σ : Sg) (S : List Value) (l0 l1 l2 l3 l4 : Value) (x : Int32), exec d mX7_goesDeeper 132 [l0, l1, l2, l3, l4] (.int x :: .ref 63 :: S) σ = if inb x 8 = true then exec d mX7_goesDeeper 133 [l0, l1, l2, l3, l4] (.int (σ 63 x.toNatClampNeg) :: S) σ else none) ∧
  (∀ (d : Nat) (σ : Sg) (l0 l1 l2 l3 l4 : Value) (x0 x1 x3 x4 : Int32), exec d mX7_goesDeeper 133 [l0, l1, l2, l3, l4] [.int x0, .int x1, .ref 50, .int x3, .int x4, .ref 64] σ = kb (cal d mX7_isFaultyNow [.ref 50, .int x1, .int x0] σ) (fun rs σ2 => exec d mX7_goesDeeper 136 [l0, l1, l2, l3, l4] (rs ++ [.int x3, .int x4, .ref 64]) σ2)) ∧
  (∀ (d : Nat) (σ : Sg) (S : List Value) (l0 l1 l2 l3 l4 : Value) (x : Int32), exec d mX7_goesDeeper 136 [l0, l1, l2, l3, l4] (.int x :: S) σ = if x = nI 0 then exec d mX7_goesDeeper 143 [l0, l1, l2, l3, l4] S σ else exec d mX7_goesDeeper 139 [l0, l1, l2, l3, l4] S σ) ∧
  (∀ (d : Nat) (σ : Sg) (S : List Value) (l0 l1 l2 l3 l4 : Value), exec d mX7_goesDeeper 139 [l0, l1, l2, l3, l4] S σ = exec d mX7_goesDeeper 140 [l0, l1, l2, l3, l4] (.int (nI 1) :: S) σ) ∧
  (∀ (d : Nat) (σ : Sg) (S : List Value) (l0 l1 l2 l3 l4 : Value), exec d mX7_goesDeeper 140 [l0, l1, l2, l3, l4] S σ = exec d mX7_goesDeeper 144 [l0, l1, l2, l3, l4] S σ) ∧
  (∀ (d : Nat) (σ : Sg) (S : List Value) (l0 l1 l2 l3 l4 : Value), exec d mX7_goesDeeper 143 [l0, l1, l2, l3, l4] S σ = exec d mX7_goesDeeper 144 [l0, l1, l2, l3, l4] (.int (nI 0) :: S) σ) ∧
  (∀ (d : Nat) (σ : Sg) (S : List Value) (l0 l1 l2 l3 l4 : Value) (x y : Int32), exec d mX7_goesDeeper 144 [l0, l1, l2, l3, l4] (.int y :: .int x :: S) σ = exec d mX7_goesDeeper 145 [l0, l1, l2, l3, l4] (.int (x + y) :: S) σ) ∧
  (∀ (d : Nat) (σ : Sg) (S : List Value) (l0 l1 l2 l3 l4 : Value) (x y : Int32), exec d mX7_goesDeeper 145 [l0, l1, l2, l3, l4] (.int y :: .int x :: .ref 64 :: S) σ = if inb x 8 = true then exec d mX7_goesDeeper 146 [l0, l1, l2, l3, l4] S (up σ 64 x.toNatClampNeg y) else none) ∧
  (∀ (d : Nat) (σ : Sg) (l0 l1 l2 l3 l4 : Value), exec d mX7_goesDeeper 146 [l0, l1, l2, l3, l4] [] σ = some (none, σ)) :=
  ⟨fun d σ S l0 l1 l3 l4 x => ex_iload_n (show decode mX7_goesDeeper.2.1 126 = .ok (.iload_n 2, 1) by decide +kernel) rfl,
  fun d σ S l1 l2 l3 l4 k => ex_aload_n (show decode mX7_goesDeeper.2.1 127 = .ok (.aload_n 0, 1) by decide +kernel) rfl,
  fun d σ S l0 l1 l2 l3 l4 => ex_getr (idx := 47) (ci := 7) (ff := 20) (n := 26) (hh := 853) (by decide +kernel),
  fun d σ S l0 l2 l3 l4 x => ex_iload_n (show decode mX7_goesDeeper.2.1 131 = .ok (.iload_n 1, 1) by decide +kernel) rfl,
  fun d σ S l0 l1 l2 l3 l4 x => ex_iald (by decide +kernel),
  fun d σ l0 l1 l2 l3 l4 x0 x1 x3 x4 => ex_iv (hs := [1048, 1050, 72, 1051, 101]) (show decode mX7_goesDeeper.2.1 133 = .ok (.invokevirtual 165, 3) by decide +kernel) lkV_7_165 ⟨rfl, Nat.le_of_ble_eq_true rfl, Nat.le_of_ble_eq_true rfl, fun _ => rfl⟩ rfl rfl,
  fun d σ S l0 l1 l2 l3 l4 x => ex_zeq (show decode mX7_goesDeeper.2.1 136 = .ok (.ifCond .eq 7, 3) by decide +kernel) (by decide),
  fun d σ S l0 l1 l2 l3 l4 => ex_iconst (show decode mX7_goesDeeper.2.1 139 = .ok (.iconst 1, 1) by decide +kernel) (by decide +kernel),
  fun d σ S l0 l1 l2 l3 l4 => ex_goto (show decode mX7_goesDeeper.2.1 140 = .ok (.goto 4, 3) by decide +kernel) (by decide),
  fun d σ S l0 l1 l2 l3 l4 => ex_iconst (show decode mX7_goesDeeper.2.1 143 = .ok (.iconst 0, 1) by decide +kernel) (by decide +kernel),
  fun d σ S l0 l1 l2 l3 l4 x y => ex_iadd (show decode mX7_goesDeeper.2.1 144 = .ok (.iadd, 1) by decide +kernel),
  fun d σ S l0 l1 l2 l3 l4 x y => ex_iast (by decide +kernel),
  fun d σ l0 l1 l2 l3 l4 => ex_vret (show decode mX7_goesDeeper.2.1 146 = .ok (.return_, 1) by decide +kernel) rfl⟩
theorem aX7_goesDeeper_50 : ∀ (d : Nat) (a1 : Int32) (a2 : Int32) (σ : Sg), cal (d + 1) mX7_goesDeeper [.ref 50, .int a1, .int a2] σ = exec d mX7_goesDeeper 0 [.ref 50, .int a1, .int a2, uu, uu] [] σ := fun _ _ _ _ => rfl
theorem kX7_findFewest_0 : (∀ (d : Nat) (σ : Sg) (S : List Value) (l1 l2 l3 l4 : Value) (k : Nat), exec d mX7_findFewest 0 [.ref k, l1, l2, l3, l4] S σ = exec d mX7_findFewest 1 [.ref k, l1, l2, l3, l4] (.ref k :: S) σ) ∧
  (∀ (d : Nat) (σ : Sg) (S : List Value) (l0 l1 l2 l3 l4 : Value), exec d mX7_findFewest 1 [l0, l1, l2, l3, l4] S σ = exec d mX7_findFewest 3 [l0, l1, l2, l3, l4] (.int (nI 1000000) :: S) σ) ∧
  (∀ (d : Nat) (σ : Sg) (S : List Value) (l0 l1 l2 l3 l4 : Value) (x : Int32), exec d mX7_findFewest 3 [l0, l1, l2, l3, l4] (.int x :: .ref 50 :: S) σ = exec d mX7_findFewest 6 [l0, l1, l2, l3, l4] S (up σ 50 22 x)) ∧
  (∀ (d : Nat) (σ : Sg) (S : List Value) (l1 l2 l3 l4 : Value) (k : Nat), exec d mX7_findFewest 6 [.ref k, l1, l2, l3, l4] S σ = exec d mX7_findFewest 7 [.ref k, l1, l2, l3, l4] (.ref k :: S) σ) ∧
  (∀ (d : Nat) (σ : Sg) (S : List Value) (l0 l1 l2 l3 l4 : Value), exec d mX7_findFewest 7 [l0, l1, l2, l3, l4] S σ = exec d mX7_findFewest 8 [l0, l1, l2, l3, l4] (.int ((-1)) :: S) σ) ∧
  (∀ (d : Nat) (σ : Sg) (S : List Value) (l0 l1 l2 l3 l4 : Value) (x : Int32), exec d mX7_findFewest 8 [l0, l1, l2, l3, l4] (.int x :: .ref 50 :: S) σ = exec d mX7_findFewest 11 [l0, l1, l2, l3, l4] S (up σ 50 23 x)) ∧
  (∀ (d : Nat) (σ : Sg) (S : List Value) (l1 l2 l3 l4 : Value) (k : Nat), exec d mX7_findFewest 11 [.ref k, l1, l2, l3, l4] S σ = exec d mX7_findFewest 12 [.ref k, l1, l2, l3, l4] (.ref k :: S) σ) ∧
  (∀ (d : Nat) (σ : Sg) (S : List Value) (l0 l1 l2 l3 l4 : Value), exec d mX7_findFewest 12 [l0, l1, l2, l3, l4] S σ = exec d mX7_findFewest 14 [l0, l1, l2, l3, l4] (.int ((-1000000)) :: S) σ) ∧
  (∀ (d : Nat) (σ : Sg) (S : List Value) (l0 l1 l2 l3 l4 : Value) (x : Int32), exec d mX7_findFewest 14 [l0, l1, l2, l3, l4] (.int x :: .ref 50 :: S) σ = exec d mX7_findFewest 17 [l0, l1, l2, l3, l4] S (up σ 50 24 x)) ∧
  (∀ (d : Nat) (σ : Sg) (S : List Value) (l0 l1 l2 l3 l4 : Value), exec d mX7_findFewest 17 [l0, l1, l2, l3, l4] S σ = exec d mX7_findFewest 18 [l0, l1, l2, l3, l4] (.int (nI 0) :: S) σ) ∧
  (∀ (d : Nat) (σ : Sg) (S : List Value) (l0 l2 l3 l4 : Value) (x y : Int32), exec d mX7_findFewest 18 [l0, .int y, l2, l3, l4] (.int x :: S) σ = exec d mX7_findFewest 19 [l0, .int y, .int x, l3, l4] S σ) ∧
  (∀ (d : Nat) (σ : Sg) (S : List Value) (l1 l2 l3 l4 : Value) (k : Nat), exec d mX7_findFewest 19 [.ref k, l1, l2, l3, l4] S σ = exec d mX7_findFewest 20 [.ref k, l1, l2, l3, l4] (.ref k :: S) σ) ∧
  (∀ (d : Nat) (σ : Sg) (S : List Value) (l0 l1 l2 l3 l4 : Value), exec d mX7_findFewest 20 [l0, l1, l2, l3, l4] (.ref 50 :: S) σ = exec d mX7_findFewest 23 [l0, l1, l2, l3, l4] (.ref 51 :: S) σ) ∧
  (∀ (d : Nat) (σ : Sg) (S : List Value) (l0 l1 l2 l3 l4 : Value), exec d mX7_findFewest 23 [l0, l1, l2, l3, l4] S σ = exec d mX7_findFewest 24 [l0, l1, l2, l3, l4] (.int (nI 3) :: S) σ) ∧
  (∀ (d : Nat) (σ : Sg) (S : List Value) (l0 l1 l2 l3 l4 : Value) (x : Int32), exec d mX7_findFewest 24 [l0, l1, l2, l3, l4] (.int x :: .ref 51 :: S) σ = if inb x 208 = true then exec d mX7_findFewest 25 [l0, l1, l2, l3, l4] (.int (σ 51 x.toNatClampNeg) :: S) σ else none) ∧
  (∀ (d : Nat) (σ : Sg) (S : List Value) (l0 l1 l3 l4 : Value) (x y : Int32), exec d mX7_findFewest 25 [l0, l1, .int y, l3, l4] (.int x :: S) σ = exec d mX7_findFewest 26 [l0, l1, .int y, .int x, l4] S σ) ∧
  (∀ (d : Nat) (σ : Sg) (S : List Value) (l1 l2 l3 l4 : Value) (k : Nat), exec d mX7_findFewest 26 [.ref k, l1, l2, l3, l4] S σ = exec d mX7_findFewest 27 [.ref k, l1, l2, l3, l4] (.ref k :: S) σ) ∧
  (∀ (d : Nat) (σ : Sg) (S : List Value) (l0 l1 l2 l3 l4 : Value), exec d mX7_findFewest 27 [l0, l1, l2, l3, l4] (.ref 50 :: S) σ = exec d mX7_findFewest 30 [l0, l1, l2, l3, l4] (.ref 61 :: S) σ) ∧
  (∀ (d : Nat) (σ : Sg) (S : List Value) (l0 l1 l2 l3 l4 : Value), exec d mX7_findFewest 30 [l0, l1, l2, l3, l4] S σ = exec d mX7_findFewest 31 [l0, l1, l2, l3, l4] (.int (nI 0) :: S) σ) ∧
  (∀ (d : Nat) (σ : Sg) (S : List Value) (l1 l2 l3 l4 : Value) (k : Nat), exec d mX7_findFewest 31 [.ref k, l1, l2, l3, l4] S σ = exec d mX7_findFewest 32 [.ref k, l1, l2, l3, l4] (.ref k :: S) σ) ∧
  (∀ (d : Nat) (σ : Sg) (S : List Value) (l0 l1 l2 l3 l4 : Value), exec d mX7_findFewest 32 [l0, l1, l2, l3, l4] (.ref 50 :: S) σ = exec d mX7_findFewest 35 [l0, l1, l2, l3, l4] (.ref 51 :: S) σ) ∧
  (∀ (d : Nat) (σ : Sg) (S : List Value) (l0 l1 l2 l3 l4 : Value), exec d mX7_findFewest 35 [l0, l1, l2, l3, l4] S σ = exec d mX7_findFewest 36 [l0, l1, l2, l3, l4] (.int (nI 1) :: S) σ) ∧
  (∀ (d : Nat) (σ : Sg) (S : List Value) (l0 l1 l2 l3 l4 : Value) (x : Int32), exec d mX7_findFewest 36 [l0, l1, l2, l3, l4] (.int x :: .ref 51 :: S) σ = if inb x 208 = true then exec d mX7_findFewest 37 [l0, l1, l2, l3, l4] (.int (σ 51 x.toNatClampNeg) :: S) σ else none) ∧
  (∀ (d : Nat) (σ : Sg) (S : List Value) (l0 l2 l3 l4 : Value) (x : Int32), exec d mX7_findFewest 37 [l0, .int x, l2, l3, l4] S σ = exec d mX7_findFewest 38 [l0, .int x, l2, l3, l4] (.int x :: S) σ) ∧
  (∀ (d : Nat) (σ : Sg) (S : List Value) (l0 l1 l2 l3 l4 : Value) (x y : Int32), exec d mX7_findFewest 38 [l0, l1, l2, l3, l4] (.int y :: .int x :: S) σ = exec d mX7_findFewest 39 [l0, l1, l2, l3, l4] (.int (x + y) :: S) σ) ∧
  (∀ (d : Nat) (σ : Sg) (S : List Value) (l0 l1 l2 l3 l4 : Value) (x y : Int32), exec d mX7_findFewest 39 [l0, l1, l2, l3, l4] (.int y :: .int x :: .ref 61 :: S) σ = if inb x 8 = true then exec d mX7_findFewest 40 [l0, l1, l2, l3, l4] S (up σ 61 x.toNatClampNeg y) else none) ∧
  (∀ (d : Nat) (σ : Sg) (S : List Value) (l1 l2 l3 l4 : Value) (k : Nat), exec d mX7_findFewest 40 [.ref k, l1, l2, l3, l4] S σ = exec d mX7_findFewest 41 [.ref k, l1, l2, l3, l4] (.ref k :: S) σ) ∧
  (∀ (d : Nat) (σ : Sg) (S : List Value) (l0 l1 l2 l3 l4 : Value), exec d mX7_findFewest 41 [l0, l1, l2, l3, l4] (.ref 50 :: S) σ = exec d mX7_findFewest 44 [l0, l1, l2, l3, l4] (.ref 62 :: S) σ) ∧
  (∀ (d : Nat) (σ : Sg) (S : List Value) (l0 l1 l2 l3 l4 : Value), exec d mX7_findFewest 44 [l0, l1, l2, l3, l4] S σ = exec d mX7_findFewest 45 [l0, l1, l2, l3, l4] (.int (nI 0) :: S) σ) ∧
  (∀ (d : Nat) (σ : Sg) (S : List Value) (l1 l2 l3 l4 : Value) (k : Nat), exec d mX7_findFewest 45 [.ref k, l1, l2, l3, l4] S σ = exec d mX7_findFewest 46 [.ref k, l1, l2, l3, l4] (.ref k :: S) σ) ∧
  (∀ (d : Nat) (σ : Sg) (S : List Value) (l0 l1 l2 l3 l4 : Value), exec d mX7_findFewest 46 [l0, l1, l2, l3, l4] (.ref 50 :: S) σ = exec d mX7_findFewest 49 [l0, l1, l2, l3, l4] (.ref 51 :: S) σ) ∧
  (∀ (d : Nat) (σ : Sg) (S : List Value) (l0 l1 l2 l3 l4 : Value), exec d mX7_findFewest 49 [l0, l1, l2, l3, l4] S σ = exec d mX7_findFewest 50 [l0, l1, l2, l3, l4] (.int (nI 2) :: S) σ) ∧
  (∀ (d : Nat) (σ : Sg) (S : List Value) (l0 l1 l2 l3 l4 : Value) (x : Int32), exec d mX7_findFewest 50 [l0, l1, l2, l3, l4] (.int x :: .ref 51 :: S) σ = if inb x 208 = true then exec d mX7_findFewest 51 [l0, l1, l2, l3, l4] (.int (σ 51 x.toNatClampNeg) :: S) σ else none) ∧
  (∀ (d : Nat) (σ : Sg) (S : List Value) (l0 l1 l2 l3 l4 : Value) (x y : Int32), exec d mX7_findFewest 51 [l0, l1, l2, l3, l4] (.int y :: .int x :: .ref 62 :: S) σ = if inb x 8 = true then exec d mX7_findFewest 52 [l0, l1, l2, l3, l4] S (up σ 62 x.toNatClampNeg y) else none) ∧
  (∀ (d : Nat) (σ : Sg) (S : List Value) (l1 l2 l3 l4 : Value) (k : Nat), exec d mX7_findFewest 52 [.ref k, l1, l2, l3, l4] S σ = exec d mX7_findFewest 53 [.ref k, l1, l2, l3, l4] (.ref k :: S) σ) ∧
  (∀ (d : Nat) (σ : Sg) (S : List Value) (l0 l1 l2 l3 l4 : Value), exec d mX7_findFewest 53 [l0, l1, l2, l3, l4] (.ref 50 :: S) σ = exec d mX7_findFewest 56 [l0, l1, l2, l3, l4] (.ref 63 :: S) σ) ∧
  (∀ (d : Nat) (σ : Sg) (S : List Value) (l0 l1 l2 l3 l4 : Value), exec d mX7_findFewest 56 [l0, l1, l2, l3, l4] S σ = exec d mX7_findFewest 57 [l0, l1, l2, l3, l4] (.int (nI 0) :: S) σ) ∧
  (∀ (d : Nat) (σ : Sg) (S : List Value) (l1 l2 l3 l4 : Value) (k : Nat), exec d mX7_findFewest 57 [.ref k, l1, l2, l3, l4] S σ = exec d mX7_findFewest 58 [.ref k, l1, l2, l3, l4] (.ref k :: S) σ) ∧
  (∀ (d : Nat) (σ : Sg) (S : List Value) (l0 l1 l2 l3 l4 : Value), exec d mX7_findFewest 58 [l0, l1, l2, l3, l4] (.ref 50 :: S) σ = exec d mX7_findFewest 61 [l0, l1, l2, l3, l4] (.ref 51 :: S) σ) ∧
  (∀ (d : Nat) (σ : Sg) (S : List Value) (l0 l1 l2 l3 l4 : Value), exec d mX7_findFewest 61 [l0, l1, l2, l3, l4] S σ = exec d mX7_findFewest 62 [l0, l1, l2, l3, l4] (.int (nI 0) :: S) σ) :=
  ⟨fun d σ S l1 l2 l3 l4 k => ex_aload_n (show decode mX7_findFewest.2.1 0 = .ok (.aload_n 0, 1) by decide +kernel) rfl,
  fun d σ S l0 l1 l2 l3 l4 => ex_ldc (hh := 1132) (show decode mX7_findFewest.2.1 1 = .ok (.ldc 218, 2) by decide +kernel) (by decide +kernel),
  fun d σ S l0 l1 l2 l3 l4 x => ex_put (idx := 219) (ci := 7) (ff := 22) (n := 26) (hh := 855) (by decide +kernel),
  fun d σ S l1 l2 l3 l4 k => ex_aload_n (show decode mX7_findFewest.2.1 6 = .ok (.aload_n 0, 1) by decide +kernel) rfl,
  fun d σ S l0 l1 l2 l3 l4 => ex_iconst (show decode mX7_findFewest.2.1 7 = .ok (.iconst (-1), 1) by decide +kernel) (by decide +kernel),
  fun d σ S l0 l1 l2 l3 l4 x => ex_put (idx := 222) (ci := 7) (ff := 23) (n := 26) (hh := 856) (by decide +kernel),
  fun d σ S l1 l2 l3 l4 k => ex_aload_n (show decode mX7_findFewest.2.1 11 = .ok (.aload_n 0, 1) by decide +kernel) rfl,
  fun d σ S l0 l1 l2 l3 l4 => ex_ldc (hh := 1087) (show decode mX7_findFewest.2.1 12 = .ok (.ldc 205, 2) by decide +kernel) (by decide +kernel),
  fun d σ S l0 l1 l2 l3 l4 x => ex_put (idx := 225) (ci := 7) (ff := 24) (n := 26) (hh := 857) (by decide +kernel),
  fun d σ S l0 l1 l2 l3 l4 => ex_iconst (show decode mX7_findFewest.2.1 17 = .ok (.iconst 0, 1) by decide +kernel) (by decide +kernel),
  fun d σ S l0 l2 l3 l4 x y => ex_istore_n (show decode mX7_findFewest.2.1 18 = .ok (.istore_n 2, 1) by decide +kernel) (Nat.le_of_ble_eq_true rfl) rfl,
  fun d σ S l1 l2 l3 l4 k => ex_aload_n (show decode mX7_findFewest.2.1 19 = .ok (.aload_n 0, 1) by decide +kernel) rfl,
  fun d σ S l0 l1 l2 l3 l4 => ex_getr (idx := 7) (ci := 7) (ff := 0) (n := 26) (hh := 833) (by decide +kernel),
  fun d σ S l0 l1 l2 l3 l4 => ex_iconst (show decode mX7_findFewest.2.1 23 = .ok (.iconst 3, 1) by decide +kernel) (by decide +kernel),
  fun d σ S l0 l1 l2 l3 l4 x => ex_iald (by decide +kernel),
  fun d σ S l0 l1 l3 l4 x y => ex_istore_n (show decode mX7_findFewest.2.1 25 = .ok (.istore_n 3, 1) by decide +kernel) (Nat.le_of_ble_eq_true rfl) rfl,
  fun d σ S l1 l2 l3 l4 k => ex_aload_n (show decode mX7_findFewest.2.1 26 = .ok (.aload_n 0, 1) by decide +kernel) rfl,
  fun d σ S l0 l1 l2 l3 l4 => ex_getr (idx := 41) (ci := 7) (ff := 18) (n := 26) (hh := 851) (by decide +kernel),
  fun d σ S l0 l1 l2 l3 l4 => ex_iconst (show decode mX7_findFewest.2.1 30 = .ok (.iconst 0, 1) by decide +kernel) (by decide +kernel),
  fun d σ S l1 l2 l3 l4 k => ex_aload_n (show decode mX7_findFewest.2.1 31 = .ok (.aload_n 0, 1) by decide +kernel) rfl,
  fun d σ S l0 l1 l2 l3 l4 => ex_getr (idx := 7) (ci := 7) (ff := 0) (n := 26) (hh := 833) (by decide +kernel),
  fun d σ S l0 l1 l2 l3 l4 => ex_iconst (show decode mX7_findFewest.2.1 35 = .ok (.iconst 1, 1) by decide +kernel) (by decide +kernel),
  fun d σ S l0 l1 l2 l3 l4 x => ex_iald (by decide +kernel),
  fun d σ S l0 l2 l3 l4 x => ex_iload_n (show decode mX7_findFewest.2.1 37 = .ok (.iload_n 1, 1) by decide +kernel) rfl,
  fun d σ S l0 l1 l2 l3 l4 x y => ex_iadd (show decode mX7_findFewest.2.1 38 = .ok (.iadd, 1) by decide +kernel),
  fun d σ S l0 l1 l2 l3 l4 x y => ex_iast (by decide +kernel),
  fun d σ S l1 l2 l3 l4 k => ex_aload_n (show decode mX7_findFewest.2.1 40 = .ok (.aload_n 0, 1) by decide +kernel) rfl,
  fun d σ S l0 l1 l2 l3 l4 => ex_getr (idx := 44) (ci := 7) (ff := 19) (n := 26) (hh := 852) (by decide +kernel),
  fun d σ S l0 l1 l2 l3 l4 => ex_iconst (show decode mX7_findFewest.2.1 44 = .ok (.iconst 0, 1) by decide +kernel) (by decide +kernel),
  fun d σ S l1 l2 l3 l4 k => ex_aload_n (show decode mX7_findFewest.2.1 45 = .ok (.aload_n 0, 1) by decide +kernel) rfl,
  fun d σ S l0 l1 l2 l3 l4 => ex_getr (idx := 7) (ci := 7) (ff := 0) (n := 26) (hh := 833) (by decide +kernel),
  fun d σ S l0 l1 l2 l3 l4 => ex_iconst (show decode mX7_findFewest.2.1 49 = .ok (.iconst 2, 1) by decide +kernel) (by decide +kernel),
  fun d σ S l0 l1 l2 l3 l4 x => ex_iald (by decide +kernel),
  fun d σ S l0 l1 l2 l3 l4 x y => ex_iast (by decide +kernel),
  fun d σ S l1 l2 l3 l4 k => ex_aload_n (show decode mX7_findFewest.2.1 52 = .ok (.aload_n 0, 1) by decide +kernel) rfl,
  fun d σ S l0 l1 l2 l3 l4 => ex_getr (idx := 47) (ci := 7) (ff := 20) (n := 26) (hh := 853) (by decide +kernel),
  fun d σ S l0 l1 l2 l3 l4 => ex_iconst (show decode mX7_findFewest.2.1 56 = .ok (.iconst 0, 1) by decide +kernel) (by decide +kernel),
  fun d σ S l1 l2 l3 l4 k => ex_aload_n (show decode mX7_findFewest.2.1 57 = .ok (.aload_n 0, 1) by decide +kernel) rfl,
  fun d σ S l0 l1 l2 l3 l4 => ex_getr (idx := 7) (ci := 7) (ff := 0) (n := 26) (hh := 833) (by decide +kernel),
  fun d σ S l0 l1 l2 l3 l4 => ex_iconst (show decode mX7_findFewest.2.1 61 = .ok (.iconst 0, 1) by decide +kernel) (by decide +kernel)⟩
theorem kX7_findFewest_1 : (∀ (d : Nat) (σ : Sg) (S : List Value) (l0 l1 l2 l3 l4 : Value) (x : Int32), exec d mX7_findFewest 62 [l0, l1, l2, l3, l4] (.int x :: .ref 51 :: S) σ = if inb x 208 = true then exec d mX7_findFewest 63 [l0, l1, l2, l3, l4] (.int (σ 51 x.toNatClampNeg) :: S) σ else none) ∧
  (∀ (d : Nat) (σ : Sg) (S : List Value) (l0 l1 l2 l3 l4 : Value) (x y : Int32), exec d mX7_findFewest 63 [l0, l1, l2, l3, l4] (.int y :: .int x :: .ref 63 :: S) σ = if inb x 8 = true then exec d mX7_findFewest 64 [l0, l1, l2, l3, l4] S (up σ 63 x.toNatClampNeg y) else none) ∧
  (∀ (d : Nat) (σ : Sg) (S : List Value) (l1 l2 l3 l4 : Value) (k : Nat), exec d mX7_findFewest 64 [.ref k, l1, l2, l3, l4] S σ = exec d mX7_findFewest 65 [.ref k, l1, l2, l3, l4] (.ref k :: S) σ) ∧
  (∀ (d : Nat) (σ : Sg) (S : List Value) (l0 l1 l2 l3 l4 : Value), exec d mX7_findFewest 65 [l0, l1, l2, l3, l4] (.ref 50 :: S) σ = exec d mX7_findFewest 68 [l0, l1, l2, l3, l4] (.ref 64 :: S) σ) ∧
  (∀ (d : Nat) (σ : Sg) (S : List Value) (l0 l1 l2 l3 l4 : Value), exec d mX7_findFewest 68 [l0, l1, l2, l3, l4] S σ = exec d mX7_findFewest 69 [l0, l1, l2, l3, l4] (.int (nI 0) :: S) σ) ∧
  (∀ (d : Nat) (σ : Sg) (S : List Value) (l1 l2 l3 l4 : Value) (k : Nat), exec d mX7_findFewest 69 [.ref k, l1, l2, l3, l4] S σ = exec d mX7_findFewest 70 [.ref k, l1, l2, l3, l4] (.ref k :: S) σ) ∧
  (∀ (d : Nat) (σ : Sg) (S : List Value) (l0 l1 l2 l3 l4 : Value), exec d mX7_findFewest 70 [l0, l1, l2, l3, l4] (.ref 50 :: S) σ = exec d mX7_findFewest 73 [l0, l1, l2, l3, l4] (.ref 51 :: S) σ) ∧
  (∀ (d : Nat) (σ : Sg) (S : List Value) (l0 l1 l2 l3 l4 : Value), exec d mX7_findFewest 73 [l0, l1, l2, l3, l4] S σ = exec d mX7_findFewest 74 [l0, l1, l2, l3, l4] (.int (nI 4) :: S) σ) ∧
  (∀ (d : Nat) (σ : Sg) (S : List Value) (l0 l1 l2 l3 l4 : Value) (x : Int32), exec d mX7_findFewest 74 [l0, l1, l2, l3, l4] (.int x :: .ref 51 :: S) σ = if inb x 208 = true then exec d mX7_findFewest 75 [l0, l1, l2, l3, l4] (.int (σ 51 x.toNatClampNeg) :: S) σ else none) ∧
  (∀ (d : Nat) (σ : Sg) (l0 l1 l2 l3 l4 : Value) (x0 x1 : Int32), exec d mX7_findFewest 75 [l0, l1, l2, l3, l4] [.int x0, .int x1, .ref 64] σ = kb (cal d mX7_ones [.int x0] σ) (fun rs σ2 => exec d mX7_findFewest 78 [l0, l1, l2, l3, l4] (rs ++ [.int x1, .ref 64]) σ2)) ∧
  (∀ (d : Nat) (σ : Sg) (S : List Value) (l0 l1 l2 l3 l4 : Value) (x y : Int32), exec d mX7_findFewest 78 [l0, l1, l2, l3, l4] (.int y :: .int x :: .ref 64 :: S) σ = if inb x 8 = true then exec d mX7_findFewest 79 [l0, l1, l2, l3, l4] S (up σ 64 x.toNatClampNeg y) else none) ∧
  (∀ (d : Nat) (σ : Sg) (S : List Value) (l1 l2 l3 l4 : Value) (k : Nat), exec d mX7_findFewest 79 [.ref k, l1, l2, l3, l4] S σ = exec d mX7_findFewest 80 [.ref k, l1, l2, l3, l4] (.ref k :: S) σ) ∧
  (∀ (d : Nat) (σ : Sg) (S : List Value) (l0 l1 l2 l3 l4 : Value), exec d mX7_findFewest 80 [l0, l1, l2, l3, l4] (.ref 50 :: S) σ = exec d mX7_findFewest 83 [l0, l1, l2, l3, l4] (.ref 60 :: S) σ) ∧
  (∀ (d : Nat) (σ : Sg) (S : List Value) (l0 l1 l2 l3 l4 : Value), exec d mX7_findFewest 83 [l0, l1, l2, l3, l4] S σ = exec d mX7_findFewest 84 [l0, l1, l2, l3, l4] (.int (nI 0) :: S) σ) ∧
  (∀ (d : Nat) (σ : Sg) (S : List Value) (l0 l1 l2 l3 l4 : Value), exec d mX7_findFewest 84 [l0, l1, l2, l3, l4] S σ = exec d mX7_findFewest 85 [l0, l1, l2, l3, l4] (.int ((-1)) :: S) σ) ∧
  (∀ (d : Nat) (σ : Sg) (S : List Value) (l0 l1 l2 l3 l4 : Value) (x y : Int32), exec d mX7_findFewest 85 [l0, l1, l2, l3, l4] (.int y :: .int x :: .ref 60 :: S) σ = if inb x 8 = true then exec d mX7_findFewest 86 [l0, l1, l2, l3, l4] S (up σ 60 x.toNatClampNeg y) else none) ∧
  (∀ (d : Nat) (σ : Sg) (S : List Value) (l0 l1 l2 l3 l4 : Value) (x : Int32), exec d mX7_findFewest 87 [l0, l1, l2, l3, l4] (.int x :: S) σ = if x < nI 0 then exec d mX7_findFewest 309 [l0, l1, l2, l3, l4] S σ else exec d mX7_findFewest 90 [l0, l1, l2, l3, l4] S σ) ∧
  (∀ (d : Nat) (σ : Sg) (S : List Value) (l0 l1 l2 l4 : Value) (x : Int32), exec d mX7_findFewest 90 [l0, l1, l2, .int x, l4] S σ = exec d mX7_findFewest 91 [l0, l1, l2, .int x, l4] (.int x :: S) σ) ∧
  (∀ (d : Nat) (σ : Sg) (S : List Value) (l0 l1 l2 l3 l4 : Value), exec d mX7_findFewest 91 [l0, l1, l2, l3, l4] S σ = exec d mX7_findFewest 92 [l0, l1, l2, l3, l4] (.int (nI 1) :: S) σ) ∧
  (∀ (d : Nat) (σ : Sg) (S : List Value) (l1 l2 l3 l4 : Value) (k : Nat), exec d mX7_findFewest 92 [.ref k, l1, l2, l3, l4] S σ = exec d mX7_findFewest 93 [.ref k, l1, l2, l3, l4] (.ref k :: S) σ) ∧
  (∀ (d : Nat) (σ : Sg) (S : List Value) (l0 l1 l2 l3 l4 : Value), exec d mX7_findFewest 93 [l0, l1, l2, l3, l4] (.ref 50 :: S) σ = exec d mX7_findFewest 96 [l0, l1, l2, l3, l4] (.ref 51 :: S) σ) ∧
  (∀ (d : Nat) (σ : Sg) (S : List Value) (l0 l1 l2 l3 l4 : Value), exec d mX7_findFewest 96 [l0, l1, l2, l3, l4] S σ = exec d mX7_findFewest 98 [l0, l1, l2, l3, l4] (.int (nI 7) :: S) σ) ∧
  (∀ (d : Nat) (σ : Sg) (S : List Value) (l0 l1 l2 l3 l4 : Value) (x : Int32), exec d mX7_findFewest 98 [l0, l1, l2, l3, l4] (.int x :: .ref 51 :: S) σ = if inb x 208 = true then exec d mX7_findFewest 99 [l0, l1, l2, l3, l4] (.int (σ 51 x.toNatClampNeg) :: S) σ else none) ∧
  (∀ (d : Nat) (σ : Sg) (S : List Value) (l0 l1 l2 l3 l4 : Value) (x y : Int32), exec d mX7_findFewest 99 [l0, l1, l2, l3, l4] (.int y :: .int x :: S) σ = exec d mX7_findFewest 100 [l0, l1, l2, l3, l4] (.int (x <<< (y &&& 31)) :: S) σ) ∧
  (∀ (d : Nat) (σ : Sg) (S : List Value) (l0 l1 l2 l3 l4 : Value), exec d mX7_findFewest 100 [l0, l1, l2, l3, l4] S σ = exec d mX7_findFewest 101 [l0, l1, l2, l3, l4] (.int (nI 1) :: S) σ) ∧
  (∀ (d : Nat) (σ : Sg) (S : List Value) (l0 l1 l2 l3 l4 : Value) (x y : Int32), exec d mX7_findFewest 101 [l0, l1, l2, l3, l4] (.int y :: .int x :: S) σ = exec d mX7_findFewest 102 [l0, l1, l2, l3, l4] (.int (x - y) :: S) σ) ∧
  (∀ (d : Nat) (σ : Sg) (S : List Value) (l0 l1 l2 l3 l4 : Value) (x y : Int32), exec d mX7_findFewest 102 [l0, l1, l2, l3, l4] (.int y :: .int x :: S) σ = if x = y then exec d mX7_findFewest 105 [l0, l1, l2, l3, l4] S σ else exec d mX7_findFewest 226 [l0, l1, l2, l3, l4] S σ) ∧
  (∀ (d : Nat) (σ : Sg) (S : List Value) (l1 l2 l3 l4 : Value) (k : Nat), exec d mX7_findFewest 105 [.ref k, l1, l2, l3, l4] S σ = exec d mX7_findFewest 106 [.ref k, l1, l2, l3, l4] (.ref k :: S) σ) ∧
  (∀ (d : Nat) (σ : Sg) (S : List Value) (l0 l1 l2 l3 l4 : Value), exec d mX7_findFewest 106 [l0, l1, l2, l3, l4] (.ref 50 :: S) σ = exec d mX7_findFewest 109 [l0, l1, l2, l3, l4] (.ref 64 :: S) σ) ∧
  (∀ (d : Nat) (σ : Sg) (S : List Value) (l0 l1 l3 l4 : Value) (x : Int32), exec d mX7_findFewest 109 [l0, l1, .int x, l3, l4] S σ = exec d mX7_findFewest 110 [l0, l1, .int x, l3, l4] (.int x :: S) σ) ∧
  (∀ (d : Nat) (σ : Sg) (S : List Value) (l0 l1 l2 l3 l4 : Value) (x : Int32), exec d mX7_findFewest 110 [l0, l1, l2, l3, l4] (.int x :: .ref 64 :: S) σ = if inb x 8 = true then exec d mX7_findFewest 111 [l0, l1, l2, l3, l4] (.int (σ 64 x.toNatClampNeg) :: S) σ else none) ∧
  (∀ (d : Nat) (σ : Sg) (S : List Value) (l1 l2 l3 l4 : Value) (k : Nat), exec d mX7_findFewest 111 [.ref k, l1, l2, l3, l4] S σ = exec d mX7_findFewest 112 [.ref k, l1, l2, l3, l4] (.ref k :: S) σ) ∧
  (∀ (d : Nat) (σ : Sg) (S : List Value) (l0 l1 l2 l3 l4 : Value), exec d mX7_findFewest 112 [l0, l1, l2, l3, l4] (.ref 50 :: S) σ = exec d mX7_findFewest 115 [l0, l1, l2, l3, l4] (.int (σ 50 22) :: S) σ) ∧
  (∀ (d : Nat) (σ : Sg) (S : List Value) (l0 l1 l2 l3 l4 : Value) (x y : Int32), exec d mX7_findFewest 115 [l0, l1, l2, l3, l4] (.int y :: .int x :: S) σ = if x < y then exec d mX7_findFewest 144 [l0, l1, l2, l3, l4] S σ else exec d mX7_findFewest 118 [l0, l1, l2, l3, l4] S σ) ∧
  (∀ (d : Nat) (σ : Sg) (S : List Value) (l1 l2 l3 l4 : Value) (k : Nat), exec d mX7_findFewest 118 [.ref k, l1, l2, l3, l4] S σ = exec d mX7_findFewest 119 [.ref k, l1, l2, l3, l4] (.ref k :: S) σ) ∧
  (∀ (d : Nat) (σ : Sg) (S : List Value) (l0 l1 l2 l3 l4 : Value), exec d mX7_findFewest 119 [l0, l1, l2, l3, l4] (.ref 50 :: S) σ = exec d mX7_findFewest 122 [l0, l1, l2, l3, l4] (.ref 64 :: S) σ) ∧
  (∀ (d : Nat) (σ : Sg) (S : List Value) (l0 l1 l3 l4 : Value) (x : Int32), exec d mX7_findFewest 122 [l0, l1, .int x, l3, l4] S σ = exec d mX7_findFewest 123 [l0, l1, .int x, l3, l4] (.int x :: S) σ) ∧
  (∀ (d : Nat) (σ : Sg) (S : List Value) (l0 l1 l2 l3 l4 : Value) (x : Int32), exec d mX7_findFewest 123 [l0, l1, l2, l3, l4] (.int x :: .ref 64 :: S) σ = if inb x 8 = true then exec d mX7_findFewest 124 [l0, l1, l2, l3, l4] (.int (σ 64 x.toNatClampNeg) :: S) σ else none) ∧
  (∀ (d : Nat) (σ : Sg) (S : List Value) (l1 l2 l3 l4 : Value) (k : Nat), exec d mX7_findFewest 124 [.ref k, l1, l2, l3, l4] S σ = exec d mX7_findFewest 125 [.ref k, l1, l2, l3, l4] (.ref k :: S) σ) ∧
  (∀ (d : Nat) (σ : Sg) (S : List Value) (l0 l1 l2 l3 l4 : Value), exec d mX7_findFewest 125 [l0, l1, l2, l3, l4] (.ref 50 :: S) σ = exec d mX7_findFewest 128 [l0, l1, l2, l3, l4] (.int (σ 50 22) :: S) σ) :=
  ⟨fun d σ S l0 l1 l2 l3 l4 x => ex_iald (by decide +kernel),
  fun d σ S l0 l1 l2 l3 l4 x y => ex_iast (by decide +kernel),
  fun d σ S l1 l2 l3 l4 k => ex_aload_n (show decode mX7_findFewest.2.1 64 = .ok (.aload_n 0, 1) by decide +kernel) rfl,
  fun d σ S l0 l1 l2 l3 l4 => ex_getr (idx := 50) (ci := 7) (ff := 21) (n := 26) (hh := 854) (by decide +kernel),
  fun d σ S l0 l1 l2 l3 l4 => ex_iconst (show decode mX7_findFewest.2.1 68 = .ok (.iconst 0, 1) by decide +kernel) (by decide +kernel),
  fun d σ S l1 l2 l3 l4 k => ex_aload_n (show decode mX7_findFewest.2.1 69 = .ok (.aload_n 0, 1) by decide +kernel) rfl,
  fun d σ S l0 l1 l2 l3 l4 => ex_getr (idx := 7) (ci := 7) (ff := 0) (n := 26) (hh := 833) (by decide +kernel),
  fun d σ S l0 l1 l2 l3 l4 => ex_iconst (show decode mX7_findFewest.2.1 73 = .ok (.iconst 4, 1) by decide +kernel) (by decide +kernel),
  fun d σ S l0 l1 l2 l3 l4 x => ex_iald (by decide +kernel),
  fun d σ l0 l1 l2 l3 l4 x0 x1 => ex_is (hs := [1121, 1122, 1123, 101]) (show decode mX7_findFewest.2.1 75 = .ok (.invokestatic 199, 3) by decide +kernel) lkS_7_199 ⟨rfl, Nat.le_of_ble_eq_true rfl, Nat.le_of_ble_eq_true rfl, fun q => nomatch q⟩ rfl rfl,
  fun d σ S l0 l1 l2 l3 l4 x y => ex_iast (by decide +kernel),
  fun d σ S l1 l2 l3 l4 k => ex_aload_n (show decode mX7_findFewest.2.1 79 = .ok (.aload_n 0, 1) by decide +kernel) rfl,
  fun d σ S l0 l1 l2 l3 l4 => ex_getr (idx := 38) (ci := 7) (ff := 17) (n := 26) (hh := 850) (by decide +kernel),
  fun d σ S l0 l1 l2 l3 l4 => ex_iconst (show decode mX7_findFewest.2.1 83 = .ok (.iconst 0, 1) by decide +kernel) (by decide +kernel),
  fun d σ S l0 l1 l2 l3 l4 => ex_iconst (show decode mX7_findFewest.2.1 84 = .ok (.iconst (-1), 1) by decide +kernel) (by decide +kernel),
  fun d σ S l0 l1 l2 l3 l4 x y => ex_iast (by decide +kernel),
  fun d σ S l0 l1 l2 l3 l4 x => ex_zlt (show decode mX7_findFewest.2.1 87 = .ok (.ifCond .lt 222, 3) by decide +kernel) (by decide),
  fun d σ S l0 l1 l2 l4 x => ex_iload_n (show decode mX7_findFewest.2.1 90 = .ok (.iload_n 3, 1) by decide +kernel) rfl,
  fun d σ S l0 l1 l2 l3 l4 => ex_iconst (show decode mX7_findFewest.2.1 91 = .ok (.iconst 1, 1) by decide +kernel) (by decide +kernel),
  fun d σ S l1 l2 l3 l4 k => ex_aload_n (show decode mX7_findFewest.2.1 92 = .ok (.aload_n 0, 1) by decide +kernel) rfl,
  fun d σ S l0 l1 l2 l3 l4 => ex_getr (idx := 7) (ci := 7) (ff := 0) (n := 26) (hh := 833) (by decide +kernel),
  fun d σ S l0 l1 l2 l3 l4 => ex_bipush (show decode mX7_findFewest.2.1 96 = .ok (.bipush 7, 2) by decide +kernel) (by decide +kernel),
  fun d σ S l0 l1 l2 l3 l4 x => ex_iald (by decide +kernel),
  fun d σ S l0 l1 l2 l3 l4 x y => ex_ishl (show decode mX7_findFewest.2.1 99 = .ok (.ishl, 1) by decide +kernel),
  fun d σ S l0 l1 l2 l3 l4 => ex_iconst (show decode mX7_findFewest.2.1 100 = .ok (.iconst 1, 1) by decide +kernel) (by decide +kernel),
  fun d σ S l0 l1 l2 l3 l4 x y => ex_isub (show decode mX7_findFewest.2.1 101 = .ok (.isub, 1) by decide +kernel),
  fun d σ S l0 l1 l2 l3 l4 x y => ex_cne (show decode mX7_findFewest.2.1 102 = .ok (.if_icmp .ne 124, 3) by decide +kernel) (by decide),
  fun d σ S l1 l2 l3 l4 k => ex_aload_n (show decode mX7_findFewest.2.1 105 = .ok (.aload_n 0, 1) by decide +kernel) rfl,
  fun d σ S l0 l1 l2 l3 l4 => ex_getr (idx := 50) (ci := 7) (ff := 21) (n := 26) (hh := 854) (by decide +kernel),
  fun d σ S l0 l1 l3 l4 x => ex_iload_n (show decode mX7_findFewest.2.1 109 = .ok (.iload_n 2, 1) by decide +kernel) rfl,
  fun d σ S l0 l1 l2 l3 l4 x => ex_iald (by decide +kernel),
  fun d σ S l1 l2 l3 l4 k => ex_aload_n (show decode mX7_findFewest.2.1 111 = .ok (.aload_n 0, 1) by decide +kernel) rfl,
  fun d σ S l0 l1 l2 l3 l4 => ex_get (idx := 219) (ci := 7) (ff := 22) (n := 26) (hh := 855) (by decide +kernel),
  fun d σ S l0 l1 l2 l3 l4 x y => ex_clt (show decode mX7_findFewest.2.1 115 = .ok (.if_icmp .lt 29, 3) by decide +kernel) (by decide),
  fun d σ S l1 l2 l3 l4 k => ex_aload_n (show decode mX7_findFewest.2.1 118 = .ok (.aload_n 0, 1) by decide +kernel) rfl,
  fun d σ S l0 l1 l2 l3 l4 => ex_getr (idx := 50) (ci := 7) (ff := 21) (n := 26) (hh := 854) (by decide +kernel),
  fun d σ S l0 l1 l3 l4 x => ex_iload_n (show decode mX7_findFewest.2.1 122 = .ok (.iload_n 2, 1) by decide +kernel) rfl,
  fun d σ S l0 l1 l2 l3 l4 x => ex_iald (by decide +kernel),
  fun d σ S l1 l2 l3 l4 k => ex_aload_n (show decode mX7_findFewest.2.1 124 = .ok (.aload_n 0, 1) by decide +kernel) rfl,
  fun d σ S l0 l1 l2 l3 l4 => ex_get (idx := 219) (ci := 7) (ff := 22) (n := 26) (hh := 855) (by decide +kernel)⟩
theorem kX7_findFewest_2 : (∀ (d : Nat) (σ : Sg) (S : List Value) (l0 l1 l2 l3 l4 : Value) (x y : Int32), exec d mX7_findFewest 128 [l0, l1, l2, l3, l4] (.int y :: .int x :: S) σ = if x = y then exec d mX7_findFewest 131 [l0, l1, l2, l3, l4] S σ else exec d mX7_findFewest 148 [l0, l1, l2, l3, l4] S σ) ∧
  (∀ (d : Nat) (σ : Sg) (S : List Value) (l1 l2 l3 l4 : Value) (k : Nat), exec d mX7_findFewest 131 [.ref k, l1, l2, l3, l4] S σ = exec d mX7_findFewest 132 [.ref k, l1, l2, l3, l4] (.ref k :: S) σ) ∧
  (∀ (d : Nat) (σ : Sg) (S : List Value) (l0 l1 l2 l3 l4 : Value), exec d mX7_findFewest 132 [l0, l1, l2, l3, l4] (.ref 50 :: S) σ = exec d mX7_findFewest 135 [l0, l1, l2, l3, l4] (.ref 61 :: S) σ) ∧
  (∀ (d : Nat) (σ : Sg) (S : List Value) (l0 l1 l3 l4 : Value) (x : Int32), exec d mX7_findFewest 135 [l0, l1, .int x, l3, l4] S σ = exec d mX7_findFewest 136 [l0, l1, .int x, l3, l4] (.int x :: S) σ) ∧
  (∀ (d : Nat) (σ : Sg) (S : List Value) (l0 l1 l2 l3 l4 : Value) (x : Int32), exec d mX7_findFewest 136 [l0, l1, l2, l3, l4] (.int x :: .ref 61 :: S) σ = if inb x 8 = true then exec d mX7_findFewest 137 [l0, l1, l2, l3, l4] (.int (σ 61 x.toNatClampNeg) :: S) σ else none) ∧
  (∀ (d : Nat) (σ : Sg) (S : List Value) (l1 l2 l3 l4 : Value) (k : Nat), exec d mX7_findFewest 137 [.ref k, l1, l2, l3, l4] S σ = exec d mX7_findFewest 138 [.ref k, l1, l2, l3, l4] (.ref k :: S) σ) ∧
  (∀ (d : Nat) (σ : Sg) (S : List Value) (l0 l1 l2 l3 l4 : Value), exec d mX7_findFewest 138 [l0, l1, l2, l3, l4] (.ref 50 :: S) σ = exec d mX7_findFewest 141 [l0, l1, l2, l3, l4] (.int (σ 50 23) :: S) σ) ∧
  (∀ (d : Nat) (σ : Sg) (S : List Value) (l0 l1 l2 l3 l4 : Value) (x y : Int32), exec d mX7_findFewest 141 [l0, l1, l2, l3, l4] (.int y :: .int x :: S) σ = if x ≤ y then exec d mX7_findFewest 148 [l0, l1, l2, l3, l4] S σ else exec d mX7_findFewest 144 [l0, l1, l2, l3, l4] S σ) ∧
  (∀ (d : Nat) (σ : Sg) (S : List Value) (l0 l1 l2 l3 l4 : Value), exec d mX7_findFewest 144 [l0, l1, l2, l3, l4] S σ = exec d mX7_findFewest 145 [l0, l1, l2, l3, l4] (.int (nI 1) :: S) σ) ∧
  (∀ (d : Nat) (σ : Sg) (S : List Value) (l0 l1 l2 l3 l4 : Value), exec d mX7_findFewest 145 [l0, l1, l2, l3, l4] S σ = exec d mX7_findFewest 149 [l0, l1, l2, l3, l4] S σ) ∧
  (∀ (d : Nat) (σ : Sg) (S : List Value) (l0 l1 l2 l3 l4 : Value), exec d mX7_findFewest 148 [l0, l1, l2, l3, l4] S σ = exec d mX7_findFewest 149 [l0, l1, l2, l3, l4] (.int (nI 0) :: S) σ) ∧
  (∀ (d : Nat) (σ : Sg) (S : List Value) (l0 l1 l2 l4 : Value) (x y : Int32), exec d mX7_findFewest 149 [l0, l1, l2, .int y, l4] (.int x :: S) σ = exec d mX7_findFewest 151 [l0, l1, l2, .int y, .int x] S σ) ∧
  (∀ (d : Nat) (σ : Sg) (S : List Value) (l1 l2 l3 l4 : Value) (k : Nat), exec d mX7_findFewest 151 [.ref k, l1, l2, l3, l4] S σ = exec d mX7_findFewest 152 [.ref k, l1, l2, l3, l4] (.ref k :: S) σ) ∧
  (∀ (d : Nat) (σ : Sg) (S : List Value) (l0 l1 l2 l3 : Value) (x : Int32), exec d mX7_findFewest 152 [l0, l1, l2, l3, .int x] S σ = exec d mX7_findFewest 154 [l0, l1, l2, l3, .int x] (.int x :: S) σ) ∧
  (∀ (d : Nat) (σ : Sg) (S : List Value) (l0 l1 l2 l3 l4 : Value) (x : Int32), exec d mX7_findFewest 154 [l0, l1, l2, l3, l4] (.int x :: S) σ = if x = nI 0 then exec d mX7_findFewest 175 [l0, l1, l2, l3, l4] S σ else exec d mX7_findFewest 157 [l0, l1, l2, l3, l4] S σ) ∧
  (∀ (d : Nat) (σ : Sg) (S : List Value) (l0 l1 l3 l4 : Value) (x : Int32), exec d mX7_findFewest 157 [l0, l1, .int x, l3, l4] S σ = exec d mX7_findFewest 158 [l0, l1, .int x, l3, l4] (.int x :: S) σ) ∧
  (∀ (d : Nat) (σ : Sg) (S : List Value) (l0 l1 l2 l3 l4 : Value) (x : Int32), exec d mX7_findFewest 158 [l0, l1, l2, l3, l4] (.int x :: S) σ = if x = nI 0 then exec d mX7_findFewest 161 [l0, l1, l2, l3, l4] S σ else exec d mX7_findFewest 166 [l0, l1, l2, l3, l4] S σ) ∧
  (∀ (d : Nat) (σ : Sg) (S : List Value) (l0 l1 l2 l3 l4 : Value), exec d mX7_findFewest 161 [l0, l1, l2, l3, l4] S σ = exec d mX7_findFewest 163 [l0, l1, l2, l3, l4] (.int ((-1000000)) :: S) σ) ∧
  (∀ (d : Nat) (σ : Sg) (S : List Value) (l0 l1 l2 l3 l4 : Value), exec d mX7_findFewest 163 [l0, l1, l2, l3, l4] S σ = exec d mX7_findFewest 179 [l0, l1, l2, l3, l4] S σ) ∧
  (∀ (d : Nat) (σ : Sg) (S : List Value) (l1 l2 l3 l4 : Value) (k : Nat), exec d mX7_findFewest 166 [.ref k, l1, l2, l3, l4] S σ = exec d mX7_findFewest 167 [.ref k, l1, l2, l3, l4] (.ref k :: S) σ) ∧
  (∀ (d : Nat) (σ : Sg) (S : List Value) (l0 l1 l2 l3 l4 : Value), exec d mX7_findFewest 167 [l0, l1, l2, l3, l4] (.ref 50 :: S) σ = exec d mX7_findFewest 170 [l0, l1, l2, l3, l4] (.ref 60 :: S) σ) ∧
  (∀ (d : Nat) (σ : Sg) (S : List Value) (l0 l1 l2 l3 l4 : Value), exec d mX7_findFewest 170 [l0, l1, l2, l3, l4] S σ = exec d mX7_findFewest 171 [l0, l1, l2, l3, l4] (.int (nI 0) :: S) σ) ∧
  (∀ (d : Nat) (σ : Sg) (S : List Value) (l0 l1 l2 l3 l4 : Value) (x : Int32), exec d mX7_findFewest 171 [l0, l1, l2, l3, l4] (.int x :: .ref 60 :: S) σ = if inb x 8 = true then exec d mX7_findFewest 172 [l0, l1, l2, l3, l4] (.int (σ 60 x.toNatClampNeg) :: S) σ else none) ∧
  (∀ (d : Nat) (σ : Sg) (S : List Value) (l0 l1 l2 l3 l4 : Value), exec d mX7_findFewest 172 [l0, l1, l2, l3, l4] S σ = exec d mX7_findFewest 179 [l0, l1, l2, l3, l4] S σ) ∧
  (∀ (d : Nat) (σ : Sg) (S : List Value) (l1 l2 l3 l4 : Value) (k : Nat), exec d mX7_findFewest 175 [.ref k, l1, l2, l3, l4] S σ = exec d mX7_findFewest 176 [.ref k, l1, l2, l3, l4] (.ref k :: S) σ) ∧
  (∀ (d : Nat) (σ : Sg) (S : List Value) (l0 l1 l2 l3 l4 : Value), exec d mX7_findFewest 176 [l0, l1, l2, l3, l4] (.ref 50 :: S) σ = exec d mX7_findFewest 179 [l0, l1, l2, l3, l4] (.int (σ 50 24) :: S) σ) ∧
  (∀ (d : Nat) (σ : Sg) (S : List Value) (l0 l1 l2 l3 l4 : Value) (x : Int32), exec d mX7_findFewest 179 [l0, l1, l2, l3, l4] (.int x :: .ref 50 :: S) σ = exec d mX7_findFewest 182 [l0, l1, l2, l3, l4] S (up σ 50 24 x)) ∧
  (∀ (d : Nat) (σ : Sg) (S : List Value) (l1 l2 l3 l4 : Value) (k : Nat), exec d mX7_findFewest 182 [.ref k, l1, l2, l3, l4] S σ = exec d mX7_findFewest 183 [.ref k, l1, l2, l3, l4] (.ref k :: S) σ) ∧
  (∀ (d : Nat) (σ : Sg) (S : List Value) (l0 l1 l2 l3 : Value) (x : Int32), exec d mX7_findFewest 183 [l0, l1, l2, l3, .int x] S σ = exec d mX7_findFewest 185 [l0, l1, l2, l3, .int x] (.int x :: S) σ) ∧
  (∀ (d : Nat) (σ : Sg) (S : List Value) (l0 l1 l2 l3 l4 : Value) (x : Int32), exec d mX7_findFewest 185 [l0, l1, l2, l3, l4] (.int x :: S) σ = if x = nI 0 then exec d mX7_findFewest 197 [l0, l1, l2, l3, l4] S σ else exec d mX7_findFewest 188 [l0, l1, l2, l3, l4] S σ) ∧
  (∀ (d : Nat) (σ : Sg) (S : List Value) (l1 l2 l3 l4 : Value) (k : Nat), exec d mX7_findFewest 188 [.ref k, l1, l2, l3, l4] S σ = exec d mX7_findFewest 189 [.ref k, l1, l2, l3, l4] (.ref k :: S) σ) ∧
  (∀ (d : Nat) (σ : Sg) (S : List Value) (l0 l1 l2 l3 l4 : Value), exec d mX7_findFewest 189 [l0, l1, l2, l3, l4] (.ref 50 :: S) σ = exec d mX7_findFewest 192 [l0, l1, l2, l3, l4] (.ref 61 :: S) σ) ∧
  (∀ (d : Nat) (σ : Sg) (S : List Value) (l0 l1 l3 l4 : Value) (x : Int32), exec d mX7_findFewest 192 [l0, l1, .int x, l3, l4] S σ = exec d mX7_findFewest 193 [l0, l1, .int x, l3, l4] (.int x :: S) σ) ∧
  (∀ (d : Nat) (σ : Sg) (S : List Value) (l0 l1 l2 l3 l4 : Value) (x : Int32), exec d mX7_findFewest 193 [l0, l1, l2, l3, l4] (.int x :: .ref 61 :: S) σ = if inb x 8 = true then exec d mX7_findFewest 194 [l0, l1, l2, l3, l4] (.int (σ 61 x.toNatClampNeg) :: S) σ else none) ∧
  (∀ (d : Nat) (σ : Sg) (S : List Value) (l0 l1 l2 l3 l4 : Value), exec d mX7_findFewest 194 [l0, l1, l2, l3, l4] S σ = exec d mX7_findFewest 201 [l0, l1, l2, l3, l4] S σ) ∧
  (∀ (d : Nat) (σ : Sg) (S : List Value) (l1 l2 l3 l4 : Value) (k : Nat), exec d mX7_findFewest 197 [.ref k, l1, l2, l3, l4] S σ = exec d mX7_findFewest 198 [.ref k, l1, l2, l3, l4] (.ref k :: S) σ) ∧
  (∀ (d : Nat) (σ : Sg) (S : List Value) (l0 l1 l2 l3 l4 : Value), exec d mX7_findFewest 198 [l0, l1, l2, l3, l4] (.ref 50 :: S) σ = exec d mX7_findFewest 201 [l0, l1, l2, l3, l4] (.int (σ 50 23) :: S) σ) ∧
  (∀ (d : Nat) (σ : Sg) (S : List Value) (l0 l1 l2 l3 l4 : Value) (x : Int32), exec d mX7_findFewest 201 [l0, l1, l2, l3, l4] (.int x :: .ref 50 :: S) σ = exec d mX7_findFewest 204 [l0, l1, l2, l3, l4] S (up σ 50 23 x)) ∧
  (∀ (d : Nat) (σ : Sg) (S : List Value) (l1 l2 l3 l4 : Value) (k : Nat), exec d mX7_findFewest 204 [.ref k, l1, l2, l3, l4] S σ = exec d mX7_findFewest 205 [.ref k, l1, l2, l3, l4] (.ref k :: S) σ) ∧
  (∀ (d : Nat) (σ : Sg) (S : List Value) (l0 l1 l2 l3 : Value) (x : Int32), exec d mX7_findFewest 205 [l0, l1, l2, l3, .int x] S σ = exec d mX7_findFewest 207 [l0, l1, l2, l3, .int x] (.int x :: S) σ) :=
  ⟨fun d σ S l0 l1 l2 l3 l4 x y => ex_cne (show decode mX7_findFewest.2.1 128 = .ok (.if_icmp .ne 20, 3) by decide +kernel) (by decide),
  fun d σ S l1 l2 l3 l4 k => ex_aload_n (show decode mX7_findFewest.2.1 131 = .ok (.aload_n 0, 1) by decide +kernel) rfl,
  fun d σ S l0 l1 l2 l3 l4 => ex_getr (idx := 41) (ci := 7) (ff := 18) (n := 26) (hh := 851) (by decide +kernel),
  fun d σ S l0 l1 l3 l4 x => ex_iload_n (show decode mX7_findFewest.2.1 135 = .ok (.iload_n 2, 1) by decide +kernel) rfl,
  fun d σ S l0 l1 l2 l3 l4 x => ex_iald (by decide +kernel),
  fun d σ S l1 l2 l3 l4 k => ex_aload_n (show decode mX7_findFewest.2.1 137 = .ok (.aload_n 0, 1) by decide +kernel) rfl,
  fun d σ S l0 l1 l2 l3 l4 => ex_get (idx := 222) (ci := 7) (ff := 23) (n := 26) (hh := 856) (by decide +kernel),
  fun d σ S l0 l1 l2 l3 l4 x y => ex_cle (show decode mX7_findFewest.2.1 141 = .ok (.if_icmp .le 7, 3) by decide +kernel) (by decide),
  fun d σ S l0 l1 l2 l3 l4 => ex_iconst (show decode mX7_findFewest.2.1 144 = .ok (.iconst 1, 1) by decide +kernel) (by decide +kernel),
  fun d σ S l0 l1 l2 l3 l4 => ex_goto (show decode mX7_findFewest.2.1 145 = .ok (.goto 4, 3) by decide +kernel) (by decide),
  fun d σ S l0 l1 l2 l3 l4 => ex_iconst (show decode mX7_findFewest.2.1 148 = .ok (.iconst 0, 1) by decide +kernel) (by decide +kernel),
  fun d σ S l0 l1 l2 l4 x y => ex_istore (show decode mX7_findFewest.2.1 149 = .ok (.istore 4, 2) by decide +kernel) (Nat.le_of_ble_eq_true rfl) rfl,
  fun d σ S l1 l2 l3 l4 k => ex_aload_n (show decode mX7_findFewest.2.1 151 = .ok (.aload_n 0, 1) by decide +kernel) rfl,
  fun d σ S l0 l1 l2 l3 x => ex_iload (show decode mX7_findFewest.2.1 152 = .ok (.iload 4, 2) by decide +kernel) rfl,
  fun d σ S l0 l1 l2 l3 l4 x => ex_zeq (show decode mX7_findFewest.2.1 154 = .ok (.ifCond .eq 21, 3) by decide +kernel) (by decide),
  fun d σ S l0 l1 l3 l4 x => ex_iload_n (show decode mX7_findFewest.2.1 157 = .ok (.iload_n 2, 1) by decide +kernel) rfl,
  fun d σ S l0 l1 l2 l3 l4 x => ex_zne (show decode mX7_findFewest.2.1 158 = .ok (.ifCond .ne 8, 3) by decide +kernel) (by decide),
  fun d σ S l0 l1 l2 l3 l4 => ex_ldc (hh := 1087) (show decode mX7_findFewest.2.1 161 = .ok (.ldc 205, 2) by decide +kernel) (by decide +kernel),
  fun d σ S l0 l1 l2 l3 l4 => ex_goto (show decode mX7_findFewest.2.1 163 = .ok (.goto 16, 3) by decide +kernel) (by decide),
  fun d σ S l1 l2 l3 l4 k => ex_aload_n (show decode mX7_findFewest.2.1 166 = .ok (.aload_n 0, 1) by decide +kernel) rfl,
  fun d σ S l0 l1 l2 l3 l4 => ex_getr (idx := 38) (ci := 7) (ff := 17) (n := 26) (hh := 850) (by decide +kernel),
  fun d σ S l0 l1 l2 l3 l4 => ex_iconst (show decode mX7_findFewest.2.1 170 = .ok (.iconst 0, 1) by decide +kernel) (by decide +kernel),
  fun d σ S l0 l1 l2 l3 l4 x => ex_iald (by decide +kernel),
  fun d σ S l0 l1 l2 l3 l4 => ex_goto (show decode mX7_findFewest.2.1 172 = .ok (.goto 7, 3) by decide +kernel) (by decide),
  fun d σ S l1 l2 l3 l4 k => ex_aload_n (show decode mX7_findFewest.2.1 175 = .ok (.aload_n 0, 1) by decide +kernel) rfl,
  fun d σ S l0 l1 l2 l3 l4 => ex_get (idx := 225) (ci := 7) (ff := 24) (n := 26) (hh := 857) (by decide +kernel),
  fun d σ S l0 l1 l2 l3 l4 x => ex_put (idx := 225) (ci := 7) (ff := 24) (n := 26) (hh := 857) (by decide +kernel),
  fun d σ S l1 l2 l3 l4 k => ex_aload_n (show decode mX7_findFewest.2.1 182 = .ok (.aload_n 0, 1) by decide +kernel) rfl,
  fun d σ S l0 l1 l2 l3 x => ex_iload (show decode mX7_findFewest.2.1 183 = .ok (.iload 4, 2) by decide +kernel) rfl,
  fun d σ S l0 l1 l2 l3 l4 x => ex_zeq (show decode mX7_findFewest.2.1 185 = .ok (.ifCond .eq 12, 3) by decide +kernel) (by decide),
  fun d σ S l1 l2 l3 l4 k => ex_aload_n (show decode mX7_findFewest.2.1 188 = .ok (.aload_n 0, 1) by decide +kernel) rfl,
  fun d σ S l0 l1 l2 l3 l4 => ex_getr (idx := 41) (ci := 7) (ff := 18) (n := 26) (hh := 851) (by decide +kernel),
  fun d σ S l0 l1 l3 l4 x => ex_iload_n (show decode mX7_findFewest.2.1 192 = .ok (.iload_n 2, 1) by decide +kernel) rfl,
  fun d σ S l0 l1 l2 l3 l4 x => ex_iald (by decide +kernel),
  fun d σ S l0 l1 l2 l3 l4 => ex_goto (show decode mX7_findFewest.2.1 194 = .ok (.goto 7, 3) by decide +kernel) (by decide),
  fun d σ S l1 l2 l3 l4 k => ex_aload_n (show decode mX7_findFewest.2.1 197 = .ok (.aload_n 0, 1) by decide +kernel) rfl,
  fun d σ S l0 l1 l2 l3 l4 => ex_get (idx := 222) (ci := 7) (ff := 23) (n := 26) (hh := 856) (by decide +kernel),
  fun d σ S l0 l1 l2 l3 l4 x => ex_put (idx := 222) (ci := 7) (ff := 23) (n := 26) (hh := 856) (by decide +kernel),
  fun d σ S l1 l2 l3 l4 k => ex_aload_n (show decode mX7_findFewest.2.1 204 = .ok (.aload_n 0, 1) by decide +kernel) rfl,
  fun d σ S l0 l1 l2 l3 x => ex_iload (show decode mX7_findFewest.2.1 205 = .ok (.iload 4, 2) by decide +kernel) rfl⟩
theorem kX7_findFewest_3 : (∀ (d : Nat) (σ : Sg) (S : List Value) (l0 l1 l2 l3 l4 : Value) (x : Int32), exec d mX7_findFewest 207 [l0, l1, l2, l3, l4] (.int x :: S) σ = if x = nI 0 then exec d mX7_findFewest 219 [l0, l1, l2, l3, l4] S σ else exec d mX7_findFewest 210 [l0, l1, l2, l3, l4] S σ) ∧
  (∀ (d : Nat) (σ : Sg) (S : List Value) (l1 l2 l3 l4 : Value) (k : Nat), exec d mX7_findFewest 210 [.ref k, l1, l2, l3, l4] S σ = exec d mX7_findFewest 211 [.ref k, l1, l2, l3, l4] (.ref k :: S) σ) ∧
  (∀ (d : Nat) (σ : Sg) (S : List Value) (l0 l1 l2 l3 l4 : Value), exec d mX7_findFewest 211 [l0, l1, l2, l3, l4] (.ref 50 :: S) σ = exec d mX7_findFewest 214 [l0, l1, l2, l3, l4] (.ref 64 :: S) σ) ∧
  (∀ (d : Nat) (σ : Sg) (S : List Value) (l0 l1 l3 l4 : Value) (x : Int32), exec d mX7_findFewest 214 [l0, l1, .int x, l3, l4] S σ = exec d mX7_findFewest 215 [l0, l1, .int x, l3, l4] (.int x :: S) σ) ∧
  (∀ (d : Nat) (σ : Sg) (S : List Value) (l0 l1 l2 l3 l4 : Value) (x : Int32), exec d mX7_findFewest 215 [l0, l1, l2, l3, l4] (.int x :: .ref 64 :: S) σ = if inb x 8 = true then exec d mX7_findFewest 216 [l0, l1, l2, l3, l4] (.int (σ 64 x.toNatClampNeg) :: S) σ else none) ∧
  (∀ (d : Nat) (σ : Sg) (S : List Value) (l0 l1 l2 l3 l4 : Value), exec d mX7_findFewest 216 [l0, l1, l2, l3, l4] S σ = exec d mX7_findFewest 223 [l0, l1, l2, l3, l4] S σ) ∧
  (∀ (d : Nat) (σ : Sg) (S : List Value) (l1 l2 l3 l4 : Value) (k : Nat), exec d mX7_findFewest 219 [.ref k, l1, l2, l3, l4] S σ = exec d mX7_findFewest 220 [.ref k, l1, l2, l3, l4] (.ref k :: S) σ) ∧
  (∀ (d : Nat) (σ : Sg) (S : List Value) (l0 l1 l2 l3 l4 : Value), exec d mX7_findFewest 220 [l0, l1, l2, l3, l4] (.ref 50 :: S) σ = exec d mX7_findFewest 223 [l0, l1, l2, l3, l4] (.int (σ 50 22) :: S) σ) ∧
  (∀ (d : Nat) (σ : Sg) (S : List Value) (l0 l1 l2 l3 l4 : Value) (x : Int32), exec d mX7_findFewest 223 [l0, l1, l2, l3, l4] (.int x :: .ref 50 :: S) σ = exec d mX7_findFewest 226 [l0, l1, l2, l3, l4] S (up σ 50 22 x)) ∧
  (∀ (d : Nat) (σ : Sg) (S : List Value) (l1 l2 l3 l4 : Value) (k : Nat), exec d mX7_findFewest 226 [.ref k, l1, l2, l3, l4] S σ = exec d mX7_findFewest 227 [.ref k, l1, l2, l3, l4] (.ref k :: S) σ) ∧
  (∀ (d : Nat) (σ : Sg) (S : List Value) (l0 l1 l3 l4 : Value) (x : Int32), exec d mX7_findFewest 227 [l0, l1, .int x, l3, l4] S σ = exec d mX7_findFewest 228 [l0, l1, .int x, l3, l4] (.int x :: S) σ) ∧
  (∀ (d : Nat) (σ : Sg) (S : List Value) (l1 l2 l3 l4 : Value) (k : Nat), exec d mX7_findFewest 228 [.ref k, l1, l2, l3, l4] S σ = exec d mX7_findFewest 229 [.ref k, l1, l2, l3, l4] (.ref k :: S) σ) ∧
  (∀ (d : Nat) (σ : Sg) (S : List Value) (l0 l1 l2 l3 l4 : Value), exec d mX7_findFewest 229 [l0, l1, l2, l3, l4] (.ref 50 :: S) σ = exec d mX7_findFewest 232 [l0, l1, l2, l3, l4] (.ref 60 :: S) σ) ∧
  (∀ (d : Nat) (σ : Sg) (S : List Value) (l0 l1 l3 l4 : Value) (x : Int32), exec d mX7_findFewest 232 [l0, l1, .int x, l3, l4] S σ = exec d mX7_findFewest 233 [l0, l1, .int x, l3, l4] (.int x :: S) σ) ∧
  (∀ (d : Nat) (σ : Sg) (S : List Value) (l0 l1 l2 l3 l4 : Value) (x : Int32), exec d mX7_findFewest 233 [l0, l1, l2, l3, l4] (.int x :: .ref 60 :: S) σ = if inb x 8 = true then exec d mX7_findFewest 234 [l0, l1, l2, l3, l4] (.int (σ 60 x.toNatClampNeg) :: S) σ else none) ∧
  (∀ (d : Nat) (σ : Sg) (S : List Value) (l0 l1 l2 l4 : Value) (x : Int32), exec d mX7_findFewest 234 [l0, l1, l2, .int x, l4] S σ = exec d mX7_findFewest 235 [l0, l1, l2, .int x, l4] (.int x :: S) σ) ∧
  (∀ (d : Nat) (σ : Sg) (l0 l1 l2 l3 l4 : Value) (x0 x1 x2 : Int32), exec d mX7_findFewest 235 [l0, l1, l2, l3, l4] [.int x0, .int x1, .int x2, .ref 50] σ = kb (cal d mX7_nextPart [.ref 50, .int x2, .int x1, .int x0] σ) (fun rs σ2 => exec d mX7_findFewest 238 [l0, l1, l2, l3, l4] (rs ++ []) σ2)) ∧
  (∀ (d : Nat) (σ : Sg) (S : List Value) (l0 l1 l2 l4 : Value) (x y : Int32), exec d mX7_findFewest 238 [l0, l1, l2, .int y, l4] (.int x :: S) σ = exec d mX7_findFewest 240 [l0, l1, l2, .int y, .int x] S σ) ∧
  (∀ (d : Nat) (σ : Sg) (S : List Value) (l0 l1 l2 l3 : Value) (x : Int32), exec d mX7_findFewest 240 [l0, l1, l2, l3, .int x] S σ = exec d mX7_findFewest 242 [l0, l1, l2, l3, .int x] (.int x :: S) σ) ∧
  (∀ (d : Nat) (σ : Sg) (S : List Value) (l0 l1 l2 l3 l4 : Value), exec d mX7_findFewest 242 [l0, l1, l2, l3, l4] S σ = exec d mX7_findFewest 244 [l0, l1, l2, l3, l4] (.int (nI 7) :: S) σ) ∧
  (∀ (d : Nat) (σ : Sg) (S : List Value) (l0 l1 l2 l3 l4 : Value) (x y : Int32), exec d mX7_findFewest 244 [l0, l1, l2, l3, l4] (.int y :: .int x :: S) σ = if y ≤ x then exec d mX7_findFewest 282 [l0, l1, l2, l3, l4] S σ else exec d mX7_findFewest 247 [l0, l1, l2, l3, l4] S σ) ∧
  (∀ (d : Nat) (σ : Sg) (S : List Value) (l1 l2 l3 l4 : Value) (k : Nat), exec d mX7_findFewest 247 [.ref k, l1, l2, l3, l4] S σ = exec d mX7_findFewest 248 [.ref k, l1, l2, l3, l4] (.ref k :: S) σ) ∧
  (∀ (d : Nat) (σ : Sg) (S : List Value) (l0 l1 l3 l4 : Value) (x : Int32), exec d mX7_findFewest 248 [l0, l1, .int x, l3, l4] S σ = exec d mX7_findFewest 249 [l0, l1, .int x, l3, l4] (.int x :: S) σ) ∧
  (∀ (d : Nat) (σ : Sg) (S : List Value) (l0 l1 l2 l3 : Value) (x : Int32), exec d mX7_findFewest 249 [l0, l1, l2, l3, .int x] S σ = exec d mX7_findFewest 251 [l0, l1, l2, l3, .int x] (.int x :: S) σ) ∧
  (∀ (d : Nat) (σ : Sg) (l0 l1 l2 l3 l4 : Value) (x0 x1 : Int32), exec d mX7_findFewest 251 [l0, l1, l2, l3, l4] [.int x0, .int x1, .ref 50] σ = kb (cal d mX7_goesDeeper [.ref 50, .int x1, .int x0] σ) (fun rs σ2 => exec d mX7_findFewest 254 [l0, l1, l2, l3, l4] (rs ++ []) σ2)) ∧
  (∀ (d : Nat) (σ : Sg) (S : List Value) (l1 l2 l3 l4 : Value) (k : Nat), exec d mX7_findFewest 254 [.ref k, l1, l2, l3, l4] S σ = exec d mX7_findFewest 255 [.ref k, l1, l2, l3, l4] (.ref k :: S) σ) ∧
  (∀ (d : Nat) (σ : Sg) (S : List Value) (l0 l1 l2 l3 l4 : Value), exec d mX7_findFewest 255 [l0, l1, l2, l3, l4] (.ref 50 :: S) σ = exec d mX7_findFewest 258 [l0, l1, l2, l3, l4] (.ref 60 :: S) σ) ∧
  (∀ (d : Nat) (σ : Sg) (S : List Value) (l0 l1 l3 l4 : Value) (x : Int32), exec d mX7_findFewest 258 [l0, l1, .int x, l3, l4] S σ = exec d mX7_findFewest 259 [l0, l1, .int x, l3, l4] (.int x :: S) σ) ∧
  (∀ (d : Nat) (σ : Sg) (S : List Value) (l0 l1 l2 l3 : Value) (x : Int32), exec d mX7_findFewest 259 [l0, l1, l2, l3, .int x] S σ = exec d mX7_findFewest 261 [l0, l1, l2, l3, .int x] (.int x :: S) σ) ∧
  (∀ (d : Nat) (σ : Sg) (S : List Value) (l0 l1 l2 l3 l4 : Value) (x y : Int32), exec d mX7_findFewest 261 [l0, l1, l2, l3, l4] (.int y :: .int x :: .ref 60 :: S) σ = if inb x 8 = true then exec d mX7_findFewest 262 [l0, l1, l2, l3, l4] S (up σ 60 x.toNatClampNeg y) else none) ∧
  (∀ (d : Nat) (σ : Sg) (S : List Value) (l0 l1 l2 l4 : Value) (x : Int32), exec d mX7_findFewest 262 [l0, l1, l2, .int x, l4] S σ = exec d mX7_findFewest 263 [l0, l1, l2, .int x, l4] (.int x :: S) σ) ∧
  (∀ (d : Nat) (σ : Sg) (S : List Value) (l0 l1 l2 l3 l4 : Value), exec d mX7_findFewest 263 [l0, l1, l2, l3, l4] S σ = exec d mX7_findFewest 264 [l0, l1, l2, l3, l4] (.int (nI 1) :: S) σ) ∧
  (∀ (d : Nat) (σ : Sg) (S : List Value) (l0 l1 l2 l3 : Value) (x : Int32), exec d mX7_findFewest 264 [l0, l1, l2, l3, .int x] S σ = exec d mX7_findFewest 266 [l0, l1, l2, l3, .int x] (.int x :: S) σ) ∧
  (∀ (d : Nat) (σ : Sg) (S : List Value) (l0 l1 l2 l3 l4 : Value) (x y : Int32), exec d mX7_findFewest 266 [l0, l1, l2, l3, l4] (.int y :: .int x :: S) σ = exec d mX7_findFewest 267 [l0, l1, l2, l3, l4] (.int (x <<< (y &&& 31)) :: S) σ) ∧
  (∀ (d : Nat) (σ : Sg) (S : List Value) (l0 l1 l2 l3 l4 : Value) (x y : Int32), exec d mX7_findFewest 267 [l0, l1, l2, l3, l4] (.int y :: .int x :: S) σ = exec d mX7_findFewest 268 [l0, l1, l2, l3, l4] (.int (x ||| y) :: S) σ) ∧
  (∀ (d : Nat) (σ : Sg) (S : List Value) (l0 l1 l3 l4 : Value) (x y : Int32), exec d mX7_findFewest 268 [l0, l1, .int y, l3, l4] (.int x :: S) σ = exec d mX7_findFewest 269 [l0, l1, .int y, .int x, l4] S σ) ∧
  (∀ (d : Nat) (σ : Sg) (S : List Value) (l0 l3 l4 : Value) (x y : Int32), exec d mX7_findFewest 269 [l0, .int y, .int x, l3, l4] S σ = exec d mX7_findFewest 272 [l0, .int y, .int (x + nI 1), l3, l4] S σ) ∧
  (∀ (d : Nat) (σ : Sg) (S : List Value) (l1 l2 l3 l4 : Value) (k : Nat), exec d mX7_findFewest 272 [.ref k, l1, l2, l3, l4] S σ = exec d mX7_findFewest 273 [.ref k, l1, l2, l3, l4] (.ref k :: S) σ) ∧
  (∀ (d : Nat) (σ : Sg) (S : List Value) (l0 l1 l2 l3 l4 : Value), exec d mX7_findFewest 273 [l0, l1, l2, l3, l4] (.ref 50 :: S) σ = exec d mX7_findFewest 276 [l0, l1, l2, l3, l4] (.ref 60 :: S) σ) ∧
  (∀ (d : Nat) (σ : Sg) (S : List Value) (l0 l1 l3 l4 : Value) (x : Int32), exec d mX7_findFewest 276 [l0, l1, .int x, l3, l4] S σ = exec d mX7_findFewest 277 [l0, l1, .int x, l3, l4] (.int x :: S) σ) :=
  ⟨fun d σ S l0 l1 l2 l3 l4 x => ex_zeq (show decode mX7_findFewest.2.1 207 = .ok (.ifCond .eq 12, 3) by decide +kernel) (by decide),
  fun d σ S l1 l2 l3 l4 k => ex_aload_n (show decode mX7_findFewest.2.1 210 = .ok (.aload_n 0, 1) by decide +kernel) rfl,
  fun d σ S l0 l1 l2 l3 l4 => ex_getr (idx := 50) (ci := 7) (ff := 21) (n := 26) (hh := 854) (by decide +kernel),
  fun d σ S l0 l1 l3 l4 x => ex_iload_n (show decode mX7_findFewest.2.1 214 = .ok (.iload_n 2, 1) by decide +kernel) rfl,
  fun d σ S l0 l1 l2 l3 l4 x => ex_iald (by decide +kernel),
  fun d σ S l0 l1 l2 l3 l4 => ex_goto (show decode mX7_findFewest.2.1 216 = .ok (.goto 7, 3) by decide +kernel) (by decide),
  fun d σ S l1 l2 l3 l4 k => ex_aload_n (show decode mX7_findFewest.2.1 219 = .ok (.aload_n 0, 1) by decide +kernel) rfl,
  fun d σ S l0 l1 l2 l3 l4 => ex_get (idx := 219) (ci := 7) (ff := 22) (n := 26) (hh := 855) (by decide +kernel),
  fun d σ S l0 l1 l2 l3 l4 x => ex_put (idx := 219) (ci := 7) (ff := 22) (n := 26) (hh := 855) (by decide +kernel),
  fun d σ S l1 l2 l3 l4 k => ex_aload_n (show decode mX7_findFewest.2.1 226 = .ok (.aload_n 0, 1) by decide +kernel) rfl,
  fun d σ S l0 l1 l3 l4 x => ex_iload_n (show decode mX7_findFewest.2.1 227 = .ok (.iload_n 2, 1) by decide +kernel) rfl,
  fun d σ S l1 l2 l3 l4 k => ex_aload_n (show decode mX7_findFewest.2.1 228 = .ok (.aload_n 0, 1) by decide +kernel) rfl,
  fun d σ S l0 l1 l2 l3 l4 => ex_getr (idx := 38) (ci := 7) (ff := 17) (n := 26) (hh := 850) (by decide +kernel),
  fun d σ S l0 l1 l3 l4 x => ex_iload_n (show decode mX7_findFewest.2.1 232 = .ok (.iload_n 2, 1) by decide +kernel) rfl,
  fun d σ S l0 l1 l2 l3 l4 x => ex_iald (by decide +kernel),
  fun d σ S l0 l1 l2 l4 x => ex_iload_n (show decode mX7_findFewest.2.1 234 = .ok (.iload_n 3, 1) by decide +kernel) rfl,
  fun d σ l0 l1 l2 l3 l4 x0 x1 x2 => ex_iv (hs := [1133, 1135, 82, 1136, 101]) (show decode mX7_findFewest.2.1 235 = .ok (.invokevirtual 228, 3) by decide +kernel) lkV_7_228 ⟨rfl, Nat.le_of_ble_eq_true rfl, Nat.le_of_ble_eq_true rfl, fun _ => rfl⟩ rfl rfl,
  fun d σ S l0 l1 l2 l4 x y => ex_istore (show decode mX7_findFewest.2.1 238 = .ok (.istore 4, 2) by decide +kernel) (Nat.le_of_ble_eq_true rfl) rfl,
  fun d σ S l0 l1 l2 l3 x => ex_iload (show decode mX7_findFewest.2.1 240 = .ok (.iload 4, 2) by decide +kernel) rfl,
  fun d σ S l0 l1 l2 l3 l4 => ex_bipush (show decode mX7_findFewest.2.1 242 = .ok (.bipush 7, 2) by decide +kernel) (by decide +kernel),
  fun d σ S l0 l1 l2 l3 l4 x y => ex_cge (show decode mX7_findFewest.2.1 244 = .ok (.if_icmp .ge 38, 3) by decide +kernel) (by decide),
  fun d σ S l1 l2 l3 l4 k => ex_aload_n (show decode mX7_findFewest.2.1 247 = .ok (.aload_n 0, 1) by decide +kernel) rfl,
  fun d σ S l0 l1 l3 l4 x => ex_iload_n (show decode mX7_findFewest.2.1 248 = .ok (.iload_n 2, 1) by decide +kernel) rfl,
  fun d σ S l0 l1 l2 l3 x => ex_iload (show decode mX7_findFewest.2.1 249 = .ok (.iload 4, 2) by decide +kernel) rfl,
  fun d σ l0 l1 l2 l3 l4 x0 x1 => ex_iv (hs := [1137, 1139, 83, 1140, 101]) (show decode mX7_findFewest.2.1 251 = .ok (.invokevirtual 232, 3) by decide +kernel) lkV_7_232 ⟨rfl, Nat.le_of_ble_eq_true rfl, Nat.le_of_ble_eq_true rfl, fun _ => rfl⟩ rfl rfl,
  fun d σ S l1 l2 l3 l4 k => ex_aload_n (show decode mX7_findFewest.2.1 254 = .ok (.aload_n 0, 1) by decide +kernel) rfl,
  fun d σ S l0 l1 l2 l3 l4 => ex_getr (idx := 38) (ci := 7) (ff := 17) (n := 26) (hh := 850) (by decide +kernel),
  fun d σ S l0 l1 l3 l4 x => ex_iload_n (show decode mX7_findFewest.2.1 258 = .ok (.iload_n 2, 1) by decide +kernel) rfl,
  fun d σ S l0 l1 l2 l3 x => ex_iload (show decode mX7_findFewest.2.1 259 = .ok (.iload 4, 2) by decide +kernel) rfl,
  fun d σ S l0 l1 l2 l3 l4 x y => ex_iast (by decide +kernel),
  fun d σ S l0 l1 l2 l4 x => ex_iload_n (show decode mX7_findFewest.2.1 262 = .ok (.iload_n 3, 1) by decide +kernel) rfl,
  fun d σ S l0 l1 l2 l3 l4 => ex_iconst (show decode mX7_findFewest.2.1 263 = .ok (.iconst 1, 1) by decide +kernel) (by decide +kernel),
  fun d σ S l0 l1 l2 l3 x => ex_iload (show decode mX7_findFewest.2.1 264 = .ok (.iload 4, 2) by decide +kernel) rfl,
  fun d σ S l0 l1 l2 l3 l4 x y => ex_ishl (show decode mX7_findFewest.2.1 266 = .ok (.ishl, 1) by decide +kernel),
  fun d σ S l0 l1 l2 l3 l4 x y => ex_ior (show decode mX7_findFewest.2.1 267 = .ok (.ior, 1) by decide +kernel),
  fun d σ S l0 l1 l3 l4 x y => ex_istore_n (show decode mX7_findFewest.2.1 268 = .ok (.istore_n 3, 1) by decide +kernel) (Nat.le_of_ble_eq_true rfl) rfl,
  fun d σ S l0 l3 l4 x y => ex_iinc (show decode mX7_findFewest.2.1 269 = .ok (.iinc 2 1, 3) by decide +kernel) rfl (by decide +kernel) (Nat.le_of_ble_eq_true rfl) rfl,
  fun d σ S l1 l2 l3 l4 k => ex_aload_n (show decode mX7_findFewest.2.1 272 = .ok (.aload_n 0, 1) by decide +kernel) rfl,
  fun d σ S l0 l1 l2 l3 l4 => ex_getr (idx := 38) (ci := 7) (ff := 17) (n := 26) (hh := 850) (by decide +kernel),
  fun d σ S l0 l1 l3 l4 x => ex_iload_n (show decode mX7_findFewest.2.1 276 = .ok (.iload_n 2, 1) by decide +kernel) rfl⟩
theorem kX7_findFewest_4 : (∀ (d : Nat) (σ : Sg) (S : List Value) (l0 l1 l2 l3 l4 : Value), exec d mX7_findFewest 277 [l0, l1, l2, l3, l4] S σ = exec d mX7_findFewest 278 [l0, l1, l2, l3, l4] (.int ((-1)) :: S) σ) ∧
  (∀ (d : Nat) (σ : Sg) (S : List Value) (l0 l1 l2 l3 l4 : Value) (x y : Int32), exec d mX7_findFewest 278 [l0, l1, l2, l3, l4] (.int y :: .int x :: .ref 60 :: S) σ = if inb x 8 = true then exec d mX7_findFewest 279 [l0, l1, l2, l3, l4] S (up σ 60 x.toNatClampNeg y) else none) ∧
  (∀ (d : Nat) (σ : Sg) (S : List Value) (l0 l1 l2 l3 l4 : Value), exec d mX7_findFewest 279 [l0, l1, l2, l3, l4] S σ = exec d mX7_findFewest 306 [l0, l1, l2, l3, l4] S σ) ∧
  (∀ (d : Nat) (σ : Sg) (S : List Value) (l0 l3 l4 : Value) (x y : Int32), exec d mX7_findFewest 282 [l0, .int y, .int x, l3, l4] S σ = exec d mX7_findFewest 285 [l0, .int y, .int (x + (-1)), l3, l4] S σ) ∧
  (∀ (d : Nat) (σ : Sg) (S : List Value) (l0 l1 l2 l4 : Value) (x : Int32), exec d mX7_findFewest 285 [l0, l1, l2, .int x, l4] S σ = exec d mX7_findFewest 286 [l0, l1, l2, .int x, l4] (.int x :: S) σ) ∧
  (∀ (d : Nat) (σ : Sg) (S : List Value) (l0 l1 l3 l4 : Value) (x : Int32), exec d mX7_findFewest 286 [l0, l1, .int x, l3, l4] S σ = exec d mX7_findFewest 287 [l0, l1, .int x, l3, l4] (.int x :: S) σ) ∧
  (∀ (d : Nat) (σ : Sg) (S : List Value) (l0 l1 l2 l3 l4 : Value) (x : Int32), exec d mX7_findFewest 287 [l0, l1, l2, l3, l4] (.int x :: S) σ = if nI 0 ≤ x then exec d mX7_findFewest 294 [l0, l1, l2, l3, l4] S σ else exec d mX7_findFewest 290 [l0, l1, l2, l3, l4] S σ) ∧
  (∀ (d : Nat) (σ : Sg) (S : List Value) (l0 l1 l2 l4 : Value) (x : Int32), exec d mX7_findFewest 290 [l0, l1, l2, .int x, l4] S σ = exec d mX7_findFewest 291 [l0, l1, l2, .int x, l4] (.int x :: S) σ) ∧
  (∀ (d : Nat) (σ : Sg) (S : List Value) (l0 l1 l2 l3 l4 : Value), exec d mX7_findFewest 291 [l0, l1, l2, l3, l4] S σ = exec d mX7_findFewest 304 [l0, l1, l2, l3, l4] S σ) ∧
  (∀ (d : Nat) (σ : Sg) (S : List Value) (l0 l1 l2 l3 l4 : Value), exec d mX7_findFewest 294 [l0, l1, l2, l3, l4] S σ = exec d mX7_findFewest 295 [l0, l1, l2, l3, l4] (.int (nI 1) :: S) σ) ∧
  (∀ (d : Nat) (σ : Sg) (S : List Value) (l1 l2 l3 l4 : Value) (k : Nat), exec d mX7_findFewest 295 [.ref k, l1, l2, l3, l4] S σ = exec d mX7_findFewest 296 [.ref k, l1, l2, l3, l4] (.ref k :: S) σ) ∧
  (∀ (d : Nat) (σ : Sg) (S : List Value) (l0 l1 l2 l3 l4 : Value), exec d mX7_findFewest 296 [l0, l1, l2, l3, l4] (.ref 50 :: S) σ = exec d mX7_findFewest 299 [l0, l1, l2, l3, l4] (.ref 60 :: S) σ) ∧
  (∀ (d : Nat) (σ : Sg) (S : List Value) (l0 l1 l3 l4 : Value) (x : Int32), exec d mX7_findFewest 299 [l0, l1, .int x, l3, l4] S σ = exec d mX7_findFewest 300 [l0, l1, .int x, l3, l4] (.int x :: S) σ) ∧
  (∀ (d : Nat) (σ : Sg) (S : List Value) (l0 l1 l2 l3 l4 : Value) (x : Int32), exec d mX7_findFewest 300 [l0, l1, l2, l3, l4] (.int x :: .ref 60 :: S) σ = if inb x 8 = true then exec d mX7_findFewest 301 [l0, l1, l2, l3, l4] (.int (σ 60 x.toNatClampNeg) :: S) σ else none) ∧
  (∀ (d : Nat) (σ : Sg) (S : List Value) (l0 l1 l2 l3 l4 : Value) (x y : Int32), exec d mX7_findFewest 301 [l0, l1, l2, l3, l4] (.int y :: .int x :: S) σ = exec d mX7_findFewest 302 [l0, l1, l2, l3, l4] (.int (x <<< (y &&& 31)) :: S) σ) ∧
  (∀ (d : Nat) (σ : Sg) (S : List Value) (l0 l1 l2 l3 l4 : Value), exec d mX7_findFewest 302 [l0, l1, l2, l3, l4] S σ = exec d mX7_findFewest 303 [l0, l1, l2, l3, l4] (.int ((-1)) :: S) σ) ∧
  (∀ (d : Nat) (σ : Sg) (S : List Value) (l0 l1 l2 l3 l4 : Value) (x y : Int32), exec d mX7_findFewest 303 [l0, l1, l2, l3, l4] (.int y :: .int x :: S) σ = exec d mX7_findFewest 304 [l0, l1, l2, l3, l4] (.int (x ^^^ y) :: S) σ) ∧
  (∀ (d : Nat) (σ : Sg) (S : List Value) (l0 l1 l2 l3 l4 : Value) (x y : Int32), exec d mX7_findFewest 304 [l0, l1, l2, l3, l4] (.int y :: .int x :: S) σ = exec d mX7_findFewest 305 [l0, l1, l2, l3, l4] (.int (x &&& y) :: S) σ) ∧
  (∀ (d : Nat) (σ : Sg) (S : List Value) (l0 l1 l3 l4 : Value) (x y : Int32), exec d mX7_findFewest 305 [l0, l1, .int y, l3, l4] (.int x :: S) σ = exec d mX7_findFewest 306 [l0, l1, .int y, .int x, l4] S σ) ∧
  (∀ (d : Nat) (σ : Sg) (S : List Value) (l0 l1 l2 l3 l4 : Value), exec d mX7_findFewest 306 [l0, l1, l2, l3, l4] S σ = exec d mX7_findFewest 86 [l0, l1, l2, l3, l4] S σ) ∧
  (∀ (d : Nat) (σ : Sg) (l0 l1 l2 l3 l4 : Value), exec d mX7_findFewest 309 [l0, l1, l2, l3, l4] [] σ = some (none, σ)) :=
  ⟨fun d σ S l0 l1 l2 l3 l4 => ex_iconst (show decode mX7_findFewest.2.1 277 = .ok (.iconst (-1), 1) by decide +kernel) (by decide +kernel),
  fun d σ S l0 l1 l2 l3 l4 x y => ex_iast (by decide +kernel),
  fun d σ S l0 l1 l2 l3 l4 => ex_goto (show decode mX7_findFewest.2.1 279 = .ok (.goto 27, 3) by decide +kernel) (by decide),
  fun d σ S l0 l3 l4 x y => ex_iinc (show decode mX7_findFewest.2.1 282 = .ok (.iinc 2 (-1), 3) by decide +kernel) rfl (by decide +kernel) (Nat.le_of_ble_eq_true rfl) rfl,
  fun d σ S l0 l1 l2 l4 x => ex_iload_n (show decode mX7_findFewest.2.1 285 = .ok (.iload_n 3, 1) by decide +kernel) rfl,
  fun d σ S l0 l1 l3 l4 x => ex_iload_n (show decode mX7_findFewest.2.1 286 = .ok (.iload_n 2, 1) by decide +kernel) rfl,
  fun d σ S l0 l1 l2 l3 l4 x => ex_zge (show decode mX7_findFewest.2.1 287 = .ok (.ifCond .ge 7, 3) by decide +kernel) (by decide),
  fun d σ S l0 l1 l2 l4 x => ex_iload_n (show decode mX7_findFewest.2.1 290 = .ok (.iload_n 3, 1) by decide +kernel) rfl,
  fun d σ S l0 l1 l2 l3 l4 => ex_goto (show decode mX7_findFewest.2.1 291 = .ok (.goto 13, 3) by decide +kernel) (by decide),
  fun d σ S l0 l1 l2 l3 l4 => ex_iconst (show decode mX7_findFewest.2.1 294 = .ok (.iconst 1, 1) by decide +kernel) (by decide +kernel),
  fun d σ S l1 l2 l3 l4 k => ex_aload_n (show decode mX7_findFewest.2.1 295 = .ok (.aload_n 0, 1) by decide +kernel) rfl,
  fun d σ S l0 l1 l2 l3 l4 => ex_getr (idx := 38) (ci := 7) (ff := 17) (n := 26) (hh := 850) (by decide +kernel),
  fun d σ S l0 l1 l3 l4 x => ex_iload_n (show decode mX7_findFewest.2.1 299 = .ok (.iload_n 2, 1) by decide +kernel) rfl,
  fun d σ S l0 l1 l2 l3 l4 x => ex_iald (by decide +kernel),
  fun d σ S l0 l1 l2 l3 l4 x y => ex_ishl (show decode mX7_findFewest.2.1 301 = .ok (.ishl, 1) by decide +kernel),
  fun d σ S l0 l1 l2 l3 l4 => ex_iconst (show decode mX7_findFewest.2.1 302 = .ok (.iconst (-1), 1) by decide +kernel) (by decide +kernel),
  fun d σ S l0 l1 l2 l3 l4 x y => ex_ixor (show decode mX7_findFewest.2.1 303 = .ok (.ixor, 1) by decide +kernel),
  fun d σ S l0 l1 l2 l3 l4 x y => ex_iand (show decode mX7_findFewest.2.1 304 = .ok (.iand, 1) by decide +kernel),
  fun d σ S l0 l1 l3 l4 x y => ex_istore_n (show decode mX7_findFewest.2.1 305 = .ok (.istore_n 3, 1) by decide +kernel) (Nat.le_of_ble_eq_true rfl) rfl,
  fun d σ S l0 l1 l2 l3 l4 => ex_goto (show decode mX7_findFewest.2.1 306 = .ok (.goto (-220), 3) by decide +kernel) (by decide),
  fun d σ l0 l1 l2 l3 l4 => ex_vret (show decode mX7_findFewest.2.1 309 = .ok (.return_, 1) by decide +kernel) rfl⟩
theorem hX7_findFewest_86 : ∀ (d : Nat) (σ : Sg) (S : List Value) (l0 l1 l3 l4 : Value) (x : Int32), exec d mX7_findFewest 86 [l0, l1, .int x, l3, l4] S σ = exec d mX7_findFewest 87 [l0, l1, .int x, l3, l4] (.int x :: S) σ := fun d σ S l0 l1 l3 l4 x => ex_iload_n (show decode mX7_findFewest.2.1 86 = .ok (.iload_n 2, 1) by decide +kernel) rfl
theorem aX7_findFewest_50 : ∀ (d : Nat) (a1 : Int32) (σ : Sg), cal (d + 1) mX7_findFewest [.ref 50, .int a1] σ = exec d mX7_findFewest 0 [.ref 50, .int a1, uu, uu, uu] [] σ := fun _ _ _ => rfl
theorem kX7_fewest : (∀ (d : Nat) (σ : Sg) (S : List Value) (l1 : Value) (k : Nat), exec d mX7_fewest 0 [.ref k, l1] S σ = exec d mX7_fewest 1 [.ref k, l1] (.ref k :: S) σ) ∧
  (∀ (d : Nat) (σ : Sg) (l0 l1 : Value), exec d mX7_fewest 1 [l0, l1] [.ref 50] σ = kb (cal d mX7_isTrial [.ref 50] σ) (fun rs σ2 => exec d mX7_fewest 4 [l0, l1] (rs ++ []) σ2)) ∧
  (∀ (d : Nat) (σ : Sg) (S : List Value) (l0 l1 : Value) (x : Int32), exec d mX7_fewest 4 [l0, l1] (.int x :: S) σ = if x = nI 0 then exec d mX7_fewest 7 [l0, l1] S σ else exec d mX7_fewest 10 [l0, l1] S σ) ∧
  (∀ (d : Nat) (σ : Sg) (S : List Value) (l0 l1 : Value), exec d mX7_fewest 7 [l0, l1] S σ = exec d mX7_fewest 9 [l0, l1] (.int ((-1000002)) :: S) σ) ∧
  (∀ (d : Nat) (σ : Sg) (l0 l1 : Value) (x : Int32), exec d mX7_fewest 9 [l0, l1] [.int x] σ = some (some (.int x), σ)) ∧
  (∀ (d : Nat) (σ : Sg) (S : List Value) (l0 : Value) (x : Int32), exec d mX7_fewest 10 [l0, .int x] S σ = exec d mX7_fewest 11 [l0, .int x] (.int x :: S) σ) ∧
  (∀ (d : Nat) (σ : Sg) (S : List Value) (l0 l1 : Value) (x : Int32), exec d mX7_fewest 11 [l0, l1] (.int x :: S) σ = exec d mX7_fewest 12 [l0, l1] (.long x.toInt64 :: S) σ) ∧
  (∀ (d : Nat) (σ : Sg) (S : List Value) (l0 l1 : Value), exec d mX7_fewest 12 [l0, l1] S σ = exec d mX7_fewest 13 [l0, l1] (.long (lN 0) :: S) σ) ∧
  (∀ (d : Nat) (σ : Sg) (S : List Value) (l0 l1 : Value), exec d mX7_fewest 13 [l0, l1] S σ = exec d mX7_fewest 16 [l0, l1] (.long (lN 2) :: S) σ) ∧
  (∀ (d : Nat) (σ : Sg) (l0 l1 : Value) (x0 x1 x2 : Int64), exec d mX7_fewest 16 [l0, l1] [.long x0, .long x1, .long x2] σ = kb (cal d mX7_in [.long x2, .long x1, .long x0] σ) (fun rs σ2 => exec d mX7_fewest 19 [l0, l1] (rs ++ []) σ2)) ∧
  (∀ (d : Nat) (σ : Sg) (S : List Value) (l0 l1 : Value) (x : Int32), exec d mX7_fewest 19 [l0, l1] (.int x :: S) σ = if x = nI 0 then exec d mX7_fewest 22 [l0, l1] S σ else exec d mX7_fewest 25 [l0, l1] S σ) ∧
  (∀ (d : Nat) (σ : Sg) (S : List Value) (l0 l1 : Value), exec d mX7_fewest 22 [l0, l1] S σ = exec d mX7_fewest 24 [l0, l1] (.int ((-1000001)) :: S) σ) ∧
  (∀ (d : Nat) (σ : Sg) (l0 l1 : Value) (x : Int32), exec d mX7_fewest 24 [l0, l1] [.int x] σ = some (some (.int x), σ)) ∧
  (∀ (d : Nat) (σ : Sg) (S : List Value) (l1 : Value) (k : Nat), exec d mX7_fewest 25 [.ref k, l1] S σ = exec d mX7_fewest 26 [.ref k, l1] (.ref k :: S) σ) ∧
  (∀ (d : Nat) (σ : Sg) (S : List Value) (l0 l1 : Value), exec d mX7_fewest 26 [l0, l1] S σ = exec d mX7_fewest 27 [l0, l1] (.int (nI 0) :: S) σ) ∧
  (∀ (d : Nat) (σ : Sg) (l0 l1 : Value) (x0 : Int32), exec d mX7_fewest 27 [l0, l1] [.int x0, .ref 50] σ = kb (cal d mX7_findFewest [.ref 50, .int x0] σ) (fun rs σ2 => exec d mX7_fewest 30 [l0, l1] (rs ++ []) σ2)) ∧
  (∀ (d : Nat) (σ : Sg) (S : List Value) (l1 : Value) (k : Nat), exec d mX7_fewest 30 [.ref k, l1] S σ = exec d mX7_fewest 31 [.ref k, l1] (.ref k :: S) σ) ∧
  (∀ (d : Nat) (σ : Sg) (S : List Value) (l0 l1 : Value), exec d mX7_fewest 31 [l0, l1] (.ref 50 :: S) σ = exec d mX7_fewest 34 [l0, l1] (.int (σ 50 22) :: S) σ) ∧
  (∀ (d : Nat) (σ : Sg) (S : List Value) (l0 l1 : Value), exec d mX7_fewest 34 [l0, l1] S σ = exec d mX7_fewest 36 [l0, l1] (.int (nI 1000000) :: S) σ) ∧
  (∀ (d : Nat) (σ : Sg) (S : List Value) (l0 l1 : Value) (x y : Int32), exec d mX7_fewest 36 [l0, l1] (.int y :: .int x :: S) σ = if x = y then exec d mX7_fewest 39 [l0, l1] S σ else exec d mX7_fewest 44 [l0, l1] S σ) ∧
  (∀ (d : Nat) (σ : Sg) (S : List Value) (l0 l1 : Value), exec d mX7_fewest 39 [l0, l1] S σ = exec d mX7_fewest 41 [l0, l1] (.int ((-1000000)) :: S) σ) ∧
  (∀ (d : Nat) (σ : Sg) (S : List Value) (l0 l1 : Value), exec d mX7_fewest 41 [l0, l1] S σ = exec d mX7_fewest 71 [l0, l1] S σ) ∧
  (∀ (d : Nat) (σ : Sg) (S : List Value) (l0 : Value) (x : Int32), exec d mX7_fewest 44 [l0, .int x] S σ = exec d mX7_fewest 45 [l0, .int x] (.int x :: S) σ) ∧
  (∀ (d : Nat) (σ : Sg) (S : List Value) (l0 l1 : Value) (x : Int32), exec d mX7_fewest 45 [l0, l1] (.int x :: S) σ = if x = nI 0 then exec d mX7_fewest 48 [l0, l1] S σ else exec d mX7_fewest 55 [l0, l1] S σ) ∧
  (∀ (d : Nat) (σ : Sg) (S : List Value) (l1 : Value) (k : Nat), exec d mX7_fewest 48 [.ref k, l1] S σ = exec d mX7_fewest 49 [.ref k, l1] (.ref k :: S) σ) ∧
  (∀ (d : Nat) (σ : Sg) (S : List Value) (l0 l1 : Value), exec d mX7_fewest 49 [l0, l1] (.ref 50 :: S) σ = exec d mX7_fewest 52 [l0, l1] (.int (σ 50 22) :: S) σ) ∧
  (∀ (d : Nat) (σ : Sg) (S : List Value) (l0 l1 : Value), exec d mX7_fewest 52 [l0, l1] S σ = exec d mX7_fewest 71 [l0, l1] S σ) ∧
  (∀ (d : Nat) (σ : Sg) (S : List Value) (l0 : Value) (x : Int32), exec d mX7_fewest 55 [l0, .int x] S σ = exec d mX7_fewest 56 [l0, .int x] (.int x :: S) σ) ∧
  (∀ (d : Nat) (σ : Sg) (S : List Value) (l0 l1 : Value), exec d mX7_fewest 56 [l0, l1] S σ = exec d mX7_fewest 57 [l0, l1] (.int (nI 1) :: S) σ) ∧
  (∀ (d : Nat) (σ : Sg) (S : List Value) (l0 l1 : Value) (x y : Int32), exec d mX7_fewest 57 [l0, l1] (.int y :: .int x :: S) σ = if x = y then exec d mX7_fewest 60 [l0, l1] S σ else exec d mX7_fewest 67 [l0, l1] S σ) ∧
  (∀ (d : Nat) (σ : Sg) (S : List Value) (l1 : Value) (k : Nat), exec d mX7_fewest 60 [.ref k, l1] S σ = exec d mX7_fewest 61 [.ref k, l1] (.ref k :: S) σ) ∧
  (∀ (d : Nat) (σ : Sg) (S : List Value) (l0 l1 : Value), exec d mX7_fewest 61 [l0, l1] (.ref 50 :: S) σ = exec d mX7_fewest 64 [l0, l1] (.int (σ 50 23) :: S) σ) ∧
  (∀ (d : Nat) (σ : Sg) (S : List Value) (l0 l1 : Value), exec d mX7_fewest 64 [l0, l1] S σ = exec d mX7_fewest 71 [l0, l1] S σ) ∧
  (∀ (d : Nat) (σ : Sg) (S : List Value) (l1 : Value) (k : Nat), exec d mX7_fewest 67 [.ref k, l1] S σ = exec d mX7_fewest 68 [.ref k, l1] (.ref k :: S) σ) ∧
  (∀ (d : Nat) (σ : Sg) (S : List Value) (l0 l1 : Value), exec d mX7_fewest 68 [l0, l1] (.ref 50 :: S) σ = exec d mX7_fewest 71 [l0, l1] (.int (σ 50 24) :: S) σ) ∧
  (∀ (d : Nat) (σ : Sg) (l0 l1 : Value) (x : Int32), exec d mX7_fewest 71 [l0, l1] [.int x] σ = some (some (.int x), σ)) :=
  ⟨fun d σ S l1 k => ex_aload_n (show decode mX7_fewest.2.1 0 = .ok (.aload_n 0, 1) by decide +kernel) rfl,
  fun d σ l0 l1 => ex_iv (hs := [1074, 1076, 74, 1077, 101]) (show decode mX7_fewest.2.1 1 = .ok (.invokevirtual 188, 3) by decide +kernel) lkV_7_188 ⟨rfl, Nat.le_of_ble_eq_true rfl, Nat.le_of_ble_eq_true rfl, fun _ => rfl⟩ rfl rfl,
  fun d σ S l0 l1 x => ex_zne (show decode mX7_fewest.2.1 4 = .ok (.ifCond .ne 6, 3) by decide +kernel) (by decide),
  fun d σ S l0 l1 => ex_ldc (hh := 1009) (show decode mX7_fewest.2.1 7 = .ok (.ldc 171, 2) by decide +kernel) (by decide +kernel),
  fun d σ l0 l1 x => ex_iret (show decode mX7_fewest.2.1 9 = .ok (.ireturn, 1) by decide +kernel) rfl,
  fun d σ S l0 x => ex_iload_n (show decode mX7_fewest.2.1 10 = .ok (.iload_n 1, 1) by decide +kernel) rfl,
  fun d σ S l0 l1 x => ex_i2l (show decode mX7_fewest.2.1 11 = .ok (.i2l, 1) by decide +kernel),
  fun d σ S l0 l1 => ex_lconst (show decode mX7_fewest.2.1 12 = .ok (.lconst 0, 1) by decide +kernel) (by decide +kernel),
  fun d σ S l0 l1 => ex_ldc2 (hh := 923) (show decode mX7_fewest.2.1 13 = .ok (.ldc2_w 71, 3) by decide +kernel) (by decide +kernel),
  fun d σ l0 l1 x0 x1 x2 => ex_is (hs := [920, 921, 922, 101]) (show decode mX7_fewest.2.1 16 = .ok (.invokestatic 63, 3) by decide +kernel) lkS_7_63 ⟨rfl, Nat.le_of_ble_eq_true rfl, Nat.le_of_ble_eq_true rfl, fun q => nomatch q⟩ rfl rfl,
  fun d σ S l0 l1 x => ex_zne (show decode mX7_fewest.2.1 19 = .ok (.ifCond .ne 6, 3) by decide +kernel) (by decide),
  fun d σ S l0 l1 => ex_ldc (hh := 924) (show decode mX7_fewest.2.1 22 = .ok (.ldc 73, 2) by decide +kernel) (by decide +kernel),
  fun d σ l0 l1 x => ex_iret (show decode mX7_fewest.2.1 24 = .ok (.ireturn, 1) by decide +kernel) rfl,
  fun d σ S l1 k => ex_aload_n (show decode mX7_fewest.2.1 25 = .ok (.aload_n 0, 1) by decide +kernel) rfl,
  fun d σ S l0 l1 => ex_iconst (show decode mX7_fewest.2.1 26 = .ok (.iconst 0, 1) by decide +kernel) (by decide +kernel),
  fun d σ l0 l1 x0 => ex_iv (hs := [1128, 1130, 81, 1131, 101]) (show decode mX7_fewest.2.1 27 = .ok (.invokevirtual 235, 3) by decide +kernel) lkV_7_235 ⟨rfl, Nat.le_of_ble_eq_true rfl, Nat.le_of_ble_eq_true rfl, fun _ => rfl⟩ rfl rfl,
  fun d σ S l1 k => ex_aload_n (show decode mX7_fewest.2.1 30 = .ok (.aload_n 0, 1) by decide +kernel) rfl,
  fun d σ S l0 l1 => ex_get (idx := 219) (ci := 7) (ff := 22) (n := 26) (hh := 855) (by decide +kernel),
  fun d σ S l0 l1 => ex_ldc (hh := 1132) (show decode mX7_fewest.2.1 34 = .ok (.ldc 218, 2) by decide +kernel) (by decide +kernel),
  fun d σ S l0 l1 x y => ex_cne (show decode mX7_fewest.2.1 36 = .ok (.if_icmp .ne 8, 3) by decide +kernel) (by decide),
  fun d σ S l0 l1 => ex_ldc (hh := 1087) (show decode mX7_fewest.2.1 39 = .ok (.ldc 205, 2) by decide +kernel) (by decide +kernel),
  fun d σ S l0 l1 => ex_goto (show decode mX7_fewest.2.1 41 = .ok (.goto 30, 3) by decide +kernel) (by decide),
  fun d σ S l0 x => ex_iload_n (show decode mX7_fewest.2.1 44 = .ok (.iload_n 1, 1) by decide +kernel) rfl,
  fun d σ S l0 l1 x => ex_zne (show decode mX7_fewest.2.1 45 = .ok (.ifCond .ne 10, 3) by decide +kernel) (by decide),
  fun d σ S l1 k => ex_aload_n (show decode mX7_fewest.2.1 48 = .ok (.aload_n 0, 1) by decide +kernel) rfl,
  fun d σ S l0 l1 => ex_get (idx := 219) (ci := 7) (ff := 22) (n := 26) (hh := 855) (by decide +kernel),
  fun d σ S l0 l1 => ex_goto (show decode mX7_fewest.2.1 52 = .ok (.goto 19, 3) by decide +kernel) (by decide),
  fun d σ S l0 x => ex_iload_n (show decode mX7_fewest.2.1 55 = .ok (.iload_n 1, 1) by decide +kernel) rfl,
  fun d σ S l0 l1 => ex_iconst (show decode mX7_fewest.2.1 56 = .ok (.iconst 1, 1) by decide +kernel) (by decide +kernel),
  fun d σ S l0 l1 x y => ex_cne (show decode mX7_fewest.2.1 57 = .ok (.if_icmp .ne 10, 3) by decide +kernel) (by decide),
  fun d σ S l1 k => ex_aload_n (show decode mX7_fewest.2.1 60 = .ok (.aload_n 0, 1) by decide +kernel) rfl,
  fun d σ S l0 l1 => ex_get (idx := 222) (ci := 7) (ff := 23) (n := 26) (hh := 856) (by decide +kernel),
  fun d σ S l0 l1 => ex_goto (show decode mX7_fewest.2.1 64 = .ok (.goto 7, 3) by decide +kernel) (by decide),
  fun d σ S l1 k => ex_aload_n (show decode mX7_fewest.2.1 67 = .ok (.aload_n 0, 1) by decide +kernel) rfl,
  fun d σ S l0 l1 => ex_get (idx := 225) (ci := 7) (ff := 24) (n := 26) (hh := 857) (by decide +kernel),
  fun d σ l0 l1 x => ex_iret (show decode mX7_fewest.2.1 71 = .ok (.ireturn, 1) by decide +kernel) rfl⟩
theorem aX7_fewest_50 : ∀ (d : Nat) (a1 : Int32) (σ : Sg), cal (d + 1) mX7_fewest [.ref 50, .int a1] σ = exec d mX7_fewest 0 [.ref 50, .int a1] [] σ := fun _ _ _ => rfl
theorem kX7_can_0 : (∀ (d : Nat) (σ : Sg) (S : List Value) (l1 l2 l3 l4 l5 l6 l7 l8 : Value) (k : Nat), exec d mX7_can 0 [.ref k, l1, l2, l3, l4, l5, l6, l7, l8] S σ = exec d mX7_can 1 [.ref k, l1, l2, l3, l4, l5, l6, l7, l8] (.ref k :: S) σ) ∧
  (∀ (d : Nat) (σ : Sg) (l0 l1 l2 l3 l4 l5 l6 l7 l8 : Value), exec d mX7_can 1 [l0, l1, l2, l3, l4, l5, l6, l7, l8] [.ref 50] σ = kb (cal d mX7_isTrial [.ref 50] σ) (fun rs σ2 => exec d mX7_can 4 [l0, l1, l2, l3, l4, l5, l6, l7, l8] (rs ++ []) σ2)) ∧
  (∀ (d : Nat) (σ : Sg) (S : List Value) (l0 l1 l2 l3 l4 l5 l6 l7 l8 : Value) (x : Int32), exec d mX7_can 4 [l0, l1, l2, l3, l4, l5, l6, l7, l8] (.int x :: S) σ = if x = nI 0 then exec d mX7_can 7 [l0, l1, l2, l3, l4, l5, l6, l7, l8] S σ else exec d mX7_can 10 [l0, l1, l2, l3, l4, l5, l6, l7, l8] S σ) ∧
  (∀ (d : Nat) (σ : Sg) (S : List Value) (l0 l1 l2 l3 l4 l5 l6 l7 l8 : Value), exec d mX7_can 7 [l0, l1, l2, l3, l4, l5, l6, l7, l8] S σ = exec d mX7_can 9 [l0, l1, l2, l3, l4, l5, l6, l7, l8] (.int ((-1000002)) :: S) σ) ∧
  (∀ (d : Nat) (σ : Sg) (l0 l1 l2 l3 l4 l5 l6 l7 l8 : Value) (x : Int32), exec d mX7_can 9 [l0, l1, l2, l3, l4, l5, l6, l7, l8] [.int x] σ = some (some (.int x), σ)) ∧
  (∀ (d : Nat) (σ : Sg) (S : List Value) (l0 l1 l2 l3 l4 l5 l6 l7 l8 : Value), exec d mX7_can 10 [l0, l1, l2, l3, l4, l5, l6, l7, l8] S σ = exec d mX7_can 11 [l0, l1, l2, l3, l4, l5, l6, l7, l8] (.int (nI 1) :: S) σ) ∧
  (∀ (d : Nat) (σ : Sg) (S : List Value) (l1 l2 l3 l4 l5 l6 l7 l8 : Value) (k : Nat), exec d mX7_can 11 [.ref k, l1, l2, l3, l4, l5, l6, l7, l8] S σ = exec d mX7_can 12 [.ref k, l1, l2, l3, l4, l5, l6, l7, l8] (.ref k :: S) σ) ∧
  (∀ (d : Nat) (σ : Sg) (S : List Value) (l0 l1 l2 l3 l4 l5 l6 l7 l8 : Value), exec d mX7_can 12 [l0, l1, l2, l3, l4, l5, l6, l7, l8] (.ref 50 :: S) σ = exec d mX7_can 15 [l0, l1, l2, l3, l4, l5, l6, l7, l8] (.ref 51 :: S) σ) ∧
  (∀ (d : Nat) (σ : Sg) (S : List Value) (l0 l1 l2 l3 l4 l5 l6 l7 l8 : Value), exec d mX7_can 15 [l0, l1, l2, l3, l4, l5, l6, l7, l8] S σ = exec d mX7_can 17 [l0, l1, l2, l3, l4, l5, l6, l7, l8] (.int (nI 7) :: S) σ) ∧
  (∀ (d : Nat) (σ : Sg) (S : List Value) (l0 l1 l2 l3 l4 l5 l6 l7 l8 : Value) (x : Int32), exec d mX7_can 17 [l0, l1, l2, l3, l4, l5, l6, l7, l8] (.int x :: .ref 51 :: S) σ = if inb x 208 = true then exec d mX7_can 18 [l0, l1, l2, l3, l4, l5, l6, l7, l8] (.int (σ 51 x.toNatClampNeg) :: S) σ else none) ∧
  (∀ (d : Nat) (σ : Sg) (S : List Value) (l0 l1 l2 l3 l4 l5 l6 l7 l8 : Value) (x y : Int32), exec d mX7_can 18 [l0, l1, l2, l3, l4, l5, l6, l7, l8] (.int y :: .int x :: S) σ = exec d mX7_can 19 [l0, l1, l2, l3, l4, l5, l6, l7, l8] (.int (x <<< (y &&& 31)) :: S) σ) ∧
  (∀ (d : Nat) (σ : Sg) (S : List Value) (l1 l2 l3 l4 l5 l6 l7 l8 : Value) (k : Nat) (x : Int32), exec d mX7_can 19 [.ref k, l1, l2, l3, l4, l5, l6, l7, l8] (.int x :: S) σ = exec d mX7_can 20 [.ref k, .int x, l2, l3, l4, l5, l6, l7, l8] S σ) ∧
  (∀ (d : Nat) (σ : Sg) (S : List Value) (l0 l1 l2 l3 l4 l5 l6 l7 l8 : Value), exec d mX7_can 20 [l0, l1, l2, l3, l4, l5, l6, l7, l8] S σ = exec d mX7_can 21 [l0, l1, l2, l3, l4, l5, l6, l7, l8] (.int (nI 0) :: S) σ) ∧
  (∀ (d : Nat) (σ : Sg) (S : List Value) (l0 l2 l3 l4 l5 l6 l7 l8 : Value) (x y : Int32), exec d mX7_can 21 [l0, .int y, l2, l3, l4, l5, l6, l7, l8] (.int x :: S) σ = exec d mX7_can 22 [l0, .int y, .int x, l3, l4, l5, l6, l7, l8] S σ) ∧
  (∀ (d : Nat) (σ : Sg) (S : List Value) (l0 l2 l3 l4 l5 l6 l7 l8 : Value) (x : Int32), exec d mX7_can 23 [l0, .int x, l2, l3, l4, l5, l6, l7, l8] S σ = exec d mX7_can 24 [l0, .int x, l2, l3, l4, l5, l6, l7, l8] (.int x :: S) σ) ∧
  (∀ (d : Nat) (σ : Sg) (S : List Value) (l0 l1 l2 l3 l4 l5 l6 l7 l8 : Value) (x y : Int32), exec d mX7_can 24 [l0, l1, l2, l3, l4, l5, l6, l7, l8] (.int y :: .int x :: S) σ = if y ≤ x then exec d mX7_can 40 [l0, l1, l2, l3, l4, l5, l6, l7, l8] S σ else exec d mX7_can 27 [l0, l1, l2, l3, l4, l5, l6, l7, l8] S σ) ∧
  (∀ (d : Nat) (σ : Sg) (S : List Value) (l1 l2 l3 l4 l5 l6 l7 l8 : Value) (k : Nat), exec d mX7_can 27 [.ref k, l1, l2, l3, l4, l5, l6, l7, l8] S σ = exec d mX7_can 28 [.ref k, l1, l2, l3, l4, l5, l6, l7, l8] (.ref k :: S) σ) ∧
  (∀ (d : Nat) (σ : Sg) (S : List Value) (l0 l1 l2 l3 l4 l5 l6 l7 l8 : Value), exec d mX7_can 28 [l0, l1, l2, l3, l4, l5, l6, l7, l8] (.ref 50 :: S) σ = exec d mX7_can 31 [l0, l1, l2, l3, l4, l5, l6, l7, l8] (.ref 65 :: S) σ) ∧
  (∀ (d : Nat) (σ : Sg) (S : List Value) (l0 l1 l3 l4 l5 l6 l7 l8 : Value) (x : Int32), exec d mX7_can 31 [l0, l1, .int x, l3, l4, l5, l6, l7, l8] S σ = exec d mX7_can 32 [l0, l1, .int x, l3, l4, l5, l6, l7, l8] (.int x :: S) σ) ∧
  (∀ (d : Nat) (σ : Sg) (S : List Value) (l0 l1 l2 l3 l4 l5 l6 l7 l8 : Value), exec d mX7_can 32 [l0, l1, l2, l3, l4, l5, l6, l7, l8] S σ = exec d mX7_can 33 [l0, l1, l2, l3, l4, l5, l6, l7, l8] (.int ((-1)) :: S) σ) ∧
  (∀ (d : Nat) (σ : Sg) (S : List Value) (l0 l1 l2 l3 l4 l5 l6 l7 l8 : Value) (x y : Int32), exec d mX7_can 33 [l0, l1, l2, l3, l4, l5, l6, l7, l8] (.int y :: .int x :: .ref 65 :: S) σ = if inb x 128 = true then exec d mX7_can 34 [l0, l1, l2, l3, l4, l5, l6, l7, l8] S (up σ 65 x.toNatClampNeg y) else none) ∧
  (∀ (d : Nat) (σ : Sg) (S : List Value) (l0 l3 l4 l5 l6 l7 l8 : Value) (x y : Int32), exec d mX7_can 34 [l0, .int y, .int x, l3, l4, l5, l6, l7, l8] S σ = exec d mX7_can 37 [l0, .int y, .int (x + nI 1), l3, l4, l5, l6, l7, l8] S σ) ∧
  (∀ (d : Nat) (σ : Sg) (S : List Value) (l0 l1 l2 l3 l4 l5 l6 l7 l8 : Value), exec d mX7_can 37 [l0, l1, l2, l3, l4, l5, l6, l7, l8] S σ = exec d mX7_can 22 [l0, l1, l2, l3, l4, l5, l6, l7, l8] S σ) ∧
  (∀ (d : Nat) (σ : Sg) (S : List Value) (l1 l2 l3 l4 l5 l6 l7 l8 : Value) (k : Nat), exec d mX7_can 40 [.ref k, l1, l2, l3, l4, l5, l6, l7, l8] S σ = exec d mX7_can 41 [.ref k, l1, l2, l3, l4, l5, l6, l7, l8] (.ref k :: S) σ) ∧
  (∀ (d : Nat) (σ : Sg) (S : List Value) (l0 l1 l2 l3 l4 l5 l6 l7 l8 : Value), exec d mX7_can 41 [l0, l1, l2, l3, l4, l5, l6, l7, l8] (.ref 50 :: S) σ = exec d mX7_can 44 [l0, l1, l2, l3, l4, l5, l6, l7, l8] (.ref 65 :: S) σ) ∧
  (∀ (d : Nat) (σ : Sg) (S : List Value) (l1 l2 l3 l4 l5 l6 l7 l8 : Value) (k : Nat), exec d mX7_can 44 [.ref k, l1, l2, l3, l4, l5, l6, l7, l8] S σ = exec d mX7_can 45 [.ref k, l1, l2, l3, l4, l5, l6, l7, l8] (.ref k :: S) σ) ∧
  (∀ (d : Nat) (σ : Sg) (S : List Value) (l0 l1 l2 l3 l4 l5 l6 l7 l8 : Value), exec d mX7_can 45 [l0, l1, l2, l3, l4, l5, l6, l7, l8] (.ref 50 :: S) σ = exec d mX7_can 48 [l0, l1, l2, l3, l4, l5, l6, l7, l8] (.ref 51 :: S) σ) ∧
  (∀ (d : Nat) (σ : Sg) (S : List Value) (l0 l1 l2 l3 l4 l5 l6 l7 l8 : Value), exec d mX7_can 48 [l0, l1, l2, l3, l4, l5, l6, l7, l8] S σ = exec d mX7_can 49 [l0, l1, l2, l3, l4, l5, l6, l7, l8] (.int (nI 3) :: S) σ) ∧
  (∀ (d : Nat) (σ : Sg) (S : List Value) (l0 l1 l2 l3 l4 l5 l6 l7 l8 : Value) (x : Int32), exec d mX7_can 49 [l0, l1, l2, l3, l4, l5, l6, l7, l8] (.int x :: .ref 51 :: S) σ = if inb x 208 = true then exec d mX7_can 50 [l0, l1, l2, l3, l4, l5, l6, l7, l8] (.int (σ 51 x.toNatClampNeg) :: S) σ else none) ∧
  (∀ (d : Nat) (σ : Sg) (S : List Value) (l1 l2 l3 l4 l5 l6 l7 l8 : Value) (k : Nat), exec d mX7_can 50 [.ref k, l1, l2, l3, l4, l5, l6, l7, l8] S σ = exec d mX7_can 51 [.ref k, l1, l2, l3, l4, l5, l6, l7, l8] (.ref k :: S) σ) ∧
  (∀ (d : Nat) (σ : Sg) (S : List Value) (l0 l1 l2 l3 l4 l5 l6 l7 l8 : Value), exec d mX7_can 51 [l0, l1, l2, l3, l4, l5, l6, l7, l8] (.ref 50 :: S) σ = exec d mX7_can 54 [l0, l1, l2, l3, l4, l5, l6, l7, l8] (.ref 51 :: S) σ) ∧
  (∀ (d : Nat) (σ : Sg) (S : List Value) (l0 l1 l2 l3 l4 l5 l6 l7 l8 : Value), exec d mX7_can 54 [l0, l1, l2, l3, l4, l5, l6, l7, l8] S σ = exec d mX7_can 55 [l0, l1, l2, l3, l4, l5, l6, l7, l8] (.int (nI 1) :: S) σ) ∧
  (∀ (d : Nat) (σ : Sg) (S : List Value) (l0 l1 l2 l3 l4 l5 l6 l7 l8 : Value) (x : Int32), exec d mX7_can 55 [l0, l1, l2, l3, l4, l5, l6, l7, l8] (.int x :: .ref 51 :: S) σ = if inb x 208 = true then exec d mX7_can 56 [l0, l1, l2, l3, l4, l5, l6, l7, l8] (.int (σ 51 x.toNatClampNeg) :: S) σ else none) ∧
  (∀ (d : Nat) (σ : Sg) (S : List Value) (l0 l1 l2 l3 l4 l5 l6 l7 l8 : Value) (x y : Int32), exec d mX7_can 56 [l0, l1, l2, l3, l4, l5, l6, l7, l8] (.int y :: .int x :: .ref 65 :: S) σ = if inb x 128 = true then exec d mX7_can 57 [l0, l1, l2, l3, l4, l5, l6, l7, l8] S (up σ 65 x.toNatClampNeg y) else none) ∧
  (∀ (d : Nat) (σ : Sg) (S : List Value) (l0 l1 l2 l3 l4 l5 l6 l7 l8 : Value), exec d mX7_can 57 [l0, l1, l2, l3, l4, l5, l6, l7, l8] S σ = exec d mX7_can 58 [l0, l1, l2, l3, l4, l5, l6, l7, l8] (.int (nI 0) :: S) σ) ∧
  (∀ (d : Nat) (σ : Sg) (S : List Value) (l0 l2 l3 l4 l5 l6 l7 l8 : Value) (x y : Int32), exec d mX7_can 58 [l0, .int y, l2, l3, l4, l5, l6, l7, l8] (.int x :: S) σ = exec d mX7_can 59 [l0, .int y, .int x, l3, l4, l5, l6, l7, l8] S σ) ∧
  (∀ (d : Nat) (σ : Sg) (S : List Value) (l1 l2 l3 l4 l5 l6 l7 l8 : Value) (k : Nat), exec d mX7_can 59 [.ref k, l1, l2, l3, l4, l5, l6, l7, l8] S σ = exec d mX7_can 60 [.ref k, l1, l2, l3, l4, l5, l6, l7, l8] (.ref k :: S) σ) ∧
  (∀ (d : Nat) (σ : Sg) (S : List Value) (l0 l1 l2 l3 l4 l5 l6 l7 l8 : Value), exec d mX7_can 60 [l0, l1, l2, l3, l4, l5, l6, l7, l8] (.ref 50 :: S) σ = exec d mX7_can 63 [l0, l1, l2, l3, l4, l5, l6, l7, l8] (.ref 51 :: S) σ) ∧
  (∀ (d : Nat) (σ : Sg) (S : List Value) (l0 l1 l2 l3 l4 l5 l6 l7 l8 : Value), exec d mX7_can 63 [l0, l1, l2, l3, l4, l5, l6, l7, l8] S σ = exec d mX7_can 64 [l0, l1, l2, l3, l4, l5, l6, l7, l8] (.int (nI 3) :: S) σ) ∧
  (∀ (d : Nat) (σ : Sg) (S : List Value) (l0 l1 l2 l3 l4 l5 l6 l7 l8 : Value) (x : Int32), exec d mX7_can 64 [l0, l1, l2, l3, l4, l5, l6, l7, l8] (.int x :: .ref 51 :: S) σ = if inb x 208 = true then exec d mX7_can 65 [l0, l1, l2, l3, l4, l5, l6, l7, l8] (.int (σ 51 x.toNatClampNeg) :: S) σ else none) :=
  ⟨fun d σ S l1 l2 l3 l4 l5 l6 l7 l8 k => ex_aload_n (show decode mX7_can.2.1 0 = .ok (.aload_n 0, 1) by decide +kernel) rfl,
  fun d σ l0 l1 l2 l3 l4 l5 l6 l7 l8 => ex_iv (hs := [1074, 1076, 74, 1077, 101]) (show decode mX7_can.2.1 1 = .ok (.invokevirtual 188, 3) by decide +kernel) lkV_7_188 ⟨rfl, Nat.le_of_ble_eq_true rfl, Nat.le_of_ble_eq_true rfl, fun _ => rfl⟩ rfl rfl,
  fun d σ S l0 l1 l2 l3 l4 l5 l6 l7 l8 x => ex_zne (show decode mX7_can.2.1 4 = .ok (.ifCond .ne 6, 3) by decide +kernel) (by decide),
  fun d σ S l0 l1 l2 l3 l4 l5 l6 l7 l8 => ex_ldc (hh := 1009) (show decode mX7_can.2.1 7 = .ok (.ldc 171, 2) by decide +kernel) (by decide +kernel),
  fun d σ l0 l1 l2 l3 l4 l5 l6 l7 l8 x => ex_iret (show decode mX7_can.2.1 9 = .ok (.ireturn, 1) by decide +kernel) rfl,
  fun d σ S l0 l1 l2 l3 l4 l5 l6 l7 l8 => ex_iconst (show decode mX7_can.2.1 10 = .ok (.iconst 1, 1) by decide +kernel) (by decide +kernel),
  fun d σ S l1 l2 l3 l4 l5 l6 l7 l8 k => ex_aload_n (show decode mX7_can.2.1 11 = .ok (.aload_n 0, 1) by decide +kernel) rfl,
  fun d σ S l0 l1 l2 l3 l4 l5 l6 l7 l8 => ex_getr (idx := 7) (ci := 7) (ff := 0) (n := 26) (hh := 833) (by decide +kernel),
  fun d σ S l0 l1 l2 l3 l4 l5 l6 l7 l8 => ex_bipush (show decode mX7_can.2.1 15 = .ok (.bipush 7, 2) by decide +kernel) (by decide +kernel),
  fun d σ S l0 l1 l2 l3 l4 l5 l6 l7 l8 x => ex_iald (by decide +kernel),
  fun d σ S l0 l1 l2 l3 l4 l5 l6 l7 l8 x y => ex_ishl (show decode mX7_can.2.1 18 = .ok (.ishl, 1) by decide +kernel),
  fun d σ S l1 l2 l3 l4 l5 l6 l7 l8 k x => ex_istore_n (show decode mX7_can.2.1 19 = .ok (.istore_n 1, 1) by decide +kernel) (Nat.le_of_ble_eq_true rfl) rfl,
  fun d σ S l0 l1 l2 l3 l4 l5 l6 l7 l8 => ex_iconst (show decode mX7_can.2.1 20 = .ok (.iconst 0, 1) by decide +kernel) (by decide +kernel),
  fun d σ S l0 l2 l3 l4 l5 l6 l7 l8 x y => ex_istore_n (show decode mX7_can.2.1 21 = .ok (.istore_n 2, 1) by decide +kernel) (Nat.le_of_ble_eq_true rfl) rfl,
  fun d σ S l0 l2 l3 l4 l5 l6 l7 l8 x => ex_iload_n (show decode mX7_can.2.1 23 = .ok (.iload_n 1, 1) by decide +kernel) rfl,
  fun d σ S l0 l1 l2 l3 l4 l5 l6 l7 l8 x y => ex_cge (show decode mX7_can.2.1 24 = .ok (.if_icmp .ge 16, 3) by decide +kernel) (by decide),
  fun d σ S l1 l2 l3 l4 l5 l6 l7 l8 k => ex_aload_n (show decode mX7_can.2.1 27 = .ok (.aload_n 0, 1) by decide +kernel) rfl,
  fun d σ S l0 l1 l2 l3 l4 l5 l6 l7 l8 => ex_getr (idx := 53) (ci := 7) (ff := 25) (n := 26) (hh := 858) (by decide +kernel),
  fun d σ S l0 l1 l3 l4 l5 l6 l7 l8 x => ex_iload_n (show decode mX7_can.2.1 31 = .ok (.iload_n 2, 1) by decide +kernel) rfl,
  fun d σ S l0 l1 l2 l3 l4 l5 l6 l7 l8 => ex_iconst (show decode mX7_can.2.1 32 = .ok (.iconst (-1), 1) by decide +kernel) (by decide +kernel),
  fun d σ S l0 l1 l2 l3 l4 l5 l6 l7 l8 x y => ex_iast (by decide +kernel),
  fun d σ S l0 l3 l4 l5 l6 l7 l8 x y => ex_iinc (show decode mX7_can.2.1 34 = .ok (.iinc 2 1, 3) by decide +kernel) rfl (by decide +kernel) (Nat.le_of_ble_eq_true rfl) rfl,
  fun d σ S l0 l1 l2 l3 l4 l5 l6 l7 l8 => ex_goto (show decode mX7_can.2.1 37 = .ok (.goto (-15), 3) by decide +kernel) (by decide),
  fun d σ S l1 l2 l3 l4 l5 l6 l7 l8 k => ex_aload_n (show decode mX7_can.2.1 40 = .ok (.aload_n 0, 1) by decide +kernel) rfl,
  fun d σ S l0 l1 l2 l3 l4 l5 l6 l7 l8 => ex_getr (idx := 53) (ci := 7) (ff := 25) (n := 26) (hh := 858) (by decide +kernel),
  fun d σ S l1 l2 l3 l4 l5 l6 l7 l8 k => ex_aload_n (show decode mX7_can.2.1 44 = .ok (.aload_n 0, 1) by decide +kernel) rfl,
  fun d σ S l0 l1 l2 l3 l4 l5 l6 l7 l8 => ex_getr (idx := 7) (ci := 7) (ff := 0) (n := 26) (hh := 833) (by decide +kernel),
  fun d σ S l0 l1 l2 l3 l4 l5 l6 l7 l8 => ex_iconst (show decode mX7_can.2.1 48 = .ok (.iconst 3, 1) by decide +kernel) (by decide +kernel),
  fun d σ S l0 l1 l2 l3 l4 l5 l6 l7 l8 x => ex_iald (by decide +kernel),
  fun d σ S l1 l2 l3 l4 l5 l6 l7 l8 k => ex_aload_n (show decode mX7_can.2.1 50 = .ok (.aload_n 0, 1) by decide +kernel) rfl,
  fun d σ S l0 l1 l2 l3 l4 l5 l6 l7 l8 => ex_getr (idx := 7) (ci := 7) (ff := 0) (n := 26) (hh := 833) (by decide +kernel),
  fun d σ S l0 l1 l2 l3 l4 l5 l6 l7 l8 => ex_iconst (show decode mX7_can.2.1 54 = .ok (.iconst 1, 1) by decide +kernel) (by decide +kernel),
  fun d σ S l0 l1 l2 l3 l4 l5 l6 l7 l8 x => ex_iald (by decide +kernel),
  fun d σ S l0 l1 l2 l3 l4 l5 l6 l7 l8 x y => ex_iast (by decide +kernel),
  fun d σ S l0 l1 l2 l3 l4 l5 l6 l7 l8 => ex_iconst (show decode mX7_can.2.1 57 = .ok (.iconst 0, 1) by decide +kernel) (by decide +kernel),
  fun d σ S l0 l2 l3 l4 l5 l6 l7 l8 x y => ex_istore_n (show decode mX7_can.2.1 58 = .ok (.istore_n 2, 1) by decide +kernel) (Nat.le_of_ble_eq_true rfl) rfl,
  fun d σ S l1 l2 l3 l4 l5 l6 l7 l8 k => ex_aload_n (show decode mX7_can.2.1 59 = .ok (.aload_n 0, 1) by decide +kernel) rfl,
  fun d σ S l0 l1 l2 l3 l4 l5 l6 l7 l8 => ex_getr (idx := 7) (ci := 7) (ff := 0) (n := 26) (hh := 833) (by decide +kernel),
  fun d σ S l0 l1 l2 l3 l4 l5 l6 l7 l8 => ex_iconst (show decode mX7_can.2.1 63 = .ok (.iconst 3, 1) by decide +kernel) (by decide +kernel),
  fun d σ S l0 l1 l2 l3 l4 l5 l6 l7 l8 x => ex_iald (by decide +kernel)⟩
theorem kX7_can_1 : (∀ (d : Nat) (σ : Sg) (S : List Value) (l0 l1 l3 l4 l5 l6 l7 l8 : Value) (x y : Int32), exec d mX7_can 65 [l0, l1, .int y, l3, l4, l5, l6, l7, l8] (.int x :: S) σ = exec d mX7_can 66 [l0, l1, .int y, .int x, l4, l5, l6, l7, l8] S σ) ∧
  (∀ (d : Nat) (σ : Sg) (S : List Value) (l0 l2 l3 l4 l5 l6 l7 l8 : Value) (x : Int32), exec d mX7_can 67 [l0, .int x, l2, l3, l4, l5, l6, l7, l8] S σ = exec d mX7_can 68 [l0, .int x, l2, l3, l4, l5, l6, l7, l8] (.int x :: S) σ) ∧
  (∀ (d : Nat) (σ : Sg) (S : List Value) (l0 l1 l2 l3 l4 l5 l6 l7 l8 : Value) (x y : Int32), exec d mX7_can 68 [l0, l1, l2, l3, l4, l5, l6, l7, l8] (.int y :: .int x :: S) σ = if y ≤ x then exec d mX7_can 361 [l0, l1, l2, l3, l4, l5, l6, l7, l8] S σ else exec d mX7_can 71 [l0, l1, l2, l3, l4, l5, l6, l7, l8] S σ) ∧
  (∀ (d : Nat) (σ : Sg) (S : List Value) (l1 l2 l3 l4 l5 l6 l7 l8 : Value) (k : Nat), exec d mX7_can 71 [.ref k, l1, l2, l3, l4, l5, l6, l7, l8] S σ = exec d mX7_can 72 [.ref k, l1, l2, l3, l4, l5, l6, l7, l8] (.ref k :: S) σ) ∧
  (∀ (d : Nat) (σ : Sg) (S : List Value) (l0 l1 l2 l3 l4 l5 l6 l7 l8 : Value), exec d mX7_can 72 [l0, l1, l2, l3, l4, l5, l6, l7, l8] (.ref 50 :: S) σ = exec d mX7_can 75 [l0, l1, l2, l3, l4, l5, l6, l7, l8] (.ref 65 :: S) σ) ∧
  (∀ (d : Nat) (σ : Sg) (S : List Value) (l0 l1 l2 l4 l5 l6 l7 l8 : Value) (x : Int32), exec d mX7_can 75 [l0, l1, l2, .int x, l4, l5, l6, l7, l8] S σ = exec d mX7_can 76 [l0, l1, l2, .int x, l4, l5, l6, l7, l8] (.int x :: S) σ) ∧
  (∀ (d : Nat) (σ : Sg) (S : List Value) (l0 l1 l2 l3 l4 l5 l6 l7 l8 : Value) (x : Int32), exec d mX7_can 76 [l0, l1, l2, l3, l4, l5, l6, l7, l8] (.int x :: .ref 65 :: S) σ = if inb x 128 = true then exec d mX7_can 77 [l0, l1, l2, l3, l4, l5, l6, l7, l8] (.int (σ 65 x.toNatClampNeg) :: S) σ else none) ∧
  (∀ (d : Nat) (σ : Sg) (S : List Value) (l0 l1 l2 l3 l4 l5 l6 l7 l8 : Value) (x : Int32), exec d mX7_can 77 [l0, l1, l2, l3, l4, l5, l6, l7, l8] (.int x :: S) σ = if x < nI 0 then exec d mX7_can 355 [l0, l1, l2, l3, l4, l5, l6, l7, l8] S σ else exec d mX7_can 80 [l0, l1, l2, l3, l4, l5, l6, l7, l8] S σ) ∧
  (∀ (d : Nat) (σ : Sg) (S : List Value) (l0 l1 l2 l4 l5 l6 l7 l8 : Value) (x : Int32), exec d mX7_can 80 [l0, l1, l2, .int x, l4, l5, l6, l7, l8] S σ = exec d mX7_can 81 [l0, l1, l2, .int x, l4, l5, l6, l7, l8] (.int x :: S) σ) ∧
  (∀ (d : Nat) (σ : Sg) (S : List Value) (l1 l2 l3 l4 l5 l6 l7 l8 : Value) (k : Nat), exec d mX7_can 81 [.ref k, l1, l2, l3, l4, l5, l6, l7, l8] S σ = exec d mX7_can 82 [.ref k, l1, l2, l3, l4, l5, l6, l7, l8] (.ref k :: S) σ) ∧
  (∀ (d : Nat) (σ : Sg) (S : List Value) (l0 l1 l2 l3 l4 l5 l6 l7 l8 : Value), exec d mX7_can 82 [l0, l1, l2, l3, l4, l5, l6, l7, l8] (.ref 50 :: S) σ = exec d mX7_can 85 [l0, l1, l2, l3, l4, l5, l6, l7, l8] (.ref 51 :: S) σ) ∧
  (∀ (d : Nat) (σ : Sg) (S : List Value) (l0 l1 l2 l3 l4 l5 l6 l7 l8 : Value), exec d mX7_can 85 [l0, l1, l2, l3, l4, l5, l6, l7, l8] S σ = exec d mX7_can 86 [l0, l1, l2, l3, l4, l5, l6, l7, l8] (.int (nI 3) :: S) σ) ∧
  (∀ (d : Nat) (σ : Sg) (S : List Value) (l0 l1 l2 l3 l4 l5 l6 l7 l8 : Value) (x : Int32), exec d mX7_can 86 [l0, l1, l2, l3, l4, l5, l6, l7, l8] (.int x :: .ref 51 :: S) σ = if inb x 208 = true then exec d mX7_can 87 [l0, l1, l2, l3, l4, l5, l6, l7, l8] (.int (σ 51 x.toNatClampNeg) :: S) σ else none) ∧
  (∀ (d : Nat) (σ : Sg) (S : List Value) (l0 l1 l2 l3 l4 l5 l6 l7 l8 : Value) (x y : Int32), exec d mX7_can 87 [l0, l1, l2, l3, l4, l5, l6, l7, l8] (.int y :: .int x :: S) σ = exec d mX7_can 88 [l0, l1, l2, l3, l4, l5, l6, l7, l8] (.int (x &&& y) :: S) σ) ∧
  (∀ (d : Nat) (σ : Sg) (S : List Value) (l1 l2 l3 l4 l5 l6 l7 l8 : Value) (k : Nat), exec d mX7_can 88 [.ref k, l1, l2, l3, l4, l5, l6, l7, l8] S σ = exec d mX7_can 89 [.ref k, l1, l2, l3, l4, l5, l6, l7, l8] (.ref k :: S) σ) ∧
  (∀ (d : Nat) (σ : Sg) (S : List Value) (l0 l1 l2 l3 l4 l5 l6 l7 l8 : Value), exec d mX7_can 89 [l0, l1, l2, l3, l4, l5, l6, l7, l8] (.ref 50 :: S) σ = exec d mX7_can 92 [l0, l1, l2, l3, l4, l5, l6, l7, l8] (.ref 51 :: S) σ) ∧
  (∀ (d : Nat) (σ : Sg) (S : List Value) (l0 l1 l2 l3 l4 l5 l6 l7 l8 : Value), exec d mX7_can 92 [l0, l1, l2, l3, l4, l5, l6, l7, l8] S σ = exec d mX7_can 93 [l0, l1, l2, l3, l4, l5, l6, l7, l8] (.int (nI 3) :: S) σ) ∧
  (∀ (d : Nat) (σ : Sg) (S : List Value) (l0 l1 l2 l3 l4 l5 l6 l7 l8 : Value) (x : Int32), exec d mX7_can 93 [l0, l1, l2, l3, l4, l5, l6, l7, l8] (.int x :: .ref 51 :: S) σ = if inb x 208 = true then exec d mX7_can 94 [l0, l1, l2, l3, l4, l5, l6, l7, l8] (.int (σ 51 x.toNatClampNeg) :: S) σ else none) ∧
  (∀ (d : Nat) (σ : Sg) (S : List Value) (l0 l1 l2 l3 l4 l5 l6 l7 l8 : Value) (x y : Int32), exec d mX7_can 94 [l0, l1, l2, l3, l4, l5, l6, l7, l8] (.int y :: .int x :: S) σ = if x = y then exec d mX7_can 97 [l0, l1, l2, l3, l4, l5, l6, l7, l8] S σ else exec d mX7_can 355 [l0, l1, l2, l3, l4, l5, l6, l7, l8] S σ) ∧
  (∀ (d : Nat) (σ : Sg) (S : List Value) (l1 l2 l3 l4 l5 l6 l7 l8 : Value) (k : Nat), exec d mX7_can 97 [.ref k, l1, l2, l3, l4, l5, l6, l7, l8] S σ = exec d mX7_can 98 [.ref k, l1, l2, l3, l4, l5, l6, l7, l8] (.ref k :: S) σ) ∧
  (∀ (d : Nat) (σ : Sg) (S : List Value) (l0 l1 l2 l3 l4 l5 l6 l7 l8 : Value), exec d mX7_can 98 [l0, l1, l2, l3, l4, l5, l6, l7, l8] (.ref 50 :: S) σ = exec d mX7_can 101 [l0, l1, l2, l3, l4, l5, l6, l7, l8] (.ref 51 :: S) σ) ∧
  (∀ (d : Nat) (σ : Sg) (S : List Value) (l0 l1 l2 l3 l4 l5 l6 l7 l8 : Value), exec d mX7_can 101 [l0, l1, l2, l3, l4, l5, l6, l7, l8] S σ = exec d mX7_can 102 [l0, l1, l2, l3, l4, l5, l6, l7, l8] (.int (nI 0) :: S) σ) ∧
  (∀ (d : Nat) (σ : Sg) (S : List Value) (l0 l1 l2 l3 l4 l5 l6 l7 l8 : Value) (x : Int32), exec d mX7_can 102 [l0, l1, l2, l3, l4, l5, l6, l7, l8] (.int x :: .ref 51 :: S) σ = if inb x 208 = true then exec d mX7_can 103 [l0, l1, l2, l3, l4, l5, l6, l7, l8] (.int (σ 51 x.toNatClampNeg) :: S) σ else none) ∧
  (∀ (d : Nat) (σ : Sg) (S : List Value) (l0 l1 l2 l4 l5 l6 l7 l8 : Value) (x y : Int32), exec d mX7_can 103 [l0, l1, l2, .int y, l4, l5, l6, l7, l8] (.int x :: S) σ = exec d mX7_can 105 [l0, l1, l2, .int y, .int x, l5, l6, l7, l8] S σ) ∧
  (∀ (d : Nat) (σ : Sg) (S : List Value) (l1 l2 l3 l4 l5 l6 l7 l8 : Value) (k : Nat), exec d mX7_can 105 [.ref k, l1, l2, l3, l4, l5, l6, l7, l8] S σ = exec d mX7_can 106 [.ref k, l1, l2, l3, l4, l5, l6, l7, l8] (.ref k :: S) σ) ∧
  (∀ (d : Nat) (σ : Sg) (S : List Value) (l0 l1 l2 l3 l4 l5 l6 l7 l8 : Value), exec d mX7_can 106 [l0, l1, l2, l3, l4, l5, l6, l7, l8] (.ref 50 :: S) σ = exec d mX7_can 109 [l0, l1, l2, l3, l4, l5, l6, l7, l8] (.ref 51 :: S) σ) ∧
  (∀ (d : Nat) (σ : Sg) (S : List Value) (l0 l1 l2 l3 l4 l5 l6 l7 l8 : Value), exec d mX7_can 109 [l0, l1, l2, l3, l4, l5, l6, l7, l8] S σ = exec d mX7_can 110 [l0, l1, l2, l3, l4, l5, l6, l7, l8] (.int (nI 2) :: S) σ) ∧
  (∀ (d : Nat) (σ : Sg) (S : List Value) (l0 l1 l2 l3 l4 l5 l6 l7 l8 : Value) (x : Int32), exec d mX7_can 110 [l0, l1, l2, l3, l4, l5, l6, l7, l8] (.int x :: .ref 51 :: S) σ = if inb x 208 = true then exec d mX7_can 111 [l0, l1, l2, l3, l4, l5, l6, l7, l8] (.int (σ 51 x.toNatClampNeg) :: S) σ else none) ∧
  (∀ (d : Nat) (σ : Sg) (S : List Value) (l0 l1 l2 l3 l5 l6 l7 l8 : Value) (x y : Int32), exec d mX7_can 111 [l0, l1, l2, l3, .int y, l5, l6, l7, l8] (.int x :: S) σ = exec d mX7_can 113 [l0, l1, l2, l3, .int y, .int x, l6, l7, l8] S σ) ∧
  (∀ (d : Nat) (σ : Sg) (S : List Value) (l0 l1 l2 l3 l4 l5 l6 l7 l8 : Value), exec d mX7_can 113 [l0, l1, l2, l3, l4, l5, l6, l7, l8] S σ = exec d mX7_can 114 [l0, l1, l2, l3, l4, l5, l6, l7, l8] (.int (nI 0) :: S) σ) ∧
  (∀ (d : Nat) (σ : Sg) (S : List Value) (l0 l1 l2 l3 l4 l6 l7 l8 : Value) (x y : Int32), exec d mX7_can 114 [l0, l1, l2, l3, l4, .int y, l6, l7, l8] (.int x :: S) σ = exec d mX7_can 116 [l0, l1, l2, l3, l4, .int y, .int x, l7, l8] S σ) ∧
  (∀ (d : Nat) (σ : Sg) (S : List Value) (l1 l2 l3 l4 l5 l6 l7 l8 : Value) (k : Nat), exec d mX7_can 118 [.ref k, l1, l2, l3, l4, l5, l6, l7, l8] S σ = exec d mX7_can 119 [.ref k, l1, l2, l3, l4, l5, l6, l7, l8] (.ref k :: S) σ) ∧
  (∀ (d : Nat) (σ : Sg) (S : List Value) (l0 l1 l2 l3 l4 l5 l6 l7 l8 : Value), exec d mX7_can 119 [l0, l1, l2, l3, l4, l5, l6, l7, l8] (.ref 50 :: S) σ = exec d mX7_can 122 [l0, l1, l2, l3, l4, l5, l6, l7, l8] (.ref 51 :: S) σ) ∧
  (∀ (d : Nat) (σ : Sg) (S : List Value) (l0 l1 l2 l3 l4 l5 l6 l7 l8 : Value), exec d mX7_can 122 [l0, l1, l2, l3, l4, l5, l6, l7, l8] S σ = exec d mX7_can 124 [l0, l1, l2, l3, l4, l5, l6, l7, l8] (.int (nI 7) :: S) σ) ∧
  (∀ (d : Nat) (σ : Sg) (S : List Value) (l0 l1 l2 l3 l4 l5 l6 l7 l8 : Value) (x : Int32), exec d mX7_can 124 [l0, l1, l2, l3, l4, l5, l6, l7, l8] (.int x :: .ref 51 :: S) σ = if inb x 208 = true then exec d mX7_can 125 [l0, l1, l2, l3, l4, l5, l6, l7, l8] (.int (σ 51 x.toNatClampNeg) :: S) σ else none) ∧
  (∀ (d : Nat) (σ : Sg) (S : List Value) (l0 l1 l2 l3 l4 l5 l6 l7 l8 : Value) (x y : Int32), exec d mX7_can 125 [l0, l1, l2, l3, l4, l5, l6, l7, l8] (.int y :: .int x :: S) σ = if y ≤ x then exec d mX7_can 233 [l0, l1, l2, l3, l4, l5, l6, l7, l8] S σ else exec d mX7_can 128 [l0, l1, l2, l3, l4, l5, l6, l7, l8] S σ) ∧
  (∀ (d : Nat) (σ : Sg) (S : List Value) (l0 l1 l2 l4 l5 l6 l7 l8 : Value) (x : Int32), exec d mX7_can 128 [l0, l1, l2, .int x, l4, l5, l6, l7, l8] S σ = exec d mX7_can 129 [l0, l1, l2, .int x, l4, l5, l6, l7, l8] (.int x :: S) σ) ∧
  (∀ (d : Nat) (σ : Sg) (S : List Value) (l0 l1 l2 l3 l4 l5 l7 l8 : Value) (x : Int32), exec d mX7_can 129 [l0, l1, l2, l3, l4, l5, .int x, l7, l8] S σ = exec d mX7_can 131 [l0, l1, l2, l3, l4, l5, .int x, l7, l8] (.int x :: S) σ) ∧
  (∀ (d : Nat) (σ : Sg) (l0 l1 l2 l3 l4 l5 l6 l7 l8 : Value) (x0 x1 : Int32), exec d mX7_can 131 [l0, l1, l2, l3, l4, l5, l6, l7, l8] [.int x0, .int x1] σ = kb (cal d mX7_has [.int x1, .int x0] σ) (fun rs σ2 => exec d mX7_can 134 [l0, l1, l2, l3, l4, l5, l6, l7, l8] (rs ++ []) σ2)) ∧
  (∀ (d : Nat) (σ : Sg) (S : List Value) (l0 l1 l2 l3 l4 l5 l6 l7 l8 : Value) (x : Int32), exec d mX7_can 134 [l0, l1, l2, l3, l4, l5, l6, l7, l8] (.int x :: S) σ = if x = nI 0 then exec d mX7_can 155 [l0, l1, l2, l3, l4, l5, l6, l7, l8] S σ else exec d mX7_can 137 [l0, l1, l2, l3, l4, l5, l6, l7, l8] S σ) :=
  ⟨fun d σ S l0 l1 l3 l4 l5 l6 l7 l8 x y => ex_istore_n (show decode mX7_can.2.1 65 = .ok (.istore_n 3, 1) by decide +kernel) (Nat.le_of_ble_eq_true rfl) rfl,
  fun d σ S l0 l2 l3 l4 l5 l6 l7 l8 x => ex_iload_n (show decode mX7_can.2.1 67 = .ok (.iload_n 1, 1) by decide +kernel) rfl,
  fun d σ S l0 l1 l2 l3 l4 l5 l6 l7 l8 x y => ex_cge (show decode mX7_can.2.1 68 = .ok (.if_icmp .ge 293, 3) by decide +kernel) (by decide),
  fun d σ S l1 l2 l3 l4 l5 l6 l7 l8 k => ex_aload_n (show decode mX7_can.2.1 71 = .ok (.aload_n 0, 1) by decide +kernel) rfl,
  fun d σ S l0 l1 l2 l3 l4 l5 l6 l7 l8 => ex_getr (idx := 53) (ci := 7) (ff := 25) (n := 26) (hh := 858) (by decide +kernel),
  fun d σ S l0 l1 l2 l4 l5 l6 l7 l8 x => ex_iload_n (show decode mX7_can.2.1 75 = .ok (.iload_n 3, 1) by decide +kernel) rfl,
  fun d σ S l0 l1 l2 l3 l4 l5 l6 l7 l8 x => ex_iald (by decide +kernel),
  fun d σ S l0 l1 l2 l3 l4 l5 l6 l7 l8 x => ex_zlt (show decode mX7_can.2.1 77 = .ok (.ifCond .lt 278, 3) by decide +kernel) (by decide),
  fun d σ S l0 l1 l2 l4 l5 l6 l7 l8 x => ex_iload_n (show decode mX7_can.2.1 80 = .ok (.iload_n 3, 1) by decide +kernel) rfl,
  fun d σ S l1 l2 l3 l4 l5 l6 l7 l8 k => ex_aload_n (show decode mX7_can.2.1 81 = .ok (.aload_n 0, 1) by decide +kernel) rfl,
  fun d σ S l0 l1 l2 l3 l4 l5 l6 l7 l8 => ex_getr (idx := 7) (ci := 7) (ff := 0) (n := 26) (hh := 833) (by decide +kernel),
  fun d σ S l0 l1 l2 l3 l4 l5 l6 l7 l8 => ex_iconst (show decode mX7_can.2.1 85 = .ok (.iconst 3, 1) by decide +kernel) (by decide +kernel),
  fun d σ S l0 l1 l2 l3 l4 l5 l6 l7 l8 x => ex_iald (by decide +kernel),
  fun d σ S l0 l1 l2 l3 l4 l5 l6 l7 l8 x y => ex_iand (show decode mX7_can.2.1 87 = .ok (.iand, 1) by decide +kernel),
  fun d σ S l1 l2 l3 l4 l5 l6 l7 l8 k => ex_aload_n (show decode mX7_can.2.1 88 = .ok (.aload_n 0, 1) by decide +kernel) rfl,
  fun d σ S l0 l1 l2 l3 l4 l5 l6 l7 l8 => ex_getr (idx := 7) (ci := 7) (ff := 0) (n := 26) (hh := 833) (by decide +kernel),
  fun d σ S l0 l1 l2 l3 l4 l5 l6 l7 l8 => ex_iconst (show decode mX7_can.2.1 92 = .ok (.iconst 3, 1) by decide +kernel) (by decide +kernel),
  fun d σ S l0 l1 l2 l3 l4 l5 l6 l7 l8 x => ex_iald (by decide +kernel),
  fun d σ S l0 l1 l2 l3 l4 l5 l6 l7 l8 x y => ex_cne (show decode mX7_can.2.1 94 = .ok (.if_icmp .ne 261, 3) by decide +kernel) (by decide),
  fun d σ S l1 l2 l3 l4 l5 l6 l7 l8 k => ex_aload_n (show decode mX7_can.2.1 97 = .ok (.aload_n 0, 1) by decide +kernel) rfl,
  fun d σ S l0 l1 l2 l3 l4 l5 l6 l7 l8 => ex_getr (idx := 7) (ci := 7) (ff := 0) (n := 26) (hh := 833) (by decide +kernel),
  fun d σ S l0 l1 l2 l3 l4 l5 l6 l7 l8 => ex_iconst (show decode mX7_can.2.1 101 = .ok (.iconst 0, 1) by decide +kernel) (by decide +kernel),
  fun d σ S l0 l1 l2 l3 l4 l5 l6 l7 l8 x => ex_iald (by decide +kernel),
  fun d σ S l0 l1 l2 l4 l5 l6 l7 l8 x y => ex_istore (show decode mX7_can.2.1 103 = .ok (.istore 4, 2) by decide +kernel) (Nat.le_of_ble_eq_true rfl) rfl,
  fun d σ S l1 l2 l3 l4 l5 l6 l7 l8 k => ex_aload_n (show decode mX7_can.2.1 105 = .ok (.aload_n 0, 1) by decide +kernel) rfl,
  fun d σ S l0 l1 l2 l3 l4 l5 l6 l7 l8 => ex_getr (idx := 7) (ci := 7) (ff := 0) (n := 26) (hh := 833) (by decide +kernel),
  fun d σ S l0 l1 l2 l3 l4 l5 l6 l7 l8 => ex_iconst (show decode mX7_can.2.1 109 = .ok (.iconst 2, 1) by decide +kernel) (by decide +kernel),
  fun d σ S l0 l1 l2 l3 l4 l5 l6 l7 l8 x => ex_iald (by decide +kernel),
  fun d σ S l0 l1 l2 l3 l5 l6 l7 l8 x y => ex_istore (show decode mX7_can.2.1 111 = .ok (.istore 5, 2) by decide +kernel) (Nat.le_of_ble_eq_true rfl) rfl,
  fun d σ S l0 l1 l2 l3 l4 l5 l6 l7 l8 => ex_iconst (show decode mX7_can.2.1 113 = .ok (.iconst 0, 1) by decide +kernel) (by decide +kernel),
  fun d σ S l0 l1 l2 l3 l4 l6 l7 l8 x y => ex_istore (show decode mX7_can.2.1 114 = .ok (.istore 6, 2) by decide +kernel) (Nat.le_of_ble_eq_true rfl) rfl,
  fun d σ S l1 l2 l3 l4 l5 l6 l7 l8 k => ex_aload_n (show decode mX7_can.2.1 118 = .ok (.aload_n 0, 1) by decide +kernel) rfl,
  fun d σ S l0 l1 l2 l3 l4 l5 l6 l7 l8 => ex_getr (idx := 7) (ci := 7) (ff := 0) (n := 26) (hh := 833) (by decide +kernel),
  fun d σ S l0 l1 l2 l3 l4 l5 l6 l7 l8 => ex_bipush (show decode mX7_can.2.1 122 = .ok (.bipush 7, 2) by decide +kernel) (by decide +kernel),
  fun d σ S l0 l1 l2 l3 l4 l5 l6 l7 l8 x => ex_iald (by decide +kernel),
  fun d σ S l0 l1 l2 l3 l4 l5 l6 l7 l8 x y => ex_cge (show decode mX7_can.2.1 125 = .ok (.if_icmp .ge 108, 3) by decide +kernel) (by decide),
  fun d σ S l0 l1 l2 l4 l5 l6 l7 l8 x => ex_iload_n (show decode mX7_can.2.1 128 = .ok (.iload_n 3, 1) by decide +kernel) rfl,
  fun d σ S l0 l1 l2 l3 l4 l5 l7 l8 x => ex_iload (show decode mX7_can.2.1 129 = .ok (.iload 6, 2) by decide +kernel) rfl,
  fun d σ l0 l1 l2 l3 l4 l5 l6 l7 l8 x0 x1 => ex_is (hs := [1033, 1034, 1035, 101]) (show decode mX7_can.2.1 131 = .ok (.invokestatic 151, 3) by decide +kernel) lkS_7_151 ⟨rfl, Nat.le_of_ble_eq_true rfl, Nat.le_of_ble_eq_true rfl, fun q => nomatch q⟩ rfl rfl,
  fun d σ S l0 l1 l2 l3 l4 l5 l6 l7 l8 x => ex_zeq (show decode mX7_can.2.1 134 = .ok (.ifCond .eq 21, 3) by decide +kernel) (by decide)⟩
theorem kX7_can_2 : (∀ (d : Nat) (σ : Sg) (S : List Value) (l1 l2 l3 l4 l5 l6 l7 l8 : Value) (k : Nat), exec d mX7_can 137 [.ref k, l1, l2, l3, l4, l5, l6, l7, l8] S σ = exec d mX7_can 138 [.ref k, l1, l2, l3, l4, l5, l6, l7, l8] (.ref k :: S) σ) ∧
  (∀ (d : Nat) (σ : Sg) (S : List Value) (l0 l1 l2 l3 l4 l5 l6 l7 l8 : Value), exec d mX7_can 138 [l0, l1, l2, l3, l4, l5, l6, l7, l8] (.ref 50 :: S) σ = exec d mX7_can 141 [l0, l1, l2, l3, l4, l5, l6, l7, l8] (.ref 51 :: S) σ) ∧
  (∀ (d : Nat) (σ : Sg) (S : List Value) (l0 l1 l2 l3 l4 l5 l6 l7 l8 : Value), exec d mX7_can 141 [l0, l1, l2, l3, l4, l5, l6, l7, l8] S σ = exec d mX7_can 142 [l0, l1, l2, l3, l4, l5, l6, l7, l8] (.int (nI 3) :: S) σ) ∧
  (∀ (d : Nat) (σ : Sg) (S : List Value) (l0 l1 l2 l3 l4 l5 l6 l7 l8 : Value) (x : Int32), exec d mX7_can 142 [l0, l1, l2, l3, l4, l5, l6, l7, l8] (.int x :: .ref 51 :: S) σ = if inb x 208 = true then exec d mX7_can 143 [l0, l1, l2, l3, l4, l5, l6, l7, l8] (.int (σ 51 x.toNatClampNeg) :: S) σ else none) ∧
  (∀ (d : Nat) (σ : Sg) (S : List Value) (l0 l1 l2 l3 l4 l5 l7 l8 : Value) (x : Int32), exec d mX7_can 143 [l0, l1, l2, l3, l4, l5, .int x, l7, l8] S σ = exec d mX7_can 145 [l0, l1, l2, l3, l4, l5, .int x, l7, l8] (.int x :: S) σ) ∧
  (∀ (d : Nat) (σ : Sg) (l0 l1 l2 l3 l4 l5 l6 l7 l8 : Value) (x0 x1 : Int32), exec d mX7_can 145 [l0, l1, l2, l3, l4, l5, l6, l7, l8] [.int x0, .int x1] σ = kb (cal d mX7_has [.int x1, .int x0] σ) (fun rs σ2 => exec d mX7_can 148 [l0, l1, l2, l3, l4, l5, l6, l7, l8] (rs ++ []) σ2)) ∧
  (∀ (d : Nat) (σ : Sg) (S : List Value) (l0 l1 l2 l3 l4 l5 l6 l7 l8 : Value) (x : Int32), exec d mX7_can 148 [l0, l1, l2, l3, l4, l5, l6, l7, l8] (.int x :: S) σ = if x = nI 0 then exec d mX7_can 151 [l0, l1, l2, l3, l4, l5, l6, l7, l8] S σ else exec d mX7_can 155 [l0, l1, l2, l3, l4, l5, l6, l7, l8] S σ) ∧
  (∀ (d : Nat) (σ : Sg) (S : List Value) (l0 l1 l2 l3 l4 l5 l6 l7 l8 : Value), exec d mX7_can 151 [l0, l1, l2, l3, l4, l5, l6, l7, l8] S σ = exec d mX7_can 152 [l0, l1, l2, l3, l4, l5, l6, l7, l8] (.int (nI 1) :: S) σ) ∧
  (∀ (d : Nat) (σ : Sg) (S : List Value) (l0 l1 l2 l3 l4 l5 l6 l7 l8 : Value), exec d mX7_can 152 [l0, l1, l2, l3, l4, l5, l6, l7, l8] S σ = exec d mX7_can 156 [l0, l1, l2, l3, l4, l5, l6, l7, l8] S σ) ∧
  (∀ (d : Nat) (σ : Sg) (S : List Value) (l0 l1 l2 l3 l4 l5 l6 l7 l8 : Value), exec d mX7_can 155 [l0, l1, l2, l3, l4, l5, l6, l7, l8] S σ = exec d mX7_can 156 [l0, l1, l2, l3, l4, l5, l6, l7, l8] (.int (nI 0) :: S) σ) ∧
  (∀ (d : Nat) (σ : Sg) (S : List Value) (l0 l1 l2 l3 l4 l5 l7 l8 : Value) (x y : Int32), exec d mX7_can 156 [l0, l1, l2, l3, l4, l5, .int y, l7, l8] (.int x :: S) σ = exec d mX7_can 158 [l0, l1, l2, l3, l4, l5, .int y, .int x, l8] S σ) ∧
  (∀ (d : Nat) (σ : Sg) (S : List Value) (l0 l1 l2 l3 l4 l6 l7 l8 : Value) (x : Int32), exec d mX7_can 158 [l0, l1, l2, l3, l4, .int x, l6, l7, l8] S σ = exec d mX7_can 160 [l0, l1, l2, l3, l4, .int x, l6, l7, l8] (.int x :: S) σ) ∧
  (∀ (d : Nat) (σ : Sg) (S : List Value) (l0 l1 l2 l3 l4 l5 l6 l8 : Value) (x : Int32), exec d mX7_can 160 [l0, l1, l2, l3, l4, l5, l6, .int x, l8] S σ = exec d mX7_can 162 [l0, l1, l2, l3, l4, l5, l6, .int x, l8] (.int x :: S) σ) ∧
  (∀ (d : Nat) (σ : Sg) (S : List Value) (l0 l1 l2 l3 l4 l5 l6 l7 l8 : Value) (x : Int32), exec d mX7_can 162 [l0, l1, l2, l3, l4, l5, l6, l7, l8] (.int x :: S) σ = if x = nI 0 then exec d mX7_can 192 [l0, l1, l2, l3, l4, l5, l6, l7, l8] S σ else exec d mX7_can 165 [l0, l1, l2, l3, l4, l5, l6, l7, l8] S σ) ∧
  (∀ (d : Nat) (σ : Sg) (S : List Value) (l1 l2 l3 l4 l5 l6 l7 l8 : Value) (k : Nat), exec d mX7_can 165 [.ref k, l1, l2, l3, l4, l5, l6, l7, l8] S σ = exec d mX7_can 166 [.ref k, l1, l2, l3, l4, l5, l6, l7, l8] (.ref k :: S) σ) ∧
  (∀ (d : Nat) (σ : Sg) (S : List Value) (l0 l1 l2 l3 l4 l5 l6 l7 l8 : Value), exec d mX7_can 166 [l0, l1, l2, l3, l4, l5, l6, l7, l8] (.ref 50 :: S) σ = exec d mX7_can 169 [l0, l1, l2, l3, l4, l5, l6, l7, l8] (.ref 51 :: S) σ) ∧
  (∀ (d : Nat) (σ : Sg) (S : List Value) (l0 l1 l2 l3 l4 l5 l6 l7 l8 : Value), exec d mX7_can 169 [l0, l1, l2, l3, l4, l5, l6, l7, l8] S σ = exec d mX7_can 171 [l0, l1, l2, l3, l4, l5, l6, l7, l8] (.int (nI 9) :: S) σ) ∧
  (∀ (d : Nat) (σ : Sg) (S : List Value) (l0 l1 l2 l3 l4 l5 l7 l8 : Value) (x : Int32), exec d mX7_can 171 [l0, l1, l2, l3, l4, l5, .int x, l7, l8] S σ = exec d mX7_can 173 [l0, l1, l2, l3, l4, l5, .int x, l7, l8] (.int x :: S) σ) ∧
  (∀ (d : Nat) (σ : Sg) (S : List Value) (l0 l1 l2 l3 l4 l5 l6 l7 l8 : Value) (x y : Int32), exec d mX7_can 173 [l0, l1, l2, l3, l4, l5, l6, l7, l8] (.int y :: .int x :: S) σ = exec d mX7_can 174 [l0, l1, l2, l3, l4, l5, l6, l7, l8] (.int (x + y) :: S) σ) ∧
  (∀ (d : Nat) (σ : Sg) (S : List Value) (l0 l1 l2 l3 l4 l5 l6 l7 l8 : Value) (x : Int32), exec d mX7_can 174 [l0, l1, l2, l3, l4, l5, l6, l7, l8] (.int x :: .ref 51 :: S) σ = if inb x 208 = true then exec d mX7_can 175 [l0, l1, l2, l3, l4, l5, l6, l7, l8] (.int (σ 51 x.toNatClampNeg) :: S) σ else none) ∧
  (∀ (d : Nat) (σ : Sg) (S : List Value) (l0 l1 l2 l3 l4 l5 l6 l7 l8 : Value), exec d mX7_can 175 [l0, l1, l2, l3, l4, l5, l6, l7, l8] S σ = exec d mX7_can 176 [l0, l1, l2, l3, l4, l5, l6, l7, l8] (.int (nI 5) :: S) σ) ∧
  (∀ (d : Nat) (σ : Sg) (S : List Value) (l0 l1 l2 l3 l4 l5 l6 l7 l8 : Value) (x y : Int32), exec d mX7_can 176 [l0, l1, l2, l3, l4, l5, l6, l7, l8] (.int y :: .int x :: S) σ = if x = y then exec d mX7_can 179 [l0, l1, l2, l3, l4, l5, l6, l7, l8] S σ else exec d mX7_can 192 [l0, l1, l2, l3, l4, l5, l6, l7, l8] S σ) ∧
  (∀ (d : Nat) (σ : Sg) (S : List Value) (l1 l2 l3 l4 l5 l6 l7 l8 : Value) (k : Nat), exec d mX7_can 179 [.ref k, l1, l2, l3, l4, l5, l6, l7, l8] S σ = exec d mX7_can 180 [.ref k, l1, l2, l3, l4, l5, l6, l7, l8] (.ref k :: S) σ) ∧
  (∀ (d : Nat) (σ : Sg) (S : List Value) (l0 l1 l2 l3 l4 l5 l6 l7 l8 : Value), exec d mX7_can 180 [l0, l1, l2, l3, l4, l5, l6, l7, l8] (.ref 50 :: S) σ = exec d mX7_can 183 [l0, l1, l2, l3, l4, l5, l6, l7, l8] (.ref 51 :: S) σ) ∧
  (∀ (d : Nat) (σ : Sg) (S : List Value) (l0 l1 l2 l3 l4 l5 l6 l7 l8 : Value), exec d mX7_can 183 [l0, l1, l2, l3, l4, l5, l6, l7, l8] S σ = exec d mX7_can 185 [l0, l1, l2, l3, l4, l5, l6, l7, l8] (.int (nI 23) :: S) σ) ∧
  (∀ (d : Nat) (σ : Sg) (S : List Value) (l0 l1 l2 l3 l4 l5 l7 l8 : Value) (x : Int32), exec d mX7_can 185 [l0, l1, l2, l3, l4, l5, .int x, l7, l8] S σ = exec d mX7_can 187 [l0, l1, l2, l3, l4, l5, .int x, l7, l8] (.int x :: S) σ) ∧
  (∀ (d : Nat) (σ : Sg) (S : List Value) (l0 l1 l2 l3 l4 l5 l6 l7 l8 : Value) (x y : Int32), exec d mX7_can 187 [l0, l1, l2, l3, l4, l5, l6, l7, l8] (.int y :: .int x :: S) σ = exec d mX7_can 188 [l0, l1, l2, l3, l4, l5, l6, l7, l8] (.int (x + y) :: S) σ) ∧
  (∀ (d : Nat) (σ : Sg) (S : List Value) (l0 l1 l2 l3 l4 l5 l6 l7 l8 : Value) (x : Int32), exec d mX7_can 188 [l0, l1, l2, l3, l4, l5, l6, l7, l8] (.int x :: .ref 51 :: S) σ = if inb x 208 = true then exec d mX7_can 189 [l0, l1, l2, l3, l4, l5, l6, l7, l8] (.int (σ 51 x.toNatClampNeg) :: S) σ else none) ∧
  (∀ (d : Nat) (σ : Sg) (S : List Value) (l0 l1 l2 l3 l4 l5 l6 l7 l8 : Value), exec d mX7_can 189 [l0, l1, l2, l3, l4, l5, l6, l7, l8] S σ = exec d mX7_can 193 [l0, l1, l2, l3, l4, l5, l6, l7, l8] S σ) ∧
  (∀ (d : Nat) (σ : Sg) (S : List Value) (l0 l1 l2 l3 l4 l5 l6 l7 l8 : Value), exec d mX7_can 192 [l0, l1, l2, l3, l4, l5, l6, l7, l8] S σ = exec d mX7_can 193 [l0, l1, l2, l3, l4, l5, l6, l7, l8] (.int (nI 0) :: S) σ) ∧
  (∀ (d : Nat) (σ : Sg) (S : List Value) (l0 l1 l2 l3 l4 l5 l6 l7 l8 : Value) (x y : Int32), exec d mX7_can 193 [l0, l1, l2, l3, l4, l5, l6, l7, l8] (.int y :: .int x :: S) σ = exec d mX7_can 194 [l0, l1, l2, l3, l4, l5, l6, l7, l8] (.int (x - y) :: S) σ) ∧
  (∀ (d : Nat) (σ : Sg) (S : List Value) (l0 l1 l2 l3 l5 l6 l7 l8 : Value) (x y : Int32), exec d mX7_can 194 [l0, l1, l2, l3, .int y, l5, l6, l7, l8] (.int x :: S) σ = exec d mX7_can 196 [l0, l1, l2, l3, .int y, .int x, l6, l7, l8] S σ) ∧
  (∀ (d : Nat) (σ : Sg) (S : List Value) (l0 l1 l2 l3 l4 l5 l6 l8 : Value) (x : Int32), exec d mX7_can 196 [l0, l1, l2, l3, l4, l5, l6, .int x, l8] S σ = exec d mX7_can 198 [l0, l1, l2, l3, l4, l5, l6, .int x, l8] (.int x :: S) σ) ∧
  (∀ (d : Nat) (σ : Sg) (S : List Value) (l0 l1 l2 l3 l4 l5 l6 l7 l8 : Value) (x : Int32), exec d mX7_can 198 [l0, l1, l2, l3, l4, l5, l6, l7, l8] (.int x :: S) σ = if x = nI 0 then exec d mX7_can 223 [l0, l1, l2, l3, l4, l5, l6, l7, l8] S σ else exec d mX7_can 201 [l0, l1, l2, l3, l4, l5, l6, l7, l8] S σ) ∧
  (∀ (d : Nat) (σ : Sg) (S : List Value) (l1 l2 l3 l4 l5 l6 l7 l8 : Value) (k : Nat), exec d mX7_can 201 [.ref k, l1, l2, l3, l4, l5, l6, l7, l8] S σ = exec d mX7_can 202 [.ref k, l1, l2, l3, l4, l5, l6, l7, l8] (.ref k :: S) σ) ∧
  (∀ (d : Nat) (σ : Sg) (S : List Value) (l0 l1 l2 l3 l4 l5 l6 l7 l8 : Value), exec d mX7_can 202 [l0, l1, l2, l3, l4, l5, l6, l7, l8] (.ref 50 :: S) σ = exec d mX7_can 205 [l0, l1, l2, l3, l4, l5, l6, l7, l8] (.ref 51 :: S) σ) ∧
  (∀ (d : Nat) (σ : Sg) (S : List Value) (l0 l1 l2 l3 l4 l5 l6 l7 l8 : Value), exec d mX7_can 205 [l0, l1, l2, l3, l4, l5, l6, l7, l8] S σ = exec d mX7_can 207 [l0, l1, l2, l3, l4, l5, l6, l7, l8] (.int (nI 9) :: S) σ) ∧
  (∀ (d : Nat) (σ : Sg) (S : List Value) (l0 l1 l2 l3 l4 l5 l7 l8 : Value) (x : Int32), exec d mX7_can 207 [l0, l1, l2, l3, l4, l5, .int x, l7, l8] S σ = exec d mX7_can 209 [l0, l1, l2, l3, l4, l5, .int x, l7, l8] (.int x :: S) σ) ∧
  (∀ (d : Nat) (σ : Sg) (S : List Value) (l0 l1 l2 l3 l4 l5 l6 l7 l8 : Value) (x y : Int32), exec d mX7_can 209 [l0, l1, l2, l3, l4, l5, l6, l7, l8] (.int y :: .int x :: S) σ = exec d mX7_can 210 [l0, l1, l2, l3, l4, l5, l6, l7, l8] (.int (x + y) :: S) σ) ∧
  (∀ (d : Nat) (σ : Sg) (S : List Value) (l0 l1 l2 l3 l4 l5 l6 l7 l8 : Value) (x : Int32), exec d mX7_can 210 [l0, l1, l2, l3, l4, l5, l6, l7, l8] (.int x :: .ref 51 :: S) σ = if inb x 208 = true then exec d mX7_can 211 [l0, l1, l2, l3, l4, l5, l6, l7, l8] (.int (σ 51 x.toNatClampNeg) :: S) σ else none) :=
  ⟨fun d σ S l1 l2 l3 l4 l5 l6 l7 l8 k => ex_aload_n (show decode mX7_can.2.1 137 = .ok (.aload_n 0, 1) by decide +kernel) rfl,
  fun d σ S l0 l1 l2 l3 l4 l5 l6 l7 l8 => ex_getr (idx := 7) (ci := 7) (ff := 0) (n := 26) (hh := 833) (by decide +kernel),
  fun d σ S l0 l1 l2 l3 l4 l5 l6 l7 l8 => ex_iconst (show decode mX7_can.2.1 141 = .ok (.iconst 3, 1) by decide +kernel) (by decide +kernel),
  fun d σ S l0 l1 l2 l3 l4 l5 l6 l7 l8 x => ex_iald (by decide +kernel),
  fun d σ S l0 l1 l2 l3 l4 l5 l7 l8 x => ex_iload (show decode mX7_can.2.1 143 = .ok (.iload 6, 2) by decide +kernel) rfl,
  fun d σ l0 l1 l2 l3 l4 l5 l6 l7 l8 x0 x1 => ex_is (hs := [1033, 1034, 1035, 101]) (show decode mX7_can.2.1 145 = .ok (.invokestatic 151, 3) by decide +kernel) lkS_7_151 ⟨rfl, Nat.le_of_ble_eq_true rfl, Nat.le_of_ble_eq_true rfl, fun q => nomatch q⟩ rfl rfl,
  fun d σ S l0 l1 l2 l3 l4 l5 l6 l7 l8 x => ex_zne (show decode mX7_can.2.1 148 = .ok (.ifCond .ne 7, 3) by decide +kernel) (by decide),
  fun d σ S l0 l1 l2 l3 l4 l5 l6 l7 l8 => ex_iconst (show decode mX7_can.2.1 151 = .ok (.iconst 1, 1) by decide +kernel) (by decide +kernel),
  fun d σ S l0 l1 l2 l3 l4 l5 l6 l7 l8 => ex_goto (show decode mX7_can.2.1 152 = .ok (.goto 4, 3) by decide +kernel) (by decide),
  fun d σ S l0 l1 l2 l3 l4 l5 l6 l7 l8 => ex_iconst (show decode mX7_can.2.1 155 = .ok (.iconst 0, 1) by decide +kernel) (by decide +kernel),
  fun d σ S l0 l1 l2 l3 l4 l5 l7 l8 x y => ex_istore (show decode mX7_can.2.1 156 = .ok (.istore 7, 2) by decide +kernel) (Nat.le_of_ble_eq_true rfl) rfl,
  fun d σ S l0 l1 l2 l3 l4 l6 l7 l8 x => ex_iload (show decode mX7_can.2.1 158 = .ok (.iload 5, 2) by decide +kernel) rfl,
  fun d σ S l0 l1 l2 l3 l4 l5 l6 l8 x => ex_iload (show decode mX7_can.2.1 160 = .ok (.iload 7, 2) by decide +kernel) rfl,
  fun d σ S l0 l1 l2 l3 l4 l5 l6 l7 l8 x => ex_zeq (show decode mX7_can.2.1 162 = .ok (.ifCond .eq 30, 3) by decide +kernel) (by decide),
  fun d σ S l1 l2 l3 l4 l5 l6 l7 l8 k => ex_aload_n (show decode mX7_can.2.1 165 = .ok (.aload_n 0, 1) by decide +kernel) rfl,
  fun d σ S l0 l1 l2 l3 l4 l5 l6 l7 l8 => ex_getr (idx := 7) (ci := 7) (ff := 0) (n := 26) (hh := 833) (by decide +kernel),
  fun d σ S l0 l1 l2 l3 l4 l5 l6 l7 l8 => ex_bipush (show decode mX7_can.2.1 169 = .ok (.bipush 9, 2) by decide +kernel) (by decide +kernel),
  fun d σ S l0 l1 l2 l3 l4 l5 l7 l8 x => ex_iload (show decode mX7_can.2.1 171 = .ok (.iload 6, 2) by decide +kernel) rfl,
  fun d σ S l0 l1 l2 l3 l4 l5 l6 l7 l8 x y => ex_iadd (show decode mX7_can.2.1 173 = .ok (.iadd, 1) by decide +kernel),
  fun d σ S l0 l1 l2 l3 l4 l5 l6 l7 l8 x => ex_iald (by decide +kernel),
  fun d σ S l0 l1 l2 l3 l4 l5 l6 l7 l8 => ex_iconst (show decode mX7_can.2.1 175 = .ok (.iconst 5, 1) by decide +kernel) (by decide +kernel),
  fun d σ S l0 l1 l2 l3 l4 l5 l6 l7 l8 x y => ex_cne (show decode mX7_can.2.1 176 = .ok (.if_icmp .ne 16, 3) by decide +kernel) (by decide),
  fun d σ S l1 l2 l3 l4 l5 l6 l7 l8 k => ex_aload_n (show decode mX7_can.2.1 179 = .ok (.aload_n 0, 1) by decide +kernel) rfl,
  fun d σ S l0 l1 l2 l3 l4 l5 l6 l7 l8 => ex_getr (idx := 7) (ci := 7) (ff := 0) (n := 26) (hh := 833) (by decide +kernel),
  fun d σ S l0 l1 l2 l3 l4 l5 l6 l7 l8 => ex_bipush (show decode mX7_can.2.1 183 = .ok (.bipush 23, 2) by decide +kernel) (by decide +kernel),
  fun d σ S l0 l1 l2 l3 l4 l5 l7 l8 x => ex_iload (show decode mX7_can.2.1 185 = .ok (.iload 6, 2) by decide +kernel) rfl,
  fun d σ S l0 l1 l2 l3 l4 l5 l6 l7 l8 x y => ex_iadd (show decode mX7_can.2.1 187 = .ok (.iadd, 1) by decide +kernel),
  fun d σ S l0 l1 l2 l3 l4 l5 l6 l7 l8 x => ex_iald (by decide +kernel),
  fun d σ S l0 l1 l2 l3 l4 l5 l6 l7 l8 => ex_goto (show decode mX7_can.2.1 189 = .ok (.goto 4, 3) by decide +kernel) (by decide),
  fun d σ S l0 l1 l2 l3 l4 l5 l6 l7 l8 => ex_iconst (show decode mX7_can.2.1 192 = .ok (.iconst 0, 1) by decide +kernel) (by decide +kernel),
  fun d σ S l0 l1 l2 l3 l4 l5 l6 l7 l8 x y => ex_isub (show decode mX7_can.2.1 193 = .ok (.isub, 1) by decide +kernel),
  fun d σ S l0 l1 l2 l3 l5 l6 l7 l8 x y => ex_istore (show decode mX7_can.2.1 194 = .ok (.istore 5, 2) by decide +kernel) (Nat.le_of_ble_eq_true rfl) rfl,
  fun d σ S l0 l1 l2 l3 l4 l5 l6 l8 x => ex_iload (show decode mX7_can.2.1 196 = .ok (.iload 7, 2) by decide +kernel) rfl,
  fun d σ S l0 l1 l2 l3 l4 l5 l6 l7 l8 x => ex_zeq (show decode mX7_can.2.1 198 = .ok (.ifCond .eq 25, 3) by decide +kernel) (by decide),
  fun d σ S l1 l2 l3 l4 l5 l6 l7 l8 k => ex_aload_n (show decode mX7_can.2.1 201 = .ok (.aload_n 0, 1) by decide +kernel) rfl,
  fun d σ S l0 l1 l2 l3 l4 l5 l6 l7 l8 => ex_getr (idx := 7) (ci := 7) (ff := 0) (n := 26) (hh := 833) (by decide +kernel),
  fun d σ S l0 l1 l2 l3 l4 l5 l6 l7 l8 => ex_bipush (show decode mX7_can.2.1 205 = .ok (.bipush 9, 2) by decide +kernel) (by decide +kernel),
  fun d σ S l0 l1 l2 l3 l4 l5 l7 l8 x => ex_iload (show decode mX7_can.2.1 207 = .ok (.iload 6, 2) by decide +kernel) rfl,
  fun d σ S l0 l1 l2 l3 l4 l5 l6 l7 l8 x y => ex_iadd (show decode mX7_can.2.1 209 = .ok (.iadd, 1) by decide +kernel),
  fun d σ S l0 l1 l2 l3 l4 l5 l6 l7 l8 x => ex_iald (by decide +kernel)⟩
theorem kX7_can_3 : (∀ (d : Nat) (σ : Sg) (S : List Value) (l0 l1 l2 l3 l4 l5 l6 l7 l8 : Value), exec d mX7_can 211 [l0, l1, l2, l3, l4, l5, l6, l7, l8] S σ = exec d mX7_can 212 [l0, l1, l2, l3, l4, l5, l6, l7, l8] (.int (nI 5) :: S) σ) ∧
  (∀ (d : Nat) (σ : Sg) (S : List Value) (l0 l1 l2 l3 l4 l5 l6 l7 l8 : Value) (x y : Int32), exec d mX7_can 212 [l0, l1, l2, l3, l4, l5, l6, l7, l8] (.int y :: .int x :: S) σ = if x = y then exec d mX7_can 223 [l0, l1, l2, l3, l4, l5, l6, l7, l8] S σ else exec d mX7_can 215 [l0, l1, l2, l3, l4, l5, l6, l7, l8] S σ) ∧
  (∀ (d : Nat) (σ : Sg) (S : List Value) (l0 l1 l2 l3 l5 l6 l7 l8 : Value) (x : Int32), exec d mX7_can 215 [l0, l1, l2, l3, .int x, l5, l6, l7, l8] S σ = exec d mX7_can 217 [l0, l1, l2, l3, .int x, l5, l6, l7, l8] (.int x :: S) σ) ∧
  (∀ (d : Nat) (σ : Sg) (l0 l1 l2 l3 l4 l5 l6 l7 l8 : Value) (x0 : Int32), exec d mX7_can 217 [l0, l1, l2, l3, l4, l5, l6, l7, l8] [.int x0] σ = kb (cal d mX7_more [.int x0] σ) (fun rs σ2 => exec d mX7_can 220 [l0, l1, l2, l3, l4, l5, l6, l7, l8] (rs ++ []) σ2)) ∧
  (∀ (d : Nat) (σ : Sg) (S : List Value) (l0 l1 l2 l3 l4 l5 l6 l7 l8 : Value), exec d mX7_can 220 [l0, l1, l2, l3, l4, l5, l6, l7, l8] S σ = exec d mX7_can 225 [l0, l1, l2, l3, l4, l5, l6, l7, l8] S σ) ∧
  (∀ (d : Nat) (σ : Sg) (S : List Value) (l0 l1 l2 l3 l5 l6 l7 l8 : Value) (x : Int32), exec d mX7_can 223 [l0, l1, l2, l3, .int x, l5, l6, l7, l8] S σ = exec d mX7_can 225 [l0, l1, l2, l3, .int x, l5, l6, l7, l8] (.int x :: S) σ) ∧
  (∀ (d : Nat) (σ : Sg) (S : List Value) (l0 l1 l2 l4 l5 l6 l7 l8 : Value) (x y : Int32), exec d mX7_can 225 [l0, l1, l2, .int y, l4, l5, l6, l7, l8] (.int x :: S) σ = exec d mX7_can 227 [l0, l1, l2, .int y, .int x, l5, l6, l7, l8] S σ) ∧
  (∀ (d : Nat) (σ : Sg) (S : List Value) (l0 l1 l2 l3 l4 l7 l8 : Value) (x y : Int32), exec d mX7_can 227 [l0, l1, l2, l3, l4, .int y, .int x, l7, l8] S σ = exec d mX7_can 230 [l0, l1, l2, l3, l4, .int y, .int (x + nI 1), l7, l8] S σ) ∧
  (∀ (d : Nat) (σ : Sg) (S : List Value) (l0 l1 l2 l3 l4 l5 l6 l7 l8 : Value), exec d mX7_can 230 [l0, l1, l2, l3, l4, l5, l6, l7, l8] S σ = exec d mX7_can 116 [l0, l1, l2, l3, l4, l5, l6, l7, l8] S σ) ∧
  (∀ (d : Nat) (σ : Sg) (S : List Value) (l0 l1 l2 l3 l4 l5 l6 l7 l8 : Value), exec d mX7_can 233 [l0, l1, l2, l3, l4, l5, l6, l7, l8] S σ = exec d mX7_can 234 [l0, l1, l2, l3, l4, l5, l6, l7, l8] (.int (nI 0) :: S) σ) ∧
  (∀ (d : Nat) (σ : Sg) (S : List Value) (l0 l1 l2 l3 l4 l6 l7 l8 : Value) (x y : Int32), exec d mX7_can 234 [l0, l1, l2, l3, l4, .int y, l6, l7, l8] (.int x :: S) σ = exec d mX7_can 236 [l0, l1, l2, l3, l4, .int y, .int x, l7, l8] S σ) ∧
  (∀ (d : Nat) (σ : Sg) (S : List Value) (l1 l2 l3 l4 l5 l6 l7 l8 : Value) (k : Nat), exec d mX7_can 238 [.ref k, l1, l2, l3, l4, l5, l6, l7, l8] S σ = exec d mX7_can 239 [.ref k, l1, l2, l3, l4, l5, l6, l7, l8] (.ref k :: S) σ) ∧
  (∀ (d : Nat) (σ : Sg) (S : List Value) (l0 l1 l2 l3 l4 l5 l6 l7 l8 : Value), exec d mX7_can 239 [l0, l1, l2, l3, l4, l5, l6, l7, l8] (.ref 50 :: S) σ = exec d mX7_can 242 [l0, l1, l2, l3, l4, l5, l6, l7, l8] (.ref 51 :: S) σ) ∧
  (∀ (d : Nat) (σ : Sg) (S : List Value) (l0 l1 l2 l3 l4 l5 l6 l7 l8 : Value), exec d mX7_can 242 [l0, l1, l2, l3, l4, l5, l6, l7, l8] S σ = exec d mX7_can 244 [l0, l1, l2, l3, l4, l5, l6, l7, l8] (.int (nI 7) :: S) σ) ∧
  (∀ (d : Nat) (σ : Sg) (S : List Value) (l0 l1 l2 l3 l4 l5 l6 l7 l8 : Value) (x : Int32), exec d mX7_can 244 [l0, l1, l2, l3, l4, l5, l6, l7, l8] (.int x :: .ref 51 :: S) σ = if inb x 208 = true then exec d mX7_can 245 [l0, l1, l2, l3, l4, l5, l6, l7, l8] (.int (σ 51 x.toNatClampNeg) :: S) σ else none) ∧
  (∀ (d : Nat) (σ : Sg) (S : List Value) (l0 l1 l2 l3 l4 l5 l6 l7 l8 : Value) (x y : Int32), exec d mX7_can 245 [l0, l1, l2, l3, l4, l5, l6, l7, l8] (.int y :: .int x :: S) σ = if y ≤ x then exec d mX7_can 355 [l0, l1, l2, l3, l4, l5, l6, l7, l8] S σ else exec d mX7_can 248 [l0, l1, l2, l3, l4, l5, l6, l7, l8] S σ) ∧
  (∀ (d : Nat) (σ : Sg) (S : List Value) (l1 l2 l3 l4 l5 l6 l7 l8 : Value) (k : Nat), exec d mX7_can 248 [.ref k, l1, l2, l3, l4, l5, l6, l7, l8] S σ = exec d mX7_can 249 [.ref k, l1, l2, l3, l4, l5, l6, l7, l8] (.ref k :: S) σ) ∧
  (∀ (d : Nat) (σ : Sg) (S : List Value) (l0 l1 l2 l3 l4 l5 l7 l8 : Value) (x : Int32), exec d mX7_can 249 [l0, l1, l2, l3, l4, l5, .int x, l7, l8] S σ = exec d mX7_can 251 [l0, l1, l2, l3, l4, l5, .int x, l7, l8] (.int x :: S) σ) ∧
  (∀ (d : Nat) (σ : Sg) (S : List Value) (l0 l1 l2 l4 l5 l6 l7 l8 : Value) (x : Int32), exec d mX7_can 251 [l0, l1, l2, .int x, l4, l5, l6, l7, l8] S σ = exec d mX7_can 252 [l0, l1, l2, .int x, l4, l5, l6, l7, l8] (.int x :: S) σ) ∧
  (∀ (d : Nat) (σ : Sg) (S : List Value) (l0 l1 l2 l3 l5 l6 l7 l8 : Value) (x : Int32), exec d mX7_can 252 [l0, l1, l2, l3, .int x, l5, l6, l7, l8] S σ = exec d mX7_can 254 [l0, l1, l2, l3, .int x, l5, l6, l7, l8] (.int x :: S) σ) ∧
  (∀ (d : Nat) (σ : Sg) (S : List Value) (l1 l2 l3 l4 l5 l6 l7 l8 : Value) (k : Nat), exec d mX7_can 254 [.ref k, l1, l2, l3, l4, l5, l6, l7, l8] S σ = exec d mX7_can 255 [.ref k, l1, l2, l3, l4, l5, l6, l7, l8] (.ref k :: S) σ) ∧
  (∀ (d : Nat) (σ : Sg) (S : List Value) (l0 l1 l2 l3 l4 l5 l6 l7 l8 : Value), exec d mX7_can 255 [l0, l1, l2, l3, l4, l5, l6, l7, l8] (.ref 50 :: S) σ = exec d mX7_can 258 [l0, l1, l2, l3, l4, l5, l6, l7, l8] (.ref 65 :: S) σ) ∧
  (∀ (d : Nat) (σ : Sg) (S : List Value) (l0 l1 l2 l4 l5 l6 l7 l8 : Value) (x : Int32), exec d mX7_can 258 [l0, l1, l2, .int x, l4, l5, l6, l7, l8] S σ = exec d mX7_can 259 [l0, l1, l2, .int x, l4, l5, l6, l7, l8] (.int x :: S) σ) ∧
  (∀ (d : Nat) (σ : Sg) (S : List Value) (l0 l1 l2 l3 l4 l5 l6 l7 l8 : Value) (x : Int32), exec d mX7_can 259 [l0, l1, l2, l3, l4, l5, l6, l7, l8] (.int x :: .ref 65 :: S) σ = if inb x 128 = true then exec d mX7_can 260 [l0, l1, l2, l3, l4, l5, l6, l7, l8] (.int (σ 65 x.toNatClampNeg) :: S) σ else none) ∧
  (∀ (d : Nat) (σ : Sg) (S : List Value) (l0 l1 l2 l3 l4 l6 l7 l8 : Value) (x : Int32), exec d mX7_can 260 [l0, l1, l2, l3, l4, .int x, l6, l7, l8] S σ = exec d mX7_can 262 [l0, l1, l2, l3, l4, .int x, l6, l7, l8] (.int x :: S) σ) ∧
  (∀ (d : Nat) (σ : Sg) (l0 l1 l2 l3 l4 l5 l6 l7 l8 : Value) (x0 x1 x2 x3 x4 : Int32), exec d mX7_can 262 [l0, l1, l2, l3, l4, l5, l6, l7, l8] [.int x0, .int x1, .int x2, .int x3, .int x4, .ref 50] σ = kb (cal d mX7_mayBe [.ref 50, .int x4, .int x3, .int x2, .int x1, .int x0] σ) (fun rs σ2 => exec d mX7_can 265 [l0, l1, l2, l3, l4, l5, l6, l7, l8] (rs ++ []) σ2)) ∧
  (∀ (d : Nat) (σ : Sg) (S : List Value) (l0 l1 l2 l3 l4 l5 l6 l7 l8 : Value) (x : Int32), exec d mX7_can 265 [l0, l1, l2, l3, l4, l5, l6, l7, l8] (.int x :: S) σ = if x = nI 0 then exec d mX7_can 349 [l0, l1, l2, l3, l4, l5, l6, l7, l8] S σ else exec d mX7_can 268 [l0, l1, l2, l3, l4, l5, l6, l7, l8] S σ) ∧
  (∀ (d : Nat) (σ : Sg) (S : List Value) (l1 l2 l3 l4 l5 l6 l7 l8 : Value) (k : Nat), exec d mX7_can 268 [.ref k, l1, l2, l3, l4, l5, l6, l7, l8] S σ = exec d mX7_can 269 [.ref k, l1, l2, l3, l4, l5, l6, l7, l8] (.ref k :: S) σ) ∧
  (∀ (d : Nat) (σ : Sg) (S : List Value) (l0 l1 l2 l3 l4 l5 l6 l7 l8 : Value), exec d mX7_can 269 [l0, l1, l2, l3, l4, l5, l6, l7, l8] (.ref 50 :: S) σ = exec d mX7_can 272 [l0, l1, l2, l3, l4, l5, l6, l7, l8] (.ref 65 :: S) σ) ∧
  (∀ (d : Nat) (σ : Sg) (S : List Value) (l0 l1 l2 l4 l5 l6 l7 l8 : Value) (x : Int32), exec d mX7_can 272 [l0, l1, l2, .int x, l4, l5, l6, l7, l8] S σ = exec d mX7_can 273 [l0, l1, l2, .int x, l4, l5, l6, l7, l8] (.int x :: S) σ) ∧
  (∀ (d : Nat) (σ : Sg) (S : List Value) (l0 l1 l2 l3 l4 l5 l6 l7 l8 : Value) (x : Int32), exec d mX7_can 273 [l0, l1, l2, l3, l4, l5, l6, l7, l8] (.int x :: .ref 65 :: S) σ = if inb x 128 = true then exec d mX7_can 274 [l0, l1, l2, l3, l4, l5, l6, l7, l8] (.int (σ 65 x.toNatClampNeg) :: S) σ else none) ∧
  (∀ (d : Nat) (σ : Sg) (S : List Value) (l1 l2 l3 l4 l5 l6 l7 l8 : Value) (k : Nat), exec d mX7_can 274 [.ref k, l1, l2, l3, l4, l5, l6, l7, l8] S σ = exec d mX7_can 275 [.ref k, l1, l2, l3, l4, l5, l6, l7, l8] (.ref k :: S) σ) ∧
  (∀ (d : Nat) (σ : Sg) (S : List Value) (l0 l1 l2 l3 l4 l5 l6 l7 l8 : Value), exec d mX7_can 275 [l0, l1, l2, l3, l4, l5, l6, l7, l8] (.ref 50 :: S) σ = exec d mX7_can 278 [l0, l1, l2, l3, l4, l5, l6, l7, l8] (.ref 51 :: S) σ) ∧
  (∀ (d : Nat) (σ : Sg) (S : List Value) (l0 l1 l2 l3 l4 l5 l6 l7 l8 : Value), exec d mX7_can 278 [l0, l1, l2, l3, l4, l5, l6, l7, l8] S σ = exec d mX7_can 280 [l0, l1, l2, l3, l4, l5, l6, l7, l8] (.int (nI 9) :: S) σ) ∧
  (∀ (d : Nat) (σ : Sg) (S : List Value) (l0 l1 l2 l3 l4 l5 l7 l8 : Value) (x : Int32), exec d mX7_can 280 [l0, l1, l2, l3, l4, l5, .int x, l7, l8] S σ = exec d mX7_can 282 [l0, l1, l2, l3, l4, l5, .int x, l7, l8] (.int x :: S) σ) ∧
  (∀ (d : Nat) (σ : Sg) (S : List Value) (l0 l1 l2 l3 l4 l5 l6 l7 l8 : Value) (x y : Int32), exec d mX7_can 282 [l0, l1, l2, l3, l4, l5, l6, l7, l8] (.int y :: .int x :: S) σ = exec d mX7_can 283 [l0, l1, l2, l3, l4, l5, l6, l7, l8] (.int (x + y) :: S) σ) ∧
  (∀ (d : Nat) (σ : Sg) (S : List Value) (l0 l1 l2 l3 l4 l5 l6 l7 l8 : Value) (x : Int32), exec d mX7_can 283 [l0, l1, l2, l3, l4, l5, l6, l7, l8] (.int x :: .ref 51 :: S) σ = if inb x 208 = true then exec d mX7_can 284 [l0, l1, l2, l3, l4, l5, l6, l7, l8] (.int (σ 51 x.toNatClampNeg) :: S) σ else none) ∧
  (∀ (d : Nat) (σ : Sg) (S : List Value) (l0 l1 l2 l3 l4 l5 l6 l7 l8 : Value), exec d mX7_can 284 [l0, l1, l2, l3, l4, l5, l6, l7, l8] S σ = exec d mX7_can 285 [l0, l1, l2, l3, l4, l5, l6, l7, l8] (.int (nI 5) :: S) σ) ∧
  (∀ (d : Nat) (σ : Sg) (S : List Value) (l0 l1 l2 l3 l4 l5 l6 l7 l8 : Value) (x y : Int32), exec d mX7_can 285 [l0, l1, l2, l3, l4, l5, l6, l7, l8] (.int y :: .int x :: S) σ = if x = y then exec d mX7_can 288 [l0, l1, l2, l3, l4, l5, l6, l7, l8] S σ else exec d mX7_can 292 [l0, l1, l2, l3, l4, l5, l6, l7, l8] S σ) ∧
  (∀ (d : Nat) (σ : Sg) (S : List Value) (l0 l1 l2 l3 l4 l5 l6 l7 l8 : Value), exec d mX7_can 288 [l0, l1, l2, l3, l4, l5, l6, l7, l8] S σ = exec d mX7_can 289 [l0, l1, l2, l3, l4, l5, l6, l7, l8] (.int (nI 0) :: S) σ) :=
  ⟨fun d σ S l0 l1 l2 l3 l4 l5 l6 l7 l8 => ex_iconst (show decode mX7_can.2.1 211 = .ok (.iconst 5, 1) by decide +kernel) (by decide +kernel),
  fun d σ S l0 l1 l2 l3 l4 l5 l6 l7 l8 x y => ex_ceq (show decode mX7_can.2.1 212 = .ok (.if_icmp .eq 11, 3) by decide +kernel) (by decide),
  fun d σ S l0 l1 l2 l3 l5 l6 l7 l8 x => ex_iload (show decode mX7_can.2.1 215 = .ok (.iload 4, 2) by decide +kernel) rfl,
  fun d σ l0 l1 l2 l3 l4 l5 l6 l7 l8 x0 => ex_is (hs := [1055, 1056, 1057, 101]) (show decode mX7_can.2.1 217 = .ok (.invokestatic 168, 3) by decide +kernel) lkS_7_168 ⟨rfl, Nat.le_of_ble_eq_true rfl, Nat.le_of_ble_eq_true rfl, fun q => nomatch q⟩ rfl rfl,
  fun d σ S l0 l1 l2 l3 l4 l5 l6 l7 l8 => ex_goto (show decode mX7_can.2.1 220 = .ok (.goto 5, 3) by decide +kernel) (by decide),
  fun d σ S l0 l1 l2 l3 l5 l6 l7 l8 x => ex_iload (show decode mX7_can.2.1 223 = .ok (.iload 4, 2) by decide +kernel) rfl,
  fun d σ S l0 l1 l2 l4 l5 l6 l7 l8 x y => ex_istore (show decode mX7_can.2.1 225 = .ok (.istore 4, 2) by decide +kernel) (Nat.le_of_ble_eq_true rfl) rfl,
  fun d σ S l0 l1 l2 l3 l4 l7 l8 x y => ex_iinc (show decode mX7_can.2.1 227 = .ok (.iinc 6 1, 3) by decide +kernel) rfl (by decide +kernel) (Nat.le_of_ble_eq_true rfl) rfl,
  fun d σ S l0 l1 l2 l3 l4 l5 l6 l7 l8 => ex_goto (show decode mX7_can.2.1 230 = .ok (.goto (-114), 3) by decide +kernel) (by decide),
  fun d σ S l0 l1 l2 l3 l4 l5 l6 l7 l8 => ex_iconst (show decode mX7_can.2.1 233 = .ok (.iconst 0, 1) by decide +kernel) (by decide +kernel),
  fun d σ S l0 l1 l2 l3 l4 l6 l7 l8 x y => ex_istore (show decode mX7_can.2.1 234 = .ok (.istore 6, 2) by decide +kernel) (Nat.le_of_ble_eq_true rfl) rfl,
  fun d σ S l1 l2 l3 l4 l5 l6 l7 l8 k => ex_aload_n (show decode mX7_can.2.1 238 = .ok (.aload_n 0, 1) by decide +kernel) rfl,
  fun d σ S l0 l1 l2 l3 l4 l5 l6 l7 l8 => ex_getr (idx := 7) (ci := 7) (ff := 0) (n := 26) (hh := 833) (by decide +kernel),
  fun d σ S l0 l1 l2 l3 l4 l5 l6 l7 l8 => ex_bipush (show decode mX7_can.2.1 242 = .ok (.bipush 7, 2) by decide +kernel) (by decide +kernel),
  fun d σ S l0 l1 l2 l3 l4 l5 l6 l7 l8 x => ex_iald (by decide +kernel),
  fun d σ S l0 l1 l2 l3 l4 l5 l6 l7 l8 x y => ex_cge (show decode mX7_can.2.1 245 = .ok (.if_icmp .ge 110, 3) by decide +kernel) (by decide),
  fun d σ S l1 l2 l3 l4 l5 l6 l7 l8 k => ex_aload_n (show decode mX7_can.2.1 248 = .ok (.aload_n 0, 1) by decide +kernel) rfl,
  fun d σ S l0 l1 l2 l3 l4 l5 l7 l8 x => ex_iload (show decode mX7_can.2.1 249 = .ok (.iload 6, 2) by decide +kernel) rfl,
  fun d σ S l0 l1 l2 l4 l5 l6 l7 l8 x => ex_iload_n (show decode mX7_can.2.1 251 = .ok (.iload_n 3, 1) by decide +kernel) rfl,
  fun d σ S l0 l1 l2 l3 l5 l6 l7 l8 x => ex_iload (show decode mX7_can.2.1 252 = .ok (.iload 4, 2) by decide +kernel) rfl,
  fun d σ S l1 l2 l3 l4 l5 l6 l7 l8 k => ex_aload_n (show decode mX7_can.2.1 254 = .ok (.aload_n 0, 1) by decide +kernel) rfl,
  fun d σ S l0 l1 l2 l3 l4 l5 l6 l7 l8 => ex_getr (idx := 53) (ci := 7) (ff := 25) (n := 26) (hh := 858) (by decide +kernel),
  fun d σ S l0 l1 l2 l4 l5 l6 l7 l8 x => ex_iload_n (show decode mX7_can.2.1 258 = .ok (.iload_n 3, 1) by decide +kernel) rfl,
  fun d σ S l0 l1 l2 l3 l4 l5 l6 l7 l8 x => ex_iald (by decide +kernel),
  fun d σ S l0 l1 l2 l3 l4 l6 l7 l8 x => ex_iload (show decode mX7_can.2.1 260 = .ok (.iload 5, 2) by decide +kernel) rfl,
  fun d σ l0 l1 l2 l3 l4 l5 l6 l7 l8 x0 x1 x2 x3 x4 => ex_iv (hs := [1022, 1024, 67, 1025, 101]) (show decode mX7_can.2.1 262 = .ok (.invokevirtual 161, 3) by decide +kernel) lkV_7_161 ⟨rfl, Nat.le_of_ble_eq_true rfl, Nat.le_of_ble_eq_true rfl, fun _ => rfl⟩ rfl rfl,
  fun d σ S l0 l1 l2 l3 l4 l5 l6 l7 l8 x => ex_zeq (show decode mX7_can.2.1 265 = .ok (.ifCond .eq 84, 3) by decide +kernel) (by decide),
  fun d σ S l1 l2 l3 l4 l5 l6 l7 l8 k => ex_aload_n (show decode mX7_can.2.1 268 = .ok (.aload_n 0, 1) by decide +kernel) rfl,
  fun d σ S l0 l1 l2 l3 l4 l5 l6 l7 l8 => ex_getr (idx := 53) (ci := 7) (ff := 25) (n := 26) (hh := 858) (by decide +kernel),
  fun d σ S l0 l1 l2 l4 l5 l6 l7 l8 x => ex_iload_n (show decode mX7_can.2.1 272 = .ok (.iload_n 3, 1) by decide +kernel) rfl,
  fun d σ S l0 l1 l2 l3 l4 l5 l6 l7 l8 x => ex_iald (by decide +kernel),
  fun d σ S l1 l2 l3 l4 l5 l6 l7 l8 k => ex_aload_n (show decode mX7_can.2.1 274 = .ok (.aload_n 0, 1) by decide +kernel) rfl,
  fun d σ S l0 l1 l2 l3 l4 l5 l6 l7 l8 => ex_getr (idx := 7) (ci := 7) (ff := 0) (n := 26) (hh := 833) (by decide +kernel),
  fun d σ S l0 l1 l2 l3 l4 l5 l6 l7 l8 => ex_bipush (show decode mX7_can.2.1 278 = .ok (.bipush 9, 2) by decide +kernel) (by decide +kernel),
  fun d σ S l0 l1 l2 l3 l4 l5 l7 l8 x => ex_iload (show decode mX7_can.2.1 280 = .ok (.iload 6, 2) by decide +kernel) rfl,
  fun d σ S l0 l1 l2 l3 l4 l5 l6 l7 l8 x y => ex_iadd (show decode mX7_can.2.1 282 = .ok (.iadd, 1) by decide +kernel),
  fun d σ S l0 l1 l2 l3 l4 l5 l6 l7 l8 x => ex_iald (by decide +kernel),
  fun d σ S l0 l1 l2 l3 l4 l5 l6 l7 l8 => ex_iconst (show decode mX7_can.2.1 284 = .ok (.iconst 5, 1) by decide +kernel) (by decide +kernel),
  fun d σ S l0 l1 l2 l3 l4 l5 l6 l7 l8 x y => ex_cne (show decode mX7_can.2.1 285 = .ok (.if_icmp .ne 7, 3) by decide +kernel) (by decide),
  fun d σ S l0 l1 l2 l3 l4 l5 l6 l7 l8 => ex_iconst (show decode mX7_can.2.1 288 = .ok (.iconst 0, 1) by decide +kernel) (by decide +kernel)⟩
theorem kX7_can_4 : (∀ (d : Nat) (σ : Sg) (S : List Value) (l0 l1 l2 l3 l4 l5 l6 l7 l8 : Value), exec d mX7_can 289 [l0, l1, l2, l3, l4, l5, l6, l7, l8] S σ = exec d mX7_can 300 [l0, l1, l2, l3, l4, l5, l6, l7, l8] S σ) ∧
  (∀ (d : Nat) (σ : Sg) (S : List Value) (l1 l2 l3 l4 l5 l6 l7 l8 : Value) (k : Nat), exec d mX7_can 292 [.ref k, l1, l2, l3, l4, l5, l6, l7, l8] S σ = exec d mX7_can 293 [.ref k, l1, l2, l3, l4, l5, l6, l7, l8] (.ref k :: S) σ) ∧
  (∀ (d : Nat) (σ : Sg) (S : List Value) (l0 l1 l2 l3 l4 l5 l7 l8 : Value) (x : Int32), exec d mX7_can 293 [l0, l1, l2, l3, l4, l5, .int x, l7, l8] S σ = exec d mX7_can 295 [l0, l1, l2, l3, l4, l5, .int x, l7, l8] (.int x :: S) σ) ∧
  (∀ (d : Nat) (σ : Sg) (S : List Value) (l0 l1 l2 l3 l5 l6 l7 l8 : Value) (x : Int32), exec d mX7_can 295 [l0, l1, l2, l3, .int x, l5, l6, l7, l8] S σ = exec d mX7_can 297 [l0, l1, l2, l3, .int x, l5, l6, l7, l8] (.int x :: S) σ) ∧
  (∀ (d : Nat) (σ : Sg) (l0 l1 l2 l3 l4 l5 l6 l7 l8 : Value) (x0 x1 x3 : Int32), exec d mX7_can 297 [l0, l1, l2, l3, l4, l5, l6, l7, l8] [.int x0, .int x1, .ref 50, .int x3] σ = kb (cal d mX7_takesNow [.ref 50, .int x1, .int x0] σ) (fun rs σ2 => exec d mX7_can 300 [l0, l1, l2, l3, l4, l5, l6, l7, l8] (rs ++ [.int x3]) σ2)) ∧
  (∀ (d : Nat) (σ : Sg) (S : List Value) (l0 l1 l2 l3 l4 l5 l6 l7 l8 : Value) (x y : Int32), exec d mX7_can 300 [l0, l1, l2, l3, l4, l5, l6, l7, l8] (.int y :: .int x :: S) σ = exec d mX7_can 301 [l0, l1, l2, l3, l4, l5, l6, l7, l8] (.int (x - y) :: S) σ) ∧
  (∀ (d : Nat) (σ : Sg) (S : List Value) (l0 l1 l2 l3 l4 l5 l7 l8 : Value) (x y : Int32), exec d mX7_can 301 [l0, l1, l2, l3, l4, l5, .int y, l7, l8] (.int x :: S) σ = exec d mX7_can 303 [l0, l1, l2, l3, l4, l5, .int y, .int x, l8] S σ) ∧
  (∀ (d : Nat) (σ : Sg) (S : List Value) (l0 l1 l2 l4 l5 l6 l7 l8 : Value) (x : Int32), exec d mX7_can 303 [l0, l1, l2, .int x, l4, l5, l6, l7, l8] S σ = exec d mX7_can 304 [l0, l1, l2, .int x, l4, l5, l6, l7, l8] (.int x :: S) σ) ∧
  (∀ (d : Nat) (σ : Sg) (S : List Value) (l0 l1 l2 l3 l4 l5 l6 l7 l8 : Value), exec d mX7_can 304 [l0, l1, l2, l3, l4, l5, l6, l7, l8] S σ = exec d mX7_can 305 [l0, l1, l2, l3, l4, l5, l6, l7, l8] (.int (nI 1) :: S) σ) ∧
  (∀ (d : Nat) (σ : Sg) (S : List Value) (l0 l1 l2 l3 l4 l5 l7 l8 : Value) (x : Int32), exec d mX7_can 305 [l0, l1, l2, l3, l4, l5, .int x, l7, l8] S σ = exec d mX7_can 307 [l0, l1, l2, l3, l4, l5, .int x, l7, l8] (.int x :: S) σ) ∧
  (∀ (d : Nat) (σ : Sg) (S : List Value) (l0 l1 l2 l3 l4 l5 l6 l7 l8 : Value) (x y : Int32), exec d mX7_can 307 [l0, l1, l2, l3, l4, l5, l6, l7, l8] (.int y :: .int x :: S) σ = exec d mX7_can 308 [l0, l1, l2, l3, l4, l5, l6, l7, l8] (.int (x <<< (y &&& 31)) :: S) σ) ∧
  (∀ (d : Nat) (σ : Sg) (S : List Value) (l0 l1 l2 l3 l4 l5 l6 l7 l8 : Value) (x y : Int32), exec d mX7_can 308 [l0, l1, l2, l3, l4, l5, l6, l7, l8] (.int y :: .int x :: S) σ = exec d mX7_can 309 [l0, l1, l2, l3, l4, l5, l6, l7, l8] (.int (x ||| y) :: S) σ) ∧
  (∀ (d : Nat) (σ : Sg) (S : List Value) (l0 l1 l2 l3 l4 l5 l6 l8 : Value) (x y : Int32), exec d mX7_can 309 [l0, l1, l2, l3, l4, l5, l6, .int y, l8] (.int x :: S) σ = exec d mX7_can 311 [l0, l1, l2, l3, l4, l5, l6, .int y, .int x] S σ) ∧
  (∀ (d : Nat) (σ : Sg) (S : List Value) (l1 l2 l3 l4 l5 l6 l7 l8 : Value) (k : Nat), exec d mX7_can 311 [.ref k, l1, l2, l3, l4, l5, l6, l7, l8] S σ = exec d mX7_can 312 [.ref k, l1, l2, l3, l4, l5, l6, l7, l8] (.ref k :: S) σ) ∧
  (∀ (d : Nat) (σ : Sg) (S : List Value) (l0 l1 l2 l3 l4 l5 l6 l7 l8 : Value), exec d mX7_can 312 [l0, l1, l2, l3, l4, l5, l6, l7, l8] (.ref 50 :: S) σ = exec d mX7_can 315 [l0, l1, l2, l3, l4, l5, l6, l7, l8] (.ref 65 :: S) σ) ∧
  (∀ (d : Nat) (σ : Sg) (S : List Value) (l0 l1 l2 l3 l4 l5 l6 l7 : Value) (x : Int32), exec d mX7_can 315 [l0, l1, l2, l3, l4, l5, l6, l7, .int x] S σ = exec d mX7_can 317 [l0, l1, l2, l3, l4, l5, l6, l7, .int x] (.int x :: S) σ) ∧
  (∀ (d : Nat) (σ : Sg) (S : List Value) (l0 l1 l2 l3 l4 l5 l6 l8 : Value) (x : Int32), exec d mX7_can 317 [l0, l1, l2, l3, l4, l5, l6, .int x, l8] S σ = exec d mX7_can 319 [l0, l1, l2, l3, l4, l5, l6, .int x, l8] (.int x :: S) σ) ∧
  (∀ (d : Nat) (σ : Sg) (S : List Value) (l1 l2 l3 l4 l5 l6 l7 l8 : Value) (k : Nat), exec d mX7_can 319 [.ref k, l1, l2, l3, l4, l5, l6, l7, l8] S σ = exec d mX7_can 320 [.ref k, l1, l2, l3, l4, l5, l6, l7, l8] (.ref k :: S) σ) ∧
  (∀ (d : Nat) (σ : Sg) (S : List Value) (l0 l1 l2 l3 l4 l5 l6 l7 l8 : Value), exec d mX7_can 320 [l0, l1, l2, l3, l4, l5, l6, l7, l8] (.ref 50 :: S) σ = exec d mX7_can 323 [l0, l1, l2, l3, l4, l5, l6, l7, l8] (.ref 65 :: S) σ) ∧
  (∀ (d : Nat) (σ : Sg) (S : List Value) (l0 l1 l2 l3 l4 l5 l6 l7 : Value) (x : Int32), exec d mX7_can 323 [l0, l1, l2, l3, l4, l5, l6, l7, .int x] S σ = exec d mX7_can 325 [l0, l1, l2, l3, l4, l5, l6, l7, .int x] (.int x :: S) σ) ∧
  (∀ (d : Nat) (σ : Sg) (S : List Value) (l0 l1 l2 l3 l4 l5 l6 l7 l8 : Value) (x : Int32), exec d mX7_can 325 [l0, l1, l2, l3, l4, l5, l6, l7, l8] (.int x :: .ref 65 :: S) σ = if inb x 128 = true then exec d mX7_can 326 [l0, l1, l2, l3, l4, l5, l6, l7, l8] (.int (σ 65 x.toNatClampNeg) :: S) σ else none) ∧
  (∀ (d : Nat) (σ : Sg) (S : List Value) (l0 l1 l2 l3 l4 l5 l6 l7 l8 : Value) (x y : Int32), exec d mX7_can 326 [l0, l1, l2, l3, l4, l5, l6, l7, l8] (.int y :: .int x :: S) σ = if x ≤ y then exec d mX7_can 334 [l0, l1, l2, l3, l4, l5, l6, l7, l8] S σ else exec d mX7_can 329 [l0, l1, l2, l3, l4, l5, l6, l7, l8] S σ) ∧
  (∀ (d : Nat) (σ : Sg) (S : List Value) (l0 l1 l2 l3 l4 l5 l6 l8 : Value) (x : Int32), exec d mX7_can 329 [l0, l1, l2, l3, l4, l5, l6, .int x, l8] S σ = exec d mX7_can 331 [l0, l1, l2, l3, l4, l5, l6, .int x, l8] (.int x :: S) σ) ∧
  (∀ (d : Nat) (σ : Sg) (S : List Value) (l0 l1 l2 l3 l4 l5 l6 l7 l8 : Value), exec d mX7_can 331 [l0, l1, l2, l3, l4, l5, l6, l7, l8] S σ = exec d mX7_can 341 [l0, l1, l2, l3, l4, l5, l6, l7, l8] S σ) ∧
  (∀ (d : Nat) (σ : Sg) (S : List Value) (l1 l2 l3 l4 l5 l6 l7 l8 : Value) (k : Nat), exec d mX7_can 334 [.ref k, l1, l2, l3, l4, l5, l6, l7, l8] S σ = exec d mX7_can 335 [.ref k, l1, l2, l3, l4, l5, l6, l7, l8] (.ref k :: S) σ) ∧
  (∀ (d : Nat) (σ : Sg) (S : List Value) (l0 l1 l2 l3 l4 l5 l6 l7 l8 : Value), exec d mX7_can 335 [l0, l1, l2, l3, l4, l5, l6, l7, l8] (.ref 50 :: S) σ = exec d mX7_can 338 [l0, l1, l2, l3, l4, l5, l6, l7, l8] (.ref 65 :: S) σ) ∧
  (∀ (d : Nat) (σ : Sg) (S : List Value) (l0 l1 l2 l3 l4 l5 l6 l7 : Value) (x : Int32), exec d mX7_can 338 [l0, l1, l2, l3, l4, l5, l6, l7, .int x] S σ = exec d mX7_can 340 [l0, l1, l2, l3, l4, l5, l6, l7, .int x] (.int x :: S) σ) ∧
  (∀ (d : Nat) (σ : Sg) (S : List Value) (l0 l1 l2 l3 l4 l5 l6 l7 l8 : Value) (x : Int32), exec d mX7_can 340 [l0, l1, l2, l3, l4, l5, l6, l7, l8] (.int x :: .ref 65 :: S) σ = if inb x 128 = true then exec d mX7_can 341 [l0, l1, l2, l3, l4, l5, l6, l7, l8] (.int (σ 65 x.toNatClampNeg) :: S) σ else none) ∧
  (∀ (d : Nat) (σ : Sg) (S : List Value) (l0 l1 l2 l3 l4 l5 l6 l7 l8 : Value) (x y : Int32), exec d mX7_can 341 [l0, l1, l2, l3, l4, l5, l6, l7, l8] (.int y :: .int x :: .ref 65 :: S) σ = if inb x 128 = true then exec d mX7_can 342 [l0, l1, l2, l3, l4, l5, l6, l7, l8] S (up σ 65 x.toNatClampNeg y) else none) ∧
  (∀ (d : Nat) (σ : Sg) (S : List Value) (l0 l1 l3 l4 l5 l6 l7 l8 : Value) (x : Int32), exec d mX7_can 342 [l0, l1, .int x, l3, l4, l5, l6, l7, l8] S σ = exec d mX7_can 343 [l0, l1, .int x, l3, l4, l5, l6, l7, l8] (.int x :: S) σ) ∧
  (∀ (d : Nat) (σ : Sg) (S : List Value) (l0 l1 l2 l3 l4 l5 l6 l7 l8 : Value), exec d mX7_can 343 [l0, l1, l2, l3, l4, l5, l6, l7, l8] S σ = exec d mX7_can 344 [l0, l1, l2, l3, l4, l5, l6, l7, l8] (.int (nI 1) :: S) σ) ∧
  (∀ (d : Nat) (σ : Sg) (S : List Value) (l0 l1 l2 l3 l4 l5 l7 l8 : Value) (x : Int32), exec d mX7_can 344 [l0, l1, l2, l3, l4, l5, .int x, l7, l8] S σ = exec d mX7_can 346 [l0, l1, l2, l3, l4, l5, .int x, l7, l8] (.int x :: S) σ) ∧
  (∀ (d : Nat) (σ : Sg) (S : List Value) (l0 l1 l2 l3 l4 l5 l6 l7 l8 : Value) (x y : Int32), exec d mX7_can 346 [l0, l1, l2, l3, l4, l5, l6, l7, l8] (.int y :: .int x :: S) σ = exec d mX7_can 347 [l0, l1, l2, l3, l4, l5, l6, l7, l8] (.int (x <<< (y &&& 31)) :: S) σ) ∧
  (∀ (d : Nat) (σ : Sg) (S : List Value) (l0 l1 l2 l3 l4 l5 l6 l7 l8 : Value) (x y : Int32), exec d mX7_can 347 [l0, l1, l2, l3, l4, l5, l6, l7, l8] (.int y :: .int x :: S) σ = exec d mX7_can 348 [l0, l1, l2, l3, l4, l5, l6, l7, l8] (.int (x ||| y) :: S) σ) ∧
  (∀ (d : Nat) (σ : Sg) (S : List Value) (l0 l2 l3 l4 l5 l6 l7 l8 : Value) (x y : Int32), exec d mX7_can 348 [l0, .int y, l2, l3, l4, l5, l6, l7, l8] (.int x :: S) σ = exec d mX7_can 349 [l0, .int y, .int x, l3, l4, l5, l6, l7, l8] S σ) ∧
  (∀ (d : Nat) (σ : Sg) (S : List Value) (l0 l1 l2 l3 l4 l7 l8 : Value) (x y : Int32), exec d mX7_can 349 [l0, l1, l2, l3, l4, .int y, .int x, l7, l8] S σ = exec d mX7_can 352 [l0, l1, l2, l3, l4, .int y, .int (x + nI 1), l7, l8] S σ) ∧
  (∀ (d : Nat) (σ : Sg) (S : List Value) (l0 l1 l2 l3 l4 l5 l6 l7 l8 : Value), exec d mX7_can 352 [l0, l1, l2, l3, l4, l5, l6, l7, l8] S σ = exec d mX7_can 236 [l0, l1, l2, l3, l4, l5, l6, l7, l8] S σ) ∧
  (∀ (d : Nat) (σ : Sg) (S : List Value) (l0 l1 l4 l5 l6 l7 l8 : Value) (x y : Int32), exec d mX7_can 355 [l0, l1, .int y, .int x, l4, l5, l6, l7, l8] S σ = exec d mX7_can 358 [l0, l1, .int y, .int (x + nI 1), l4, l5, l6, l7, l8] S σ) ∧
  (∀ (d : Nat) (σ : Sg) (S : List Value) (l0 l1 l2 l3 l4 l5 l6 l7 l8 : Value), exec d mX7_can 358 [l0, l1, l2, l3, l4, l5, l6, l7, l8] S σ = exec d mX7_can 66 [l0, l1, l2, l3, l4, l5, l6, l7, l8] S σ) ∧
  (∀ (d : Nat) (σ : Sg) (S : List Value) (l0 l1 l3 l4 l5 l6 l7 l8 : Value) (x : Int32), exec d mX7_can 361 [l0, l1, .int x, l3, l4, l5, l6, l7, l8] S σ = exec d mX7_can 362 [l0, l1, .int x, l3, l4, l5, l6, l7, l8] (.int x :: S) σ) :=
  ⟨fun d σ S l0 l1 l2 l3 l4 l5 l6 l7 l8 => ex_goto (show decode mX7_can.2.1 289 = .ok (.goto 11, 3) by decide +kernel) (by decide),
  fun d σ S l1 l2 l3 l4 l5 l6 l7 l8 k => ex_aload_n (show decode mX7_can.2.1 292 = .ok (.aload_n 0, 1) by decide +kernel) rfl,
  fun d σ S l0 l1 l2 l3 l4 l5 l7 l8 x => ex_iload (show decode mX7_can.2.1 293 = .ok (.iload 6, 2) by decide +kernel) rfl,
  fun d σ S l0 l1 l2 l3 l5 l6 l7 l8 x => ex_iload (show decode mX7_can.2.1 295 = .ok (.iload 4, 2) by decide +kernel) rfl,
  fun d σ l0 l1 l2 l3 l4 l5 l6 l7 l8 x0 x1 x3 => ex_iv (hs := [1026, 1028, 68, 1029, 101]) (show decode mX7_can.2.1 297 = .ok (.invokevirtual 154, 3) by decide +kernel) lkV_7_154 ⟨rfl, Nat.le_of_ble_eq_true rfl, Nat.le_of_ble_eq_true rfl, fun _ => rfl⟩ rfl rfl,
  fun d σ S l0 l1 l2 l3 l4 l5 l6 l7 l8 x y => ex_isub (show decode mX7_can.2.1 300 = .ok (.isub, 1) by decide +kernel),
  fun d σ S l0 l1 l2 l3 l4 l5 l7 l8 x y => ex_istore (show decode mX7_can.2.1 301 = .ok (.istore 7, 2) by decide +kernel) (Nat.le_of_ble_eq_true rfl) rfl,
  fun d σ S l0 l1 l2 l4 l5 l6 l7 l8 x => ex_iload_n (show decode mX7_can.2.1 303 = .ok (.iload_n 3, 1) by decide +kernel) rfl,
  fun d σ S l0 l1 l2 l3 l4 l5 l6 l7 l8 => ex_iconst (show decode mX7_can.2.1 304 = .ok (.iconst 1, 1) by decide +kernel) (by decide +kernel),
  fun d σ S l0 l1 l2 l3 l4 l5 l7 l8 x => ex_iload (show decode mX7_can.2.1 305 = .ok (.iload 6, 2) by decide +kernel) rfl,
  fun d σ S l0 l1 l2 l3 l4 l5 l6 l7 l8 x y => ex_ishl (show decode mX7_can.2.1 307 = .ok (.ishl, 1) by decide +kernel),
  fun d σ S l0 l1 l2 l3 l4 l5 l6 l7 l8 x y => ex_ior (show decode mX7_can.2.1 308 = .ok (.ior, 1) by decide +kernel),
  fun d σ S l0 l1 l2 l3 l4 l5 l6 l8 x y => ex_istore (show decode mX7_can.2.1 309 = .ok (.istore 8, 2) by decide +kernel) (Nat.le_of_ble_eq_true rfl) rfl,
  fun d σ S l1 l2 l3 l4 l5 l6 l7 l8 k => ex_aload_n (show decode mX7_can.2.1 311 = .ok (.aload_n 0, 1) by decide +kernel) rfl,
  fun d σ S l0 l1 l2 l3 l4 l5 l6 l7 l8 => ex_getr (idx := 53) (ci := 7) (ff := 25) (n := 26) (hh := 858) (by decide +kernel),
  fun d σ S l0 l1 l2 l3 l4 l5 l6 l7 x => ex_iload (show decode mX7_can.2.1 315 = .ok (.iload 8, 2) by decide +kernel) rfl,
  fun d σ S l0 l1 l2 l3 l4 l5 l6 l8 x => ex_iload (show decode mX7_can.2.1 317 = .ok (.iload 7, 2) by decide +kernel) rfl,
  fun d σ S l1 l2 l3 l4 l5 l6 l7 l8 k => ex_aload_n (show decode mX7_can.2.1 319 = .ok (.aload_n 0, 1) by decide +kernel) rfl,
  fun d σ S l0 l1 l2 l3 l4 l5 l6 l7 l8 => ex_getr (idx := 53) (ci := 7) (ff := 25) (n := 26) (hh := 858) (by decide +kernel),
  fun d σ S l0 l1 l2 l3 l4 l5 l6 l7 x => ex_iload (show decode mX7_can.2.1 323 = .ok (.iload 8, 2) by decide +kernel) rfl,
  fun d σ S l0 l1 l2 l3 l4 l5 l6 l7 l8 x => ex_iald (by decide +kernel),
  fun d σ S l0 l1 l2 l3 l4 l5 l6 l7 l8 x y => ex_cle (show decode mX7_can.2.1 326 = .ok (.if_icmp .le 8, 3) by decide +kernel) (by decide),
  fun d σ S l0 l1 l2 l3 l4 l5 l6 l8 x => ex_iload (show decode mX7_can.2.1 329 = .ok (.iload 7, 2) by decide +kernel) rfl,
  fun d σ S l0 l1 l2 l3 l4 l5 l6 l7 l8 => ex_goto (show decode mX7_can.2.1 331 = .ok (.goto 10, 3) by decide +kernel) (by decide),
  fun d σ S l1 l2 l3 l4 l5 l6 l7 l8 k => ex_aload_n (show decode mX7_can.2.1 334 = .ok (.aload_n 0, 1) by decide +kernel) rfl,
  fun d σ S l0 l1 l2 l3 l4 l5 l6 l7 l8 => ex_getr (idx := 53) (ci := 7) (ff := 25) (n := 26) (hh := 858) (by decide +kernel),
  fun d σ S l0 l1 l2 l3 l4 l5 l6 l7 x => ex_iload (show decode mX7_can.2.1 338 = .ok (.iload 8, 2) by decide +kernel) rfl,
  fun d σ S l0 l1 l2 l3 l4 l5 l6 l7 l8 x => ex_iald (by decide +kernel),
  fun d σ S l0 l1 l2 l3 l4 l5 l6 l7 l8 x y => ex_iast (by decide +kernel),
  fun d σ S l0 l1 l3 l4 l5 l6 l7 l8 x => ex_iload_n (show decode mX7_can.2.1 342 = .ok (.iload_n 2, 1) by decide +kernel) rfl,
  fun d σ S l0 l1 l2 l3 l4 l5 l6 l7 l8 => ex_iconst (show decode mX7_can.2.1 343 = .ok (.iconst 1, 1) by decide +kernel) (by decide +kernel),
  fun d σ S l0 l1 l2 l3 l4 l5 l7 l8 x => ex_iload (show decode mX7_can.2.1 344 = .ok (.iload 6, 2) by decide +kernel) rfl,
  fun d σ S l0 l1 l2 l3 l4 l5 l6 l7 l8 x y => ex_ishl (show decode mX7_can.2.1 346 = .ok (.ishl, 1) by decide +kernel),
  fun d σ S l0 l1 l2 l3 l4 l5 l6 l7 l8 x y => ex_ior (show decode mX7_can.2.1 347 = .ok (.ior, 1) by decide +kernel),
  fun d σ S l0 l2 l3 l4 l5 l6 l7 l8 x y => ex_istore_n (show decode mX7_can.2.1 348 = .ok (.istore_n 2, 1) by decide +kernel) (Nat.le_of_ble_eq_true rfl) rfl,
  fun d σ S l0 l1 l2 l3 l4 l7 l8 x y => ex_iinc (show decode mX7_can.2.1 349 = .ok (.iinc 6 1, 3) by decide +kernel) rfl (by decide +kernel) (Nat.le_of_ble_eq_true rfl) rfl,
  fun d σ S l0 l1 l2 l3 l4 l5 l6 l7 l8 => ex_goto (show decode mX7_can.2.1 352 = .ok (.goto (-116), 3) by decide +kernel) (by decide),
  fun d σ S l0 l1 l4 l5 l6 l7 l8 x y => ex_iinc (show decode mX7_can.2.1 355 = .ok (.iinc 3 1, 3) by decide +kernel) rfl (by decide +kernel) (Nat.le_of_ble_eq_true rfl) rfl,
  fun d σ S l0 l1 l2 l3 l4 l5 l6 l7 l8 => ex_goto (show decode mX7_can.2.1 358 = .ok (.goto (-292), 3) by decide +kernel) (by decide),
  fun d σ S l0 l1 l3 l4 l5 l6 l7 l8 x => ex_iload_n (show decode mX7_can.2.1 361 = .ok (.iload_n 2, 1) by decide +kernel) rfl⟩
theorem kX7_can_5 : ∀ (d : Nat) (σ : Sg) (l0 l1 l2 l3 l4 l5 l6 l7 l8 : Value) (x : Int32), exec d mX7_can 362 [l0, l1, l2, l3, l4, l5, l6, l7, l8] [.int x] σ = some (some (.int x), σ) := fun d σ l0 l1 l2 l3 l4 l5 l6 l7 l8 x => ex_iret (show decode mX7_can.2.1 362 = .ok (.ireturn, 1) by decide +kernel) rfl
theorem hX7_can_22 : ∀ (d : Nat) (σ : Sg) (S : List Value) (l0 l1 l3 l4 l5 l6 l7 l8 : Value) (x : Int32), exec d mX7_can 22 [l0, l1, .int x, l3, l4, l5, l6, l7, l8] S σ = exec d mX7_can 23 [l0, l1, .int x, l3, l4, l5, l6, l7, l8] (.int x :: S) σ := fun d σ S l0 l1 l3 l4 l5 l6 l7 l8 x => ex_iload_n (show decode mX7_can.2.1 22 = .ok (.iload_n 2, 1) by decide +kernel) rfl
theorem hX7_can_66 : ∀ (d : Nat) (σ : Sg) (S : List Value) (l0 l1 l2 l4 l5 l6 l7 l8 : Value) (x : Int32), exec d mX7_can 66 [l0, l1, l2, .int x, l4, l5, l6, l7, l8] S σ = exec d mX7_can 67 [l0, l1, l2, .int x, l4, l5, l6, l7, l8] (.int x :: S) σ := fun d σ S l0 l1 l2 l4 l5 l6 l7 l8 x => ex_iload_n (show decode mX7_can.2.1 66 = .ok (.iload_n 3, 1) by decide +kernel) rfl
theorem hX7_can_116 : ∀ (d : Nat) (σ : Sg) (S : List Value) (l0 l1 l2 l3 l4 l5 l7 l8 : Value) (x : Int32), exec d mX7_can 116 [l0, l1, l2, l3, l4, l5, .int x, l7, l8] S σ = exec d mX7_can 118 [l0, l1, l2, l3, l4, l5, .int x, l7, l8] (.int x :: S) σ := fun d σ S l0 l1 l2 l3 l4 l5 l7 l8 x => ex_iload (show decode mX7_can.2.1 116 = .ok (.iload 6, 2) by decide +kernel) rfl
theorem hX7_can_236 : ∀ (d : Nat) (σ : Sg) (S : List Value) (l0 l1 l2 l3 l4 l5 l7 l8 : Value) (x : Int32), exec d mX7_can 236 [l0, l1, l2, l3, l4, l5, .int x, l7, l8] S σ = exec d mX7_can 238 [l0, l1, l2, l3, l4, l5, .int x, l7, l8] (.int x :: S) σ := fun d σ S l0 l1 l2 l3 l4 l5 l7 l8 x => ex_iload (show decode mX7_can.2.1 236 = .ok (.iload 6, 2) by decide +kernel) rfl
theorem aX7_can_50 : ∀ (d : Nat)  (σ : Sg), cal (d + 1) mX7_can [.ref 50] σ = exec d mX7_can 0 [.ref 50, uu, uu, uu, uu, uu, uu, uu, uu] [] σ := fun _ _ => rfl
theorem kX7_pricesOf : (∀ (d : Nat) (σ : Sg) (S : List Value) (l0 l1 l2 l3 : Value), exec d mX7_pricesOf 0 [l0, l1, l2, l3] S σ = exec d mX7_pricesOf 1 [l0, l1, l2, l3] (.int (nI 0) :: S) σ) ∧
  (∀ (d : Nat) (σ : Sg) (S : List Value) (l0 l2 l3 : Value) (x y : Int32), exec d mX7_pricesOf 1 [l0, .int y, l2, l3] (.int x :: S) σ = exec d mX7_pricesOf 2 [l0, .int y, .int x, l3] S σ) ∧
  (∀ (d : Nat) (σ : Sg) (S : List Value) (l0 l1 l2 l3 : Value), exec d mX7_pricesOf 2 [l0, l1, l2, l3] S σ = exec d mX7_pricesOf 3 [l0, l1, l2, l3] (.int (nI 0) :: S) σ) ∧
  (∀ (d : Nat) (σ : Sg) (S : List Value) (l0 l1 l3 : Value) (x y : Int32), exec d mX7_pricesOf 3 [l0, l1, .int y, l3] (.int x :: S) σ = exec d mX7_pricesOf 4 [l0, l1, .int y, .int x] S σ) ∧
  (∀ (d : Nat) (σ : Sg) (S : List Value) (l1 l2 l3 : Value) (k : Nat), exec d mX7_pricesOf 5 [.ref k, l1, l2, l3] S σ = exec d mX7_pricesOf 6 [.ref k, l1, l2, l3] (.ref k :: S) σ) ∧
  (∀ (d : Nat) (σ : Sg) (S : List Value) (l0 l1 l2 l3 : Value), exec d mX7_pricesOf 6 [l0, l1, l2, l3] (.ref 50 :: S) σ = exec d mX7_pricesOf 9 [l0, l1, l2, l3] (.ref 51 :: S) σ) ∧
  (∀ (d : Nat) (σ : Sg) (S : List Value) (l0 l1 l2 l3 : Value), exec d mX7_pricesOf 9 [l0, l1, l2, l3] S σ = exec d mX7_pricesOf 11 [l0, l1, l2, l3] (.int (nI 8) :: S) σ) ∧
  (∀ (d : Nat) (σ : Sg) (S : List Value) (l0 l1 l2 l3 : Value) (x : Int32), exec d mX7_pricesOf 11 [l0, l1, l2, l3] (.int x :: .ref 51 :: S) σ = if inb x 208 = true then exec d mX7_pricesOf 12 [l0, l1, l2, l3] (.int (σ 51 x.toNatClampNeg) :: S) σ else none) ∧
  (∀ (d : Nat) (σ : Sg) (S : List Value) (l0 l1 l2 l3 : Value) (x y : Int32), exec d mX7_pricesOf 12 [l0, l1, l2, l3] (.int y :: .int x :: S) σ = if y ≤ x then exec d mX7_pricesOf 45 [l0, l1, l2, l3] S σ else exec d mX7_pricesOf 15 [l0, l1, l2, l3] S σ) ∧
  (∀ (d : Nat) (σ : Sg) (S : List Value) (l0 l1 l3 : Value) (x : Int32), exec d mX7_pricesOf 15 [l0, l1, .int x, l3] S σ = exec d mX7_pricesOf 16 [l0, l1, .int x, l3] (.int x :: S) σ) ∧
  (∀ (d : Nat) (σ : Sg) (S : List Value) (l0 l2 l3 : Value) (x : Int32), exec d mX7_pricesOf 16 [l0, .int x, l2, l3] S σ = exec d mX7_pricesOf 17 [l0, .int x, l2, l3] (.int x :: S) σ) ∧
  (∀ (d : Nat) (σ : Sg) (S : List Value) (l0 l1 l2 : Value) (x : Int32), exec d mX7_pricesOf 17 [l0, l1, l2, .int x] S σ = exec d mX7_pricesOf 18 [l0, l1, l2, .int x] (.int x :: S) σ) ∧
  (∀ (d : Nat) (σ : Sg) (l0 l1 l2 l3 : Value) (x0 x1 x2 : Int32), exec d mX7_pricesOf 18 [l0, l1, l2, l3] [.int x0, .int x1, .int x2] σ = kb (cal d mX7_has [.int x1, .int x0] σ) (fun rs σ2 => exec d mX7_pricesOf 21 [l0, l1, l2, l3] (rs ++ [.int x2]) σ2)) ∧
  (∀ (d : Nat) (σ : Sg) (S : List Value) (l0 l1 l2 l3 : Value) (x : Int32), exec d mX7_pricesOf 21 [l0, l1, l2, l3] (.int x :: S) σ = if x = nI 0 then exec d mX7_pricesOf 36 [l0, l1, l2, l3] S σ else exec d mX7_pricesOf 24 [l0, l1, l2, l3] S σ) ∧
  (∀ (d : Nat) (σ : Sg) (S : List Value) (l1 l2 l3 : Value) (k : Nat), exec d mX7_pricesOf 24 [.ref k, l1, l2, l3] S σ = exec d mX7_pricesOf 25 [.ref k, l1, l2, l3] (.ref k :: S) σ) ∧
  (∀ (d : Nat) (σ : Sg) (S : List Value) (l0 l1 l2 l3 : Value), exec d mX7_pricesOf 25 [l0, l1, l2, l3] (.ref 50 :: S) σ = exec d mX7_pricesOf 28 [l0, l1, l2, l3] (.ref 51 :: S) σ) ∧
  (∀ (d : Nat) (σ : Sg) (S : List Value) (l0 l1 l2 l3 : Value), exec d mX7_pricesOf 28 [l0, l1, l2, l3] S σ = exec d mX7_pricesOf 30 [l0, l1, l2, l3] (.int (nI 47) :: S) σ) ∧
  (∀ (d : Nat) (σ : Sg) (S : List Value) (l0 l1 l2 : Value) (x : Int32), exec d mX7_pricesOf 30 [l0, l1, l2, .int x] S σ = exec d mX7_pricesOf 31 [l0, l1, l2, .int x] (.int x :: S) σ) ∧
  (∀ (d : Nat) (σ : Sg) (S : List Value) (l0 l1 l2 l3 : Value) (x y : Int32), exec d mX7_pricesOf 31 [l0, l1, l2, l3] (.int y :: .int x :: S) σ = exec d mX7_pricesOf 32 [l0, l1, l2, l3] (.int (x + y) :: S) σ) ∧
  (∀ (d : Nat) (σ : Sg) (S : List Value) (l0 l1 l2 l3 : Value) (x : Int32), exec d mX7_pricesOf 32 [l0, l1, l2, l3] (.int x :: .ref 51 :: S) σ = if inb x 208 = true then exec d mX7_pricesOf 33 [l0, l1, l2, l3] (.int (σ 51 x.toNatClampNeg) :: S) σ else none) ∧
  (∀ (d : Nat) (σ : Sg) (S : List Value) (l0 l1 l2 l3 : Value), exec d mX7_pricesOf 33 [l0, l1, l2, l3] S σ = exec d mX7_pricesOf 37 [l0, l1, l2, l3] S σ) ∧
  (∀ (d : Nat) (σ : Sg) (S : List Value) (l0 l1 l2 l3 : Value), exec d mX7_pricesOf 36 [l0, l1, l2, l3] S σ = exec d mX7_pricesOf 37 [l0, l1, l2, l3] (.int (nI 0) :: S) σ) ∧
  (∀ (d : Nat) (σ : Sg) (S : List Value) (l0 l1 l2 l3 : Value) (x y : Int32), exec d mX7_pricesOf 37 [l0, l1, l2, l3] (.int y :: .int x :: S) σ = exec d mX7_pricesOf 38 [l0, l1, l2, l3] (.int (x + y) :: S) σ) ∧
  (∀ (d : Nat) (σ : Sg) (S : List Value) (l0 l2 l3 : Value) (x y : Int32), exec d mX7_pricesOf 38 [l0, .int y, l2, l3] (.int x :: S) σ = exec d mX7_pricesOf 39 [l0, .int y, .int x, l3] S σ) ∧
  (∀ (d : Nat) (σ : Sg) (S : List Value) (l0 l1 : Value) (x y : Int32), exec d mX7_pricesOf 39 [l0, l1, .int y, .int x] S σ = exec d mX7_pricesOf 42 [l0, l1, .int y, .int (x + nI 1)] S σ) ∧
  (∀ (d : Nat) (σ : Sg) (S : List Value) (l0 l1 l2 l3 : Value), exec d mX7_pricesOf 42 [l0, l1, l2, l3] S σ = exec d mX7_pricesOf 4 [l0, l1, l2, l3] S σ) ∧
  (∀ (d : Nat) (σ : Sg) (S : List Value) (l0 l1 l3 : Value) (x : Int32), exec d mX7_pricesOf 45 [l0, l1, .int x, l3] S σ = exec d mX7_pricesOf 46 [l0, l1, .int x, l3] (.int x :: S) σ) ∧
  (∀ (d : Nat) (σ : Sg) (l0 l1 l2 l3 : Value) (x : Int32), exec d mX7_pricesOf 46 [l0, l1, l2, l3] [.int x] σ = some (some (.int x), σ)) :=
  ⟨fun d σ S l0 l1 l2 l3 => ex_iconst (show decode mX7_pricesOf.2.1 0 = .ok (.iconst 0, 1) by decide +kernel) (by decide +kernel),
  fun d σ S l0 l2 l3 x y => ex_istore_n (show decode mX7_pricesOf.2.1 1 = .ok (.istore_n 2, 1) by decide +kernel) (Nat.le_of_ble_eq_true rfl) rfl,
  fun d σ S l0 l1 l2 l3 => ex_iconst (show decode mX7_pricesOf.2.1 2 = .ok (.iconst 0, 1) by decide +kernel) (by decide +kernel),
  fun d σ S l0 l1 l3 x y => ex_istore_n (show decode mX7_pricesOf.2.1 3 = .ok (.istore_n 3, 1) by decide +kernel) (Nat.le_of_ble_eq_true rfl) rfl,
  fun d σ S l1 l2 l3 k => ex_aload_n (show decode mX7_pricesOf.2.1 5 = .ok (.aload_n 0, 1) by decide +kernel) rfl,
  fun d σ S l0 l1 l2 l3 => ex_getr (idx := 7) (ci := 7) (ff := 0) (n := 26) (hh := 833) (by decide +kernel),
  fun d σ S l0 l1 l2 l3 => ex_bipush (show decode mX7_pricesOf.2.1 9 = .ok (.bipush 8, 2) by decide +kernel) (by decide +kernel),
  fun d σ S l0 l1 l2 l3 x => ex_iald (by decide +kernel),
  fun d σ S l0 l1 l2 l3 x y => ex_cge (show decode mX7_pricesOf.2.1 12 = .ok (.if_icmp .ge 33, 3) by decide +kernel) (by decide),
  fun d σ S l0 l1 l3 x => ex_iload_n (show decode mX7_pricesOf.2.1 15 = .ok (.iload_n 2, 1) by decide +kernel) rfl,
  fun d σ S l0 l2 l3 x => ex_iload_n (show decode mX7_pricesOf.2.1 16 = .ok (.iload_n 1, 1) by decide +kernel) rfl,
  fun d σ S l0 l1 l2 x => ex_iload_n (show decode mX7_pricesOf.2.1 17 = .ok (.iload_n 3, 1) by decide +kernel) rfl,
  fun d σ l0 l1 l2 l3 x0 x1 x2 => ex_is (hs := [1033, 1034, 1035, 101]) (show decode mX7_pricesOf.2.1 18 = .ok (.invokestatic 151, 3) by decide +kernel) lkS_7_151 ⟨rfl, Nat.le_of_ble_eq_true rfl, Nat.le_of_ble_eq_true rfl, fun q => nomatch q⟩ rfl rfl,
  fun d σ S l0 l1 l2 l3 x => ex_zeq (show decode mX7_pricesOf.2.1 21 = .ok (.ifCond .eq 15, 3) by decide +kernel) (by decide),
  fun d σ S l1 l2 l3 k => ex_aload_n (show decode mX7_pricesOf.2.1 24 = .ok (.aload_n 0, 1) by decide +kernel) rfl,
  fun d σ S l0 l1 l2 l3 => ex_getr (idx := 7) (ci := 7) (ff := 0) (n := 26) (hh := 833) (by decide +kernel),
  fun d σ S l0 l1 l2 l3 => ex_bipush (show decode mX7_pricesOf.2.1 28 = .ok (.bipush 47, 2) by decide +kernel) (by decide +kernel),
  fun d σ S l0 l1 l2 x => ex_iload_n (show decode mX7_pricesOf.2.1 30 = .ok (.iload_n 3, 1) by decide +kernel) rfl,
  fun d σ S l0 l1 l2 l3 x y => ex_iadd (show decode mX7_pricesOf.2.1 31 = .ok (.iadd, 1) by decide +kernel),
  fun d σ S l0 l1 l2 l3 x => ex_iald (by decide +kernel),
  fun d σ S l0 l1 l2 l3 => ex_goto (show decode mX7_pricesOf.2.1 33 = .ok (.goto 4, 3) by decide +kernel) (by decide),
  fun d σ S l0 l1 l2 l3 => ex_iconst (show decode mX7_pricesOf.2.1 36 = .ok (.iconst 0, 1) by decide +kernel) (by decide +kernel),
  fun d σ S l0 l1 l2 l3 x y => ex_iadd (show decode mX7_pricesOf.2.1 37 = .ok (.iadd, 1) by decide +kernel),
  fun d σ S l0 l2 l3 x y => ex_istore_n (show decode mX7_pricesOf.2.1 38 = .ok (.istore_n 2, 1) by decide +kernel) (Nat.le_of_ble_eq_true rfl) rfl,
  fun d σ S l0 l1 x y => ex_iinc (show decode mX7_pricesOf.2.1 39 = .ok (.iinc 3 1, 3) by decide +kernel) rfl (by decide +kernel) (Nat.le_of_ble_eq_true rfl) rfl,
  fun d σ S l0 l1 l2 l3 => ex_goto (show decode mX7_pricesOf.2.1 42 = .ok (.goto (-38), 3) by decide +kernel) (by decide),
  fun d σ S l0 l1 l3 x => ex_iload_n (show decode mX7_pricesOf.2.1 45 = .ok (.iload_n 2, 1) by decide +kernel) rfl,
  fun d σ l0 l1 l2 l3 x => ex_iret (show decode mX7_pricesOf.2.1 46 = .ok (.ireturn, 1) by decide +kernel) rfl⟩
theorem hX7_pricesOf_4 : ∀ (d : Nat) (σ : Sg) (S : List Value) (l0 l1 l2 : Value) (x : Int32), exec d mX7_pricesOf 4 [l0, l1, l2, .int x] S σ = exec d mX7_pricesOf 5 [l0, l1, l2, .int x] (.int x :: S) σ := fun d σ S l0 l1 l2 x => ex_iload_n (show decode mX7_pricesOf.2.1 4 = .ok (.iload_n 3, 1) by decide +kernel) rfl
theorem aX7_pricesOf_50 : ∀ (d : Nat) (a1 : Int32) (σ : Sg), cal (d + 1) mX7_pricesOf [.ref 50, .int a1] σ = exec d mX7_pricesOf 0 [.ref 50, .int a1, uu, uu] [] σ := fun _ _ _ => rfl
theorem kX7_feasts_0 : (∀ (d : Nat) (σ : Sg) (S : List Value) (l1 l2 l3 l4 l5 : Value) (k : Nat), exec d mX7_feasts 0 [.ref k, l1, l2, l3, l4, l5] S σ = exec d mX7_feasts 1 [.ref k, l1, l2, l3, l4, l5] (.ref k :: S) σ) ∧
  (∀ (d : Nat) (σ : Sg) (l0 l1 l2 l3 l4 l5 : Value), exec d mX7_feasts 1 [l0, l1, l2, l3, l4, l5] [.ref 50] σ = kb (cal d mX7_isTrial [.ref 50] σ) (fun rs σ2 => exec d mX7_feasts 4 [l0, l1, l2, l3, l4, l5] (rs ++ []) σ2)) ∧
  (∀ (d : Nat) (σ : Sg) (S : List Value) (l0 l1 l2 l3 l4 l5 : Value) (x : Int32), exec d mX7_feasts 4 [l0, l1, l2, l3, l4, l5] (.int x :: S) σ = if x = nI 0 then exec d mX7_feasts 7 [l0, l1, l2, l3, l4, l5] S σ else exec d mX7_feasts 10 [l0, l1, l2, l3, l4, l5] S σ) ∧
  (∀ (d : Nat) (σ : Sg) (S : List Value) (l0 l1 l2 l3 l4 l5 : Value), exec d mX7_feasts 7 [l0, l1, l2, l3, l4, l5] S σ = exec d mX7_feasts 9 [l0, l1, l2, l3, l4, l5] (.int ((-1000002)) :: S) σ) ∧
  (∀ (d : Nat) (σ : Sg) (l0 l1 l2 l3 l4 l5 : Value) (x : Int32), exec d mX7_feasts 9 [l0, l1, l2, l3, l4, l5] [.int x] σ = some (some (.int x), σ)) ∧
  (∀ (d : Nat) (σ : Sg) (S : List Value) (l0 l2 l3 l4 l5 : Value) (x : Int32), exec d mX7_feasts 10 [l0, .int x, l2, l3, l4, l5] S σ = exec d mX7_feasts 11 [l0, .int x, l2, l3, l4, l5] (.int x :: S) σ) ∧
  (∀ (d : Nat) (σ : Sg) (S : List Value) (l0 l1 l2 l3 l4 l5 : Value) (x : Int32), exec d mX7_feasts 11 [l0, l1, l2, l3, l4, l5] (.int x :: S) σ = exec d mX7_feasts 12 [l0, l1, l2, l3, l4, l5] (.long x.toInt64 :: S) σ) ∧
  (∀ (d : Nat) (σ : Sg) (S : List Value) (l0 l1 l2 l3 l4 l5 : Value), exec d mX7_feasts 12 [l0, l1, l2, l3, l4, l5] S σ = exec d mX7_feasts 13 [l0, l1, l2, l3, l4, l5] (.long (lN 0) :: S) σ) ∧
  (∀ (d : Nat) (σ : Sg) (S : List Value) (l0 l1 l2 l3 l4 l5 : Value), exec d mX7_feasts 13 [l0, l1, l2, l3, l4, l5] S σ = exec d mX7_feasts 14 [l0, l1, l2, l3, l4, l5] (.long (lN 1) :: S) σ) ∧
  (∀ (d : Nat) (σ : Sg) (l0 l1 l2 l3 l4 l5 : Value) (x0 x1 x2 : Int64), exec d mX7_feasts 14 [l0, l1, l2, l3, l4, l5] [.long x0, .long x1, .long x2] σ = kb (cal d mX7_in [.long x2, .long x1, .long x0] σ) (fun rs σ2 => exec d mX7_feasts 17 [l0, l1, l2, l3, l4, l5] (rs ++ []) σ2)) ∧
  (∀ (d : Nat) (σ : Sg) (S : List Value) (l0 l1 l2 l3 l4 l5 : Value) (x : Int32), exec d mX7_feasts 17 [l0, l1, l2, l3, l4, l5] (.int x :: S) σ = if x = nI 0 then exec d mX7_feasts 20 [l0, l1, l2, l3, l4, l5] S σ else exec d mX7_feasts 23 [l0, l1, l2, l3, l4, l5] S σ) ∧
  (∀ (d : Nat) (σ : Sg) (S : List Value) (l0 l1 l2 l3 l4 l5 : Value), exec d mX7_feasts 20 [l0, l1, l2, l3, l4, l5] S σ = exec d mX7_feasts 22 [l0, l1, l2, l3, l4, l5] (.int ((-1000001)) :: S) σ) ∧
  (∀ (d : Nat) (σ : Sg) (l0 l1 l2 l3 l4 l5 : Value) (x : Int32), exec d mX7_feasts 22 [l0, l1, l2, l3, l4, l5] [.int x] σ = some (some (.int x), σ)) ∧
  (∀ (d : Nat) (σ : Sg) (S : List Value) (l0 l1 l2 l3 l4 l5 : Value), exec d mX7_feasts 23 [l0, l1, l2, l3, l4, l5] S σ = exec d mX7_feasts 25 [l0, l1, l2, l3, l4, l5] (.int ((-1000000)) :: S) σ) ∧
  (∀ (d : Nat) (σ : Sg) (S : List Value) (l0 l2 l3 l4 l5 : Value) (x y : Int32), exec d mX7_feasts 25 [l0, .int y, l2, l3, l4, l5] (.int x :: S) σ = exec d mX7_feasts 26 [l0, .int y, .int x, l3, l4, l5] S σ) ∧
  (∀ (d : Nat) (σ : Sg) (S : List Value) (l0 l1 l2 l3 l4 l5 : Value), exec d mX7_feasts 26 [l0, l1, l2, l3, l4, l5] S σ = exec d mX7_feasts 27 [l0, l1, l2, l3, l4, l5] (.int (nI 0) :: S) σ) ∧
  (∀ (d : Nat) (σ : Sg) (S : List Value) (l0 l1 l3 l4 l5 : Value) (x y : Int32), exec d mX7_feasts 27 [l0, l1, .int y, l3, l4, l5] (.int x :: S) σ = exec d mX7_feasts 28 [l0, l1, .int y, .int x, l4, l5] S σ) ∧
  (∀ (d : Nat) (σ : Sg) (S : List Value) (l0 l1 l2 l3 l4 l5 : Value), exec d mX7_feasts 29 [l0, l1, l2, l3, l4, l5] S σ = exec d mX7_feasts 30 [l0, l1, l2, l3, l4, l5] (.int (nI 1) :: S) σ) ∧
  (∀ (d : Nat) (σ : Sg) (S : List Value) (l1 l2 l3 l4 l5 : Value) (k : Nat), exec d mX7_feasts 30 [.ref k, l1, l2, l3, l4, l5] S σ = exec d mX7_feasts 31 [.ref k, l1, l2, l3, l4, l5] (.ref k :: S) σ) ∧
  (∀ (d : Nat) (σ : Sg) (S : List Value) (l0 l1 l2 l3 l4 l5 : Value), exec d mX7_feasts 31 [l0, l1, l2, l3, l4, l5] (.ref 50 :: S) σ = exec d mX7_feasts 34 [l0, l1, l2, l3, l4, l5] (.ref 51 :: S) σ) ∧
  (∀ (d : Nat) (σ : Sg) (S : List Value) (l0 l1 l2 l3 l4 l5 : Value), exec d mX7_feasts 34 [l0, l1, l2, l3, l4, l5] S σ = exec d mX7_feasts 36 [l0, l1, l2, l3, l4, l5] (.int (nI 8) :: S) σ) ∧
  (∀ (d : Nat) (σ : Sg) (S : List Value) (l0 l1 l2 l3 l4 l5 : Value) (x : Int32), exec d mX7_feasts 36 [l0, l1, l2, l3, l4, l5] (.int x :: .ref 51 :: S) σ = if inb x 208 = true then exec d mX7_feasts 37 [l0, l1, l2, l3, l4, l5] (.int (σ 51 x.toNatClampNeg) :: S) σ else none) ∧
  (∀ (d : Nat) (σ : Sg) (S : List Value) (l0 l1 l2 l3 l4 l5 : Value) (x y : Int32), exec d mX7_feasts 37 [l0, l1, l2, l3, l4, l5] (.int y :: .int x :: S) σ = exec d mX7_feasts 38 [l0, l1, l2, l3, l4, l5] (.int (x <<< (y &&& 31)) :: S) σ) ∧
  (∀ (d : Nat) (σ : Sg) (S : List Value) (l0 l1 l2 l3 l4 l5 : Value) (x y : Int32), exec d mX7_feasts 38 [l0, l1, l2, l3, l4, l5] (.int y :: .int x :: S) σ = if y ≤ x then exec d mX7_feasts 168 [l0, l1, l2, l3, l4, l5] S σ else exec d mX7_feasts 41 [l0, l1, l2, l3, l4, l5] S σ) ∧
  (∀ (d : Nat) (σ : Sg) (S : List Value) (l0 l1 l2 l4 l5 : Value) (x : Int32), exec d mX7_feasts 41 [l0, l1, l2, .int x, l4, l5] S σ = exec d mX7_feasts 42 [l0, l1, l2, .int x, l4, l5] (.int x :: S) σ) ∧
  (∀ (d : Nat) (σ : Sg) (S : List Value) (l1 l2 l3 l4 l5 : Value) (k : Nat), exec d mX7_feasts 42 [.ref k, l1, l2, l3, l4, l5] S σ = exec d mX7_feasts 43 [.ref k, l1, l2, l3, l4, l5] (.ref k :: S) σ) ∧
  (∀ (d : Nat) (σ : Sg) (S : List Value) (l0 l1 l2 l3 l4 l5 : Value), exec d mX7_feasts 43 [l0, l1, l2, l3, l4, l5] (.ref 50 :: S) σ = exec d mX7_feasts 46 [l0, l1, l2, l3, l4, l5] (.ref 51 :: S) σ) ∧
  (∀ (d : Nat) (σ : Sg) (S : List Value) (l0 l1 l2 l3 l4 l5 : Value), exec d mX7_feasts 46 [l0, l1, l2, l3, l4, l5] S σ = exec d mX7_feasts 47 [l0, l1, l2, l3, l4, l5] (.int (nI 5) :: S) σ) ∧
  (∀ (d : Nat) (σ : Sg) (S : List Value) (l0 l1 l2 l3 l4 l5 : Value) (x : Int32), exec d mX7_feasts 47 [l0, l1, l2, l3, l4, l5] (.int x :: .ref 51 :: S) σ = if inb x 208 = true then exec d mX7_feasts 48 [l0, l1, l2, l3, l4, l5] (.int (σ 51 x.toNatClampNeg) :: S) σ else none) ∧
  (∀ (d : Nat) (σ : Sg) (S : List Value) (l0 l1 l2 l3 l4 l5 : Value) (x y : Int32), exec d mX7_feasts 48 [l0, l1, l2, l3, l4, l5] (.int y :: .int x :: S) σ = exec d mX7_feasts 49 [l0, l1, l2, l3, l4, l5] (.int (x &&& y) :: S) σ) ∧
  (∀ (d : Nat) (σ : Sg) (S : List Value) (l0 l1 l2 l3 l4 l5 : Value) (x : Int32), exec d mX7_feasts 49 [l0, l1, l2, l3, l4, l5] (.int x :: S) σ = if x = nI 0 then exec d mX7_feasts 52 [l0, l1, l2, l3, l4, l5] S σ else exec d mX7_feasts 95 [l0, l1, l2, l3, l4, l5] S σ) ∧
  (∀ (d : Nat) (σ : Sg) (S : List Value) (l1 l2 l3 l4 l5 : Value) (k : Nat), exec d mX7_feasts 52 [.ref k, l1, l2, l3, l4, l5] S σ = exec d mX7_feasts 53 [.ref k, l1, l2, l3, l4, l5] (.ref k :: S) σ) ∧
  (∀ (d : Nat) (σ : Sg) (S : List Value) (l0 l1 l2 l4 l5 : Value) (x : Int32), exec d mX7_feasts 53 [l0, l1, l2, .int x, l4, l5] S σ = exec d mX7_feasts 54 [l0, l1, l2, .int x, l4, l5] (.int x :: S) σ) ∧
  (∀ (d : Nat) (σ : Sg) (l0 l1 l2 l3 l4 l5 : Value) (x0 : Int32), exec d mX7_feasts 54 [l0, l1, l2, l3, l4, l5] [.int x0, .ref 50] σ = kb (cal d mX7_pricesOf [.ref 50, .int x0] σ) (fun rs σ2 => exec d mX7_feasts 57 [l0, l1, l2, l3, l4, l5] (rs ++ []) σ2)) ∧
  (∀ (d : Nat) (σ : Sg) (S : List Value) (l1 l2 l3 l4 l5 : Value) (k : Nat), exec d mX7_feasts 57 [.ref k, l1, l2, l3, l4, l5] S σ = exec d mX7_feasts 58 [.ref k, l1, l2, l3, l4, l5] (.ref k :: S) σ) ∧
  (∀ (d : Nat) (σ : Sg) (S : List Value) (l0 l1 l2 l3 l4 l5 : Value), exec d mX7_feasts 58 [l0, l1, l2, l3, l4, l5] (.ref 50 :: S) σ = exec d mX7_feasts 61 [l0, l1, l2, l3, l4, l5] (.ref 51 :: S) σ) ∧
  (∀ (d : Nat) (σ : Sg) (S : List Value) (l0 l1 l2 l3 l4 l5 : Value), exec d mX7_feasts 61 [l0, l1, l2, l3, l4, l5] S σ = exec d mX7_feasts 62 [l0, l1, l2, l3, l4, l5] (.int (nI 2) :: S) σ) ∧
  (∀ (d : Nat) (σ : Sg) (S : List Value) (l0 l1 l2 l3 l4 l5 : Value) (x : Int32), exec d mX7_feasts 62 [l0, l1, l2, l3, l4, l5] (.int x :: .ref 51 :: S) σ = if inb x 208 = true then exec d mX7_feasts 63 [l0, l1, l2, l3, l4, l5] (.int (σ 51 x.toNatClampNeg) :: S) σ else none) ∧
  (∀ (d : Nat) (σ : Sg) (S : List Value) (l0 l1 l2 l3 l4 l5 : Value) (x y : Int32), exec d mX7_feasts 63 [l0, l1, l2, l3, l4, l5] (.int y :: .int x :: S) σ = if y < x then exec d mX7_feasts 95 [l0, l1, l2, l3, l4, l5] S σ else exec d mX7_feasts 66 [l0, l1, l2, l3, l4, l5] S σ) ∧
  (∀ (d : Nat) (σ : Sg) (S : List Value) (l1 l2 l3 l4 l5 : Value) (k : Nat), exec d mX7_feasts 66 [.ref k, l1, l2, l3, l4, l5] S σ = exec d mX7_feasts 67 [.ref k, l1, l2, l3, l4, l5] (.ref k :: S) σ) :=
  ⟨fun d σ S l1 l2 l3 l4 l5 k => ex_aload_n (show decode mX7_feasts.2.1 0 = .ok (.aload_n 0, 1) by decide +kernel) rfl,
  fun d σ l0 l1 l2 l3 l4 l5 => ex_iv (hs := [1074, 1076, 74, 1077, 101]) (show decode mX7_feasts.2.1 1 = .ok (.invokevirtual 188, 3) by decide +kernel) lkV_7_188 ⟨rfl, Nat.le_of_ble_eq_true rfl, Nat.le_of_ble_eq_true rfl, fun _ => rfl⟩ rfl rfl,
  fun d σ S l0 l1 l2 l3 l4 l5 x => ex_zne (show decode mX7_feasts.2.1 4 = .ok (.ifCond .ne 6, 3) by decide +kernel) (by decide),
  fun d σ S l0 l1 l2 l3 l4 l5 => ex_ldc (hh := 1009) (show decode mX7_feasts.2.1 7 = .ok (.ldc 171, 2) by decide +kernel) (by decide +kernel),
  fun d σ l0 l1 l2 l3 l4 l5 x => ex_iret (show decode mX7_feasts.2.1 9 = .ok (.ireturn, 1) by decide +kernel) rfl,
  fun d σ S l0 l2 l3 l4 l5 x => ex_iload_n (show decode mX7_feasts.2.1 10 = .ok (.iload_n 1, 1) by decide +kernel) rfl,
  fun d σ S l0 l1 l2 l3 l4 l5 x => ex_i2l (show decode mX7_feasts.2.1 11 = .ok (.i2l, 1) by decide +kernel),
  fun d σ S l0 l1 l2 l3 l4 l5 => ex_lconst (show decode mX7_feasts.2.1 12 = .ok (.lconst 0, 1) by decide +kernel) (by decide +kernel),
  fun d σ S l0 l1 l2 l3 l4 l5 => ex_lconst (show decode mX7_feasts.2.1 13 = .ok (.lconst 1, 1) by decide +kernel) (by decide +kernel),
  fun d σ l0 l1 l2 l3 l4 l5 x0 x1 x2 => ex_is (hs := [920, 921, 922, 101]) (show decode mX7_feasts.2.1 14 = .ok (.invokestatic 63, 3) by decide +kernel) lkS_7_63 ⟨rfl, Nat.le_of_ble_eq_true rfl, Nat.le_of_ble_eq_true rfl, fun q => nomatch q⟩ rfl rfl,
  fun d σ S l0 l1 l2 l3 l4 l5 x => ex_zne (show decode mX7_feasts.2.1 17 = .ok (.ifCond .ne 6, 3) by decide +kernel) (by decide),
  fun d σ S l0 l1 l2 l3 l4 l5 => ex_ldc (hh := 924) (show decode mX7_feasts.2.1 20 = .ok (.ldc 73, 2) by decide +kernel) (by decide +kernel),
  fun d σ l0 l1 l2 l3 l4 l5 x => ex_iret (show decode mX7_feasts.2.1 22 = .ok (.ireturn, 1) by decide +kernel) rfl,
  fun d σ S l0 l1 l2 l3 l4 l5 => ex_ldc (hh := 1087) (show decode mX7_feasts.2.1 23 = .ok (.ldc 205, 2) by decide +kernel) (by decide +kernel),
  fun d σ S l0 l2 l3 l4 l5 x y => ex_istore_n (show decode mX7_feasts.2.1 25 = .ok (.istore_n 2, 1) by decide +kernel) (Nat.le_of_ble_eq_true rfl) rfl,
  fun d σ S l0 l1 l2 l3 l4 l5 => ex_iconst (show decode mX7_feasts.2.1 26 = .ok (.iconst 0, 1) by decide +kernel) (by decide +kernel),
  fun d σ S l0 l1 l3 l4 l5 x y => ex_istore_n (show decode mX7_feasts.2.1 27 = .ok (.istore_n 3, 1) by decide +kernel) (Nat.le_of_ble_eq_true rfl) rfl,
  fun d σ S l0 l1 l2 l3 l4 l5 => ex_iconst (show decode mX7_feasts.2.1 29 = .ok (.iconst 1, 1) by decide +kernel) (by decide +kernel),
  fun d σ S l1 l2 l3 l4 l5 k => ex_aload_n (show decode mX7_feasts.2.1 30 = .ok (.aload_n 0, 1) by decide +kernel) rfl,
  fun d σ S l0 l1 l2 l3 l4 l5 => ex_getr (idx := 7) (ci := 7) (ff := 0) (n := 26) (hh := 833) (by decide +kernel),
  fun d σ S l0 l1 l2 l3 l4 l5 => ex_bipush (show decode mX7_feasts.2.1 34 = .ok (.bipush 8, 2) by decide +kernel) (by decide +kernel),
  fun d σ S l0 l1 l2 l3 l4 l5 x => ex_iald (by decide +kernel),
  fun d σ S l0 l1 l2 l3 l4 l5 x y => ex_ishl (show decode mX7_feasts.2.1 37 = .ok (.ishl, 1) by decide +kernel),
  fun d σ S l0 l1 l2 l3 l4 l5 x y => ex_cge (show decode mX7_feasts.2.1 38 = .ok (.if_icmp .ge 130, 3) by decide +kernel) (by decide),
  fun d σ S l0 l1 l2 l4 l5 x => ex_iload_n (show decode mX7_feasts.2.1 41 = .ok (.iload_n 3, 1) by decide +kernel) rfl,
  fun d σ S l1 l2 l3 l4 l5 k => ex_aload_n (show decode mX7_feasts.2.1 42 = .ok (.aload_n 0, 1) by decide +kernel) rfl,
  fun d σ S l0 l1 l2 l3 l4 l5 => ex_getr (idx := 7) (ci := 7) (ff := 0) (n := 26) (hh := 833) (by decide +kernel),
  fun d σ S l0 l1 l2 l3 l4 l5 => ex_iconst (show decode mX7_feasts.2.1 46 = .ok (.iconst 5, 1) by decide +kernel) (by decide +kernel),
  fun d σ S l0 l1 l2 l3 l4 l5 x => ex_iald (by decide +kernel),
  fun d σ S l0 l1 l2 l3 l4 l5 x y => ex_iand (show decode mX7_feasts.2.1 48 = .ok (.iand, 1) by decide +kernel),
  fun d σ S l0 l1 l2 l3 l4 l5 x => ex_zne (show decode mX7_feasts.2.1 49 = .ok (.ifCond .ne 46, 3) by decide +kernel) (by decide),
  fun d σ S l1 l2 l3 l4 l5 k => ex_aload_n (show decode mX7_feasts.2.1 52 = .ok (.aload_n 0, 1) by decide +kernel) rfl,
  fun d σ S l0 l1 l2 l4 l5 x => ex_iload_n (show decode mX7_feasts.2.1 53 = .ok (.iload_n 3, 1) by decide +kernel) rfl,
  fun d σ l0 l1 l2 l3 l4 l5 x0 => ex_iv (hs := [1149, 1151, 84, 1152, 101]) (show decode mX7_feasts.2.1 54 = .ok (.invokevirtual 238, 3) by decide +kernel) lkV_7_238 ⟨rfl, Nat.le_of_ble_eq_true rfl, Nat.le_of_ble_eq_true rfl, fun _ => rfl⟩ rfl rfl,
  fun d σ S l1 l2 l3 l4 l5 k => ex_aload_n (show decode mX7_feasts.2.1 57 = .ok (.aload_n 0, 1) by decide +kernel) rfl,
  fun d σ S l0 l1 l2 l3 l4 l5 => ex_getr (idx := 7) (ci := 7) (ff := 0) (n := 26) (hh := 833) (by decide +kernel),
  fun d σ S l0 l1 l2 l3 l4 l5 => ex_iconst (show decode mX7_feasts.2.1 61 = .ok (.iconst 2, 1) by decide +kernel) (by decide +kernel),
  fun d σ S l0 l1 l2 l3 l4 l5 x => ex_iald (by decide +kernel),
  fun d σ S l0 l1 l2 l3 l4 l5 x y => ex_cgt (show decode mX7_feasts.2.1 63 = .ok (.if_icmp .gt 32, 3) by decide +kernel) (by decide),
  fun d σ S l1 l2 l3 l4 l5 k => ex_aload_n (show decode mX7_feasts.2.1 66 = .ok (.aload_n 0, 1) by decide +kernel) rfl⟩
theorem kX7_feasts_1 : (∀ (d : Nat) (σ : Sg) (S : List Value) (l1 l2 l3 l4 l5 : Value) (k : Nat), exec d mX7_feasts 67 [.ref k, l1, l2, l3, l4, l5] S σ = exec d mX7_feasts 68 [.ref k, l1, l2, l3, l4, l5] (.ref k :: S) σ) ∧
  (∀ (d : Nat) (σ : Sg) (S : List Value) (l1 l2 l3 l4 l5 : Value) (k : Nat), exec d mX7_feasts 68 [.ref k, l1, l2, l3, l4, l5] S σ = exec d mX7_feasts 69 [.ref k, l1, l2, l3, l4, l5] (.ref k :: S) σ) ∧
  (∀ (d : Nat) (σ : Sg) (S : List Value) (l0 l1 l2 l3 l4 l5 : Value), exec d mX7_feasts 69 [l0, l1, l2, l3, l4, l5] (.ref 50 :: S) σ = exec d mX7_feasts 72 [l0, l1, l2, l3, l4, l5] (.ref 51 :: S) σ) ∧
  (∀ (d : Nat) (σ : Sg) (S : List Value) (l0 l1 l2 l3 l4 l5 : Value), exec d mX7_feasts 72 [l0, l1, l2, l3, l4, l5] S σ = exec d mX7_feasts 73 [l0, l1, l2, l3, l4, l5] (.int (nI 5) :: S) σ) ∧
  (∀ (d : Nat) (σ : Sg) (S : List Value) (l0 l1 l2 l3 l4 l5 : Value) (x : Int32), exec d mX7_feasts 73 [l0, l1, l2, l3, l4, l5] (.int x :: .ref 51 :: S) σ = if inb x 208 = true then exec d mX7_feasts 74 [l0, l1, l2, l3, l4, l5] (.int (σ 51 x.toNatClampNeg) :: S) σ else none) ∧
  (∀ (d : Nat) (σ : Sg) (S : List Value) (l0 l1 l2 l4 l5 : Value) (x : Int32), exec d mX7_feasts 74 [l0, l1, l2, .int x, l4, l5] S σ = exec d mX7_feasts 75 [l0, l1, l2, .int x, l4, l5] (.int x :: S) σ) ∧
  (∀ (d : Nat) (σ : Sg) (S : List Value) (l0 l1 l2 l3 l4 l5 : Value) (x y : Int32), exec d mX7_feasts 75 [l0, l1, l2, l3, l4, l5] (.int y :: .int x :: S) σ = exec d mX7_feasts 76 [l0, l1, l2, l3, l4, l5] (.int (x ||| y) :: S) σ) ∧
  (∀ (d : Nat) (σ : Sg) (S : List Value) (l1 l2 l3 l4 l5 : Value) (k : Nat), exec d mX7_feasts 76 [.ref k, l1, l2, l3, l4, l5] S σ = exec d mX7_feasts 77 [.ref k, l1, l2, l3, l4, l5] (.ref k :: S) σ) ∧
  (∀ (d : Nat) (σ : Sg) (S : List Value) (l0 l1 l2 l3 l4 l5 : Value), exec d mX7_feasts 77 [l0, l1, l2, l3, l4, l5] (.ref 50 :: S) σ = exec d mX7_feasts 80 [l0, l1, l2, l3, l4, l5] (.ref 51 :: S) σ) ∧
  (∀ (d : Nat) (σ : Sg) (S : List Value) (l0 l1 l2 l3 l4 l5 : Value), exec d mX7_feasts 80 [l0, l1, l2, l3, l4, l5] S σ = exec d mX7_feasts 81 [l0, l1, l2, l3, l4, l5] (.int (nI 4) :: S) σ) ∧
  (∀ (d : Nat) (σ : Sg) (S : List Value) (l0 l1 l2 l3 l4 l5 : Value) (x : Int32), exec d mX7_feasts 81 [l0, l1, l2, l3, l4, l5] (.int x :: .ref 51 :: S) σ = if inb x 208 = true then exec d mX7_feasts 82 [l0, l1, l2, l3, l4, l5] (.int (σ 51 x.toNatClampNeg) :: S) σ else none) ∧
  (∀ (d : Nat) (σ : Sg) (l0 l1 l2 l3 l4 l5 : Value) (x0 x1 : Int32), exec d mX7_feasts 82 [l0, l1, l2, l3, l4, l5] [.int x0, .int x1, .ref 50, .ref 50] σ = kb (cal d mX7_votesBy [.ref 50, .int x1, .int x0] σ) (fun rs σ2 => exec d mX7_feasts 85 [l0, l1, l2, l3, l4, l5] (rs ++ [.ref 50]) σ2)) ∧
  (∀ (d : Nat) (σ : Sg) (l0 l1 l2 l3 l4 l5 : Value) (x0 : Int32), exec d mX7_feasts 85 [l0, l1, l2, l3, l4, l5] [.int x0, .ref 50] σ = kb (cal d mX7_isMost [.ref 50, .int x0] σ) (fun rs σ2 => exec d mX7_feasts 88 [l0, l1, l2, l3, l4, l5] (rs ++ []) σ2)) ∧
  (∀ (d : Nat) (σ : Sg) (S : List Value) (l0 l1 l2 l3 l4 l5 : Value) (x : Int32), exec d mX7_feasts 88 [l0, l1, l2, l3, l4, l5] (.int x :: S) σ = if x = nI 0 then exec d mX7_feasts 95 [l0, l1, l2, l3, l4, l5] S σ else exec d mX7_feasts 91 [l0, l1, l2, l3, l4, l5] S σ) ∧
  (∀ (d : Nat) (σ : Sg) (S : List Value) (l0 l1 l2 l3 l4 l5 : Value), exec d mX7_feasts 91 [l0, l1, l2, l3, l4, l5] S σ = exec d mX7_feasts 92 [l0, l1, l2, l3, l4, l5] (.int (nI 1) :: S) σ) ∧
  (∀ (d : Nat) (σ : Sg) (S : List Value) (l0 l1 l2 l3 l4 l5 : Value), exec d mX7_feasts 92 [l0, l1, l2, l3, l4, l5] S σ = exec d mX7_feasts 96 [l0, l1, l2, l3, l4, l5] S σ) ∧
  (∀ (d : Nat) (σ : Sg) (S : List Value) (l0 l1 l2 l3 l4 l5 : Value), exec d mX7_feasts 95 [l0, l1, l2, l3, l4, l5] S σ = exec d mX7_feasts 96 [l0, l1, l2, l3, l4, l5] (.int (nI 0) :: S) σ) ∧
  (∀ (d : Nat) (σ : Sg) (S : List Value) (l0 l1 l2 l4 l5 : Value) (x y : Int32), exec d mX7_feasts 96 [l0, l1, l2, .int y, l4, l5] (.int x :: S) σ = exec d mX7_feasts 98 [l0, l1, l2, .int y, .int x, l5] S σ) ∧
  (∀ (d : Nat) (σ : Sg) (S : List Value) (l0 l1 l3 l4 l5 : Value) (x : Int32), exec d mX7_feasts 98 [l0, l1, .int x, l3, l4, l5] S σ = exec d mX7_feasts 99 [l0, l1, .int x, l3, l4, l5] (.int x :: S) σ) ∧
  (∀ (d : Nat) (σ : Sg) (S : List Value) (l0 l1 l2 l3 l4 l5 : Value), exec d mX7_feasts 99 [l0, l1, l2, l3, l4, l5] S σ = exec d mX7_feasts 101 [l0, l1, l2, l3, l4, l5] (.int ((-1000000)) :: S) σ) ∧
  (∀ (d : Nat) (σ : Sg) (S : List Value) (l0 l1 l2 l3 l4 l5 : Value) (x y : Int32), exec d mX7_feasts 101 [l0, l1, l2, l3, l4, l5] (.int y :: .int x :: S) σ = if x = y then exec d mX7_feasts 139 [l0, l1, l2, l3, l4, l5] S σ else exec d mX7_feasts 104 [l0, l1, l2, l3, l4, l5] S σ) ∧
  (∀ (d : Nat) (σ : Sg) (S : List Value) (l0 l1 l2 l4 l5 : Value) (x : Int32), exec d mX7_feasts 104 [l0, l1, l2, .int x, l4, l5] S σ = exec d mX7_feasts 105 [l0, l1, l2, .int x, l4, l5] (.int x :: S) σ) ∧
  (∀ (d : Nat) (σ : Sg) (l0 l1 l2 l3 l4 l5 : Value) (x0 : Int32), exec d mX7_feasts 105 [l0, l1, l2, l3, l4, l5] [.int x0] σ = kb (cal d mX7_ones [.int x0] σ) (fun rs σ2 => exec d mX7_feasts 108 [l0, l1, l2, l3, l4, l5] (rs ++ []) σ2)) ∧
  (∀ (d : Nat) (σ : Sg) (S : List Value) (l0 l1 l3 l4 l5 : Value) (x : Int32), exec d mX7_feasts 108 [l0, l1, .int x, l3, l4, l5] S σ = exec d mX7_feasts 109 [l0, l1, .int x, l3, l4, l5] (.int x :: S) σ) ∧
  (∀ (d : Nat) (σ : Sg) (l0 l1 l2 l3 l4 l5 : Value) (x0 x1 : Int32), exec d mX7_feasts 109 [l0, l1, l2, l3, l4, l5] [.int x0, .int x1] σ = kb (cal d mX7_ones [.int x0] σ) (fun rs σ2 => exec d mX7_feasts 112 [l0, l1, l2, l3, l4, l5] (rs ++ [.int x1]) σ2)) ∧
  (∀ (d : Nat) (σ : Sg) (S : List Value) (l0 l1 l2 l3 l4 l5 : Value) (x y : Int32), exec d mX7_feasts 112 [l0, l1, l2, l3, l4, l5] (.int y :: .int x :: S) σ = if x < y then exec d mX7_feasts 139 [l0, l1, l2, l3, l4, l5] S σ else exec d mX7_feasts 115 [l0, l1, l2, l3, l4, l5] S σ) ∧
  (∀ (d : Nat) (σ : Sg) (S : List Value) (l0 l1 l2 l4 l5 : Value) (x : Int32), exec d mX7_feasts 115 [l0, l1, l2, .int x, l4, l5] S σ = exec d mX7_feasts 116 [l0, l1, l2, .int x, l4, l5] (.int x :: S) σ) ∧
  (∀ (d : Nat) (σ : Sg) (l0 l1 l2 l3 l4 l5 : Value) (x0 : Int32), exec d mX7_feasts 116 [l0, l1, l2, l3, l4, l5] [.int x0] σ = kb (cal d mX7_ones [.int x0] σ) (fun rs σ2 => exec d mX7_feasts 119 [l0, l1, l2, l3, l4, l5] (rs ++ []) σ2)) ∧
  (∀ (d : Nat) (σ : Sg) (S : List Value) (l0 l1 l3 l4 l5 : Value) (x : Int32), exec d mX7_feasts 119 [l0, l1, .int x, l3, l4, l5] S σ = exec d mX7_feasts 120 [l0, l1, .int x, l3, l4, l5] (.int x :: S) σ) ∧
  (∀ (d : Nat) (σ : Sg) (l0 l1 l2 l3 l4 l5 : Value) (x0 x1 : Int32), exec d mX7_feasts 120 [l0, l1, l2, l3, l4, l5] [.int x0, .int x1] σ = kb (cal d mX7_ones [.int x0] σ) (fun rs σ2 => exec d mX7_feasts 123 [l0, l1, l2, l3, l4, l5] (rs ++ [.int x1]) σ2)) ∧
  (∀ (d : Nat) (σ : Sg) (S : List Value) (l0 l1 l2 l3 l4 l5 : Value) (x y : Int32), exec d mX7_feasts 123 [l0, l1, l2, l3, l4, l5] (.int y :: .int x :: S) σ = if x = y then exec d mX7_feasts 126 [l0, l1, l2, l3, l4, l5] S σ else exec d mX7_feasts 143 [l0, l1, l2, l3, l4, l5] S σ) ∧
  (∀ (d : Nat) (σ : Sg) (S : List Value) (l1 l2 l3 l4 l5 : Value) (k : Nat), exec d mX7_feasts 126 [.ref k, l1, l2, l3, l4, l5] S σ = exec d mX7_feasts 127 [.ref k, l1, l2, l3, l4, l5] (.ref k :: S) σ) ∧
  (∀ (d : Nat) (σ : Sg) (S : List Value) (l0 l1 l2 l4 l5 : Value) (x : Int32), exec d mX7_feasts 127 [l0, l1, l2, .int x, l4, l5] S σ = exec d mX7_feasts 128 [l0, l1, l2, .int x, l4, l5] (.int x :: S) σ) ∧
  (∀ (d : Nat) (σ : Sg) (l0 l1 l2 l3 l4 l5 : Value) (x0 : Int32), exec d mX7_feasts 128 [l0, l1, l2, l3, l4, l5] [.int x0, .ref 50] σ = kb (cal d mX7_pricesOf [.ref 50, .int x0] σ) (fun rs σ2 => exec d mX7_feasts 131 [l0, l1, l2, l3, l4, l5] (rs ++ []) σ2)) ∧
  (∀ (d : Nat) (σ : Sg) (S : List Value) (l1 l2 l3 l4 l5 : Value) (k : Nat), exec d mX7_feasts 131 [.ref k, l1, l2, l3, l4, l5] S σ = exec d mX7_feasts 132 [.ref k, l1, l2, l3, l4, l5] (.ref k :: S) σ) ∧
  (∀ (d : Nat) (σ : Sg) (S : List Value) (l0 l1 l3 l4 l5 : Value) (x : Int32), exec d mX7_feasts 132 [l0, l1, .int x, l3, l4, l5] S σ = exec d mX7_feasts 133 [l0, l1, .int x, l3, l4, l5] (.int x :: S) σ) ∧
  (∀ (d : Nat) (σ : Sg) (l0 l1 l2 l3 l4 l5 : Value) (x0 x2 : Int32), exec d mX7_feasts 133 [l0, l1, l2, l3, l4, l5] [.int x0, .ref 50, .int x2] σ = kb (cal d mX7_pricesOf [.ref 50, .int x0] σ) (fun rs σ2 => exec d mX7_feasts 136 [l0, l1, l2, l3, l4, l5] (rs ++ [.int x2]) σ2)) ∧
  (∀ (d : Nat) (σ : Sg) (S : List Value) (l0 l1 l2 l3 l4 l5 : Value) (x y : Int32), exec d mX7_feasts 136 [l0, l1, l2, l3, l4, l5] (.int y :: .int x :: S) σ = if y ≤ x then exec d mX7_feasts 143 [l0, l1, l2, l3, l4, l5] S σ else exec d mX7_feasts 139 [l0, l1, l2, l3, l4, l5] S σ) ∧
  (∀ (d : Nat) (σ : Sg) (S : List Value) (l0 l1 l2 l3 l4 l5 : Value), exec d mX7_feasts 139 [l0, l1, l2, l3, l4, l5] S σ = exec d mX7_feasts 140 [l0, l1, l2, l3, l4, l5] (.int (nI 1) :: S) σ) ∧
  (∀ (d : Nat) (σ : Sg) (S : List Value) (l0 l1 l2 l3 l4 l5 : Value), exec d mX7_feasts 140 [l0, l1, l2, l3, l4, l5] S σ = exec d mX7_feasts 144 [l0, l1, l2, l3, l4, l5] S σ) :=
  ⟨fun d σ S l1 l2 l3 l4 l5 k => ex_aload_n (show decode mX7_feasts.2.1 67 = .ok (.aload_n 0, 1) by decide +kernel) rfl,
  fun d σ S l1 l2 l3 l4 l5 k => ex_aload_n (show decode mX7_feasts.2.1 68 = .ok (.aload_n 0, 1) by decide +kernel) rfl,
  fun d σ S l0 l1 l2 l3 l4 l5 => ex_getr (idx := 7) (ci := 7) (ff := 0) (n := 26) (hh := 833) (by decide +kernel),
  fun d σ S l0 l1 l2 l3 l4 l5 => ex_iconst (show decode mX7_feasts.2.1 72 = .ok (.iconst 5, 1) by decide +kernel) (by decide +kernel),
  fun d σ S l0 l1 l2 l3 l4 l5 x => ex_iald (by decide +kernel),
  fun d σ S l0 l1 l2 l4 l5 x => ex_iload_n (show decode mX7_feasts.2.1 74 = .ok (.iload_n 3, 1) by decide +kernel) rfl,
  fun d σ S l0 l1 l2 l3 l4 l5 x y => ex_ior (show decode mX7_feasts.2.1 75 = .ok (.ior, 1) by decide +kernel),
  fun d σ S l1 l2 l3 l4 l5 k => ex_aload_n (show decode mX7_feasts.2.1 76 = .ok (.aload_n 0, 1) by decide +kernel) rfl,
  fun d σ S l0 l1 l2 l3 l4 l5 => ex_getr (idx := 7) (ci := 7) (ff := 0) (n := 26) (hh := 833) (by decide +kernel),
  fun d σ S l0 l1 l2 l3 l4 l5 => ex_iconst (show decode mX7_feasts.2.1 80 = .ok (.iconst 4, 1) by decide +kernel) (by decide +kernel),
  fun d σ S l0 l1 l2 l3 l4 l5 x => ex_iald (by decide +kernel),
  fun d σ l0 l1 l2 l3 l4 l5 x0 x1 => ex_iv (hs := [1104, 1106, 78, 1107, 101]) (show decode mX7_feasts.2.1 82 = .ok (.invokevirtual 202, 3) by decide +kernel) lkV_7_202 ⟨rfl, Nat.le_of_ble_eq_true rfl, Nat.le_of_ble_eq_true rfl, fun _ => rfl⟩ rfl rfl,
  fun d σ l0 l1 l2 l3 l4 l5 x0 => ex_iv (hs := [1117, 1119, 80, 1120, 101]) (show decode mX7_feasts.2.1 85 = .ok (.invokevirtual 215, 3) by decide +kernel) lkV_7_215 ⟨rfl, Nat.le_of_ble_eq_true rfl, Nat.le_of_ble_eq_true rfl, fun _ => rfl⟩ rfl rfl,
  fun d σ S l0 l1 l2 l3 l4 l5 x => ex_zeq (show decode mX7_feasts.2.1 88 = .ok (.ifCond .eq 7, 3) by decide +kernel) (by decide),
  fun d σ S l0 l1 l2 l3 l4 l5 => ex_iconst (show decode mX7_feasts.2.1 91 = .ok (.iconst 1, 1) by decide +kernel) (by decide +kernel),
  fun d σ S l0 l1 l2 l3 l4 l5 => ex_goto (show decode mX7_feasts.2.1 92 = .ok (.goto 4, 3) by decide +kernel) (by decide),
  fun d σ S l0 l1 l2 l3 l4 l5 => ex_iconst (show decode mX7_feasts.2.1 95 = .ok (.iconst 0, 1) by decide +kernel) (by decide +kernel),
  fun d σ S l0 l1 l2 l4 l5 x y => ex_istore (show decode mX7_feasts.2.1 96 = .ok (.istore 4, 2) by decide +kernel) (Nat.le_of_ble_eq_true rfl) rfl,
  fun d σ S l0 l1 l3 l4 l5 x => ex_iload_n (show decode mX7_feasts.2.1 98 = .ok (.iload_n 2, 1) by decide +kernel) rfl,
  fun d σ S l0 l1 l2 l3 l4 l5 => ex_ldc (hh := 1087) (show decode mX7_feasts.2.1 99 = .ok (.ldc 205, 2) by decide +kernel) (by decide +kernel),
  fun d σ S l0 l1 l2 l3 l4 l5 x y => ex_ceq (show decode mX7_feasts.2.1 101 = .ok (.if_icmp .eq 38, 3) by decide +kernel) (by decide),
  fun d σ S l0 l1 l2 l4 l5 x => ex_iload_n (show decode mX7_feasts.2.1 104 = .ok (.iload_n 3, 1) by decide +kernel) rfl,
  fun d σ l0 l1 l2 l3 l4 l5 x0 => ex_is (hs := [1121, 1122, 1123, 101]) (show decode mX7_feasts.2.1 105 = .ok (.invokestatic 199, 3) by decide +kernel) lkS_7_199 ⟨rfl, Nat.le_of_ble_eq_true rfl, Nat.le_of_ble_eq_true rfl, fun q => nomatch q⟩ rfl rfl,
  fun d σ S l0 l1 l3 l4 l5 x => ex_iload_n (show decode mX7_feasts.2.1 108 = .ok (.iload_n 2, 1) by decide +kernel) rfl,
  fun d σ l0 l1 l2 l3 l4 l5 x0 x1 => ex_is (hs := [1121, 1122, 1123, 101]) (show decode mX7_feasts.2.1 109 = .ok (.invokestatic 199, 3) by decide +kernel) lkS_7_199 ⟨rfl, Nat.le_of_ble_eq_true rfl, Nat.le_of_ble_eq_true rfl, fun q => nomatch q⟩ rfl rfl,
  fun d σ S l0 l1 l2 l3 l4 l5 x y => ex_clt (show decode mX7_feasts.2.1 112 = .ok (.if_icmp .lt 27, 3) by decide +kernel) (by decide),
  fun d σ S l0 l1 l2 l4 l5 x => ex_iload_n (show decode mX7_feasts.2.1 115 = .ok (.iload_n 3, 1) by decide +kernel) rfl,
  fun d σ l0 l1 l2 l3 l4 l5 x0 => ex_is (hs := [1121, 1122, 1123, 101]) (show decode mX7_feasts.2.1 116 = .ok (.invokestatic 199, 3) by decide +kernel) lkS_7_199 ⟨rfl, Nat.le_of_ble_eq_true rfl, Nat.le_of_ble_eq_true rfl, fun q => nomatch q⟩ rfl rfl,
  fun d σ S l0 l1 l3 l4 l5 x => ex_iload_n (show decode mX7_feasts.2.1 119 = .ok (.iload_n 2, 1) by decide +kernel) rfl,
  fun d σ l0 l1 l2 l3 l4 l5 x0 x1 => ex_is (hs := [1121, 1122, 1123, 101]) (show decode mX7_feasts.2.1 120 = .ok (.invokestatic 199, 3) by decide +kernel) lkS_7_199 ⟨rfl, Nat.le_of_ble_eq_true rfl, Nat.le_of_ble_eq_true rfl, fun q => nomatch q⟩ rfl rfl,
  fun d σ S l0 l1 l2 l3 l4 l5 x y => ex_cne (show decode mX7_feasts.2.1 123 = .ok (.if_icmp .ne 20, 3) by decide +kernel) (by decide),
  fun d σ S l1 l2 l3 l4 l5 k => ex_aload_n (show decode mX7_feasts.2.1 126 = .ok (.aload_n 0, 1) by decide +kernel) rfl,
  fun d σ S l0 l1 l2 l4 l5 x => ex_iload_n (show decode mX7_feasts.2.1 127 = .ok (.iload_n 3, 1) by decide +kernel) rfl,
  fun d σ l0 l1 l2 l3 l4 l5 x0 => ex_iv (hs := [1149, 1151, 84, 1152, 101]) (show decode mX7_feasts.2.1 128 = .ok (.invokevirtual 238, 3) by decide +kernel) lkV_7_238 ⟨rfl, Nat.le_of_ble_eq_true rfl, Nat.le_of_ble_eq_true rfl, fun _ => rfl⟩ rfl rfl,
  fun d σ S l1 l2 l3 l4 l5 k => ex_aload_n (show decode mX7_feasts.2.1 131 = .ok (.aload_n 0, 1) by decide +kernel) rfl,
  fun d σ S l0 l1 l3 l4 l5 x => ex_iload_n (show decode mX7_feasts.2.1 132 = .ok (.iload_n 2, 1) by decide +kernel) rfl,
  fun d σ l0 l1 l2 l3 l4 l5 x0 x2 => ex_iv (hs := [1149, 1151, 84, 1152, 101]) (show decode mX7_feasts.2.1 133 = .ok (.invokevirtual 238, 3) by decide +kernel) lkV_7_238 ⟨rfl, Nat.le_of_ble_eq_true rfl, Nat.le_of_ble_eq_true rfl, fun _ => rfl⟩ rfl rfl,
  fun d σ S l0 l1 l2 l3 l4 l5 x y => ex_cge (show decode mX7_feasts.2.1 136 = .ok (.if_icmp .ge 7, 3) by decide +kernel) (by decide),
  fun d σ S l0 l1 l2 l3 l4 l5 => ex_iconst (show decode mX7_feasts.2.1 139 = .ok (.iconst 1, 1) by decide +kernel) (by decide +kernel),
  fun d σ S l0 l1 l2 l3 l4 l5 => ex_goto (show decode mX7_feasts.2.1 140 = .ok (.goto 4, 3) by decide +kernel) (by decide)⟩
theorem kX7_feasts_2 : (∀ (d : Nat) (σ : Sg) (S : List Value) (l0 l1 l2 l3 l4 l5 : Value), exec d mX7_feasts 143 [l0, l1, l2, l3, l4, l5] S σ = exec d mX7_feasts 144 [l0, l1, l2, l3, l4, l5] (.int (nI 0) :: S) σ) ∧
  (∀ (d : Nat) (σ : Sg) (S : List Value) (l0 l1 l2 l3 l5 : Value) (x y : Int32), exec d mX7_feasts 144 [l0, l1, l2, l3, .int y, l5] (.int x :: S) σ = exec d mX7_feasts 146 [l0, l1, l2, l3, .int y, .int x] S σ) ∧
  (∀ (d : Nat) (σ : Sg) (S : List Value) (l0 l1 l2 l3 l5 : Value) (x : Int32), exec d mX7_feasts 146 [l0, l1, l2, l3, .int x, l5] S σ = exec d mX7_feasts 148 [l0, l1, l2, l3, .int x, l5] (.int x :: S) σ) ∧
  (∀ (d : Nat) (σ : Sg) (S : List Value) (l0 l1 l2 l3 l4 l5 : Value) (x : Int32), exec d mX7_feasts 148 [l0, l1, l2, l3, l4, l5] (.int x :: S) σ = if x = nI 0 then exec d mX7_feasts 160 [l0, l1, l2, l3, l4, l5] S σ else exec d mX7_feasts 151 [l0, l1, l2, l3, l4, l5] S σ) ∧
  (∀ (d : Nat) (σ : Sg) (S : List Value) (l0 l1 l2 l3 l4 : Value) (x : Int32), exec d mX7_feasts 151 [l0, l1, l2, l3, l4, .int x] S σ = exec d mX7_feasts 153 [l0, l1, l2, l3, l4, .int x] (.int x :: S) σ) ∧
  (∀ (d : Nat) (σ : Sg) (S : List Value) (l0 l1 l2 l3 l4 l5 : Value) (x : Int32), exec d mX7_feasts 153 [l0, l1, l2, l3, l4, l5] (.int x :: S) σ = if x = nI 0 then exec d mX7_feasts 160 [l0, l1, l2, l3, l4, l5] S σ else exec d mX7_feasts 156 [l0, l1, l2, l3, l4, l5] S σ) ∧
  (∀ (d : Nat) (σ : Sg) (S : List Value) (l0 l1 l2 l4 l5 : Value) (x : Int32), exec d mX7_feasts 156 [l0, l1, l2, .int x, l4, l5] S σ = exec d mX7_feasts 157 [l0, l1, l2, .int x, l4, l5] (.int x :: S) σ) ∧
  (∀ (d : Nat) (σ : Sg) (S : List Value) (l0 l1 l2 l3 l4 l5 : Value), exec d mX7_feasts 157 [l0, l1, l2, l3, l4, l5] S σ = exec d mX7_feasts 161 [l0, l1, l2, l3, l4, l5] S σ) ∧
  (∀ (d : Nat) (σ : Sg) (S : List Value) (l0 l1 l3 l4 l5 : Value) (x : Int32), exec d mX7_feasts 160 [l0, l1, .int x, l3, l4, l5] S σ = exec d mX7_feasts 161 [l0, l1, .int x, l3, l4, l5] (.int x :: S) σ) ∧
  (∀ (d : Nat) (σ : Sg) (S : List Value) (l0 l2 l3 l4 l5 : Value) (x y : Int32), exec d mX7_feasts 161 [l0, .int y, l2, l3, l4, l5] (.int x :: S) σ = exec d mX7_feasts 162 [l0, .int y, .int x, l3, l4, l5] S σ) ∧
  (∀ (d : Nat) (σ : Sg) (S : List Value) (l0 l1 l4 l5 : Value) (x y : Int32), exec d mX7_feasts 162 [l0, l1, .int y, .int x, l4, l5] S σ = exec d mX7_feasts 165 [l0, l1, .int y, .int (x + nI 1), l4, l5] S σ) ∧
  (∀ (d : Nat) (σ : Sg) (S : List Value) (l0 l1 l2 l3 l4 l5 : Value), exec d mX7_feasts 165 [l0, l1, l2, l3, l4, l5] S σ = exec d mX7_feasts 28 [l0, l1, l2, l3, l4, l5] S σ) ∧
  (∀ (d : Nat) (σ : Sg) (S : List Value) (l0 l1 l3 l4 l5 : Value) (x : Int32), exec d mX7_feasts 168 [l0, l1, .int x, l3, l4, l5] S σ = exec d mX7_feasts 169 [l0, l1, .int x, l3, l4, l5] (.int x :: S) σ) ∧
  (∀ (d : Nat) (σ : Sg) (S : List Value) (l0 l1 l2 l3 l4 l5 : Value), exec d mX7_feasts 169 [l0, l1, l2, l3, l4, l5] S σ = exec d mX7_feasts 171 [l0, l1, l2, l3, l4, l5] (.int ((-1000000)) :: S) σ) ∧
  (∀ (d : Nat) (σ : Sg) (S : List Value) (l0 l1 l2 l3 l4 l5 : Value) (x y : Int32), exec d mX7_feasts 171 [l0, l1, l2, l3, l4, l5] (.int y :: .int x :: S) σ = if x = y then exec d mX7_feasts 179 [l0, l1, l2, l3, l4, l5] S σ else exec d mX7_feasts 174 [l0, l1, l2, l3, l4, l5] S σ) ∧
  (∀ (d : Nat) (σ : Sg) (S : List Value) (l0 l2 l3 l4 l5 : Value) (x : Int32), exec d mX7_feasts 174 [l0, .int x, l2, l3, l4, l5] S σ = exec d mX7_feasts 175 [l0, .int x, l2, l3, l4, l5] (.int x :: S) σ) ∧
  (∀ (d : Nat) (σ : Sg) (S : List Value) (l0 l1 l2 l3 l4 l5 : Value), exec d mX7_feasts 175 [l0, l1, l2, l3, l4, l5] S σ = exec d mX7_feasts 176 [l0, l1, l2, l3, l4, l5] (.int (nI 1) :: S) σ) ∧
  (∀ (d : Nat) (σ : Sg) (S : List Value) (l0 l1 l2 l3 l4 l5 : Value) (x y : Int32), exec d mX7_feasts 176 [l0, l1, l2, l3, l4, l5] (.int y :: .int x :: S) σ = if x = y then exec d mX7_feasts 179 [l0, l1, l2, l3, l4, l5] S σ else exec d mX7_feasts 183 [l0, l1, l2, l3, l4, l5] S σ) ∧
  (∀ (d : Nat) (σ : Sg) (S : List Value) (l0 l1 l3 l4 l5 : Value) (x : Int32), exec d mX7_feasts 179 [l0, l1, .int x, l3, l4, l5] S σ = exec d mX7_feasts 180 [l0, l1, .int x, l3, l4, l5] (.int x :: S) σ) ∧
  (∀ (d : Nat) (σ : Sg) (S : List Value) (l0 l1 l2 l3 l4 l5 : Value), exec d mX7_feasts 180 [l0, l1, l2, l3, l4, l5] S σ = exec d mX7_feasts 187 [l0, l1, l2, l3, l4, l5] S σ) ∧
  (∀ (d : Nat) (σ : Sg) (S : List Value) (l0 l1 l3 l4 l5 : Value) (x : Int32), exec d mX7_feasts 183 [l0, l1, .int x, l3, l4, l5] S σ = exec d mX7_feasts 184 [l0, l1, .int x, l3, l4, l5] (.int x :: S) σ) ∧
  (∀ (d : Nat) (σ : Sg) (l0 l1 l2 l3 l4 l5 : Value) (x0 : Int32), exec d mX7_feasts 184 [l0, l1, l2, l3, l4, l5] [.int x0] σ = kb (cal d mX7_ones [.int x0] σ) (fun rs σ2 => exec d mX7_feasts 187 [l0, l1, l2, l3, l4, l5] (rs ++ []) σ2)) ∧
  (∀ (d : Nat) (σ : Sg) (l0 l1 l2 l3 l4 l5 : Value) (x : Int32), exec d mX7_feasts 187 [l0, l1, l2, l3, l4, l5] [.int x] σ = some (some (.int x), σ)) :=
  ⟨fun d σ S l0 l1 l2 l3 l4 l5 => ex_iconst (show decode mX7_feasts.2.1 143 = .ok (.iconst 0, 1) by decide +kernel) (by decide +kernel),
  fun d σ S l0 l1 l2 l3 l5 x y => ex_istore (show decode mX7_feasts.2.1 144 = .ok (.istore 5, 2) by decide +kernel) (Nat.le_of_ble_eq_true rfl) rfl,
  fun d σ S l0 l1 l2 l3 l5 x => ex_iload (show decode mX7_feasts.2.1 146 = .ok (.iload 4, 2) by decide +kernel) rfl,
  fun d σ S l0 l1 l2 l3 l4 l5 x => ex_zeq (show decode mX7_feasts.2.1 148 = .ok (.ifCond .eq 12, 3) by decide +kernel) (by decide),
  fun d σ S l0 l1 l2 l3 l4 x => ex_iload (show decode mX7_feasts.2.1 151 = .ok (.iload 5, 2) by decide +kernel) rfl,
  fun d σ S l0 l1 l2 l3 l4 l5 x => ex_zeq (show decode mX7_feasts.2.1 153 = .ok (.ifCond .eq 7, 3) by decide +kernel) (by decide),
  fun d σ S l0 l1 l2 l4 l5 x => ex_iload_n (show decode mX7_feasts.2.1 156 = .ok (.iload_n 3, 1) by decide +kernel) rfl,
  fun d σ S l0 l1 l2 l3 l4 l5 => ex_goto (show decode mX7_feasts.2.1 157 = .ok (.goto 4, 3) by decide +kernel) (by decide),
  fun d σ S l0 l1 l3 l4 l5 x => ex_iload_n (show decode mX7_feasts.2.1 160 = .ok (.iload_n 2, 1) by decide +kernel) rfl,
  fun d σ S l0 l2 l3 l4 l5 x y => ex_istore_n (show decode mX7_feasts.2.1 161 = .ok (.istore_n 2, 1) by decide +kernel) (Nat.le_of_ble_eq_true rfl) rfl,
  fun d σ S l0 l1 l4 l5 x y => ex_iinc (show decode mX7_feasts.2.1 162 = .ok (.iinc 3 1, 3) by decide +kernel) rfl (by decide +kernel) (Nat.le_of_ble_eq_true rfl) rfl,
  fun d σ S l0 l1 l2 l3 l4 l5 => ex_goto (show decode mX7_feasts.2.1 165 = .ok (.goto (-137), 3) by decide +kernel) (by decide),
  fun d σ S l0 l1 l3 l4 l5 x => ex_iload_n (show decode mX7_feasts.2.1 168 = .ok (.iload_n 2, 1) by decide +kernel) rfl,
  fun d σ S l0 l1 l2 l3 l4 l5 => ex_ldc (hh := 1087) (show decode mX7_feasts.2.1 169 = .ok (.ldc 205, 2) by decide +kernel) (by decide +kernel),
  fun d σ S l0 l1 l2 l3 l4 l5 x y => ex_ceq (show decode mX7_feasts.2.1 171 = .ok (.if_icmp .eq 8, 3) by decide +kernel) (by decide),
  fun d σ S l0 l2 l3 l4 l5 x => ex_iload_n (show decode mX7_feasts.2.1 174 = .ok (.iload_n 1, 1) by decide +kernel) rfl,
  fun d σ S l0 l1 l2 l3 l4 l5 => ex_iconst (show decode mX7_feasts.2.1 175 = .ok (.iconst 1, 1) by decide +kernel) (by decide +kernel),
  fun d σ S l0 l1 l2 l3 l4 l5 x y => ex_cne (show decode mX7_feasts.2.1 176 = .ok (.if_icmp .ne 7, 3) by decide +kernel) (by decide),
  fun d σ S l0 l1 l3 l4 l5 x => ex_iload_n (show decode mX7_feasts.2.1 179 = .ok (.iload_n 2, 1) by decide +kernel) rfl,
  fun d σ S l0 l1 l2 l3 l4 l5 => ex_goto (show decode mX7_feasts.2.1 180 = .ok (.goto 7, 3) by decide +kernel) (by decide),
  fun d σ S l0 l1 l3 l4 l5 x => ex_iload_n (show decode mX7_feasts.2.1 183 = .ok (.iload_n 2, 1) by decide +kernel) rfl,
  fun d σ l0 l1 l2 l3 l4 l5 x0 => ex_is (hs := [1121, 1122, 1123, 101]) (show decode mX7_feasts.2.1 184 = .ok (.invokestatic 199, 3) by decide +kernel) lkS_7_199 ⟨rfl, Nat.le_of_ble_eq_true rfl, Nat.le_of_ble_eq_true rfl, fun q => nomatch q⟩ rfl rfl,
  fun d σ l0 l1 l2 l3 l4 l5 x => ex_iret (show decode mX7_feasts.2.1 187 = .ok (.ireturn, 1) by decide +kernel) rfl⟩
theorem hX7_feasts_28 : ∀ (d : Nat) (σ : Sg) (S : List Value) (l0 l1 l2 l4 l5 : Value) (x : Int32), exec d mX7_feasts 28 [l0, l1, l2, .int x, l4, l5] S σ = exec d mX7_feasts 29 [l0, l1, l2, .int x, l4, l5] (.int x :: S) σ := fun d σ S l0 l1 l2 l4 l5 x => ex_iload_n (show decode mX7_feasts.2.1 28 = .ok (.iload_n 3, 1) by decide +kernel) rfl
theorem aX7_feasts_50 : ∀ (d : Nat) (a1 : Int32) (σ : Sg), cal (d + 1) mX7_feasts [.ref 50, .int a1] σ = exec d mX7_feasts 0 [.ref 50, .int a1, uu, uu, uu, uu] [] σ := fun _ _ _ => rfl
theorem kX7_mends_0 : (∀ (d : Nat) (σ : Sg) (S : List Value) (l1 l2 l3 l4 l5 : Value) (k : Nat), exec d mX7_mends 0 [.ref k, l1, l2, l3, l4, l5] S σ = exec d mX7_mends 1 [.ref k, l1, l2, l3, l4, l5] (.ref k :: S) σ) ∧
  (∀ (d : Nat) (σ : Sg) (l0 l1 l2 l3 l4 l5 : Value), exec d mX7_mends 1 [l0, l1, l2, l3, l4, l5] [.ref 50] σ = kb (cal d mX7_isTrial [.ref 50] σ) (fun rs σ2 => exec d mX7_mends 4 [l0, l1, l2, l3, l4, l5] (rs ++ []) σ2)) ∧
  (∀ (d : Nat) (σ : Sg) (S : List Value) (l0 l1 l2 l3 l4 l5 : Value) (x : Int32), exec d mX7_mends 4 [l0, l1, l2, l3, l4, l5] (.int x :: S) σ = if x = nI 0 then exec d mX7_mends 7 [l0, l1, l2, l3, l4, l5] S σ else exec d mX7_mends 10 [l0, l1, l2, l3, l4, l5] S σ) ∧
  (∀ (d : Nat) (σ : Sg) (S : List Value) (l0 l1 l2 l3 l4 l5 : Value), exec d mX7_mends 7 [l0, l1, l2, l3, l4, l5] S σ = exec d mX7_mends 9 [l0, l1, l2, l3, l4, l5] (.int ((-1000002)) :: S) σ) ∧
  (∀ (d : Nat) (σ : Sg) (l0 l1 l2 l3 l4 l5 : Value) (x : Int32), exec d mX7_mends 9 [l0, l1, l2, l3, l4, l5] [.int x] σ = some (some (.int x), σ)) ∧
  (∀ (d : Nat) (σ : Sg) (S : List Value) (l0 l2 l3 l4 l5 : Value) (x : Int32), exec d mX7_mends 10 [l0, .int x, l2, l3, l4, l5] S σ = exec d mX7_mends 11 [l0, .int x, l2, l3, l4, l5] (.int x :: S) σ) ∧
  (∀ (d : Nat) (σ : Sg) (S : List Value) (l0 l1 l2 l3 l4 l5 : Value) (x : Int32), exec d mX7_mends 11 [l0, l1, l2, l3, l4, l5] (.int x :: S) σ = exec d mX7_mends 12 [l0, l1, l2, l3, l4, l5] (.long x.toInt64 :: S) σ) ∧
  (∀ (d : Nat) (σ : Sg) (S : List Value) (l0 l1 l2 l3 l4 l5 : Value), exec d mX7_mends 12 [l0, l1, l2, l3, l4, l5] S σ = exec d mX7_mends 13 [l0, l1, l2, l3, l4, l5] (.long (lN 0) :: S) σ) ∧
  (∀ (d : Nat) (σ : Sg) (S : List Value) (l0 l1 l2 l3 l4 l5 : Value), exec d mX7_mends 13 [l0, l1, l2, l3, l4, l5] S σ = exec d mX7_mends 14 [l0, l1, l2, l3, l4, l5] (.long (lN 1) :: S) σ) ∧
  (∀ (d : Nat) (σ : Sg) (l0 l1 l2 l3 l4 l5 : Value) (x0 x1 x2 : Int64), exec d mX7_mends 14 [l0, l1, l2, l3, l4, l5] [.long x0, .long x1, .long x2] σ = kb (cal d mX7_in [.long x2, .long x1, .long x0] σ) (fun rs σ2 => exec d mX7_mends 17 [l0, l1, l2, l3, l4, l5] (rs ++ []) σ2)) ∧
  (∀ (d : Nat) (σ : Sg) (S : List Value) (l0 l1 l2 l3 l4 l5 : Value) (x : Int32), exec d mX7_mends 17 [l0, l1, l2, l3, l4, l5] (.int x :: S) σ = if x = nI 0 then exec d mX7_mends 20 [l0, l1, l2, l3, l4, l5] S σ else exec d mX7_mends 23 [l0, l1, l2, l3, l4, l5] S σ) ∧
  (∀ (d : Nat) (σ : Sg) (S : List Value) (l0 l1 l2 l3 l4 l5 : Value), exec d mX7_mends 20 [l0, l1, l2, l3, l4, l5] S σ = exec d mX7_mends 22 [l0, l1, l2, l3, l4, l5] (.int ((-1000001)) :: S) σ) ∧
  (∀ (d : Nat) (σ : Sg) (l0 l1 l2 l3 l4 l5 : Value) (x : Int32), exec d mX7_mends 22 [l0, l1, l2, l3, l4, l5] [.int x] σ = some (some (.int x), σ)) ∧
  (∀ (d : Nat) (σ : Sg) (S : List Value) (l0 l1 l2 l3 l4 l5 : Value), exec d mX7_mends 23 [l0, l1, l2, l3, l4, l5] S σ = exec d mX7_mends 25 [l0, l1, l2, l3, l4, l5] (.int ((-1000000)) :: S) σ) ∧
  (∀ (d : Nat) (σ : Sg) (S : List Value) (l0 l2 l3 l4 l5 : Value) (x y : Int32), exec d mX7_mends 25 [l0, .int y, l2, l3, l4, l5] (.int x :: S) σ = exec d mX7_mends 26 [l0, .int y, .int x, l3, l4, l5] S σ) ∧
  (∀ (d : Nat) (σ : Sg) (S : List Value) (l0 l1 l2 l3 l4 l5 : Value), exec d mX7_mends 26 [l0, l1, l2, l3, l4, l5] S σ = exec d mX7_mends 27 [l0, l1, l2, l3, l4, l5] (.int (nI 0) :: S) σ) ∧
  (∀ (d : Nat) (σ : Sg) (S : List Value) (l0 l1 l3 l4 l5 : Value) (x y : Int32), exec d mX7_mends 27 [l0, l1, .int y, l3, l4, l5] (.int x :: S) σ = exec d mX7_mends 28 [l0, l1, .int y, .int x, l4, l5] S σ) ∧
  (∀ (d : Nat) (σ : Sg) (S : List Value) (l0 l1 l2 l3 l4 l5 : Value), exec d mX7_mends 29 [l0, l1, l2, l3, l4, l5] S σ = exec d mX7_mends 30 [l0, l1, l2, l3, l4, l5] (.int (nI 1) :: S) σ) ∧
  (∀ (d : Nat) (σ : Sg) (S : List Value) (l1 l2 l3 l4 l5 : Value) (k : Nat), exec d mX7_mends 30 [.ref k, l1, l2, l3, l4, l5] S σ = exec d mX7_mends 31 [.ref k, l1, l2, l3, l4, l5] (.ref k :: S) σ) ∧
  (∀ (d : Nat) (σ : Sg) (S : List Value) (l0 l1 l2 l3 l4 l5 : Value), exec d mX7_mends 31 [l0, l1, l2, l3, l4, l5] (.ref 50 :: S) σ = exec d mX7_mends 34 [l0, l1, l2, l3, l4, l5] (.ref 51 :: S) σ) ∧
  (∀ (d : Nat) (σ : Sg) (S : List Value) (l0 l1 l2 l3 l4 l5 : Value), exec d mX7_mends 34 [l0, l1, l2, l3, l4, l5] S σ = exec d mX7_mends 36 [l0, l1, l2, l3, l4, l5] (.int (nI 7) :: S) σ) ∧
  (∀ (d : Nat) (σ : Sg) (S : List Value) (l0 l1 l2 l3 l4 l5 : Value) (x : Int32), exec d mX7_mends 36 [l0, l1, l2, l3, l4, l5] (.int x :: .ref 51 :: S) σ = if inb x 208 = true then exec d mX7_mends 37 [l0, l1, l2, l3, l4, l5] (.int (σ 51 x.toNatClampNeg) :: S) σ else none) ∧
  (∀ (d : Nat) (σ : Sg) (S : List Value) (l0 l1 l2 l3 l4 l5 : Value) (x y : Int32), exec d mX7_mends 37 [l0, l1, l2, l3, l4, l5] (.int y :: .int x :: S) σ = exec d mX7_mends 38 [l0, l1, l2, l3, l4, l5] (.int (x <<< (y &&& 31)) :: S) σ) ∧
  (∀ (d : Nat) (σ : Sg) (S : List Value) (l0 l1 l2 l3 l4 l5 : Value) (x y : Int32), exec d mX7_mends 38 [l0, l1, l2, l3, l4, l5] (.int y :: .int x :: S) σ = if y ≤ x then exec d mX7_mends 187 [l0, l1, l2, l3, l4, l5] S σ else exec d mX7_mends 41 [l0, l1, l2, l3, l4, l5] S σ) ∧
  (∀ (d : Nat) (σ : Sg) (S : List Value) (l0 l1 l2 l3 l4 l5 : Value), exec d mX7_mends 41 [l0, l1, l2, l3, l4, l5] S σ = exec d mX7_mends 42 [l0, l1, l2, l3, l4, l5] (.int (nI 0) :: S) σ) ∧
  (∀ (d : Nat) (σ : Sg) (S : List Value) (l0 l1 l2 l4 l5 : Value) (x y : Int32), exec d mX7_mends 42 [l0, l1, l2, .int y, l4, l5] (.int x :: S) σ = exec d mX7_mends 44 [l0, l1, l2, .int y, .int x, l5] S σ) ∧
  (∀ (d : Nat) (σ : Sg) (S : List Value) (l0 l1 l2 l3 l4 l5 : Value), exec d mX7_mends 44 [l0, l1, l2, l3, l4, l5] S σ = exec d mX7_mends 45 [l0, l1, l2, l3, l4, l5] (.int (nI 0) :: S) σ) ∧
  (∀ (d : Nat) (σ : Sg) (S : List Value) (l0 l1 l2 l3 l5 : Value) (x y : Int32), exec d mX7_mends 45 [l0, l1, l2, l3, .int y, l5] (.int x :: S) σ = exec d mX7_mends 47 [l0, l1, l2, l3, .int y, .int x] S σ) ∧
  (∀ (d : Nat) (σ : Sg) (S : List Value) (l1 l2 l3 l4 l5 : Value) (k : Nat), exec d mX7_mends 49 [.ref k, l1, l2, l3, l4, l5] S σ = exec d mX7_mends 50 [.ref k, l1, l2, l3, l4, l5] (.ref k :: S) σ) ∧
  (∀ (d : Nat) (σ : Sg) (S : List Value) (l0 l1 l2 l3 l4 l5 : Value), exec d mX7_mends 50 [l0, l1, l2, l3, l4, l5] (.ref 50 :: S) σ = exec d mX7_mends 53 [l0, l1, l2, l3, l4, l5] (.ref 51 :: S) σ) ∧
  (∀ (d : Nat) (σ : Sg) (S : List Value) (l0 l1 l2 l3 l4 l5 : Value), exec d mX7_mends 53 [l0, l1, l2, l3, l4, l5] S σ = exec d mX7_mends 55 [l0, l1, l2, l3, l4, l5] (.int (nI 7) :: S) σ) ∧
  (∀ (d : Nat) (σ : Sg) (S : List Value) (l0 l1 l2 l3 l4 l5 : Value) (x : Int32), exec d mX7_mends 55 [l0, l1, l2, l3, l4, l5] (.int x :: .ref 51 :: S) σ = if inb x 208 = true then exec d mX7_mends 56 [l0, l1, l2, l3, l4, l5] (.int (σ 51 x.toNatClampNeg) :: S) σ else none) ∧
  (∀ (d : Nat) (σ : Sg) (S : List Value) (l0 l1 l2 l3 l4 l5 : Value) (x y : Int32), exec d mX7_mends 56 [l0, l1, l2, l3, l4, l5] (.int y :: .int x :: S) σ = if y ≤ x then exec d mX7_mends 95 [l0, l1, l2, l3, l4, l5] S σ else exec d mX7_mends 59 [l0, l1, l2, l3, l4, l5] S σ) ∧
  (∀ (d : Nat) (σ : Sg) (S : List Value) (l0 l1 l2 l3 l5 : Value) (x : Int32), exec d mX7_mends 59 [l0, l1, l2, l3, .int x, l5] S σ = exec d mX7_mends 61 [l0, l1, l2, l3, .int x, l5] (.int x :: S) σ) ∧
  (∀ (d : Nat) (σ : Sg) (S : List Value) (l0 l1 l2 l4 l5 : Value) (x : Int32), exec d mX7_mends 61 [l0, l1, l2, .int x, l4, l5] S σ = exec d mX7_mends 62 [l0, l1, l2, .int x, l4, l5] (.int x :: S) σ) ∧
  (∀ (d : Nat) (σ : Sg) (S : List Value) (l0 l1 l2 l3 l4 : Value) (x : Int32), exec d mX7_mends 62 [l0, l1, l2, l3, l4, .int x] S σ = exec d mX7_mends 64 [l0, l1, l2, l3, l4, .int x] (.int x :: S) σ) ∧
  (∀ (d : Nat) (σ : Sg) (l0 l1 l2 l3 l4 l5 : Value) (x0 x1 x2 : Int32), exec d mX7_mends 64 [l0, l1, l2, l3, l4, l5] [.int x0, .int x1, .int x2] σ = kb (cal d mX7_has [.int x1, .int x0] σ) (fun rs σ2 => exec d mX7_mends 67 [l0, l1, l2, l3, l4, l5] (rs ++ [.int x2]) σ2)) ∧
  (∀ (d : Nat) (σ : Sg) (S : List Value) (l0 l1 l2 l3 l4 l5 : Value) (x : Int32), exec d mX7_mends 67 [l0, l1, l2, l3, l4, l5] (.int x :: S) σ = if x = nI 0 then exec d mX7_mends 85 [l0, l1, l2, l3, l4, l5] S σ else exec d mX7_mends 70 [l0, l1, l2, l3, l4, l5] S σ) ∧
  (∀ (d : Nat) (σ : Sg) (S : List Value) (l1 l2 l3 l4 l5 : Value) (k : Nat), exec d mX7_mends 70 [.ref k, l1, l2, l3, l4, l5] S σ = exec d mX7_mends 71 [.ref k, l1, l2, l3, l4, l5] (.ref k :: S) σ) ∧
  (∀ (d : Nat) (σ : Sg) (S : List Value) (l0 l1 l2 l3 l4 l5 : Value), exec d mX7_mends 71 [l0, l1, l2, l3, l4, l5] (.ref 50 :: S) σ = exec d mX7_mends 74 [l0, l1, l2, l3, l4, l5] (.ref 51 :: S) σ) :=
  ⟨fun d σ S l1 l2 l3 l4 l5 k => ex_aload_n (show decode mX7_mends.2.1 0 = .ok (.aload_n 0, 1) by decide +kernel) rfl,
  fun d σ l0 l1 l2 l3 l4 l5 => ex_iv (hs := [1074, 1076, 74, 1077, 101]) (show decode mX7_mends.2.1 1 = .ok (.invokevirtual 188, 3) by decide +kernel) lkV_7_188 ⟨rfl, Nat.le_of_ble_eq_true rfl, Nat.le_of_ble_eq_true rfl, fun _ => rfl⟩ rfl rfl,
  fun d σ S l0 l1 l2 l3 l4 l5 x => ex_zne (show decode mX7_mends.2.1 4 = .ok (.ifCond .ne 6, 3) by decide +kernel) (by decide),
  fun d σ S l0 l1 l2 l3 l4 l5 => ex_ldc (hh := 1009) (show decode mX7_mends.2.1 7 = .ok (.ldc 171, 2) by decide +kernel) (by decide +kernel),
  fun d σ l0 l1 l2 l3 l4 l5 x => ex_iret (show decode mX7_mends.2.1 9 = .ok (.ireturn, 1) by decide +kernel) rfl,
  fun d σ S l0 l2 l3 l4 l5 x => ex_iload_n (show decode mX7_mends.2.1 10 = .ok (.iload_n 1, 1) by decide +kernel) rfl,
  fun d σ S l0 l1 l2 l3 l4 l5 x => ex_i2l (show decode mX7_mends.2.1 11 = .ok (.i2l, 1) by decide +kernel),
  fun d σ S l0 l1 l2 l3 l4 l5 => ex_lconst (show decode mX7_mends.2.1 12 = .ok (.lconst 0, 1) by decide +kernel) (by decide +kernel),
  fun d σ S l0 l1 l2 l3 l4 l5 => ex_lconst (show decode mX7_mends.2.1 13 = .ok (.lconst 1, 1) by decide +kernel) (by decide +kernel),
  fun d σ l0 l1 l2 l3 l4 l5 x0 x1 x2 => ex_is (hs := [920, 921, 922, 101]) (show decode mX7_mends.2.1 14 = .ok (.invokestatic 63, 3) by decide +kernel) lkS_7_63 ⟨rfl, Nat.le_of_ble_eq_true rfl, Nat.le_of_ble_eq_true rfl, fun q => nomatch q⟩ rfl rfl,
  fun d σ S l0 l1 l2 l3 l4 l5 x => ex_zne (show decode mX7_mends.2.1 17 = .ok (.ifCond .ne 6, 3) by decide +kernel) (by decide),
  fun d σ S l0 l1 l2 l3 l4 l5 => ex_ldc (hh := 924) (show decode mX7_mends.2.1 20 = .ok (.ldc 73, 2) by decide +kernel) (by decide +kernel),
  fun d σ l0 l1 l2 l3 l4 l5 x => ex_iret (show decode mX7_mends.2.1 22 = .ok (.ireturn, 1) by decide +kernel) rfl,
  fun d σ S l0 l1 l2 l3 l4 l5 => ex_ldc (hh := 1087) (show decode mX7_mends.2.1 23 = .ok (.ldc 205, 2) by decide +kernel) (by decide +kernel),
  fun d σ S l0 l2 l3 l4 l5 x y => ex_istore_n (show decode mX7_mends.2.1 25 = .ok (.istore_n 2, 1) by decide +kernel) (Nat.le_of_ble_eq_true rfl) rfl,
  fun d σ S l0 l1 l2 l3 l4 l5 => ex_iconst (show decode mX7_mends.2.1 26 = .ok (.iconst 0, 1) by decide +kernel) (by decide +kernel),
  fun d σ S l0 l1 l3 l4 l5 x y => ex_istore_n (show decode mX7_mends.2.1 27 = .ok (.istore_n 3, 1) by decide +kernel) (Nat.le_of_ble_eq_true rfl) rfl,
  fun d σ S l0 l1 l2 l3 l4 l5 => ex_iconst (show decode mX7_mends.2.1 29 = .ok (.iconst 1, 1) by decide +kernel) (by decide +kernel),
  fun d σ S l1 l2 l3 l4 l5 k => ex_aload_n (show decode mX7_mends.2.1 30 = .ok (.aload_n 0, 1) by decide +kernel) rfl,
  fun d σ S l0 l1 l2 l3 l4 l5 => ex_getr (idx := 7) (ci := 7) (ff := 0) (n := 26) (hh := 833) (by decide +kernel),
  fun d σ S l0 l1 l2 l3 l4 l5 => ex_bipush (show decode mX7_mends.2.1 34 = .ok (.bipush 7, 2) by decide +kernel) (by decide +kernel),
  fun d σ S l0 l1 l2 l3 l4 l5 x => ex_iald (by decide +kernel),
  fun d σ S l0 l1 l2 l3 l4 l5 x y => ex_ishl (show decode mX7_mends.2.1 37 = .ok (.ishl, 1) by decide +kernel),
  fun d σ S l0 l1 l2 l3 l4 l5 x y => ex_cge (show decode mX7_mends.2.1 38 = .ok (.if_icmp .ge 149, 3) by decide +kernel) (by decide),
  fun d σ S l0 l1 l2 l3 l4 l5 => ex_iconst (show decode mX7_mends.2.1 41 = .ok (.iconst 0, 1) by decide +kernel) (by decide +kernel),
  fun d σ S l0 l1 l2 l4 l5 x y => ex_istore (show decode mX7_mends.2.1 42 = .ok (.istore 4, 2) by decide +kernel) (Nat.le_of_ble_eq_true rfl) rfl,
  fun d σ S l0 l1 l2 l3 l4 l5 => ex_iconst (show decode mX7_mends.2.1 44 = .ok (.iconst 0, 1) by decide +kernel) (by decide +kernel),
  fun d σ S l0 l1 l2 l3 l5 x y => ex_istore (show decode mX7_mends.2.1 45 = .ok (.istore 5, 2) by decide +kernel) (Nat.le_of_ble_eq_true rfl) rfl,
  fun d σ S l1 l2 l3 l4 l5 k => ex_aload_n (show decode mX7_mends.2.1 49 = .ok (.aload_n 0, 1) by decide +kernel) rfl,
  fun d σ S l0 l1 l2 l3 l4 l5 => ex_getr (idx := 7) (ci := 7) (ff := 0) (n := 26) (hh := 833) (by decide +kernel),
  fun d σ S l0 l1 l2 l3 l4 l5 => ex_bipush (show decode mX7_mends.2.1 53 = .ok (.bipush 7, 2) by decide +kernel) (by decide +kernel),
  fun d σ S l0 l1 l2 l3 l4 l5 x => ex_iald (by decide +kernel),
  fun d σ S l0 l1 l2 l3 l4 l5 x y => ex_cge (show decode mX7_mends.2.1 56 = .ok (.if_icmp .ge 39, 3) by decide +kernel) (by decide),
  fun d σ S l0 l1 l2 l3 l5 x => ex_iload (show decode mX7_mends.2.1 59 = .ok (.iload 4, 2) by decide +kernel) rfl,
  fun d σ S l0 l1 l2 l4 l5 x => ex_iload_n (show decode mX7_mends.2.1 61 = .ok (.iload_n 3, 1) by decide +kernel) rfl,
  fun d σ S l0 l1 l2 l3 l4 x => ex_iload (show decode mX7_mends.2.1 62 = .ok (.iload 5, 2) by decide +kernel) rfl,
  fun d σ l0 l1 l2 l3 l4 l5 x0 x1 x2 => ex_is (hs := [1033, 1034, 1035, 101]) (show decode mX7_mends.2.1 64 = .ok (.invokestatic 151, 3) by decide +kernel) lkS_7_151 ⟨rfl, Nat.le_of_ble_eq_true rfl, Nat.le_of_ble_eq_true rfl, fun q => nomatch q⟩ rfl rfl,
  fun d σ S l0 l1 l2 l3 l4 l5 x => ex_zeq (show decode mX7_mends.2.1 67 = .ok (.ifCond .eq 18, 3) by decide +kernel) (by decide),
  fun d σ S l1 l2 l3 l4 l5 k => ex_aload_n (show decode mX7_mends.2.1 70 = .ok (.aload_n 0, 1) by decide +kernel) rfl,
  fun d σ S l0 l1 l2 l3 l4 l5 => ex_getr (idx := 7) (ci := 7) (ff := 0) (n := 26) (hh := 833) (by decide +kernel)⟩
theorem kX7_mends_1 : (∀ (d : Nat) (σ : Sg) (S : List Value) (l0 l1 l2 l3 l4 l5 : Value), exec d mX7_mends 74 [l0, l1, l2, l3, l4, l5] S σ = exec d mX7_mends 76 [l0, l1, l2, l3, l4, l5] (.int (nI 23) :: S) σ) ∧
  (∀ (d : Nat) (σ : Sg) (S : List Value) (l0 l1 l2 l3 l4 : Value) (x : Int32), exec d mX7_mends 76 [l0, l1, l2, l3, l4, .int x] S σ = exec d mX7_mends 78 [l0, l1, l2, l3, l4, .int x] (.int x :: S) σ) ∧
  (∀ (d : Nat) (σ : Sg) (S : List Value) (l0 l1 l2 l3 l4 l5 : Value) (x y : Int32), exec d mX7_mends 78 [l0, l1, l2, l3, l4, l5] (.int y :: .int x :: S) σ = exec d mX7_mends 79 [l0, l1, l2, l3, l4, l5] (.int (x + y) :: S) σ) ∧
  (∀ (d : Nat) (σ : Sg) (S : List Value) (l0 l1 l2 l3 l4 l5 : Value) (x : Int32), exec d mX7_mends 79 [l0, l1, l2, l3, l4, l5] (.int x :: .ref 51 :: S) σ = if inb x 208 = true then exec d mX7_mends 80 [l0, l1, l2, l3, l4, l5] (.int (σ 51 x.toNatClampNeg) :: S) σ else none) ∧
  (∀ (d : Nat) (σ : Sg) (S : List Value) (l0 l1 l2 l3 l4 l5 : Value), exec d mX7_mends 80 [l0, l1, l2, l3, l4, l5] S σ = exec d mX7_mends 81 [l0, l1, l2, l3, l4, l5] (.int (nI 1) :: S) σ) ∧
  (∀ (d : Nat) (σ : Sg) (S : List Value) (l0 l1 l2 l3 l4 l5 : Value) (x y : Int32), exec d mX7_mends 81 [l0, l1, l2, l3, l4, l5] (.int y :: .int x :: S) σ = exec d mX7_mends 82 [l0, l1, l2, l3, l4, l5] (.int (x + y) :: S) σ) ∧
  (∀ (d : Nat) (σ : Sg) (S : List Value) (l0 l1 l2 l3 l4 l5 : Value), exec d mX7_mends 82 [l0, l1, l2, l3, l4, l5] S σ = exec d mX7_mends 86 [l0, l1, l2, l3, l4, l5] S σ) ∧
  (∀ (d : Nat) (σ : Sg) (S : List Value) (l0 l1 l2 l3 l4 l5 : Value), exec d mX7_mends 85 [l0, l1, l2, l3, l4, l5] S σ = exec d mX7_mends 86 [l0, l1, l2, l3, l4, l5] (.int (nI 0) :: S) σ) ∧
  (∀ (d : Nat) (σ : Sg) (S : List Value) (l0 l1 l2 l3 l4 l5 : Value) (x y : Int32), exec d mX7_mends 86 [l0, l1, l2, l3, l4, l5] (.int y :: .int x :: S) σ = exec d mX7_mends 87 [l0, l1, l2, l3, l4, l5] (.int (x + y) :: S) σ) ∧
  (∀ (d : Nat) (σ : Sg) (S : List Value) (l0 l1 l2 l4 l5 : Value) (x y : Int32), exec d mX7_mends 87 [l0, l1, l2, .int y, l4, l5] (.int x :: S) σ = exec d mX7_mends 89 [l0, l1, l2, .int y, .int x, l5] S σ) ∧
  (∀ (d : Nat) (σ : Sg) (S : List Value) (l0 l1 l2 l3 : Value) (x y : Int32), exec d mX7_mends 89 [l0, l1, l2, l3, .int y, .int x] S σ = exec d mX7_mends 92 [l0, l1, l2, l3, .int y, .int (x + nI 1)] S σ) ∧
  (∀ (d : Nat) (σ : Sg) (S : List Value) (l0 l1 l2 l3 l4 l5 : Value), exec d mX7_mends 92 [l0, l1, l2, l3, l4, l5] S σ = exec d mX7_mends 47 [l0, l1, l2, l3, l4, l5] S σ) ∧
  (∀ (d : Nat) (σ : Sg) (S : List Value) (l0 l1 l2 l4 l5 : Value) (x : Int32), exec d mX7_mends 95 [l0, l1, l2, .int x, l4, l5] S σ = exec d mX7_mends 96 [l0, l1, l2, .int x, l4, l5] (.int x :: S) σ) ∧
  (∀ (d : Nat) (σ : Sg) (S : List Value) (l1 l2 l3 l4 l5 : Value) (k : Nat), exec d mX7_mends 96 [.ref k, l1, l2, l3, l4, l5] S σ = exec d mX7_mends 97 [.ref k, l1, l2, l3, l4, l5] (.ref k :: S) σ) ∧
  (∀ (d : Nat) (σ : Sg) (S : List Value) (l0 l1 l2 l3 l4 l5 : Value), exec d mX7_mends 97 [l0, l1, l2, l3, l4, l5] (.ref 50 :: S) σ = exec d mX7_mends 100 [l0, l1, l2, l3, l4, l5] (.ref 51 :: S) σ) ∧
  (∀ (d : Nat) (σ : Sg) (S : List Value) (l0 l1 l2 l3 l4 l5 : Value), exec d mX7_mends 100 [l0, l1, l2, l3, l4, l5] S σ = exec d mX7_mends 101 [l0, l1, l2, l3, l4, l5] (.int (nI 4) :: S) σ) ∧
  (∀ (d : Nat) (σ : Sg) (S : List Value) (l0 l1 l2 l3 l4 l5 : Value) (x : Int32), exec d mX7_mends 101 [l0, l1, l2, l3, l4, l5] (.int x :: .ref 51 :: S) σ = if inb x 208 = true then exec d mX7_mends 102 [l0, l1, l2, l3, l4, l5] (.int (σ 51 x.toNatClampNeg) :: S) σ else none) ∧
  (∀ (d : Nat) (σ : Sg) (S : List Value) (l0 l1 l2 l3 l4 l5 : Value), exec d mX7_mends 102 [l0, l1, l2, l3, l4, l5] S σ = exec d mX7_mends 103 [l0, l1, l2, l3, l4, l5] (.int ((-1)) :: S) σ) ∧
  (∀ (d : Nat) (σ : Sg) (S : List Value) (l0 l1 l2 l3 l4 l5 : Value) (x y : Int32), exec d mX7_mends 103 [l0, l1, l2, l3, l4, l5] (.int y :: .int x :: S) σ = exec d mX7_mends 104 [l0, l1, l2, l3, l4, l5] (.int (x ^^^ y) :: S) σ) ∧
  (∀ (d : Nat) (σ : Sg) (S : List Value) (l0 l1 l2 l3 l4 l5 : Value) (x y : Int32), exec d mX7_mends 104 [l0, l1, l2, l3, l4, l5] (.int y :: .int x :: S) σ = exec d mX7_mends 105 [l0, l1, l2, l3, l4, l5] (.int (x &&& y) :: S) σ) ∧
  (∀ (d : Nat) (σ : Sg) (S : List Value) (l0 l1 l2 l3 l4 l5 : Value) (x : Int32), exec d mX7_mends 105 [l0, l1, l2, l3, l4, l5] (.int x :: S) σ = if x = nI 0 then exec d mX7_mends 108 [l0, l1, l2, l3, l4, l5] S σ else exec d mX7_mends 150 [l0, l1, l2, l3, l4, l5] S σ) ∧
  (∀ (d : Nat) (σ : Sg) (S : List Value) (l0 l1 l2 l3 l5 : Value) (x : Int32), exec d mX7_mends 108 [l0, l1, l2, l3, .int x, l5] S σ = exec d mX7_mends 110 [l0, l1, l2, l3, .int x, l5] (.int x :: S) σ) ∧
  (∀ (d : Nat) (σ : Sg) (S : List Value) (l1 l2 l3 l4 l5 : Value) (k : Nat), exec d mX7_mends 110 [.ref k, l1, l2, l3, l4, l5] S σ = exec d mX7_mends 111 [.ref k, l1, l2, l3, l4, l5] (.ref k :: S) σ) ∧
  (∀ (d : Nat) (σ : Sg) (S : List Value) (l0 l1 l2 l3 l4 l5 : Value), exec d mX7_mends 111 [l0, l1, l2, l3, l4, l5] (.ref 50 :: S) σ = exec d mX7_mends 114 [l0, l1, l2, l3, l4, l5] (.ref 51 :: S) σ) ∧
  (∀ (d : Nat) (σ : Sg) (S : List Value) (l0 l1 l2 l3 l4 l5 : Value), exec d mX7_mends 114 [l0, l1, l2, l3, l4, l5] S σ = exec d mX7_mends 115 [l0, l1, l2, l3, l4, l5] (.int (nI 1) :: S) σ) ∧
  (∀ (d : Nat) (σ : Sg) (S : List Value) (l0 l1 l2 l3 l4 l5 : Value) (x : Int32), exec d mX7_mends 115 [l0, l1, l2, l3, l4, l5] (.int x :: .ref 51 :: S) σ = if inb x 208 = true then exec d mX7_mends 116 [l0, l1, l2, l3, l4, l5] (.int (σ 51 x.toNatClampNeg) :: S) σ else none) ∧
  (∀ (d : Nat) (σ : Sg) (S : List Value) (l0 l1 l2 l3 l4 l5 : Value) (x y : Int32), exec d mX7_mends 116 [l0, l1, l2, l3, l4, l5] (.int y :: .int x :: S) σ = if y < x then exec d mX7_mends 150 [l0, l1, l2, l3, l4, l5] S σ else exec d mX7_mends 119 [l0, l1, l2, l3, l4, l5] S σ) ∧
  (∀ (d : Nat) (σ : Sg) (S : List Value) (l1 l2 l3 l4 l5 : Value) (k : Nat), exec d mX7_mends 119 [.ref k, l1, l2, l3, l4, l5] S σ = exec d mX7_mends 120 [.ref k, l1, l2, l3, l4, l5] (.ref k :: S) σ) ∧
  (∀ (d : Nat) (σ : Sg) (S : List Value) (l1 l2 l3 l4 l5 : Value) (k : Nat), exec d mX7_mends 120 [.ref k, l1, l2, l3, l4, l5] S σ = exec d mX7_mends 121 [.ref k, l1, l2, l3, l4, l5] (.ref k :: S) σ) ∧
  (∀ (d : Nat) (σ : Sg) (S : List Value) (l1 l2 l3 l4 l5 : Value) (k : Nat), exec d mX7_mends 121 [.ref k, l1, l2, l3, l4, l5] S σ = exec d mX7_mends 122 [.ref k, l1, l2, l3, l4, l5] (.ref k :: S) σ) ∧
  (∀ (d : Nat) (σ : Sg) (S : List Value) (l0 l1 l2 l3 l4 l5 : Value), exec d mX7_mends 122 [l0, l1, l2, l3, l4, l5] (.ref 50 :: S) σ = exec d mX7_mends 125 [l0, l1, l2, l3, l4, l5] (.ref 51 :: S) σ) ∧
  (∀ (d : Nat) (σ : Sg) (S : List Value) (l0 l1 l2 l3 l4 l5 : Value), exec d mX7_mends 125 [l0, l1, l2, l3, l4, l5] S σ = exec d mX7_mends 126 [l0, l1, l2, l3, l4, l5] (.int (nI 5) :: S) σ) ∧
  (∀ (d : Nat) (σ : Sg) (S : List Value) (l0 l1 l2 l3 l4 l5 : Value) (x : Int32), exec d mX7_mends 126 [l0, l1, l2, l3, l4, l5] (.int x :: .ref 51 :: S) σ = if inb x 208 = true then exec d mX7_mends 127 [l0, l1, l2, l3, l4, l5] (.int (σ 51 x.toNatClampNeg) :: S) σ else none) ∧
  (∀ (d : Nat) (σ : Sg) (S : List Value) (l1 l2 l3 l4 l5 : Value) (k : Nat), exec d mX7_mends 127 [.ref k, l1, l2, l3, l4, l5] S σ = exec d mX7_mends 128 [.ref k, l1, l2, l3, l4, l5] (.ref k :: S) σ) ∧
  (∀ (d : Nat) (σ : Sg) (S : List Value) (l0 l1 l2 l3 l4 l5 : Value), exec d mX7_mends 128 [l0, l1, l2, l3, l4, l5] (.ref 50 :: S) σ = exec d mX7_mends 131 [l0, l1, l2, l3, l4, l5] (.ref 51 :: S) σ) ∧
  (∀ (d : Nat) (σ : Sg) (S : List Value) (l0 l1 l2 l3 l4 l5 : Value), exec d mX7_mends 131 [l0, l1, l2, l3, l4, l5] S σ = exec d mX7_mends 132 [l0, l1, l2, l3, l4, l5] (.int (nI 4) :: S) σ) ∧
  (∀ (d : Nat) (σ : Sg) (S : List Value) (l0 l1 l2 l3 l4 l5 : Value) (x : Int32), exec d mX7_mends 132 [l0, l1, l2, l3, l4, l5] (.int x :: .ref 51 :: S) σ = if inb x 208 = true then exec d mX7_mends 133 [l0, l1, l2, l3, l4, l5] (.int (σ 51 x.toNatClampNeg) :: S) σ else none) ∧
  (∀ (d : Nat) (σ : Sg) (S : List Value) (l0 l1 l2 l4 l5 : Value) (x : Int32), exec d mX7_mends 133 [l0, l1, l2, .int x, l4, l5] S σ = exec d mX7_mends 134 [l0, l1, l2, .int x, l4, l5] (.int x :: S) σ) ∧
  (∀ (d : Nat) (σ : Sg) (S : List Value) (l0 l1 l2 l3 l4 l5 : Value), exec d mX7_mends 134 [l0, l1, l2, l3, l4, l5] S σ = exec d mX7_mends 135 [l0, l1, l2, l3, l4, l5] (.int ((-1)) :: S) σ) ∧
  (∀ (d : Nat) (σ : Sg) (S : List Value) (l0 l1 l2 l3 l4 l5 : Value) (x y : Int32), exec d mX7_mends 135 [l0, l1, l2, l3, l4, l5] (.int y :: .int x :: S) σ = exec d mX7_mends 136 [l0, l1, l2, l3, l4, l5] (.int (x ^^^ y) :: S) σ) :=
  ⟨fun d σ S l0 l1 l2 l3 l4 l5 => ex_bipush (show decode mX7_mends.2.1 74 = .ok (.bipush 23, 2) by decide +kernel) (by decide +kernel),
  fun d σ S l0 l1 l2 l3 l4 x => ex_iload (show decode mX7_mends.2.1 76 = .ok (.iload 5, 2) by decide +kernel) rfl,
  fun d σ S l0 l1 l2 l3 l4 l5 x y => ex_iadd (show decode mX7_mends.2.1 78 = .ok (.iadd, 1) by decide +kernel),
  fun d σ S l0 l1 l2 l3 l4 l5 x => ex_iald (by decide +kernel),
  fun d σ S l0 l1 l2 l3 l4 l5 => ex_iconst (show decode mX7_mends.2.1 80 = .ok (.iconst 1, 1) by decide +kernel) (by decide +kernel),
  fun d σ S l0 l1 l2 l3 l4 l5 x y => ex_iadd (show decode mX7_mends.2.1 81 = .ok (.iadd, 1) by decide +kernel),
  fun d σ S l0 l1 l2 l3 l4 l5 => ex_goto (show decode mX7_mends.2.1 82 = .ok (.goto 4, 3) by decide +kernel) (by decide),
  fun d σ S l0 l1 l2 l3 l4 l5 => ex_iconst (show decode mX7_mends.2.1 85 = .ok (.iconst 0, 1) by decide +kernel) (by decide +kernel),
  fun d σ S l0 l1 l2 l3 l4 l5 x y => ex_iadd (show decode mX7_mends.2.1 86 = .ok (.iadd, 1) by decide +kernel),
  fun d σ S l0 l1 l2 l4 l5 x y => ex_istore (show decode mX7_mends.2.1 87 = .ok (.istore 4, 2) by decide +kernel) (Nat.le_of_ble_eq_true rfl) rfl,
  fun d σ S l0 l1 l2 l3 x y => ex_iinc (show decode mX7_mends.2.1 89 = .ok (.iinc 5 1, 3) by decide +kernel) rfl (by decide +kernel) (Nat.le_of_ble_eq_true rfl) rfl,
  fun d σ S l0 l1 l2 l3 l4 l5 => ex_goto (show decode mX7_mends.2.1 92 = .ok (.goto (-45), 3) by decide +kernel) (by decide),
  fun d σ S l0 l1 l2 l4 l5 x => ex_iload_n (show decode mX7_mends.2.1 95 = .ok (.iload_n 3, 1) by decide +kernel) rfl,
  fun d σ S l1 l2 l3 l4 l5 k => ex_aload_n (show decode mX7_mends.2.1 96 = .ok (.aload_n 0, 1) by decide +kernel) rfl,
  fun d σ S l0 l1 l2 l3 l4 l5 => ex_getr (idx := 7) (ci := 7) (ff := 0) (n := 26) (hh := 833) (by decide +kernel),
  fun d σ S l0 l1 l2 l3 l4 l5 => ex_iconst (show decode mX7_mends.2.1 100 = .ok (.iconst 4, 1) by decide +kernel) (by decide +kernel),
  fun d σ S l0 l1 l2 l3 l4 l5 x => ex_iald (by decide +kernel),
  fun d σ S l0 l1 l2 l3 l4 l5 => ex_iconst (show decode mX7_mends.2.1 102 = .ok (.iconst (-1), 1) by decide +kernel) (by decide +kernel),
  fun d σ S l0 l1 l2 l3 l4 l5 x y => ex_ixor (show decode mX7_mends.2.1 103 = .ok (.ixor, 1) by decide +kernel),
  fun d σ S l0 l1 l2 l3 l4 l5 x y => ex_iand (show decode mX7_mends.2.1 104 = .ok (.iand, 1) by decide +kernel),
  fun d σ S l0 l1 l2 l3 l4 l5 x => ex_zne (show decode mX7_mends.2.1 105 = .ok (.ifCond .ne 45, 3) by decide +kernel) (by decide),
  fun d σ S l0 l1 l2 l3 l5 x => ex_iload (show decode mX7_mends.2.1 108 = .ok (.iload 4, 2) by decide +kernel) rfl,
  fun d σ S l1 l2 l3 l4 l5 k => ex_aload_n (show decode mX7_mends.2.1 110 = .ok (.aload_n 0, 1) by decide +kernel) rfl,
  fun d σ S l0 l1 l2 l3 l4 l5 => ex_getr (idx := 7) (ci := 7) (ff := 0) (n := 26) (hh := 833) (by decide +kernel),
  fun d σ S l0 l1 l2 l3 l4 l5 => ex_iconst (show decode mX7_mends.2.1 114 = .ok (.iconst 1, 1) by decide +kernel) (by decide +kernel),
  fun d σ S l0 l1 l2 l3 l4 l5 x => ex_iald (by decide +kernel),
  fun d σ S l0 l1 l2 l3 l4 l5 x y => ex_cgt (show decode mX7_mends.2.1 116 = .ok (.if_icmp .gt 34, 3) by decide +kernel) (by decide),
  fun d σ S l1 l2 l3 l4 l5 k => ex_aload_n (show decode mX7_mends.2.1 119 = .ok (.aload_n 0, 1) by decide +kernel) rfl,
  fun d σ S l1 l2 l3 l4 l5 k => ex_aload_n (show decode mX7_mends.2.1 120 = .ok (.aload_n 0, 1) by decide +kernel) rfl,
  fun d σ S l1 l2 l3 l4 l5 k => ex_aload_n (show decode mX7_mends.2.1 121 = .ok (.aload_n 0, 1) by decide +kernel) rfl,
  fun d σ S l0 l1 l2 l3 l4 l5 => ex_getr (idx := 7) (ci := 7) (ff := 0) (n := 26) (hh := 833) (by decide +kernel),
  fun d σ S l0 l1 l2 l3 l4 l5 => ex_iconst (show decode mX7_mends.2.1 125 = .ok (.iconst 5, 1) by decide +kernel) (by decide +kernel),
  fun d σ S l0 l1 l2 l3 l4 l5 x => ex_iald (by decide +kernel),
  fun d σ S l1 l2 l3 l4 l5 k => ex_aload_n (show decode mX7_mends.2.1 127 = .ok (.aload_n 0, 1) by decide +kernel) rfl,
  fun d σ S l0 l1 l2 l3 l4 l5 => ex_getr (idx := 7) (ci := 7) (ff := 0) (n := 26) (hh := 833) (by decide +kernel),
  fun d σ S l0 l1 l2 l3 l4 l5 => ex_iconst (show decode mX7_mends.2.1 131 = .ok (.iconst 4, 1) by decide +kernel) (by decide +kernel),
  fun d σ S l0 l1 l2 l3 l4 l5 x => ex_iald (by decide +kernel),
  fun d σ S l0 l1 l2 l4 l5 x => ex_iload_n (show decode mX7_mends.2.1 133 = .ok (.iload_n 3, 1) by decide +kernel) rfl,
  fun d σ S l0 l1 l2 l3 l4 l5 => ex_iconst (show decode mX7_mends.2.1 134 = .ok (.iconst (-1), 1) by decide +kernel) (by decide +kernel),
  fun d σ S l0 l1 l2 l3 l4 l5 x y => ex_ixor (show decode mX7_mends.2.1 135 = .ok (.ixor, 1) by decide +kernel)⟩
theorem kX7_mends_2 : (∀ (d : Nat) (σ : Sg) (S : List Value) (l0 l1 l2 l3 l4 l5 : Value) (x y : Int32), exec d mX7_mends 136 [l0, l1, l2, l3, l4, l5] (.int y :: .int x :: S) σ = exec d mX7_mends 137 [l0, l1, l2, l3, l4, l5] (.int (x &&& y) :: S) σ) ∧
  (∀ (d : Nat) (σ : Sg) (l0 l1 l2 l3 l4 l5 : Value) (x0 x1 : Int32), exec d mX7_mends 137 [l0, l1, l2, l3, l4, l5] [.int x0, .int x1, .ref 50, .ref 50] σ = kb (cal d mX7_votesBy [.ref 50, .int x1, .int x0] σ) (fun rs σ2 => exec d mX7_mends 140 [l0, l1, l2, l3, l4, l5] (rs ++ [.ref 50]) σ2)) ∧
  (∀ (d : Nat) (σ : Sg) (l0 l1 l2 l3 l4 l5 : Value) (x0 : Int32), exec d mX7_mends 140 [l0, l1, l2, l3, l4, l5] [.int x0, .ref 50] σ = kb (cal d mX7_isMost [.ref 50, .int x0] σ) (fun rs σ2 => exec d mX7_mends 143 [l0, l1, l2, l3, l4, l5] (rs ++ []) σ2)) ∧
  (∀ (d : Nat) (σ : Sg) (S : List Value) (l0 l1 l2 l3 l4 l5 : Value) (x : Int32), exec d mX7_mends 143 [l0, l1, l2, l3, l4, l5] (.int x :: S) σ = if x = nI 0 then exec d mX7_mends 150 [l0, l1, l2, l3, l4, l5] S σ else exec d mX7_mends 146 [l0, l1, l2, l3, l4, l5] S σ) ∧
  (∀ (d : Nat) (σ : Sg) (S : List Value) (l0 l1 l2 l3 l4 l5 : Value), exec d mX7_mends 146 [l0, l1, l2, l3, l4, l5] S σ = exec d mX7_mends 147 [l0, l1, l2, l3, l4, l5] (.int (nI 1) :: S) σ) ∧
  (∀ (d : Nat) (σ : Sg) (S : List Value) (l0 l1 l2 l3 l4 l5 : Value), exec d mX7_mends 147 [l0, l1, l2, l3, l4, l5] S σ = exec d mX7_mends 151 [l0, l1, l2, l3, l4, l5] S σ) ∧
  (∀ (d : Nat) (σ : Sg) (S : List Value) (l0 l1 l2 l3 l4 l5 : Value), exec d mX7_mends 150 [l0, l1, l2, l3, l4, l5] S σ = exec d mX7_mends 151 [l0, l1, l2, l3, l4, l5] (.int (nI 0) :: S) σ) ∧
  (∀ (d : Nat) (σ : Sg) (S : List Value) (l0 l1 l2 l3 l5 : Value) (x y : Int32), exec d mX7_mends 151 [l0, l1, l2, l3, .int y, l5] (.int x :: S) σ = exec d mX7_mends 153 [l0, l1, l2, l3, .int y, .int x] S σ) ∧
  (∀ (d : Nat) (σ : Sg) (S : List Value) (l0 l1 l2 l3 l4 : Value) (x : Int32), exec d mX7_mends 153 [l0, l1, l2, l3, l4, .int x] S σ = exec d mX7_mends 155 [l0, l1, l2, l3, l4, .int x] (.int x :: S) σ) ∧
  (∀ (d : Nat) (σ : Sg) (S : List Value) (l0 l1 l2 l3 l4 l5 : Value) (x : Int32), exec d mX7_mends 155 [l0, l1, l2, l3, l4, l5] (.int x :: S) σ = if x = nI 0 then exec d mX7_mends 179 [l0, l1, l2, l3, l4, l5] S σ else exec d mX7_mends 158 [l0, l1, l2, l3, l4, l5] S σ) ∧
  (∀ (d : Nat) (σ : Sg) (S : List Value) (l0 l1 l3 l4 l5 : Value) (x : Int32), exec d mX7_mends 158 [l0, l1, .int x, l3, l4, l5] S σ = exec d mX7_mends 159 [l0, l1, .int x, l3, l4, l5] (.int x :: S) σ) ∧
  (∀ (d : Nat) (σ : Sg) (S : List Value) (l0 l1 l2 l3 l4 l5 : Value), exec d mX7_mends 159 [l0, l1, l2, l3, l4, l5] S σ = exec d mX7_mends 161 [l0, l1, l2, l3, l4, l5] (.int ((-1000000)) :: S) σ) ∧
  (∀ (d : Nat) (σ : Sg) (S : List Value) (l0 l1 l2 l3 l4 l5 : Value) (x y : Int32), exec d mX7_mends 161 [l0, l1, l2, l3, l4, l5] (.int y :: .int x :: S) σ = if x = y then exec d mX7_mends 175 [l0, l1, l2, l3, l4, l5] S σ else exec d mX7_mends 164 [l0, l1, l2, l3, l4, l5] S σ) ∧
  (∀ (d : Nat) (σ : Sg) (S : List Value) (l0 l1 l2 l4 l5 : Value) (x : Int32), exec d mX7_mends 164 [l0, l1, l2, .int x, l4, l5] S σ = exec d mX7_mends 165 [l0, l1, l2, .int x, l4, l5] (.int x :: S) σ) ∧
  (∀ (d : Nat) (σ : Sg) (l0 l1 l2 l3 l4 l5 : Value) (x0 : Int32), exec d mX7_mends 165 [l0, l1, l2, l3, l4, l5] [.int x0] σ = kb (cal d mX7_ones [.int x0] σ) (fun rs σ2 => exec d mX7_mends 168 [l0, l1, l2, l3, l4, l5] (rs ++ []) σ2)) ∧
  (∀ (d : Nat) (σ : Sg) (S : List Value) (l0 l1 l3 l4 l5 : Value) (x : Int32), exec d mX7_mends 168 [l0, l1, .int x, l3, l4, l5] S σ = exec d mX7_mends 169 [l0, l1, .int x, l3, l4, l5] (.int x :: S) σ) ∧
  (∀ (d : Nat) (σ : Sg) (l0 l1 l2 l3 l4 l5 : Value) (x0 x1 : Int32), exec d mX7_mends 169 [l0, l1, l2, l3, l4, l5] [.int x0, .int x1] σ = kb (cal d mX7_ones [.int x0] σ) (fun rs σ2 => exec d mX7_mends 172 [l0, l1, l2, l3, l4, l5] (rs ++ [.int x1]) σ2)) ∧
  (∀ (d : Nat) (σ : Sg) (S : List Value) (l0 l1 l2 l3 l4 l5 : Value) (x y : Int32), exec d mX7_mends 172 [l0, l1, l2, l3, l4, l5] (.int y :: .int x :: S) σ = if y ≤ x then exec d mX7_mends 179 [l0, l1, l2, l3, l4, l5] S σ else exec d mX7_mends 175 [l0, l1, l2, l3, l4, l5] S σ) ∧
  (∀ (d : Nat) (σ : Sg) (S : List Value) (l0 l1 l2 l4 l5 : Value) (x : Int32), exec d mX7_mends 175 [l0, l1, l2, .int x, l4, l5] S σ = exec d mX7_mends 176 [l0, l1, l2, .int x, l4, l5] (.int x :: S) σ) ∧
  (∀ (d : Nat) (σ : Sg) (S : List Value) (l0 l1 l2 l3 l4 l5 : Value), exec d mX7_mends 176 [l0, l1, l2, l3, l4, l5] S σ = exec d mX7_mends 180 [l0, l1, l2, l3, l4, l5] S σ) ∧
  (∀ (d : Nat) (σ : Sg) (S : List Value) (l0 l1 l3 l4 l5 : Value) (x : Int32), exec d mX7_mends 179 [l0, l1, .int x, l3, l4, l5] S σ = exec d mX7_mends 180 [l0, l1, .int x, l3, l4, l5] (.int x :: S) σ) ∧
  (∀ (d : Nat) (σ : Sg) (S : List Value) (l0 l2 l3 l4 l5 : Value) (x y : Int32), exec d mX7_mends 180 [l0, .int y, l2, l3, l4, l5] (.int x :: S) σ = exec d mX7_mends 181 [l0, .int y, .int x, l3, l4, l5] S σ) ∧
  (∀ (d : Nat) (σ : Sg) (S : List Value) (l0 l1 l4 l5 : Value) (x y : Int32), exec d mX7_mends 181 [l0, l1, .int y, .int x, l4, l5] S σ = exec d mX7_mends 184 [l0, l1, .int y, .int (x + nI 1), l4, l5] S σ) ∧
  (∀ (d : Nat) (σ : Sg) (S : List Value) (l0 l1 l2 l3 l4 l5 : Value), exec d mX7_mends 184 [l0, l1, l2, l3, l4, l5] S σ = exec d mX7_mends 28 [l0, l1, l2, l3, l4, l5] S σ) ∧
  (∀ (d : Nat) (σ : Sg) (S : List Value) (l0 l1 l3 l4 l5 : Value) (x : Int32), exec d mX7_mends 187 [l0, l1, .int x, l3, l4, l5] S σ = exec d mX7_mends 188 [l0, l1, .int x, l3, l4, l5] (.int x :: S) σ) ∧
  (∀ (d : Nat) (σ : Sg) (S : List Value) (l0 l1 l2 l3 l4 l5 : Value), exec d mX7_mends 188 [l0, l1, l2, l3, l4, l5] S σ = exec d mX7_mends 190 [l0, l1, l2, l3, l4, l5] (.int ((-1000000)) :: S) σ) ∧
  (∀ (d : Nat) (σ : Sg) (S : List Value) (l0 l1 l2 l3 l4 l5 : Value) (x y : Int32), exec d mX7_mends 190 [l0, l1, l2, l3, l4, l5] (.int y :: .int x :: S) σ = if x = y then exec d mX7_mends 198 [l0, l1, l2, l3, l4, l5] S σ else exec d mX7_mends 193 [l0, l1, l2, l3, l4, l5] S σ) ∧
  (∀ (d : Nat) (σ : Sg) (S : List Value) (l0 l2 l3 l4 l5 : Value) (x : Int32), exec d mX7_mends 193 [l0, .int x, l2, l3, l4, l5] S σ = exec d mX7_mends 194 [l0, .int x, l2, l3, l4, l5] (.int x :: S) σ) ∧
  (∀ (d : Nat) (σ : Sg) (S : List Value) (l0 l1 l2 l3 l4 l5 : Value), exec d mX7_mends 194 [l0, l1, l2, l3, l4, l5] S σ = exec d mX7_mends 195 [l0, l1, l2, l3, l4, l5] (.int (nI 1) :: S) σ) ∧
  (∀ (d : Nat) (σ : Sg) (S : List Value) (l0 l1 l2 l3 l4 l5 : Value) (x y : Int32), exec d mX7_mends 195 [l0, l1, l2, l3, l4, l5] (.int y :: .int x :: S) σ = if x = y then exec d mX7_mends 198 [l0, l1, l2, l3, l4, l5] S σ else exec d mX7_mends 202 [l0, l1, l2, l3, l4, l5] S σ) ∧
  (∀ (d : Nat) (σ : Sg) (S : List Value) (l0 l1 l3 l4 l5 : Value) (x : Int32), exec d mX7_mends 198 [l0, l1, .int x, l3, l4, l5] S σ = exec d mX7_mends 199 [l0, l1, .int x, l3, l4, l5] (.int x :: S) σ) ∧
  (∀ (d : Nat) (σ : Sg) (S : List Value) (l0 l1 l2 l3 l4 l5 : Value), exec d mX7_mends 199 [l0, l1, l2, l3, l4, l5] S σ = exec d mX7_mends 206 [l0, l1, l2, l3, l4, l5] S σ) ∧
  (∀ (d : Nat) (σ : Sg) (S : List Value) (l0 l1 l3 l4 l5 : Value) (x : Int32), exec d mX7_mends 202 [l0, l1, .int x, l3, l4, l5] S σ = exec d mX7_mends 203 [l0, l1, .int x, l3, l4, l5] (.int x :: S) σ) ∧
  (∀ (d : Nat) (σ : Sg) (l0 l1 l2 l3 l4 l5 : Value) (x0 : Int32), exec d mX7_mends 203 [l0, l1, l2, l3, l4, l5] [.int x0] σ = kb (cal d mX7_ones [.int x0] σ) (fun rs σ2 => exec d mX7_mends 206 [l0, l1, l2, l3, l4, l5] (rs ++ []) σ2)) ∧
  (∀ (d : Nat) (σ : Sg) (l0 l1 l2 l3 l4 l5 : Value) (x : Int32), exec d mX7_mends 206 [l0, l1, l2, l3, l4, l5] [.int x] σ = some (some (.int x), σ)) :=
  ⟨fun d σ S l0 l1 l2 l3 l4 l5 x y => ex_iand (show decode mX7_mends.2.1 136 = .ok (.iand, 1) by decide +kernel),
  fun d σ l0 l1 l2 l3 l4 l5 x0 x1 => ex_iv (hs := [1104, 1106, 78, 1107, 101]) (show decode mX7_mends.2.1 137 = .ok (.invokevirtual 202, 3) by decide +kernel) lkV_7_202 ⟨rfl, Nat.le_of_ble_eq_true rfl, Nat.le_of_ble_eq_true rfl, fun _ => rfl⟩ rfl rfl,
  fun d σ l0 l1 l2 l3 l4 l5 x0 => ex_iv (hs := [1117, 1119, 80, 1120, 101]) (show decode mX7_mends.2.1 140 = .ok (.invokevirtual 215, 3) by decide +kernel) lkV_7_215 ⟨rfl, Nat.le_of_ble_eq_true rfl, Nat.le_of_ble_eq_true rfl, fun _ => rfl⟩ rfl rfl,
  fun d σ S l0 l1 l2 l3 l4 l5 x => ex_zeq (show decode mX7_mends.2.1 143 = .ok (.ifCond .eq 7, 3) by decide +kernel) (by decide),
  fun d σ S l0 l1 l2 l3 l4 l5 => ex_iconst (show decode mX7_mends.2.1 146 = .ok (.iconst 1, 1) by decide +kernel) (by decide +kernel),
  fun d σ S l0 l1 l2 l3 l4 l5 => ex_goto (show decode mX7_mends.2.1 147 = .ok (.goto 4, 3) by decide +kernel) (by decide),
  fun d σ S l0 l1 l2 l3 l4 l5 => ex_iconst (show decode mX7_mends.2.1 150 = .ok (.iconst 0, 1) by decide +kernel) (by decide +kernel),
  fun d σ S l0 l1 l2 l3 l5 x y => ex_istore (show decode mX7_mends.2.1 151 = .ok (.istore 5, 2) by decide +kernel) (Nat.le_of_ble_eq_true rfl) rfl,
  fun d σ S l0 l1 l2 l3 l4 x => ex_iload (show decode mX7_mends.2.1 153 = .ok (.iload 5, 2) by decide +kernel) rfl,
  fun d σ S l0 l1 l2 l3 l4 l5 x => ex_zeq (show decode mX7_mends.2.1 155 = .ok (.ifCond .eq 24, 3) by decide +kernel) (by decide),
  fun d σ S l0 l1 l3 l4 l5 x => ex_iload_n (show decode mX7_mends.2.1 158 = .ok (.iload_n 2, 1) by decide +kernel) rfl,
  fun d σ S l0 l1 l2 l3 l4 l5 => ex_ldc (hh := 1087) (show decode mX7_mends.2.1 159 = .ok (.ldc 205, 2) by decide +kernel) (by decide +kernel),
  fun d σ S l0 l1 l2 l3 l4 l5 x y => ex_ceq (show decode mX7_mends.2.1 161 = .ok (.if_icmp .eq 14, 3) by decide +kernel) (by decide),
  fun d σ S l0 l1 l2 l4 l5 x => ex_iload_n (show decode mX7_mends.2.1 164 = .ok (.iload_n 3, 1) by decide +kernel) rfl,
  fun d σ l0 l1 l2 l3 l4 l5 x0 => ex_is (hs := [1121, 1122, 1123, 101]) (show decode mX7_mends.2.1 165 = .ok (.invokestatic 199, 3) by decide +kernel) lkS_7_199 ⟨rfl, Nat.le_of_ble_eq_true rfl, Nat.le_of_ble_eq_true rfl, fun q => nomatch q⟩ rfl rfl,
  fun d σ S l0 l1 l3 l4 l5 x => ex_iload_n (show decode mX7_mends.2.1 168 = .ok (.iload_n 2, 1) by decide +kernel) rfl,
  fun d σ l0 l1 l2 l3 l4 l5 x0 x1 => ex_is (hs := [1121, 1122, 1123, 101]) (show decode mX7_mends.2.1 169 = .ok (.invokestatic 199, 3) by decide +kernel) lkS_7_199 ⟨rfl, Nat.le_of_ble_eq_true rfl, Nat.le_of_ble_eq_true rfl, fun q => nomatch q⟩ rfl rfl,
  fun d σ S l0 l1 l2 l3 l4 l5 x y => ex_cge (show decode mX7_mends.2.1 172 = .ok (.if_icmp .ge 7, 3) by decide +kernel) (by decide),
  fun d σ S l0 l1 l2 l4 l5 x => ex_iload_n (show decode mX7_mends.2.1 175 = .ok (.iload_n 3, 1) by decide +kernel) rfl,
  fun d σ S l0 l1 l2 l3 l4 l5 => ex_goto (show decode mX7_mends.2.1 176 = .ok (.goto 4, 3) by decide +kernel) (by decide),
  fun d σ S l0 l1 l3 l4 l5 x => ex_iload_n (show decode mX7_mends.2.1 179 = .ok (.iload_n 2, 1) by decide +kernel) rfl,
  fun d σ S l0 l2 l3 l4 l5 x y => ex_istore_n (show decode mX7_mends.2.1 180 = .ok (.istore_n 2, 1) by decide +kernel) (Nat.le_of_ble_eq_true rfl) rfl,
  fun d σ S l0 l1 l4 l5 x y => ex_iinc (show decode mX7_mends.2.1 181 = .ok (.iinc 3 1, 3) by decide +kernel) rfl (by decide +kernel) (Nat.le_of_ble_eq_true rfl) rfl,
  fun d σ S l0 l1 l2 l3 l4 l5 => ex_goto (show decode mX7_mends.2.1 184 = .ok (.goto (-156), 3) by decide +kernel) (by decide),
  fun d σ S l0 l1 l3 l4 l5 x => ex_iload_n (show decode mX7_mends.2.1 187 = .ok (.iload_n 2, 1) by decide +kernel) rfl,
  fun d σ S l0 l1 l2 l3 l4 l5 => ex_ldc (hh := 1087) (show decode mX7_mends.2.1 188 = .ok (.ldc 205, 2) by decide +kernel) (by decide +kernel),
  fun d σ S l0 l1 l2 l3 l4 l5 x y => ex_ceq (show decode mX7_mends.2.1 190 = .ok (.if_icmp .eq 8, 3) by decide +kernel) (by decide),
  fun d σ S l0 l2 l3 l4 l5 x => ex_iload_n (show decode mX7_mends.2.1 193 = .ok (.iload_n 1, 1) by decide +kernel) rfl,
  fun d σ S l0 l1 l2 l3 l4 l5 => ex_iconst (show decode mX7_mends.2.1 194 = .ok (.iconst 1, 1) by decide +kernel) (by decide +kernel),
  fun d σ S l0 l1 l2 l3 l4 l5 x y => ex_cne (show decode mX7_mends.2.1 195 = .ok (.if_icmp .ne 7, 3) by decide +kernel) (by decide),
  fun d σ S l0 l1 l3 l4 l5 x => ex_iload_n (show decode mX7_mends.2.1 198 = .ok (.iload_n 2, 1) by decide +kernel) rfl,
  fun d σ S l0 l1 l2 l3 l4 l5 => ex_goto (show decode mX7_mends.2.1 199 = .ok (.goto 7, 3) by decide +kernel) (by decide),
  fun d σ S l0 l1 l3 l4 l5 x => ex_iload_n (show decode mX7_mends.2.1 202 = .ok (.iload_n 2, 1) by decide +kernel) rfl,
  fun d σ l0 l1 l2 l3 l4 l5 x0 => ex_is (hs := [1121, 1122, 1123, 101]) (show decode mX7_mends.2.1 203 = .ok (.invokestatic 199, 3) by decide +kernel) lkS_7_199 ⟨rfl, Nat.le_of_ble_eq_true rfl, Nat.le_of_ble_eq_true rfl, fun q => nomatch q⟩ rfl rfl,
  fun d σ l0 l1 l2 l3 l4 l5 x => ex_iret (show decode mX7_mends.2.1 206 = .ok (.ireturn, 1) by decide +kernel) rfl⟩
theorem hX7_mends_28 : ∀ (d : Nat) (σ : Sg) (S : List Value) (l0 l1 l2 l4 l5 : Value) (x : Int32), exec d mX7_mends 28 [l0, l1, l2, .int x, l4, l5] S σ = exec d mX7_mends 29 [l0, l1, l2, .int x, l4, l5] (.int x :: S) σ := fun d σ S l0 l1 l2 l4 l5 x => ex_iload_n (show decode mX7_mends.2.1 28 = .ok (.iload_n 3, 1) by decide +kernel) rfl
theorem hX7_mends_47 : ∀ (d : Nat) (σ : Sg) (S : List Value) (l0 l1 l2 l3 l4 : Value) (x : Int32), exec d mX7_mends 47 [l0, l1, l2, l3, l4, .int x] S σ = exec d mX7_mends 49 [l0, l1, l2, l3, l4, .int x] (.int x :: S) σ := fun d σ S l0 l1 l2 l3 l4 x => ex_iload (show decode mX7_mends.2.1 47 = .ok (.iload 5, 2) by decide +kernel) rfl
theorem aX7_mends_50 : ∀ (d : Nat) (a1 : Int32) (σ : Sg), cal (d + 1) mX7_mends [.ref 50, .int a1] σ = exec d mX7_mends 0 [.ref 50, .int a1, uu, uu, uu, uu] [] σ := fun _ _ _ => rfl
theorem kX7_decides : (∀ (d : Nat) (σ : Sg) (S : List Value) (l1 l2 : Value) (k : Nat), exec d mX7_decides 0 [.ref k, l1, l2] S σ = exec d mX7_decides 1 [.ref k, l1, l2] (.ref k :: S) σ) ∧
  (∀ (d : Nat) (σ : Sg) (l0 l1 l2 : Value), exec d mX7_decides 1 [l0, l1, l2] [.ref 50] σ = kb (cal d mX7_isTrial [.ref 50] σ) (fun rs σ2 => exec d mX7_decides 4 [l0, l1, l2] (rs ++ []) σ2)) ∧
  (∀ (d : Nat) (σ : Sg) (S : List Value) (l0 l1 l2 : Value) (x : Int32), exec d mX7_decides 4 [l0, l1, l2] (.int x :: S) σ = if x = nI 0 then exec d mX7_decides 7 [l0, l1, l2] S σ else exec d mX7_decides 10 [l0, l1, l2] S σ) ∧
  (∀ (d : Nat) (σ : Sg) (S : List Value) (l0 l1 l2 : Value), exec d mX7_decides 7 [l0, l1, l2] S σ = exec d mX7_decides 9 [l0, l1, l2] (.int ((-1000002)) :: S) σ) ∧
  (∀ (d : Nat) (σ : Sg) (l0 l1 l2 : Value) (x : Int32), exec d mX7_decides 9 [l0, l1, l2] [.int x] σ = some (some (.int x), σ)) ∧
  (∀ (d : Nat) (σ : Sg) (S : List Value) (l0 l1 l2 : Value), exec d mX7_decides 10 [l0, l1, l2] S σ = exec d mX7_decides 11 [l0, l1, l2] (.int (nI 0) :: S) σ) ∧
  (∀ (d : Nat) (σ : Sg) (S : List Value) (l1 l2 : Value) (k : Nat) (x : Int32), exec d mX7_decides 11 [.ref k, l1, l2] (.int x :: S) σ = exec d mX7_decides 12 [.ref k, .int x, l2] S σ) ∧
  (∀ (d : Nat) (σ : Sg) (S : List Value) (l0 l1 l2 : Value), exec d mX7_decides 12 [l0, l1, l2] S σ = exec d mX7_decides 13 [l0, l1, l2] (.int (nI 0) :: S) σ) ∧
  (∀ (d : Nat) (σ : Sg) (S : List Value) (l0 l2 : Value) (x y : Int32), exec d mX7_decides 13 [l0, .int y, l2] (.int x :: S) σ = exec d mX7_decides 14 [l0, .int y, .int x] S σ) ∧
  (∀ (d : Nat) (σ : Sg) (S : List Value) (l1 l2 : Value) (k : Nat), exec d mX7_decides 15 [.ref k, l1, l2] S σ = exec d mX7_decides 16 [.ref k, l1, l2] (.ref k :: S) σ) ∧
  (∀ (d : Nat) (σ : Sg) (S : List Value) (l0 l1 l2 : Value), exec d mX7_decides 16 [l0, l1, l2] (.ref 50 :: S) σ = exec d mX7_decides 19 [l0, l1, l2] (.ref 51 :: S) σ) ∧
  (∀ (d : Nat) (σ : Sg) (S : List Value) (l0 l1 l2 : Value), exec d mX7_decides 19 [l0, l1, l2] S σ = exec d mX7_decides 21 [l0, l1, l2] (.int (nI 8) :: S) σ) ∧
  (∀ (d : Nat) (σ : Sg) (S : List Value) (l0 l1 l2 : Value) (x : Int32), exec d mX7_decides 21 [l0, l1, l2] (.int x :: .ref 51 :: S) σ = if inb x 208 = true then exec d mX7_decides 22 [l0, l1, l2] (.int (σ 51 x.toNatClampNeg) :: S) σ else none) ∧
  (∀ (d : Nat) (σ : Sg) (S : List Value) (l0 l1 l2 : Value) (x y : Int32), exec d mX7_decides 22 [l0, l1, l2] (.int y :: .int x :: S) σ = if y ≤ x then exec d mX7_decides 64 [l0, l1, l2] S σ else exec d mX7_decides 25 [l0, l1, l2] S σ) ∧
  (∀ (d : Nat) (σ : Sg) (S : List Value) (l0 l2 : Value) (x : Int32), exec d mX7_decides 25 [l0, .int x, l2] S σ = exec d mX7_decides 26 [l0, .int x, l2] (.int x :: S) σ) ∧
  (∀ (d : Nat) (σ : Sg) (S : List Value) (l1 l2 : Value) (k : Nat), exec d mX7_decides 26 [.ref k, l1, l2] S σ = exec d mX7_decides 27 [.ref k, l1, l2] (.ref k :: S) σ) ∧
  (∀ (d : Nat) (σ : Sg) (S : List Value) (l1 l2 : Value) (k : Nat), exec d mX7_decides 27 [.ref k, l1, l2] S σ = exec d mX7_decides 28 [.ref k, l1, l2] (.ref k :: S) σ) ∧
  (∀ (d : Nat) (σ : Sg) (l0 l1 l2 : Value) (x2 : Int32), exec d mX7_decides 28 [l0, l1, l2] [.ref 50, .ref 50, .int x2] σ = kb (cal d mX7_votesNow [.ref 50] σ) (fun rs σ2 => exec d mX7_decides 31 [l0, l1, l2] (rs ++ [.ref 50, .int x2]) σ2)) ∧
  (∀ (d : Nat) (σ : Sg) (S : List Value) (l0 l1 l2 : Value), exec d mX7_decides 31 [l0, l1, l2] S σ = exec d mX7_decides 32 [l0, l1, l2] (.int (nI 1) :: S) σ) ∧
  (∀ (d : Nat) (σ : Sg) (S : List Value) (l0 l1 : Value) (x : Int32), exec d mX7_decides 32 [l0, l1, .int x] S σ = exec d mX7_decides 33 [l0, l1, .int x] (.int x :: S) σ) ∧
  (∀ (d : Nat) (σ : Sg) (S : List Value) (l0 l1 l2 : Value) (x y : Int32), exec d mX7_decides 33 [l0, l1, l2] (.int y :: .int x :: S) σ = exec d mX7_decides 34 [l0, l1, l2] (.int (x <<< (y &&& 31)) :: S) σ) ∧
  (∀ (d : Nat) (σ : Sg) (S : List Value) (l0 l1 l2 : Value) (x y : Int32), exec d mX7_decides 34 [l0, l1, l2] (.int y :: .int x :: S) σ = exec d mX7_decides 35 [l0, l1, l2] (.int (x ^^^ y) :: S) σ) ∧
  (∀ (d : Nat) (σ : Sg) (l0 l1 l2 : Value) (x0 x2 : Int32), exec d mX7_decides 35 [l0, l1, l2] [.int x0, .ref 50, .int x2] σ = kb (cal d mX7_isMost [.ref 50, .int x0] σ) (fun rs σ2 => exec d mX7_decides 38 [l0, l1, l2] (rs ++ [.int x2]) σ2)) ∧
  (∀ (d : Nat) (σ : Sg) (S : List Value) (l1 l2 : Value) (k : Nat), exec d mX7_decides 38 [.ref k, l1, l2] S σ = exec d mX7_decides 39 [.ref k, l1, l2] (.ref k :: S) σ) ∧
  (∀ (d : Nat) (σ : Sg) (S : List Value) (l1 l2 : Value) (k : Nat), exec d mX7_decides 39 [.ref k, l1, l2] S σ = exec d mX7_decides 40 [.ref k, l1, l2] (.ref k :: S) σ) ∧
  (∀ (d : Nat) (σ : Sg) (l0 l1 l2 : Value) (x2 x3 : Int32), exec d mX7_decides 40 [l0, l1, l2] [.ref 50, .ref 50, .int x2, .int x3] σ = kb (cal d mX7_votesNow [.ref 50] σ) (fun rs σ2 => exec d mX7_decides 43 [l0, l1, l2] (rs ++ [.ref 50, .int x2, .int x3]) σ2)) ∧
  (∀ (d : Nat) (σ : Sg) (l0 l1 l2 : Value) (x0 x2 x3 : Int32), exec d mX7_decides 43 [l0, l1, l2] [.int x0, .ref 50, .int x2, .int x3] σ = kb (cal d mX7_isMost [.ref 50, .int x0] σ) (fun rs σ2 => exec d mX7_decides 46 [l0, l1, l2] (rs ++ [.int x2, .int x3]) σ2)) ∧
  (∀ (d : Nat) (σ : Sg) (S : List Value) (l0 l1 l2 : Value) (x y : Int32), exec d mX7_decides 46 [l0, l1, l2] (.int y :: .int x :: S) σ = if x = y then exec d mX7_decides 55 [l0, l1, l2] S σ else exec d mX7_decides 49 [l0, l1, l2] S σ) ∧
  (∀ (d : Nat) (σ : Sg) (S : List Value) (l0 l1 l2 : Value), exec d mX7_decides 49 [l0, l1, l2] S σ = exec d mX7_decides 50 [l0, l1, l2] (.int (nI 1) :: S) σ) ∧
  (∀ (d : Nat) (σ : Sg) (S : List Value) (l0 l1 : Value) (x : Int32), exec d mX7_decides 50 [l0, l1, .int x] S σ = exec d mX7_decides 51 [l0, l1, .int x] (.int x :: S) σ) ∧
  (∀ (d : Nat) (σ : Sg) (S : List Value) (l0 l1 l2 : Value) (x y : Int32), exec d mX7_decides 51 [l0, l1, l2] (.int y :: .int x :: S) σ = exec d mX7_decides 52 [l0, l1, l2] (.int (x <<< (y &&& 31)) :: S) σ) ∧
  (∀ (d : Nat) (σ : Sg) (S : List Value) (l0 l1 l2 : Value), exec d mX7_decides 52 [l0, l1, l2] S σ = exec d mX7_decides 56 [l0, l1, l2] S σ) ∧
  (∀ (d : Nat) (σ : Sg) (S : List Value) (l0 l1 l2 : Value), exec d mX7_decides 55 [l0, l1, l2] S σ = exec d mX7_decides 56 [l0, l1, l2] (.int (nI 0) :: S) σ) ∧
  (∀ (d : Nat) (σ : Sg) (S : List Value) (l0 l1 l2 : Value) (x y : Int32), exec d mX7_decides 56 [l0, l1, l2] (.int y :: .int x :: S) σ = exec d mX7_decides 57 [l0, l1, l2] (.int (x ||| y) :: S) σ) ∧
  (∀ (d : Nat) (σ : Sg) (S : List Value) (l1 l2 : Value) (k : Nat) (x : Int32), exec d mX7_decides 57 [.ref k, l1, l2] (.int x :: S) σ = exec d mX7_decides 58 [.ref k, .int x, l2] S σ) ∧
  (∀ (d : Nat) (σ : Sg) (S : List Value) (l0 : Value) (x y : Int32), exec d mX7_decides 58 [l0, .int y, .int x] S σ = exec d mX7_decides 61 [l0, .int y, .int (x + nI 1)] S σ) ∧
  (∀ (d : Nat) (σ : Sg) (S : List Value) (l0 l1 l2 : Value), exec d mX7_decides 61 [l0, l1, l2] S σ = exec d mX7_decides 14 [l0, l1, l2] S σ) ∧
  (∀ (d : Nat) (σ : Sg) (S : List Value) (l0 l2 : Value) (x : Int32), exec d mX7_decides 64 [l0, .int x, l2] S σ = exec d mX7_decides 65 [l0, .int x, l2] (.int x :: S) σ) ∧
  (∀ (d : Nat) (σ : Sg) (l0 l1 l2 : Value) (x : Int32), exec d mX7_decides 65 [l0, l1, l2] [.int x] σ = some (some (.int x), σ)) :=
  ⟨fun d σ S l1 l2 k => ex_aload_n (show decode mX7_decides.2.1 0 = .ok (.aload_n 0, 1) by decide +kernel) rfl,
  fun d σ l0 l1 l2 => ex_iv (hs := [1074, 1076, 74, 1077, 101]) (show decode mX7_decides.2.1 1 = .ok (.invokevirtual 188, 3) by decide +kernel) lkV_7_188 ⟨rfl, Nat.le_of_ble_eq_true rfl, Nat.le_of_ble_eq_true rfl, fun _ => rfl⟩ rfl rfl,
  fun d σ S l0 l1 l2 x => ex_zne (show decode mX7_decides.2.1 4 = .ok (.ifCond .ne 6, 3) by decide +kernel) (by decide),
  fun d σ S l0 l1 l2 => ex_ldc (hh := 1009) (show decode mX7_decides.2.1 7 = .ok (.ldc 171, 2) by decide +kernel) (by decide +kernel),
  fun d σ l0 l1 l2 x => ex_iret (show decode mX7_decides.2.1 9 = .ok (.ireturn, 1) by decide +kernel) rfl,
  fun d σ S l0 l1 l2 => ex_iconst (show decode mX7_decides.2.1 10 = .ok (.iconst 0, 1) by decide +kernel) (by decide +kernel),
  fun d σ S l1 l2 k x => ex_istore_n (show decode mX7_decides.2.1 11 = .ok (.istore_n 1, 1) by decide +kernel) (Nat.le_of_ble_eq_true rfl) rfl,
  fun d σ S l0 l1 l2 => ex_iconst (show decode mX7_decides.2.1 12 = .ok (.iconst 0, 1) by decide +kernel) (by decide +kernel),
  fun d σ S l0 l2 x y => ex_istore_n (show decode mX7_decides.2.1 13 = .ok (.istore_n 2, 1) by decide +kernel) (Nat.le_of_ble_eq_true rfl) rfl,
  fun d σ S l1 l2 k => ex_aload_n (show decode mX7_decides.2.1 15 = .ok (.aload_n 0, 1) by decide +kernel) rfl,
  fun d σ S l0 l1 l2 => ex_getr (idx := 7) (ci := 7) (ff := 0) (n := 26) (hh := 833) (by decide +kernel),
  fun d σ S l0 l1 l2 => ex_bipush (show decode mX7_decides.2.1 19 = .ok (.bipush 8, 2) by decide +kernel) (by decide +kernel),
  fun d σ S l0 l1 l2 x => ex_iald (by decide +kernel),
  fun d σ S l0 l1 l2 x y => ex_cge (show decode mX7_decides.2.1 22 = .ok (.if_icmp .ge 42, 3) by decide +kernel) (by decide),
  fun d σ S l0 l2 x => ex_iload_n (show decode mX7_decides.2.1 25 = .ok (.iload_n 1, 1) by decide +kernel) rfl,
  fun d σ S l1 l2 k => ex_aload_n (show decode mX7_decides.2.1 26 = .ok (.aload_n 0, 1) by decide +kernel) rfl,
  fun d σ S l1 l2 k => ex_aload_n (show decode mX7_decides.2.1 27 = .ok (.aload_n 0, 1) by decide +kernel) rfl,
  fun d σ l0 l1 l2 x2 => ex_iv (hs := [1100, 1102, 77, 1103, 101]) (show decode mX7_decides.2.1 28 = .ok (.invokevirtual 206, 3) by decide +kernel) lkV_7_206 ⟨rfl, Nat.le_of_ble_eq_true rfl, Nat.le_of_ble_eq_true rfl, fun _ => rfl⟩ rfl rfl,
  fun d σ S l0 l1 l2 => ex_iconst (show decode mX7_decides.2.1 31 = .ok (.iconst 1, 1) by decide +kernel) (by decide +kernel),
  fun d σ S l0 l1 x => ex_iload_n (show decode mX7_decides.2.1 32 = .ok (.iload_n 2, 1) by decide +kernel) rfl,
  fun d σ S l0 l1 l2 x y => ex_ishl (show decode mX7_decides.2.1 33 = .ok (.ishl, 1) by decide +kernel),
  fun d σ S l0 l1 l2 x y => ex_ixor (show decode mX7_decides.2.1 34 = .ok (.ixor, 1) by decide +kernel),
  fun d σ l0 l1 l2 x0 x2 => ex_iv (hs := [1117, 1119, 80, 1120, 101]) (show decode mX7_decides.2.1 35 = .ok (.invokevirtual 215, 3) by decide +kernel) lkV_7_215 ⟨rfl, Nat.le_of_ble_eq_true rfl, Nat.le_of_ble_eq_true rfl, fun _ => rfl⟩ rfl rfl,
  fun d σ S l1 l2 k => ex_aload_n (show decode mX7_decides.2.1 38 = .ok (.aload_n 0, 1) by decide +kernel) rfl,
  fun d σ S l1 l2 k => ex_aload_n (show decode mX7_decides.2.1 39 = .ok (.aload_n 0, 1) by decide +kernel) rfl,
  fun d σ l0 l1 l2 x2 x3 => ex_iv (hs := [1100, 1102, 77, 1103, 101]) (show decode mX7_decides.2.1 40 = .ok (.invokevirtual 206, 3) by decide +kernel) lkV_7_206 ⟨rfl, Nat.le_of_ble_eq_true rfl, Nat.le_of_ble_eq_true rfl, fun _ => rfl⟩ rfl rfl,
  fun d σ l0 l1 l2 x0 x2 x3 => ex_iv (hs := [1117, 1119, 80, 1120, 101]) (show decode mX7_decides.2.1 43 = .ok (.invokevirtual 215, 3) by decide +kernel) lkV_7_215 ⟨rfl, Nat.le_of_ble_eq_true rfl, Nat.le_of_ble_eq_true rfl, fun _ => rfl⟩ rfl rfl,
  fun d σ S l0 l1 l2 x y => ex_ceq (show decode mX7_decides.2.1 46 = .ok (.if_icmp .eq 9, 3) by decide +kernel) (by decide),
  fun d σ S l0 l1 l2 => ex_iconst (show decode mX7_decides.2.1 49 = .ok (.iconst 1, 1) by decide +kernel) (by decide +kernel),
  fun d σ S l0 l1 x => ex_iload_n (show decode mX7_decides.2.1 50 = .ok (.iload_n 2, 1) by decide +kernel) rfl,
  fun d σ S l0 l1 l2 x y => ex_ishl (show decode mX7_decides.2.1 51 = .ok (.ishl, 1) by decide +kernel),
  fun d σ S l0 l1 l2 => ex_goto (show decode mX7_decides.2.1 52 = .ok (.goto 4, 3) by decide +kernel) (by decide),
  fun d σ S l0 l1 l2 => ex_iconst (show decode mX7_decides.2.1 55 = .ok (.iconst 0, 1) by decide +kernel) (by decide +kernel),
  fun d σ S l0 l1 l2 x y => ex_ior (show decode mX7_decides.2.1 56 = .ok (.ior, 1) by decide +kernel),
  fun d σ S l1 l2 k x => ex_istore_n (show decode mX7_decides.2.1 57 = .ok (.istore_n 1, 1) by decide +kernel) (Nat.le_of_ble_eq_true rfl) rfl,
  fun d σ S l0 x y => ex_iinc (show decode mX7_decides.2.1 58 = .ok (.iinc 2 1, 3) by decide +kernel) rfl (by decide +kernel) (Nat.le_of_ble_eq_true rfl) rfl,
  fun d σ S l0 l1 l2 => ex_goto (show decode mX7_decides.2.1 61 = .ok (.goto (-47), 3) by decide +kernel) (by decide),
  fun d σ S l0 l2 x => ex_iload_n (show decode mX7_decides.2.1 64 = .ok (.iload_n 1, 1) by decide +kernel) rfl,
  fun d σ l0 l1 l2 x => ex_iret (show decode mX7_decides.2.1 65 = .ok (.ireturn, 1) by decide +kernel) rfl⟩
theorem hX7_decides_14 : ∀ (d : Nat) (σ : Sg) (S : List Value) (l0 l1 : Value) (x : Int32), exec d mX7_decides 14 [l0, l1, .int x] S σ = exec d mX7_decides 15 [l0, l1, .int x] (.int x :: S) σ := fun d σ S l0 l1 x => ex_iload_n (show decode mX7_decides.2.1 14 = .ok (.iload_n 2, 1) by decide +kernel) rfl
theorem aX7_decides_50 : ∀ (d : Nat)  (σ : Sg), cal (d + 1) mX7_decides [.ref 50] σ = exec d mX7_decides 0 [.ref 50, uu, uu] [] σ := fun _ _ => rfl
