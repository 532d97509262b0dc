/-! generated: the instructions of GuildPieceModel -/
theorem kX7_fault : (∀ (d : Nat) (σ : Sg) (S : List Value) (k : Nat), exec d mX7_fault 0 [.ref k] S σ = exec d mX7_fault 1 [.ref k] (.ref k :: S) σ) ∧
  (∀ (d : Nat) (σ : Sg) (S : List Value) (l0 : Value), exec d mX7_fault 1 [l0] (.ref 50 :: S) σ = exec d mX7_fault 4 [l0] (.int (σ 50 10) :: S) σ) ∧
  (∀ (d : Nat) (σ : Sg) (l0 : Value) (x : Int32), exec d mX7_fault 4 [l0] [.int x] σ = some (some (.int x), σ)) :=
  ⟨fun d σ S k => ex_aload_n (show decode mX7_fault.2.1 0 = .ok (.aload_n 0, 1) by decide +kernel) rfl,
  fun d σ S l0 => ex_get (idx := 91) (ci := 7) (ff := 10) (n := 26) (hh := 843) (by decide +kernel),
  fun d σ l0 x => ex_iret (show decode mX7_fault.2.1 4 = .ok (.ireturn, 1) by decide +kernel) rfl⟩
theorem aX7_fault_50 : ∀ (d : Nat)  (σ : Sg), cal (d + 1) mX7_fault [.ref 50] σ = exec d mX7_fault 0 [.ref 50] [] σ := fun _ _ => rfl
theorem kX7_isTrial : (∀ (d : Nat) (σ : Sg) (S : List Value) (k : Nat), exec d mX7_isTrial 0 [.ref k] S σ = exec d mX7_isTrial 1 [.ref k] (.ref k :: S) σ) ∧
  (∀ (d : Nat) (σ : Sg) (S : List Value) (l0 : Value), exec d mX7_isTrial 1 [l0] (.ref 50 :: S) σ = exec d mX7_isTrial 4 [l0] (.ref 51 :: S) σ) ∧
  (∀ (d : Nat) (σ : Sg) (S : List Value) (l0 : Value), exec d mX7_isTrial 4 [l0] S σ = exec d mX7_isTrial 6 [l0] (.int (nI 6) :: S) σ) ∧
  (∀ (d : Nat) (σ : Sg) (S : List Value) (l0 : Value) (x : Int32), exec d mX7_isTrial 6 [l0] (.int x :: .ref 51 :: S) σ = if inb x 208 = true then exec d mX7_isTrial 7 [l0] (.int (σ 51 x.toNatClampNeg) :: S) σ else none) ∧
  (∀ (d : Nat) (σ : Sg) (S : List Value) (l0 : Value), exec d mX7_isTrial 7 [l0] S σ = exec d mX7_isTrial 8 [l0] (.int (nI 1) :: S) σ) ∧
  (∀ (d : Nat) (σ : Sg) (S : List Value) (l0 : Value) (x y : Int32), exec d mX7_isTrial 8 [l0] (.int y :: .int x :: S) σ = if x = y then exec d mX7_isTrial 11 [l0] S σ else exec d mX7_isTrial 15 [l0] S σ) ∧
  (∀ (d : Nat) (σ : Sg) (S : List Value) (l0 : Value), exec d mX7_isTrial 11 [l0] S σ = exec d mX7_isTrial 12 [l0] (.int (nI 1) :: S) σ) ∧
  (∀ (d : Nat) (σ : Sg) (S : List Value) (l0 : Value), exec d mX7_isTrial 12 [l0] S σ = exec d mX7_isTrial 16 [l0] S σ) ∧
  (∀ (d : Nat) (σ : Sg) (S : List Value) (l0 : Value), exec d mX7_isTrial 15 [l0] S σ = exec d mX7_isTrial 16 [l0] (.int (nI 0) :: S) σ) ∧
  (∀ (d : Nat) (σ : Sg) (l0 : Value) (x : Int32), exec d mX7_isTrial 16 [l0] [.int x] σ = if b01 x = true then some (some (.int x), σ) else none) :=
  ⟨fun d σ S k => ex_aload_n (show decode mX7_isTrial.2.1 0 = .ok (.aload_n 0, 1) by decide +kernel) rfl,
  fun d σ S l0 => ex_getr (idx := 7) (ci := 7) (ff := 0) (n := 26) (hh := 833) (by decide +kernel),
  fun d σ S l0 => ex_bipush (show decode mX7_isTrial.2.1 4 = .ok (.bipush 6, 2) by decide +kernel) (by decide +kernel),
  fun d σ S l0 x => ex_iald (by decide +kernel),
  fun d σ S l0 => ex_iconst (show decode mX7_isTrial.2.1 7 = .ok (.iconst 1, 1) by decide +kernel) (by decide +kernel),
  fun d σ S l0 x y => ex_cne (show decode mX7_isTrial.2.1 8 = .ok (.if_icmp .ne 7, 3) by decide +kernel) (by decide),
  fun d σ S l0 => ex_iconst (show decode mX7_isTrial.2.1 11 = .ok (.iconst 1, 1) by decide +kernel) (by decide +kernel),
  fun d σ S l0 => ex_goto (show decode mX7_isTrial.2.1 12 = .ok (.goto 4, 3) by decide +kernel) (by decide),
  fun d σ S l0 => ex_iconst (show decode mX7_isTrial.2.1 15 = .ok (.iconst 0, 1) by decide +kernel) (by decide +kernel),
  fun d σ l0 x => ex_zret (show decode mX7_isTrial.2.1 16 = .ok (.ireturn, 1) by decide +kernel) rfl⟩
theorem aX7_isTrial_50 : ∀ (d : Nat)  (σ : Sg), cal (d + 1) mX7_isTrial [.ref 50] σ = exec d mX7_isTrial 0 [.ref 50] [] σ := fun _ _ => rfl
theorem kX7_isPart : (∀ (d : Nat) (σ : Sg) (S : List Value) (l0 : Value) (x : Int32), exec d mX7_isPart 0 [l0, .int x] S σ = exec d mX7_isPart 1 [l0, .int x] (.int x :: S) σ) ∧
  (∀ (d : Nat) (σ : Sg) (S : List Value) (l0 l1 : Value) (x : Int32), exec d mX7_isPart 1 [l0, l1] (.int x :: S) σ = exec d mX7_isPart 2 [l0, l1] (.long x.toInt64 :: S) σ) ∧
  (∀ (d : Nat) (σ : Sg) (S : List Value) (l0 l1 : Value), exec d mX7_isPart 2 [l0, l1] S σ = exec d mX7_isPart 3 [l0, l1] (.long (lN 0) :: S) σ) ∧
  (∀ (d : Nat) (σ : Sg) (S : List Value) (l1 : Value) (k : Nat), exec d mX7_isPart 3 [.ref k, l1] S σ = exec d mX7_isPart 4 [.ref k, l1] (.ref k :: S) σ) ∧
  (∀ (d : Nat) (σ : Sg) (S : List Value) (l0 l1 : Value), exec d mX7_isPart 4 [l0, l1] (.ref 50 :: S) σ = exec d mX7_isPart 7 [l0, l1] (.ref 51 :: S) σ) ∧
  (∀ (d : Nat) (σ : Sg) (S : List Value) (l0 l1 : Value), exec d mX7_isPart 7 [l0, l1] S σ = exec d mX7_isPart 9 [l0, l1] (.int (nI 7) :: S) σ) ∧
  (∀ (d : Nat) (σ : Sg) (S : List Value) (l0 l1 : Value) (x : Int32), exec d mX7_isPart 9 [l0, l1] (.int x :: .ref 51 :: S) σ = if inb x 208 = true then exec d mX7_isPart 10 [l0, l1] (.int (σ 51 x.toNatClampNeg) :: S) σ else none) ∧
  (∀ (d : Nat) (σ : Sg) (S : List Value) (l0 l1 : Value), exec d mX7_isPart 10 [l0, l1] S σ = exec d mX7_isPart 11 [l0, l1] (.int (nI 1) :: S) σ) ∧
  (∀ (d : Nat) (σ : Sg) (S : List Value) (l0 l1 : Value) (x y : Int32), exec d mX7_isPart 11 [l0, l1] (.int y :: .int x :: S) σ = exec d mX7_isPart 12 [l0, l1] (.int (x - y) :: S) σ) ∧
  (∀ (d : Nat) (σ : Sg) (S : List Value) (l0 l1 : Value) (x : Int32), exec d mX7_isPart 12 [l0, l1] (.int x :: S) σ = exec d mX7_isPart 13 [l0, l1] (.long x.toInt64 :: S) σ) ∧
  (∀ (d : Nat) (σ : Sg) (l0 l1 : Value) (x0 x1 x2 : Int64), exec d mX7_isPart 13 [l0, l1] [.long x0, .long x1, .long x2] σ = kb (cal d mX7_in [.long x2, .long x1, .long x0] σ) (fun rs σ2 => exec d mX7_isPart 16 [l0, l1] (rs ++ []) σ2)) ∧
  (∀ (d : Nat) (σ : Sg) (l0 l1 : Value) (x : Int32), exec d mX7_isPart 16 [l0, l1] [.int x] σ = if b01 x = true then some (some (.int x), σ) else none) :=
  ⟨fun d σ S l0 x => ex_iload_n (show decode mX7_isPart.2.1 0 = .ok (.iload_n 1, 1) by decide +kernel) rfl,
  fun d σ S l0 l1 x => ex_i2l (show decode mX7_isPart.2.1 1 = .ok (.i2l, 1) by decide +kernel),
  fun d σ S l0 l1 => ex_lconst (show decode mX7_isPart.2.1 2 = .ok (.lconst 0, 1) by decide +kernel) (by decide +kernel),
  fun d σ S l1 k => ex_aload_n (show decode mX7_isPart.2.1 3 = .ok (.aload_n 0, 1) by decide +kernel) rfl,
  fun d σ S l0 l1 => ex_getr (idx := 7) (ci := 7) (ff := 0) (n := 26) (hh := 833) (by decide +kernel),
  fun d σ S l0 l1 => ex_bipush (show decode mX7_isPart.2.1 7 = .ok (.bipush 7, 2) by decide +kernel) (by decide +kernel),
  fun d σ S l0 l1 x => ex_iald (by decide +kernel),
  fun d σ S l0 l1 => ex_iconst (show decode mX7_isPart.2.1 10 = .ok (.iconst 1, 1) by decide +kernel) (by decide +kernel),
  fun d σ S l0 l1 x y => ex_isub (show decode mX7_isPart.2.1 11 = .ok (.isub, 1) by decide +kernel),
  fun d σ S l0 l1 x => ex_i2l (show decode mX7_isPart.2.1 12 = .ok (.i2l, 1) by decide +kernel),
  fun d σ l0 l1 x0 x1 x2 => ex_is (hs := [920, 921, 922, 101]) (show decode mX7_isPart.2.1 13 = .ok (.invokestatic 63, 3) by decide +kernel) lkS_7_63 ⟨rfl, Nat.le_of_ble_eq_true rfl, Nat.le_of_ble_eq_true rfl, fun q => nomatch q⟩ rfl rfl,
  fun d σ l0 l1 x => ex_zret (show decode mX7_isPart.2.1 16 = .ok (.ireturn, 1) by decide +kernel) rfl⟩
theorem aX7_isPart_50 : ∀ (d : Nat) (a1 : Int32) (σ : Sg), cal (d + 1) mX7_isPart [.ref 50, .int a1] σ = exec d mX7_isPart 0 [.ref 50, .int a1] [] σ := fun _ _ _ => rfl
theorem kX7_isElder : (∀ (d : Nat) (σ : Sg) (S : List Value) (l0 : Value) (x : Int32), exec d mX7_isElder 0 [l0, .int x] S σ = exec d mX7_isElder 1 [l0, .int x] (.int x :: S) σ) ∧
  (∀ (d : Nat) (σ : Sg) (S : List Value) (l0 l1 : Value) (x : Int32), exec d mX7_isElder 1 [l0, l1] (.int x :: S) σ = exec d mX7_isElder 2 [l0, l1] (.long x.toInt64 :: S) σ) ∧
  (∀ (d : Nat) (σ : Sg) (S : List Value) (l0 l1 : Value), exec d mX7_isElder 2 [l0, l1] S σ = exec d mX7_isElder 3 [l0, l1] (.long (lN 0) :: S) σ) ∧
  (∀ (d : Nat) (σ : Sg) (S : List Value) (l1 : Value) (k : Nat), exec d mX7_isElder 3 [.ref k, l1] S σ = exec d mX7_isElder 4 [.ref k, l1] (.ref k :: S) σ) ∧
  (∀ (d : Nat) (σ : Sg) (S : List Value) (l0 l1 : Value), exec d mX7_isElder 4 [l0, l1] (.ref 50 :: S) σ = exec d mX7_isElder 7 [l0, l1] (.ref 51 :: S) σ) ∧
  (∀ (d : Nat) (σ : Sg) (S : List Value) (l0 l1 : Value), exec d mX7_isElder 7 [l0, l1] S σ = exec d mX7_isElder 9 [l0, l1] (.int (nI 8) :: S) σ) ∧
  (∀ (d : Nat) (σ : Sg) (S : List Value) (l0 l1 : Value) (x : Int32), exec d mX7_isElder 9 [l0, l1] (.int x :: .ref 51 :: S) σ = if inb x 208 = true then exec d mX7_isElder 10 [l0, l1] (.int (σ 51 x.toNatClampNeg) :: S) σ else none) ∧
  (∀ (d : Nat) (σ : Sg) (S : List Value) (l0 l1 : Value), exec d mX7_isElder 10 [l0, l1] S σ = exec d mX7_isElder 11 [l0, l1] (.int (nI 1) :: S) σ) ∧
  (∀ (d : Nat) (σ : Sg) (S : List Value) (l0 l1 : Value) (x y : Int32), exec d mX7_isElder 11 [l0, l1] (.int y :: .int x :: S) σ = exec d mX7_isElder 12 [l0, l1] (.int (x - y) :: S) σ) ∧
  (∀ (d : Nat) (σ : Sg) (S : List Value) (l0 l1 : Value) (x : Int32), exec d mX7_isElder 12 [l0, l1] (.int x :: S) σ = exec d mX7_isElder 13 [l0, l1] (.long x.toInt64 :: S) σ) ∧
  (∀ (d : Nat) (σ : Sg) (l0 l1 : Value) (x0 x1 x2 : Int64), exec d mX7_isElder 13 [l0, l1] [.long x0, .long x1, .long x2] σ = kb (cal d mX7_in [.long x2, .long x1, .long x0] σ) (fun rs σ2 => exec d mX7_isElder 16 [l0, l1] (rs ++ []) σ2)) ∧
  (∀ (d : Nat) (σ : Sg) (l0 l1 : Value) (x : Int32), exec d mX7_isElder 16 [l0, l1] [.int x] σ = if b01 x = true then some (some (.int x), σ) else none) :=
  ⟨fun d σ S l0 x => ex_iload_n (show decode mX7_isElder.2.1 0 = .ok (.iload_n 1, 1) by decide +kernel) rfl,
  fun d σ S l0 l1 x => ex_i2l (show decode mX7_isElder.2.1 1 = .ok (.i2l, 1) by decide +kernel),
  fun d σ S l0 l1 => ex_lconst (show decode mX7_isElder.2.1 2 = .ok (.lconst 0, 1) by decide +kernel) (by decide +kernel),
  fun d σ S l1 k => ex_aload_n (show decode mX7_isElder.2.1 3 = .ok (.aload_n 0, 1) by decide +kernel) rfl,
  fun d σ S l0 l1 => ex_getr (idx := 7) (ci := 7) (ff := 0) (n := 26) (hh := 833) (by decide +kernel),
  fun d σ S l0 l1 => ex_bipush (show decode mX7_isElder.2.1 7 = .ok (.bipush 8, 2) by decide +kernel) (by decide +kernel),
  fun d σ S l0 l1 x => ex_iald (by decide +kernel),
  fun d σ S l0 l1 => ex_iconst (show decode mX7_isElder.2.1 10 = .ok (.iconst 1, 1) by decide +kernel) (by decide +kernel),
  fun d σ S l0 l1 x y => ex_isub (show decode mX7_isElder.2.1 11 = .ok (.isub, 1) by decide +kernel),
  fun d σ S l0 l1 x => ex_i2l (show decode mX7_isElder.2.1 12 = .ok (.i2l, 1) by decide +kernel),
  fun d σ l0 l1 x0 x1 x2 => ex_is (hs := [920, 921, 922, 101]) (show decode mX7_isElder.2.1 13 = .ok (.invokestatic 63, 3) by decide +kernel) lkS_7_63 ⟨rfl, Nat.le_of_ble_eq_true rfl, Nat.le_of_ble_eq_true rfl, fun q => nomatch q⟩ rfl rfl,
  fun d σ l0 l1 x => ex_zret (show decode mX7_isElder.2.1 16 = .ok (.ireturn, 1) by decide +kernel) rfl⟩
theorem aX7_isElder_50 : ∀ (d : Nat) (a1 : Int32) (σ : Sg), cal (d + 1) mX7_isElder [.ref 50, .int a1] σ = exec d mX7_isElder 0 [.ref 50, .int a1] [] σ := fun _ _ _ => rfl
theorem kX7_takesOf : (∀ (d : Nat) (σ : Sg) (S : List Value) (l1 l2 l3 : Value) (x : Int32), exec d mX7_takesOf 0 [.int x, l1, l2, l3] S σ = exec d mX7_takesOf 1 [.int x, l1, l2, l3] (.int x :: S) σ) ∧
  (∀ (d : Nat) (σ : Sg) (S : List Value) (l0 l1 l2 l3 : Value), exec d mX7_takesOf 1 [l0, l1, l2, l3] S σ = exec d mX7_takesOf 2 [l0, l1, l2, l3] (.int (nI 2) :: S) σ) ∧
  (∀ (d : Nat) (σ : Sg) (S : List Value) (l0 l1 l2 l3 : Value) (x y : Int32), exec d mX7_takesOf 2 [l0, l1, l2, l3] (.int y :: .int x :: S) σ = if x = y then exec d mX7_takesOf 5 [l0, l1, l2, l3] S σ else exec d mX7_takesOf 16 [l0, l1, l2, l3] S σ) ∧
  (∀ (d : Nat) (σ : Sg) (S : List Value) (l0 l1 l2 : Value) (x : Int32), exec d mX7_takesOf 5 [l0, l1, l2, .int x] S σ = exec d mX7_takesOf 6 [l0, l1, l2, .int x] (.int x :: S) σ) ∧
  (∀ (d : Nat) (σ : Sg) (S : List Value) (l0 l2 l3 : Value) (x : Int32), exec d mX7_takesOf 6 [l0, .int x, l2, l3] S σ = exec d mX7_takesOf 7 [l0, .int x, l2, l3] (.int x :: S) σ) ∧
  (∀ (d : Nat) (σ : Sg) (S : List Value) (l0 l1 l2 l3 : Value) (x y : Int32), exec d mX7_takesOf 7 [l0, l1, l2, l3] (.int y :: .int x :: S) σ = if y ≤ x then exec d mX7_takesOf 16 [l0, l1, l2, l3] S σ else exec d mX7_takesOf 10 [l0, l1, l2, l3] S σ) ∧
  (∀ (d : Nat) (σ : Sg) (S : List Value) (l0 l1 l2 l3 : Value), exec d mX7_takesOf 10 [l0, l1, l2, l3] S σ = exec d mX7_takesOf 11 [l0, l1, l2, l3] (.int (nI 2) :: S) σ) ∧
  (∀ (d : Nat) (σ : Sg) (S : List Value) (l0 l1 l3 : Value) (x : Int32), exec d mX7_takesOf 11 [l0, l1, .int x, l3] S σ = exec d mX7_takesOf 12 [l0, l1, .int x, l3] (.int x :: S) σ) ∧
  (∀ (d : Nat) (σ : Sg) (S : List Value) (l0 l1 l2 l3 : Value) (x y : Int32), exec d mX7_takesOf 12 [l0, l1, l2, l3] (.int y :: .int x :: S) σ = exec d mX7_takesOf 13 [l0, l1, l2, l3] (.int (x * y) :: S) σ) ∧
  (∀ (d : Nat) (σ : Sg) (S : List Value) (l0 l1 l2 l3 : Value), exec d mX7_takesOf 13 [l0, l1, l2, l3] S σ = exec d mX7_takesOf 30 [l0, l1, l2, l3] S σ) ∧
  (∀ (d : Nat) (σ : Sg) (S : List Value) (l1 l2 l3 : Value) (x : Int32), exec d mX7_takesOf 16 [.int x, l1, l2, l3] S σ = exec d mX7_takesOf 17 [.int x, l1, l2, l3] (.int x :: S) σ) ∧
  (∀ (d : Nat) (σ : Sg) (S : List Value) (l0 l1 l2 l3 : Value), exec d mX7_takesOf 17 [l0, l1, l2, l3] S σ = exec d mX7_takesOf 18 [l0, l1, l2, l3] (.int (nI 4) :: S) σ) ∧
  (∀ (d : Nat) (σ : Sg) (S : List Value) (l0 l1 l2 l3 : Value) (x y : Int32), exec d mX7_takesOf 18 [l0, l1, l2, l3] (.int y :: .int x :: S) σ = if x = y then exec d mX7_takesOf 21 [l0, l1, l2, l3] S σ else exec d mX7_takesOf 29 [l0, l1, l2, l3] S σ) ∧
  (∀ (d : Nat) (σ : Sg) (S : List Value) (l0 l1 l3 : Value) (x : Int32), exec d mX7_takesOf 21 [l0, l1, .int x, l3] S σ = exec d mX7_takesOf 22 [l0, l1, .int x, l3] (.int x :: S) σ) ∧
  (∀ (d : Nat) (σ : Sg) (S : List Value) (l0 l1 l2 l3 : Value), exec d mX7_takesOf 22 [l0, l1, l2, l3] S σ = exec d mX7_takesOf 23 [l0, l1, l2, l3] (.int (nI 2) :: S) σ) ∧
  (∀ (d : Nat) (σ : Sg) (S : List Value) (l0 l1 l2 l3 : Value) (x y : Int32), exec d mX7_takesOf 23 [l0, l1, l2, l3] (.int y :: .int x :: S) σ = if y = 0 then none else exec d mX7_takesOf 24 [l0, l1, l2, l3] (.int (x / y) :: S) σ) ∧
  (∀ (d : Nat) (σ : Sg) (S : List Value) (l0 l1 l2 l3 : Value), exec d mX7_takesOf 24 [l0, l1, l2, l3] S σ = exec d mX7_takesOf 25 [l0, l1, l2, l3] (.int (nI 1) :: S) σ) ∧
  (∀ (d : Nat) (σ : Sg) (S : List Value) (l0 l1 l2 l3 : Value) (x y : Int32), exec d mX7_takesOf 25 [l0, l1, l2, l3] (.int y :: .int x :: S) σ = exec d mX7_takesOf 26 [l0, l1, l2, l3] (.int (x + y) :: S) σ) ∧
  (∀ (d : Nat) (σ : Sg) (S : List Value) (l0 l1 l2 l3 : Value), exec d mX7_takesOf 26 [l0, l1, l2, l3] S σ = exec d mX7_takesOf 30 [l0, l1, l2, l3] S σ) ∧
  (∀ (d : Nat) (σ : Sg) (S : List Value) (l0 l1 l3 : Value) (x : Int32), exec d mX7_takesOf 29 [l0, l1, .int x, l3] S σ = exec d mX7_takesOf 30 [l0, l1, .int x, l3] (.int x :: S) σ) ∧
  (∀ (d : Nat) (σ : Sg) (l0 l1 l2 l3 : Value) (x : Int32), exec d mX7_takesOf 30 [l0, l1, l2, l3] [.int x] σ = some (some (.int x), σ)) :=
  ⟨fun d σ S l1 l2 l3 x => ex_iload_n (show decode mX7_takesOf.2.1 0 = .ok (.iload_n 0, 1) by decide +kernel) rfl,
  fun d σ S l0 l1 l2 l3 => ex_iconst (show decode mX7_takesOf.2.1 1 = .ok (.iconst 2, 1) by decide +kernel) (by decide +kernel),
  fun d σ S l0 l1 l2 l3 x y => ex_cne (show decode mX7_takesOf.2.1 2 = .ok (.if_icmp .ne 14, 3) by decide +kernel) (by decide),
  fun d σ S l0 l1 l2 x => ex_iload_n (show decode mX7_takesOf.2.1 5 = .ok (.iload_n 3, 1) by decide +kernel) rfl,
  fun d σ S l0 l2 l3 x => ex_iload_n (show decode mX7_takesOf.2.1 6 = .ok (.iload_n 1, 1) by decide +kernel) rfl,
  fun d σ S l0 l1 l2 l3 x y => ex_cge (show decode mX7_takesOf.2.1 7 = .ok (.if_icmp .ge 9, 3) by decide +kernel) (by decide),
  fun d σ S l0 l1 l2 l3 => ex_iconst (show decode mX7_takesOf.2.1 10 = .ok (.iconst 2, 1) by decide +kernel) (by decide +kernel),
  fun d σ S l0 l1 l3 x => ex_iload_n (show decode mX7_takesOf.2.1 11 = .ok (.iload_n 2, 1) by decide +kernel) rfl,
  fun d σ S l0 l1 l2 l3 x y => ex_imul (show decode mX7_takesOf.2.1 12 = .ok (.imul, 1) by decide +kernel),
  fun d σ S l0 l1 l2 l3 => ex_goto (show decode mX7_takesOf.2.1 13 = .ok (.goto 17, 3) by decide +kernel) (by decide),
  fun d σ S l1 l2 l3 x => ex_iload_n (show decode mX7_takesOf.2.1 16 = .ok (.iload_n 0, 1) by decide +kernel) rfl,
  fun d σ S l0 l1 l2 l3 => ex_iconst (show decode mX7_takesOf.2.1 17 = .ok (.iconst 4, 1) by decide +kernel) (by decide +kernel),
  fun d σ S l0 l1 l2 l3 x y => ex_cne (show decode mX7_takesOf.2.1 18 = .ok (.if_icmp .ne 11, 3) by decide +kernel) (by decide),
  fun d σ S l0 l1 l3 x => ex_iload_n (show decode mX7_takesOf.2.1 21 = .ok (.iload_n 2, 1) by decide +kernel) rfl,
  fun d σ S l0 l1 l2 l3 => ex_iconst (show decode mX7_takesOf.2.1 22 = .ok (.iconst 2, 1) by decide +kernel) (by decide +kernel),
  fun d σ S l0 l1 l2 l3 x y => ex_idiv (show decode mX7_takesOf.2.1 23 = .ok (.idiv, 1) by decide +kernel),
  fun d σ S l0 l1 l2 l3 => ex_iconst (show decode mX7_takesOf.2.1 24 = .ok (.iconst 1, 1) by decide +kernel) (by decide +kernel),
  fun d σ S l0 l1 l2 l3 x y => ex_iadd (show decode mX7_takesOf.2.1 25 = .ok (.iadd, 1) by decide +kernel),
  fun d σ S l0 l1 l2 l3 => ex_goto (show decode mX7_takesOf.2.1 26 = .ok (.goto 4, 3) by decide +kernel) (by decide),
  fun d σ S l0 l1 l3 x => ex_iload_n (show decode mX7_takesOf.2.1 29 = .ok (.iload_n 2, 1) by decide +kernel) rfl,
  fun d σ l0 l1 l2 l3 x => ex_iret (show decode mX7_takesOf.2.1 30 = .ok (.ireturn, 1) by decide +kernel) rfl⟩
theorem aX7_takesOf : ∀ (d : Nat) (a0 : Int32) (a1 : Int32) (a2 : Int32) (a3 : Int32) (σ : Sg), cal (d + 1) mX7_takesOf [.int a0, .int a1, .int a2, .int a3] σ = exec d mX7_takesOf 0 [.int a0, .int a1, .int a2, .int a3] [] σ := fun _ _ _ _ _ _ => rfl
theorem kX7_isFaulty : (∀ (d : Nat) (σ : Sg) (S : List Value) (l1 l2 : Value) (x : Int32), exec d mX7_isFaulty 0 [.int x, l1, l2] S σ = exec d mX7_isFaulty 1 [.int x, l1, l2] (.int x :: S) σ) ∧
  (∀ (d : Nat) (σ : Sg) (S : List Value) (l0 l1 l2 : Value) (x : Int32), exec d mX7_isFaulty 1 [l0, l1, l2] (.int x :: S) σ = (if x = nI 2 then exec d mX7_isFaulty 32 [l0, l1, l2] S σ else (if x = nI 3 then exec d mX7_isFaulty 59 [l0, l1, l2] S σ else (if x = nI 4 then exec d mX7_isFaulty 45 [l0, l1, l2] S σ else (if x = nI 5 then exec d mX7_isFaulty 47 [l0, l1, l2] S σ else exec d mX7_isFaulty 59 [l0, l1, l2] S σ))))) ∧
  (∀ (d : Nat) (σ : Sg) (S : List Value) (l0 l1 : Value) (x : Int32), exec d mX7_isFaulty 32 [l0, l1, .int x] S σ = exec d mX7_isFaulty 33 [l0, l1, .int x] (.int x :: S) σ) ∧
  (∀ (d : Nat) (σ : Sg) (S : List Value) (l0 l1 l2 : Value), exec d mX7_isFaulty 33 [l0, l1, l2] S σ = exec d mX7_isFaulty 34 [l0, l1, l2] (.int (nI 5) :: S) σ) ∧
  (∀ (d : Nat) (σ : Sg) (S : List Value) (l0 l1 l2 : Value) (x y : Int32), exec d mX7_isFaulty 34 [l0, l1, l2] (.int y :: .int x :: S) σ = exec d mX7_isFaulty 35 [l0, l1, l2] (.int (x + y) :: S) σ) ∧
  (∀ (d : Nat) (σ : Sg) (S : List Value) (l0 l2 : Value) (x : Int32), exec d mX7_isFaulty 35 [l0, .int x, l2] S σ = exec d mX7_isFaulty 36 [l0, .int x, l2] (.int x :: S) σ) ∧
  (∀ (d : Nat) (σ : Sg) (S : List Value) (l0 l1 l2 : Value) (x y : Int32), exec d mX7_isFaulty 36 [l0, l1, l2] (.int y :: .int x :: S) σ = if y ≤ x then exec d mX7_isFaulty 43 [l0, l1, l2] S σ else exec d mX7_isFaulty 39 [l0, l1, l2] S σ) ∧
  (∀ (d : Nat) (σ : Sg) (S : List Value) (l0 l1 l2 : Value), exec d mX7_isFaulty 39 [l0, l1, l2] S σ = exec d mX7_isFaulty 40 [l0, l1, l2] (.int (nI 1) :: S) σ) ∧
  (∀ (d : Nat) (σ : Sg) (S : List Value) (l0 l1 l2 : Value), exec d mX7_isFaulty 40 [l0, l1, l2] S σ = exec d mX7_isFaulty 44 [l0, l1, l2] S σ) ∧
  (∀ (d : Nat) (σ : Sg) (S : List Value) (l0 l1 l2 : Value), exec d mX7_isFaulty 43 [l0, l1, l2] S σ = exec d mX7_isFaulty 44 [l0, l1, l2] (.int (nI 0) :: S) σ) ∧
  (∀ (d : Nat) (σ : Sg) (l0 l1 l2 : Value) (x : Int32), exec d mX7_isFaulty 44 [l0, l1, l2] [.int x] σ = if b01 x = true then some (some (.int x), σ) else none) ∧
  (∀ (d : Nat) (σ : Sg) (S : List Value) (l0 l1 l2 : Value), exec d mX7_isFaulty 45 [l0, l1, l2] S σ = exec d mX7_isFaulty 46 [l0, l1, l2] (.int (nI 1) :: S) σ) ∧
  (∀ (d : Nat) (σ : Sg) (l0 l1 l2 : Value) (x : Int32), exec d mX7_isFaulty 46 [l0, l1, l2] [.int x] σ = if b01 x = true then some (some (.int x), σ) else none) ∧
  (∀ (d : Nat) (σ : Sg) (S : List Value) (l0 l2 : Value) (x : Int32), exec d mX7_isFaulty 47 [l0, .int x, l2] S σ = exec d mX7_isFaulty 48 [l0, .int x, l2] (.int x :: S) σ) ∧
  (∀ (d : Nat) (σ : Sg) (S : List Value) (l0 l1 l2 : Value), exec d mX7_isFaulty 48 [l0, l1, l2] S σ = exec d mX7_isFaulty 50 [l0, l1, l2] (.int (nI 10) :: S) σ) ∧
  (∀ (d : Nat) (σ : Sg) (S : List Value) (l0 l1 l2 : Value) (x y : Int32), exec d mX7_isFaulty 50 [l0, l1, l2] (.int y :: .int x :: S) σ = if x ≤ y then exec d mX7_isFaulty 57 [l0, l1, l2] S σ else exec d mX7_isFaulty 53 [l0, l1, l2] S σ) ∧
  (∀ (d : Nat) (σ : Sg) (S : List Value) (l0 l1 l2 : Value), exec d mX7_isFaulty 53 [l0, l1, l2] S σ = exec d mX7_isFaulty 54 [l0, l1, l2] (.int (nI 1) :: S) σ) ∧
  (∀ (d : Nat) (σ : Sg) (S : List Value) (l0 l1 l2 : Value), exec d mX7_isFaulty 54 [l0, l1, l2] S σ = exec d mX7_isFaulty 58 [l0, l1, l2] S σ) ∧
  (∀ (d : Nat) (σ : Sg) (S : List Value) (l0 l1 l2 : Value), exec d mX7_isFaulty 57 [l0, l1, l2] S σ = exec d mX7_isFaulty 58 [l0, l1, l2] (.int (nI 0) :: S) σ) ∧
  (∀ (d : Nat) (σ : Sg) (l0 l1 l2 : Value) (x : Int32), exec d mX7_isFaulty 58 [l0, l1, l2] [.int x] σ = if b01 x = true then some (some (.int x), σ) else none) ∧
  (∀ (d : Nat) (σ : Sg) (S : List Value) (l0 l1 : Value) (x : Int32), exec d mX7_isFaulty 59 [l0, l1, .int x] S σ = exec d mX7_isFaulty 60 [l0, l1, .int x] (.int x :: S) σ) ∧
  (∀ (d : Nat) (σ : Sg) (S : List Value) (l0 l2 : Value) (x : Int32), exec d mX7_isFaulty 60 [l0, .int x, l2] S σ = exec d mX7_isFaulty 61 [l0, .int x, l2] (.int x :: S) σ) ∧
  (∀ (d : Nat) (σ : Sg) (S : List Value) (l0 l1 l2 : Value) (x y : Int32), exec d mX7_isFaulty 61 [l0, l1, l2] (.int y :: .int x :: S) σ = if y ≤ x then exec d mX7_isFaulty 68 [l0, l1, l2] S σ else exec d mX7_isFaulty 64 [l0, l1, l2] S σ) ∧
  (∀ (d : Nat) (σ : Sg) (S : List Value) (l0 l1 l2 : Value), exec d mX7_isFaulty 64 [l0, l1, l2] S σ = exec d mX7_isFaulty 65 [l0, l1, l2] (.int (nI 1) :: S) σ) ∧
  (∀ (d : Nat) (σ : Sg) (S : List Value) (l0 l1 l2 : Value), exec d mX7_isFaulty 65 [l0, l1, l2] S σ = exec d mX7_isFaulty 69 [l0, l1, l2] S σ) ∧
  (∀ (d : Nat) (σ : Sg) (S : List Value) (l0 l1 l2 : Value), exec d mX7_isFaulty 68 [l0, l1, l2] S σ = exec d mX7_isFaulty 69 [l0, l1, l2] (.int (nI 0) :: S) σ) ∧
  (∀ (d : Nat) (σ : Sg) (l0 l1 l2 : Value) (x : Int32), exec d mX7_isFaulty 69 [l0, l1, l2] [.int x] σ = if b01 x = true then some (some (.int x), σ) else none) :=
  ⟨fun d σ S l1 l2 x => ex_iload_n (show decode mX7_isFaulty.2.1 0 = .ok (.iload_n 0, 1) by decide +kernel) rfl,
  fun d σ S l0 l1 l2 x => ex_tsw (lo := 2) (df := 59) (ts := [32, 59, 45, 47]) (show decode mX7_isFaulty.2.1 1 = .ok (.tableswitch 58 2 5 #[31, 58, 44, 46], 31) by decide +kernel) (by decide) (by decide) (by decide) (by decide),
  fun d σ S l0 l1 x => ex_iload_n (show decode mX7_isFaulty.2.1 32 = .ok (.iload_n 2, 1) by decide +kernel) rfl,
  fun d σ S l0 l1 l2 => ex_iconst (show decode mX7_isFaulty.2.1 33 = .ok (.iconst 5, 1) by decide +kernel) (by decide +kernel),
  fun d σ S l0 l1 l2 x y => ex_iadd (show decode mX7_isFaulty.2.1 34 = .ok (.iadd, 1) by decide +kernel),
  fun d σ S l0 l2 x => ex_iload_n (show decode mX7_isFaulty.2.1 35 = .ok (.iload_n 1, 1) by decide +kernel) rfl,
  fun d σ S l0 l1 l2 x y => ex_cge (show decode mX7_isFaulty.2.1 36 = .ok (.if_icmp .ge 7, 3) by decide +kernel) (by decide),
  fun d σ S l0 l1 l2 => ex_iconst (show decode mX7_isFaulty.2.1 39 = .ok (.iconst 1, 1) by decide +kernel) (by decide +kernel),
  fun d σ S l0 l1 l2 => ex_goto (show decode mX7_isFaulty.2.1 40 = .ok (.goto 4, 3) by decide +kernel) (by decide),
  fun d σ S l0 l1 l2 => ex_iconst (show decode mX7_isFaulty.2.1 43 = .ok (.iconst 0, 1) by decide +kernel) (by decide +kernel),
  fun d σ l0 l1 l2 x => ex_zret (show decode mX7_isFaulty.2.1 44 = .ok (.ireturn, 1) by decide +kernel) rfl,
  fun d σ S l0 l1 l2 => ex_iconst (show decode mX7_isFaulty.2.1 45 = .ok (.iconst 1, 1) by decide +kernel) (by decide +kernel),
  fun d σ l0 l1 l2 x => ex_zret (show decode mX7_isFaulty.2.1 46 = .ok (.ireturn, 1) by decide +kernel) rfl,
  fun d σ S l0 l2 x => ex_iload_n (show decode mX7_isFaulty.2.1 47 = .ok (.iload_n 1, 1) by decide +kernel) rfl,
  fun d σ S l0 l1 l2 => ex_bipush (show decode mX7_isFaulty.2.1 48 = .ok (.bipush 10, 2) by decide +kernel) (by decide +kernel),
  fun d σ S l0 l1 l2 x y => ex_cle (show decode mX7_isFaulty.2.1 50 = .ok (.if_icmp .le 7, 3) by decide +kernel) (by decide),
  fun d σ S l0 l1 l2 => ex_iconst (show decode mX7_isFaulty.2.1 53 = .ok (.iconst 1, 1) by decide +kernel) (by decide +kernel),
  fun d σ S l0 l1 l2 => ex_goto (show decode mX7_isFaulty.2.1 54 = .ok (.goto 4, 3) by decide +kernel) (by decide),
  fun d σ S l0 l1 l2 => ex_iconst (show decode mX7_isFaulty.2.1 57 = .ok (.iconst 0, 1) by decide +kernel) (by decide +kernel),
  fun d σ l0 l1 l2 x => ex_zret (show decode mX7_isFaulty.2.1 58 = .ok (.ireturn, 1) by decide +kernel) rfl,
  fun d σ S l0 l1 x => ex_iload_n (show decode mX7_isFaulty.2.1 59 = .ok (.iload_n 2, 1) by decide +kernel) rfl,
  fun d σ S l0 l2 x => ex_iload_n (show decode mX7_isFaulty.2.1 60 = .ok (.iload_n 1, 1) by decide +kernel) rfl,
  fun d σ S l0 l1 l2 x y => ex_cge (show decode mX7_isFaulty.2.1 61 = .ok (.if_icmp .ge 7, 3) by decide +kernel) (by decide),
  fun d σ S l0 l1 l2 => ex_iconst (show decode mX7_isFaulty.2.1 64 = .ok (.iconst 1, 1) by decide +kernel) (by decide +kernel),
  fun d σ S l0 l1 l2 => ex_goto (show decode mX7_isFaulty.2.1 65 = .ok (.goto 4, 3) by decide +kernel) (by decide),
  fun d σ S l0 l1 l2 => ex_iconst (show decode mX7_isFaulty.2.1 68 = .ok (.iconst 0, 1) by decide +kernel) (by decide +kernel),
  fun d σ l0 l1 l2 x => ex_zret (show decode mX7_isFaulty.2.1 69 = .ok (.ireturn, 1) by decide +kernel) rfl⟩
theorem aX7_isFaulty : ∀ (d : Nat) (a0 : Int32) (a1 : Int32) (a2 : Int32) (σ : Sg), cal (d + 1) mX7_isFaulty [.int a0, .int a1, .int a2] σ = exec d mX7_isFaulty 0 [.int a0, .int a1, .int a2] [] σ := fun _ _ _ _ _ => rfl
theorem kX7_takesNow : (∀ (d : Nat) (σ : Sg) (S : List Value) (l1 l2 : Value) (k : Nat), exec d mX7_takesNow 0 [.ref k, l1, l2] S σ = exec d mX7_takesNow 1 [.ref k, l1, l2] (.ref k :: S) σ) ∧
  (∀ (d : Nat) (σ : Sg) (S : List Value) (l0 l1 l2 : Value), exec d mX7_takesNow 1 [l0, l1, l2] (.ref 50 :: S) σ = exec d mX7_takesNow 4 [l0, l1, l2] (.ref 51 :: S) σ) ∧
  (∀ (d : Nat) (σ : Sg) (S : List Value) (l0 l1 l2 : Value), exec d mX7_takesNow 4 [l0, l1, l2] S σ = exec d mX7_takesNow 6 [l0, l1, l2] (.int (nI 9) :: S) σ) ∧
  (∀ (d : Nat) (σ : Sg) (S : List Value) (l0 l2 : Value) (x : Int32), exec d mX7_takesNow 6 [l0, .int x, l2] S σ = exec d mX7_takesNow 7 [l0, .int x, l2] (.int x :: S) σ) ∧
  (∀ (d : Nat) (σ : Sg) (S : List Value) (l0 l1 l2 : Value) (x y : Int32), exec d mX7_takesNow 7 [l0, l1, l2] (.int y :: .int x :: S) σ = exec d mX7_takesNow 8 [l0, l1, l2] (.int (x + y) :: S) σ) ∧
  (∀ (d : Nat) (σ : Sg) (S : List Value) (l0 l1 l2 : Value) (x : Int32), exec d mX7_takesNow 8 [l0, l1, l2] (.int x :: .ref 51 :: S) σ = if inb x 208 = true then exec d mX7_takesNow 9 [l0, l1, l2] (.int (σ 51 x.toNatClampNeg) :: S) σ else none) ∧
  (∀ (d : Nat) (σ : Sg) (S : List Value) (l1 l2 : Value) (k : Nat), exec d mX7_takesNow 9 [.ref k, l1, l2] S σ = exec d mX7_takesNow 10 [.ref k, l1, l2] (.ref k :: S) σ) ∧
  (∀ (d : Nat) (σ : Sg) (S : List Value) (l0 l1 l2 : Value), exec d mX7_takesNow 10 [l0, l1, l2] (.ref 50 :: S) σ = exec d mX7_takesNow 13 [l0, l1, l2] (.ref 51 :: S) σ) ∧
  (∀ (d : Nat) (σ : Sg) (S : List Value) (l0 l1 l2 : Value), exec d mX7_takesNow 13 [l0, l1, l2] S σ = exec d mX7_takesNow 15 [l0, l1, l2] (.int (nI 16) :: S) σ) ∧
  (∀ (d : Nat) (σ : Sg) (S : List Value) (l0 l2 : Value) (x : Int32), exec d mX7_takesNow 15 [l0, .int x, l2] S σ = exec d mX7_takesNow 16 [l0, .int x, l2] (.int x :: S) σ) ∧
  (∀ (d : Nat) (σ : Sg) (S : List Value) (l0 l1 l2 : Value) (x y : Int32), exec d mX7_takesNow 16 [l0, l1, l2] (.int y :: .int x :: S) σ = exec d mX7_takesNow 17 [l0, l1, l2] (.int (x + y) :: S) σ) ∧
  (∀ (d : Nat) (σ : Sg) (S : List Value) (l0 l1 l2 : Value) (x : Int32), exec d mX7_takesNow 17 [l0, l1, l2] (.int x :: .ref 51 :: S) σ = if inb x 208 = true then exec d mX7_takesNow 18 [l0, l1, l2] (.int (σ 51 x.toNatClampNeg) :: S) σ else none) ∧
  (∀ (d : Nat) (σ : Sg) (S : List Value) (l1 l2 : Value) (k : Nat), exec d mX7_takesNow 18 [.ref k, l1, l2] S σ = exec d mX7_takesNow 19 [.ref k, l1, l2] (.ref k :: S) σ) ∧
  (∀ (d : Nat) (σ : Sg) (S : List Value) (l0 l1 l2 : Value), exec d mX7_takesNow 19 [l0, l1, l2] (.ref 50 :: S) σ = exec d mX7_takesNow 22 [l0, l1, l2] (.ref 51 :: S) σ) ∧
  (∀ (d : Nat) (σ : Sg) (S : List Value) (l0 l1 l2 : Value), exec d mX7_takesNow 22 [l0, l1, l2] S σ = exec d mX7_takesNow 24 [l0, l1, l2] (.int (nI 23) :: S) σ) ∧
  (∀ (d : Nat) (σ : Sg) (S : List Value) (l0 l2 : Value) (x : Int32), exec d mX7_takesNow 24 [l0, .int x, l2] S σ = exec d mX7_takesNow 25 [l0, .int x, l2] (.int x :: S) σ) ∧
  (∀ (d : Nat) (σ : Sg) (S : List Value) (l0 l1 l2 : Value) (x y : Int32), exec d mX7_takesNow 25 [l0, l1, l2] (.int y :: .int x :: S) σ = exec d mX7_takesNow 26 [l0, l1, l2] (.int (x + y) :: S) σ) ∧
  (∀ (d : Nat) (σ : Sg) (S : List Value) (l0 l1 l2 : Value) (x : Int32), exec d mX7_takesNow 26 [l0, l1, l2] (.int x :: .ref 51 :: S) σ = if inb x 208 = true then exec d mX7_takesNow 27 [l0, l1, l2] (.int (σ 51 x.toNatClampNeg) :: S) σ else none) ∧
  (∀ (d : Nat) (σ : Sg) (S : List Value) (l0 l1 : Value) (x : Int32), exec d mX7_takesNow 27 [l0, l1, .int x] S σ = exec d mX7_takesNow 28 [l0, l1, .int x] (.int x :: S) σ) ∧
  (∀ (d : Nat) (σ : Sg) (l0 l1 l2 : Value) (x0 x1 x2 x3 : Int32), exec d mX7_takesNow 28 [l0, l1, l2] [.int x0, .int x1, .int x2, .int x3] σ = kb (cal d mX7_takesOf [.int x3, .int x2, .int x1, .int x0] σ) (fun rs σ2 => exec d mX7_takesNow 31 [l0, l1, l2] (rs ++ []) σ2)) ∧
  (∀ (d : Nat) (σ : Sg) (l0 l1 l2 : Value) (x : Int32), exec d mX7_takesNow 31 [l0, l1, l2] [.int x] σ = some (some (.int x), σ)) :=
  ⟨fun d σ S l1 l2 k => ex_aload_n (show decode mX7_takesNow.2.1 0 = .ok (.aload_n 0, 1) by decide +kernel) rfl,
  fun d σ S l0 l1 l2 => ex_getr (idx := 7) (ci := 7) (ff := 0) (n := 26) (hh := 833) (by decide +kernel),
  fun d σ S l0 l1 l2 => ex_bipush (show decode mX7_takesNow.2.1 4 = .ok (.bipush 9, 2) by decide +kernel) (by decide +kernel),
  fun d σ S l0 l2 x => ex_iload_n (show decode mX7_takesNow.2.1 6 = .ok (.iload_n 1, 1) by decide +kernel) rfl,
  fun d σ S l0 l1 l2 x y => ex_iadd (show decode mX7_takesNow.2.1 7 = .ok (.iadd, 1) by decide +kernel),
  fun d σ S l0 l1 l2 x => ex_iald (by decide +kernel),
  fun d σ S l1 l2 k => ex_aload_n (show decode mX7_takesNow.2.1 9 = .ok (.aload_n 0, 1) by decide +kernel) rfl,
  fun d σ S l0 l1 l2 => ex_getr (idx := 7) (ci := 7) (ff := 0) (n := 26) (hh := 833) (by decide +kernel),
  fun d σ S l0 l1 l2 => ex_bipush (show decode mX7_takesNow.2.1 13 = .ok (.bipush 16, 2) by decide +kernel) (by decide +kernel),
  fun d σ S l0 l2 x => ex_iload_n (show decode mX7_takesNow.2.1 15 = .ok (.iload_n 1, 1) by decide +kernel) rfl,
  fun d σ S l0 l1 l2 x y => ex_iadd (show decode mX7_takesNow.2.1 16 = .ok (.iadd, 1) by decide +kernel),
  fun d σ S l0 l1 l2 x => ex_iald (by decide +kernel),
  fun d σ S l1 l2 k => ex_aload_n (show decode mX7_takesNow.2.1 18 = .ok (.aload_n 0, 1) by decide +kernel) rfl,
  fun d σ S l0 l1 l2 => ex_getr (idx := 7) (ci := 7) (ff := 0) (n := 26) (hh := 833) (by decide +kernel),
  fun d σ S l0 l1 l2 => ex_bipush (show decode mX7_takesNow.2.1 22 = .ok (.bipush 23, 2) by decide +kernel) (by decide +kernel),
  fun d σ S l0 l2 x => ex_iload_n (show decode mX7_takesNow.2.1 24 = .ok (.iload_n 1, 1) by decide +kernel) rfl,
  fun d σ S l0 l1 l2 x y => ex_iadd (show decode mX7_takesNow.2.1 25 = .ok (.iadd, 1) by decide +kernel),
  fun d σ S l0 l1 l2 x => ex_iald (by decide +kernel),
  fun d σ S l0 l1 x => ex_iload_n (show decode mX7_takesNow.2.1 27 = .ok (.iload_n 2, 1) by decide +kernel) rfl,
  fun d σ l0 l1 l2 x0 x1 x2 x3 => ex_is (hs := [1030, 1031, 1032, 101]) (show decode mX7_takesNow.2.1 28 = .ok (.invokestatic 144, 3) by decide +kernel) lkS_7_144 ⟨rfl, Nat.le_of_ble_eq_true rfl, Nat.le_of_ble_eq_true rfl, fun q => nomatch q⟩ rfl rfl,
  fun d σ l0 l1 l2 x => ex_iret (show decode mX7_takesNow.2.1 31 = .ok (.ireturn, 1) by decide +kernel) rfl⟩
theorem aX7_takesNow_50 : ∀ (d : Nat) (a1 : Int32) (a2 : Int32) (σ : Sg), cal (d + 1) mX7_takesNow [.ref 50, .int a1, .int a2] σ = exec d mX7_takesNow 0 [.ref 50, .int a1, .int a2] [] σ := fun _ _ _ _ => rfl
theorem kX7_isFaultyNow : (∀ (d : Nat) (σ : Sg) (S : List Value) (l1 l2 : Value) (k : Nat), exec d mX7_isFaultyNow 0 [.ref k, l1, l2] S σ = exec d mX7_isFaultyNow 1 [.ref k, l1, l2] (.ref k :: S) σ) ∧
  (∀ (d : Nat) (σ : Sg) (S : List Value) (l0 l1 l2 : Value), exec d mX7_isFaultyNow 1 [l0, l1, l2] (.ref 50 :: S) σ = exec d mX7_isFaultyNow 4 [l0, l1, l2] (.ref 51 :: S) σ) ∧
  (∀ (d : Nat) (σ : Sg) (S : List Value) (l0 l1 l2 : Value), exec d mX7_isFaultyNow 4 [l0, l1, l2] S σ = exec d mX7_isFaultyNow 6 [l0, l1, l2] (.int (nI 9) :: S) σ) ∧
  (∀ (d : Nat) (σ : Sg) (S : List Value) (l0 l2 : Value) (x : Int32), exec d mX7_isFaultyNow 6 [l0, .int x, l2] S σ = exec d mX7_isFaultyNow 7 [l0, .int x, l2] (.int x :: S) σ) ∧
  (∀ (d : Nat) (σ : Sg) (S : List Value) (l0 l1 l2 : Value) (x y : Int32), exec d mX7_isFaultyNow 7 [l0, l1, l2] (.int y :: .int x :: S) σ = exec d mX7_isFaultyNow 8 [l0, l1, l2] (.int (x + y) :: S) σ) ∧
  (∀ (d : Nat) (σ : Sg) (S : List Value) (l0 l1 l2 : Value) (x : Int32), exec d mX7_isFaultyNow 8 [l0, l1, l2] (.int x :: .ref 51 :: S) σ = if inb x 208 = true then exec d mX7_isFaultyNow 9 [l0, l1, l2] (.int (σ 51 x.toNatClampNeg) :: S) σ else none) ∧
  (∀ (d : Nat) (σ : Sg) (S : List Value) (l1 l2 : Value) (k : Nat), exec d mX7_isFaultyNow 9 [.ref k, l1, l2] S σ = exec d mX7_isFaultyNow 10 [.ref k, l1, l2] (.ref k :: S) σ) ∧
  (∀ (d : Nat) (σ : Sg) (S : List Value) (l0 l1 l2 : Value), exec d mX7_isFaultyNow 10 [l0, l1, l2] (.ref 50 :: S) σ = exec d mX7_isFaultyNow 13 [l0, l1, l2] (.ref 51 :: S) σ) ∧
  (∀ (d : Nat) (σ : Sg) (S : List Value) (l0 l1 l2 : Value), exec d mX7_isFaultyNow 13 [l0, l1, l2] S σ = exec d mX7_isFaultyNow 15 [l0, l1, l2] (.int (nI 16) :: S) σ) ∧
  (∀ (d : Nat) (σ : Sg) (S : List Value) (l0 l2 : Value) (x : Int32), exec d mX7_isFaultyNow 15 [l0, .int x, l2] S σ = exec d mX7_isFaultyNow 16 [l0, .int x, l2] (.int x :: S) σ) ∧
  (∀ (d : Nat) (σ : Sg) (S : List Value) (l0 l1 l2 : Value) (x y : Int32), exec d mX7_isFaultyNow 16 [l0, l1, l2] (.int y :: .int x :: S) σ = exec d mX7_isFaultyNow 17 [l0, l1, l2] (.int (x + y) :: S) σ) ∧
  (∀ (d : Nat) (σ : Sg) (S : List Value) (l0 l1 l2 : Value) (x : Int32), exec d mX7_isFaultyNow 17 [l0, l1, l2] (.int x :: .ref 51 :: S) σ = if inb x 208 = true then exec d mX7_isFaultyNow 18 [l0, l1, l2] (.int (σ 51 x.toNatClampNeg) :: S) σ else none) ∧
  (∀ (d : Nat) (σ : Sg) (S : List Value) (l0 l1 : Value) (x : Int32), exec d mX7_isFaultyNow 18 [l0, l1, .int x] S σ = exec d mX7_isFaultyNow 19 [l0, l1, .int x] (.int x :: S) σ) ∧
  (∀ (d : Nat) (σ : Sg) (l0 l1 l2 : Value) (x0 x1 x2 : Int32), exec d mX7_isFaultyNow 19 [l0, l1, l2] [.int x0, .int x1, .int x2] σ = kb (cal d mX7_isFaulty [.int x2, .int x1, .int x0] σ) (fun rs σ2 => exec d mX7_isFaultyNow 22 [l0, l1, l2] (rs ++ []) σ2)) ∧
  (∀ (d : Nat) (σ : Sg) (l0 l1 l2 : Value) (x : Int32), exec d mX7_isFaultyNow 22 [l0, l1, l2] [.int x] σ = if b01 x = true then some (some (.int x), σ) else none) :=
  ⟨fun d σ S l1 l2 k => ex_aload_n (show decode mX7_isFaultyNow.2.1 0 = .ok (.aload_n 0, 1) by decide +kernel) rfl,
  fun d σ S l0 l1 l2 => ex_getr (idx := 7) (ci := 7) (ff := 0) (n := 26) (hh := 833) (by decide +kernel),
  fun d σ S l0 l1 l2 => ex_bipush (show decode mX7_isFaultyNow.2.1 4 = .ok (.bipush 9, 2) by decide +kernel) (by decide +kernel),
  fun d σ S l0 l2 x => ex_iload_n (show decode mX7_isFaultyNow.2.1 6 = .ok (.iload_n 1, 1) by decide +kernel) rfl,
  fun d σ S l0 l1 l2 x y => ex_iadd (show decode mX7_isFaultyNow.2.1 7 = .ok (.iadd, 1) by decide +kernel),
  fun d σ S l0 l1 l2 x => ex_iald (by decide +kernel),
  fun d σ S l1 l2 k => ex_aload_n (show decode mX7_isFaultyNow.2.1 9 = .ok (.aload_n 0, 1) by decide +kernel) rfl,
  fun d σ S l0 l1 l2 => ex_getr (idx := 7) (ci := 7) (ff := 0) (n := 26) (hh := 833) (by decide +kernel),
  fun d σ S l0 l1 l2 => ex_bipush (show decode mX7_isFaultyNow.2.1 13 = .ok (.bipush 16, 2) by decide +kernel) (by decide +kernel),
  fun d σ S l0 l2 x => ex_iload_n (show decode mX7_isFaultyNow.2.1 15 = .ok (.iload_n 1, 1) by decide +kernel) rfl,
  fun d σ S l0 l1 l2 x y => ex_iadd (show decode mX7_isFaultyNow.2.1 16 = .ok (.iadd, 1) by decide +kernel),
  fun d σ S l0 l1 l2 x => ex_iald (by decide +kernel),
  fun d σ S l0 l1 x => ex_iload_n (show decode mX7_isFaultyNow.2.1 18 = .ok (.iload_n 2, 1) by decide +kernel) rfl,
  fun d σ l0 l1 l2 x0 x1 x2 => ex_is (hs := [1052, 1053, 1054, 101]) (show decode mX7_isFaultyNow.2.1 19 = .ok (.invokestatic 148, 3) by decide +kernel) lkS_7_148 ⟨rfl, Nat.le_of_ble_eq_true rfl, Nat.le_of_ble_eq_true rfl, fun q => nomatch q⟩ rfl rfl,
  fun d σ l0 l1 l2 x => ex_zret (show decode mX7_isFaultyNow.2.1 22 = .ok (.ireturn, 1) by decide +kernel) rfl⟩
theorem aX7_isFaultyNow_50 : ∀ (d : Nat) (a1 : Int32) (a2 : Int32) (σ : Sg), cal (d + 1) mX7_isFaultyNow [.ref 50, .int a1, .int a2] σ = exec d mX7_isFaultyNow 0 [.ref 50, .int a1, .int a2] [] σ := fun _ _ _ _ => rfl
theorem kX7_isAheadMade : (∀ (d : Nat) (σ : Sg) (S : List Value) (l1 l2 : Value) (k : Nat), exec d mX7_isAheadMade 0 [.ref k, l1, l2] S σ = exec d mX7_isAheadMade 1 [.ref k, l1, l2] (.ref k :: S) σ) ∧
  (∀ (d : Nat) (σ : Sg) (S : List Value) (l0 l1 l2 : Value), exec d mX7_isAheadMade 1 [l0, l1, l2] (.ref 50 :: S) σ = exec d mX7_isAheadMade 4 [l0, l1, l2] (.ref 51 :: S) σ) ∧
  (∀ (d : Nat) (σ : Sg) (S : List Value) (l0 l1 l2 : Value), exec d mX7_isAheadMade 4 [l0, l1, l2] S σ = exec d mX7_isAheadMade 6 [l0, l1, l2] (.int (nI 30) :: S) σ) ∧
  (∀ (d : Nat) (σ : Sg) (S : List Value) (l0 l2 : Value) (x : Int32), exec d mX7_isAheadMade 6 [l0, .int x, l2] S σ = exec d mX7_isAheadMade 7 [l0, .int x, l2] (.int x :: S) σ) ∧
  (∀ (d : Nat) (σ : Sg) (S : List Value) (l0 l1 l2 : Value) (x y : Int32), exec d mX7_isAheadMade 7 [l0, l1, l2] (.int y :: .int x :: S) σ = exec d mX7_isAheadMade 8 [l0, l1, l2] (.int (x + y) :: S) σ) ∧
  (∀ (d : Nat) (σ : Sg) (S : List Value) (l0 l1 l2 : Value) (x : Int32), exec d mX7_isAheadMade 8 [l0, l1, l2] (.int x :: .ref 51 :: S) σ = if inb x 208 = true then exec d mX7_isAheadMade 9 [l0, l1, l2] (.int (σ 51 x.toNatClampNeg) :: S) σ else none) ∧
  (∀ (d : Nat) (σ : Sg) (S : List Value) (l0 l1 l2 : Value), exec d mX7_isAheadMade 9 [l0, l1, l2] S σ = exec d mX7_isAheadMade 11 [l0, l1, l2] (.int (nI 7) :: S) σ) ∧
  (∀ (d : Nat) (σ : Sg) (S : List Value) (l0 l1 l2 : Value) (x y : Int32), exec d mX7_isAheadMade 11 [l0, l1, l2] (.int y :: .int x :: S) σ = if x = y then exec d mX7_isAheadMade 30 [l0, l1, l2] S σ else exec d mX7_isAheadMade 14 [l0, l1, l2] S σ) ∧
  (∀ (d : Nat) (σ : Sg) (S : List Value) (l0 l1 : Value) (x : Int32), exec d mX7_isAheadMade 14 [l0, l1, .int x] S σ = exec d mX7_isAheadMade 15 [l0, l1, .int x] (.int x :: S) σ) ∧
  (∀ (d : Nat) (σ : Sg) (S : List Value) (l1 l2 : Value) (k : Nat), exec d mX7_isAheadMade 15 [.ref k, l1, l2] S σ = exec d mX7_isAheadMade 16 [.ref k, l1, l2] (.ref k :: S) σ) ∧
  (∀ (d : Nat) (σ : Sg) (S : List Value) (l0 l1 l2 : Value), exec d mX7_isAheadMade 16 [l0, l1, l2] (.ref 50 :: S) σ = exec d mX7_isAheadMade 19 [l0, l1, l2] (.ref 51 :: S) σ) ∧
  (∀ (d : Nat) (σ : Sg) (S : List Value) (l0 l1 l2 : Value), exec d mX7_isAheadMade 19 [l0, l1, l2] S σ = exec d mX7_isAheadMade 21 [l0, l1, l2] (.int (nI 30) :: S) σ) ∧
  (∀ (d : Nat) (σ : Sg) (S : List Value) (l0 l2 : Value) (x : Int32), exec d mX7_isAheadMade 21 [l0, .int x, l2] S σ = exec d mX7_isAheadMade 22 [l0, .int x, l2] (.int x :: S) σ) ∧
  (∀ (d : Nat) (σ : Sg) (S : List Value) (l0 l1 l2 : Value) (x y : Int32), exec d mX7_isAheadMade 22 [l0, l1, l2] (.int y :: .int x :: S) σ = exec d mX7_isAheadMade 23 [l0, l1, l2] (.int (x + y) :: S) σ) ∧
  (∀ (d : Nat) (σ : Sg) (S : List Value) (l0 l1 l2 : Value) (x : Int32), exec d mX7_isAheadMade 23 [l0, l1, l2] (.int x :: .ref 51 :: S) σ = if inb x 208 = true then exec d mX7_isAheadMade 24 [l0, l1, l2] (.int (σ 51 x.toNatClampNeg) :: S) σ else none) ∧
  (∀ (d : Nat) (σ : Sg) (l0 l1 l2 : Value) (x0 x1 : Int32), exec d mX7_isAheadMade 24 [l0, l1, l2] [.int x0, .int x1] σ = kb (cal d mX7_has [.int x1, .int x0] σ) (fun rs σ2 => exec d mX7_isAheadMade 27 [l0, l1, l2] (rs ++ []) σ2)) ∧
  (∀ (d : Nat) (σ : Sg) (S : List Value) (l0 l1 l2 : Value) (x : Int32), exec d mX7_isAheadMade 27 [l0, l1, l2] (.int x :: S) σ = if x = nI 0 then exec d mX7_isAheadMade 34 [l0, l1, l2] S σ else exec d mX7_isAheadMade 30 [l0, l1, l2] S σ) ∧
  (∀ (d : Nat) (σ : Sg) (S : List Value) (l0 l1 l2 : Value), exec d mX7_isAheadMade 30 [l0, l1, l2] S σ = exec d mX7_isAheadMade 31 [l0, l1, l2] (.int (nI 1) :: S) σ) ∧
  (∀ (d : Nat) (σ : Sg) (S : List Value) (l0 l1 l2 : Value), exec d mX7_isAheadMade 31 [l0, l1, l2] S σ = exec d mX7_isAheadMade 35 [l0, l1, l2] S σ) ∧
  (∀ (d : Nat) (σ : Sg) (S : List Value) (l0 l1 l2 : Value), exec d mX7_isAheadMade 34 [l0, l1, l2] S σ = exec d mX7_isAheadMade 35 [l0, l1, l2] (.int (nI 0) :: S) σ) ∧
  (∀ (d : Nat) (σ : Sg) (l0 l1 l2 : Value) (x : Int32), exec d mX7_isAheadMade 35 [l0, l1, l2] [.int x] σ = if b01 x = true then some (some (.int x), σ) else none) :=
  ⟨fun d σ S l1 l2 k => ex_aload_n (show decode mX7_isAheadMade.2.1 0 = .ok (.aload_n 0, 1) by decide +kernel) rfl,
  fun d σ S l0 l1 l2 => ex_getr (idx := 7) (ci := 7) (ff := 0) (n := 26) (hh := 833) (by decide +kernel),
  fun d σ S l0 l1 l2 => ex_bipush (show decode mX7_isAheadMade.2.1 4 = .ok (.bipush 30, 2) by decide +kernel) (by decide +kernel),
  fun d σ S l0 l2 x => ex_iload_n (show decode mX7_isAheadMade.2.1 6 = .ok (.iload_n 1, 1) by decide +kernel) rfl,
  fun d σ S l0 l1 l2 x y => ex_iadd (show decode mX7_isAheadMade.2.1 7 = .ok (.iadd, 1) by decide +kernel),
  fun d σ S l0 l1 l2 x => ex_iald (by decide +kernel),
  fun d σ S l0 l1 l2 => ex_bipush (show decode mX7_isAheadMade.2.1 9 = .ok (.bipush 7, 2) by decide +kernel) (by decide +kernel),
  fun d σ S l0 l1 l2 x y => ex_ceq (show decode mX7_isAheadMade.2.1 11 = .ok (.if_icmp .eq 19, 3) by decide +kernel) (by decide),
  fun d σ S l0 l1 x => ex_iload_n (show decode mX7_isAheadMade.2.1 14 = .ok (.iload_n 2, 1) by decide +kernel) rfl,
  fun d σ S l1 l2 k => ex_aload_n (show decode mX7_isAheadMade.2.1 15 = .ok (.aload_n 0, 1) by decide +kernel) rfl,
  fun d σ S l0 l1 l2 => ex_getr (idx := 7) (ci := 7) (ff := 0) (n := 26) (hh := 833) (by decide +kernel),
  fun d σ S l0 l1 l2 => ex_bipush (show decode mX7_isAheadMade.2.1 19 = .ok (.bipush 30, 2) by decide +kernel) (by decide +kernel),
  fun d σ S l0 l2 x => ex_iload_n (show decode mX7_isAheadMade.2.1 21 = .ok (.iload_n 1, 1) by decide +kernel) rfl,
  fun d σ S l0 l1 l2 x y => ex_iadd (show decode mX7_isAheadMade.2.1 22 = .ok (.iadd, 1) by decide +kernel),
  fun d σ S l0 l1 l2 x => ex_iald (by decide +kernel),
  fun d σ l0 l1 l2 x0 x1 => ex_is (hs := [1033, 1034, 1035, 101]) (show decode mX7_isAheadMade.2.1 24 = .ok (.invokestatic 151, 3) by decide +kernel) lkS_7_151 ⟨rfl, Nat.le_of_ble_eq_true rfl, Nat.le_of_ble_eq_true rfl, fun q => nomatch q⟩ rfl rfl,
  fun d σ S l0 l1 l2 x => ex_zeq (show decode mX7_isAheadMade.2.1 27 = .ok (.ifCond .eq 7, 3) by decide +kernel) (by decide),
  fun d σ S l0 l1 l2 => ex_iconst (show decode mX7_isAheadMade.2.1 30 = .ok (.iconst 1, 1) by decide +kernel) (by decide +kernel),
  fun d σ S l0 l1 l2 => ex_goto (show decode mX7_isAheadMade.2.1 31 = .ok (.goto 4, 3) by decide +kernel) (by decide),
  fun d σ S l0 l1 l2 => ex_iconst (show decode mX7_isAheadMade.2.1 34 = .ok (.iconst 0, 1) by decide +kernel) (by decide +kernel),
  fun d σ l0 l1 l2 x => ex_zret (show decode mX7_isAheadMade.2.1 35 = .ok (.ireturn, 1) by decide +kernel) rfl⟩
theorem aX7_isAheadMade_50 : ∀ (d : Nat) (a1 : Int32) (a2 : Int32) (σ : Sg), cal (d + 1) mX7_isAheadMade [.ref 50, .int a1, .int a2] σ = exec d mX7_isAheadMade 0 [.ref 50, .int a1, .int a2] [] σ := fun _ _ _ _ => rfl
theorem kX7_mayBe : (∀ (d : Nat) (σ : Sg) (S : List Value) (l1 l2 l3 l4 l5 l6 : Value) (k : Nat), exec d mX7_mayBe 0 [.ref k, l1, l2, l3, l4, l5, l6] S σ = exec d mX7_mayBe 1 [.ref k, l1, l2, l3, l4, l5, l6] (.ref k :: S) σ) ∧
  (∀ (d : Nat) (σ : Sg) (S : List Value) (l0 l2 l3 l4 l5 l6 : Value) (x : Int32), exec d mX7_mayBe 1 [l0, .int x, l2, l3, l4, l5, l6] S σ = exec d mX7_mayBe 2 [l0, .int x, l2, l3, l4, l5, l6] (.int x :: S) σ) ∧
  (∀ (d : Nat) (σ : Sg) (S : List Value) (l0 l1 l2 l4 l5 l6 : Value) (x : Int32), exec d mX7_mayBe 2 [l0, l1, l2, .int x, l4, l5, l6] S σ = exec d mX7_mayBe 3 [l0, l1, l2, .int x, l4, l5, l6] (.int x :: S) σ) ∧
  (∀ (d : Nat) (σ : Sg) (l0 l1 l2 l3 l4 l5 l6 : Value) (x0 x1 : Int32), exec d mX7_mayBe 3 [l0, l1, l2, l3, l4, l5, l6] [.int x0, .int x1, .ref 50] σ = kb (cal d mX7_takesNow [.ref 50, .int x1, .int x0] σ) (fun rs σ2 => exec d mX7_mayBe 6 [l0, l1, l2, l3, l4, l5, l6] (rs ++ []) σ2)) ∧
  (∀ (d : Nat) (σ : Sg) (S : List Value) (l0 l1 l2 l3 l4 l6 : Value) (x y : Int32), exec d mX7_mayBe 6 [l0, l1, l2, l3, l4, .int y, l6] (.int x :: S) σ = exec d mX7_mayBe 8 [l0, l1, l2, l3, l4, .int y, .int x] S σ) ∧
  (∀ (d : Nat) (σ : Sg) (S : List Value) (l0 l1 l3 l4 l5 l6 : Value) (x : Int32), exec d mX7_mayBe 8 [l0, l1, .int x, l3, l4, l5, l6] S σ = exec d mX7_mayBe 9 [l0, l1, .int x, l3, l4, l5, l6] (.int x :: S) σ) ∧
  (∀ (d : Nat) (σ : Sg) (S : List Value) (l0 l2 l3 l4 l5 l6 : Value) (x : Int32), exec d mX7_mayBe 9 [l0, .int x, l2, l3, l4, l5, l6] S σ = exec d mX7_mayBe 10 [l0, .int x, l2, l3, l4, l5, l6] (.int x :: S) σ) ∧
  (∀ (d : Nat) (σ : Sg) (l0 l1 l2 l3 l4 l5 l6 : Value) (x0 x1 : Int32), exec d mX7_mayBe 10 [l0, l1, l2, l3, l4, l5, l6] [.int x0, .int x1] σ = kb (cal d mX7_has [.int x1, .int x0] σ) (fun rs σ2 => exec d mX7_mayBe 13 [l0, l1, l2, l3, l4, l5, l6] (rs ++ []) σ2)) ∧
  (∀ (d : Nat) (σ : Sg) (S : List Value) (l0 l1 l2 l3 l4 l5 l6 : Value) (x : Int32), exec d mX7_mayBe 13 [l0, l1, l2, l3, l4, l5, l6] (.int x :: S) σ = if x = nI 0 then exec d mX7_mayBe 16 [l0, l1, l2, l3, l4, l5, l6] S σ else exec d mX7_mayBe 59 [l0, l1, l2, l3, l4, l5, l6] S σ) ∧
  (∀ (d : Nat) (σ : Sg) (S : List Value) (l1 l2 l3 l4 l5 l6 : Value) (k : Nat), exec d mX7_mayBe 16 [.ref k, l1, l2, l3, l4, l5, l6] S σ = exec d mX7_mayBe 17 [.ref k, l1, l2, l3, l4, l5, l6] (.ref k :: S) σ) ∧
  (∀ (d : Nat) (σ : Sg) (S : List Value) (l0 l2 l3 l4 l5 l6 : Value) (x : Int32), exec d mX7_mayBe 17 [l0, .int x, l2, l3, l4, l5, l6] S σ = exec d mX7_mayBe 18 [l0, .int x, l2, l3, l4, l5, l6] (.int x :: S) σ) ∧
  (∀ (d : Nat) (σ : Sg) (S : List Value) (l0 l1 l3 l4 l5 l6 : Value) (x : Int32), exec d mX7_mayBe 18 [l0, l1, .int x, l3, l4, l5, l6] S σ = exec d mX7_mayBe 19 [l0, l1, .int x, l3, l4, l5, l6] (.int x :: S) σ) ∧
  (∀ (d : Nat) (σ : Sg) (l0 l1 l2 l3 l4 l5 l6 : Value) (x0 x1 : Int32), exec d mX7_mayBe 19 [l0, l1, l2, l3, l4, l5, l6] [.int x0, .int x1, .ref 50] σ = kb (cal d mX7_isAheadMade [.ref 50, .int x1, .int x0] σ) (fun rs σ2 => exec d mX7_mayBe 22 [l0, l1, l2, l3, l4, l5, l6] (rs ++ []) σ2)) ∧
  (∀ (d : Nat) (σ : Sg) (S : List Value) (l0 l1 l2 l3 l4 l5 l6 : Value) (x : Int32), exec d mX7_mayBe 22 [l0, l1, l2, l3, l4, l5, l6] (.int x :: S) σ = if x = nI 0 then exec d mX7_mayBe 59 [l0, l1, l2, l3, l4, l5, l6] S σ else exec d mX7_mayBe 25 [l0, l1, l2, l3, l4, l5, l6] S σ) ∧
  (∀ (d : Nat) (σ : Sg) (S : List Value) (l1 l2 l3 l4 l5 l6 : Value) (k : Nat), exec d mX7_mayBe 25 [.ref k, l1, l2, l3, l4, l5, l6] S σ = exec d mX7_mayBe 26 [.ref k, l1, l2, l3, l4, l5, l6] (.ref k :: S) σ) ∧
  (∀ (d : Nat) (σ : Sg) (S : List Value) (l0 l1 l2 l3 l4 l5 l6 : Value), exec d mX7_mayBe 26 [l0, l1, l2, l3, l4, l5, l6] (.ref 50 :: S) σ = exec d mX7_mayBe 29 [l0, l1, l2, l3, l4, l5, l6] (.ref 51 :: S) σ) ∧
  (∀ (d : Nat) (σ : Sg) (S : List Value) (l0 l1 l2 l3 l4 l5 l6 : Value), exec d mX7_mayBe 29 [l0, l1, l2, l3, l4, l5, l6] S σ = exec d mX7_mayBe 31 [l0, l1, l2, l3, l4, l5, l6] (.int (nI 9) :: S) σ) ∧
  (∀ (d : Nat) (σ : Sg) (S : List Value) (l0 l2 l3 l4 l5 l6 : Value) (x : Int32), exec d mX7_mayBe 31 [l0, .int x, l2, l3, l4, l5, l6] S σ = exec d mX7_mayBe 32 [l0, .int x, l2, l3, l4, l5, l6] (.int x :: S) σ) ∧
  (∀ (d : Nat) (σ : Sg) (S : List Value) (l0 l1 l2 l3 l4 l5 l6 : Value) (x y : Int32), exec d mX7_mayBe 32 [l0, l1, l2, l3, l4, l5, l6] (.int y :: .int x :: S) σ = exec d mX7_mayBe 33 [l0, l1, l2, l3, l4, l5, l6] (.int (x + y) :: S) σ) ∧
  (∀ (d : Nat) (σ : Sg) (S : List Value) (l0 l1 l2 l3 l4 l5 l6 : Value) (x : Int32), exec d mX7_mayBe 33 [l0, l1, l2, l3, l4, l5, l6] (.int x :: .ref 51 :: S) σ = if inb x 208 = true then exec d mX7_mayBe 34 [l0, l1, l2, l3, l4, l5, l6] (.int (σ 51 x.toNatClampNeg) :: S) σ else none) ∧
  (∀ (d : Nat) (σ : Sg) (S : List Value) (l0 l1 l2 l3 l4 l5 l6 : Value), exec d mX7_mayBe 34 [l0, l1, l2, l3, l4, l5, l6] S σ = exec d mX7_mayBe 35 [l0, l1, l2, l3, l4, l5, l6] (.int (nI 5) :: S) σ) ∧
  (∀ (d : Nat) (σ : Sg) (S : List Value) (l0 l1 l2 l3 l4 l5 l6 : Value) (x y : Int32), exec d mX7_mayBe 35 [l0, l1, l2, l3, l4, l5, l6] (.int y :: .int x :: S) σ = if x = y then exec d mX7_mayBe 38 [l0, l1, l2, l3, l4, l5, l6] S σ else exec d mX7_mayBe 48 [l0, l1, l2, l3, l4, l5, l6] S σ) ∧
  (∀ (d : Nat) (σ : Sg) (S : List Value) (l0 l1 l2 l3 l4 l6 : Value) (x : Int32), exec d mX7_mayBe 38 [l0, l1, l2, l3, l4, .int x, l6] S σ = exec d mX7_mayBe 40 [l0, l1, l2, l3, l4, .int x, l6] (.int x :: S) σ) ∧
  (∀ (d : Nat) (σ : Sg) (S : List Value) (l0 l1 l2 l3 l4 l5 : Value) (x : Int32), exec d mX7_mayBe 40 [l0, l1, l2, l3, l4, l5, .int x] S σ = exec d mX7_mayBe 42 [l0, l1, l2, l3, l4, l5, .int x] (.int x :: S) σ) ∧
  (∀ (d : Nat) (σ : Sg) (S : List Value) (l0 l1 l2 l3 l4 l5 l6 : Value) (x y : Int32), exec d mX7_mayBe 42 [l0, l1, l2, l3, l4, l5, l6] (.int y :: .int x :: S) σ = if x < y then exec d mX7_mayBe 59 [l0, l1, l2, l3, l4, l5, l6] S σ else exec d mX7_mayBe 45 [l0, l1, l2, l3, l4, l5, l6] S σ) ∧
  (∀ (d : Nat) (σ : Sg) (S : List Value) (l0 l1 l2 l3 l4 l5 l6 : Value), exec d mX7_mayBe 45 [l0, l1, l2, l3, l4, l5, l6] S σ = exec d mX7_mayBe 55 [l0, l1, l2, l3, l4, l5, l6] S σ) ∧
  (∀ (d : Nat) (σ : Sg) (S : List Value) (l0 l1 l2 l3 l5 l6 : Value) (x : Int32), exec d mX7_mayBe 48 [l0, l1, l2, l3, .int x, l5, l6] S σ = exec d mX7_mayBe 50 [l0, l1, l2, l3, .int x, l5, l6] (.int x :: S) σ) ∧
  (∀ (d : Nat) (σ : Sg) (S : List Value) (l0 l1 l2 l3 l4 l5 : Value) (x : Int32), exec d mX7_mayBe 50 [l0, l1, l2, l3, l4, l5, .int x] S σ = exec d mX7_mayBe 52 [l0, l1, l2, l3, l4, l5, .int x] (.int x :: S) σ) ∧
  (∀ (d : Nat) (σ : Sg) (S : List Value) (l0 l1 l2 l3 l4 l5 l6 : Value) (x y : Int32), exec d mX7_mayBe 52 [l0, l1, l2, l3, l4, l5, l6] (.int y :: .int x :: S) σ = if x < y then exec d mX7_mayBe 59 [l0, l1, l2, l3, l4, l5, l6] S σ else exec d mX7_mayBe 55 [l0, l1, l2, l3, l4, l5, l6] S σ) ∧
  (∀ (d : Nat) (σ : Sg) (S : List Value) (l0 l1 l2 l3 l4 l5 l6 : Value), exec d mX7_mayBe 55 [l0, l1, l2, l3, l4, l5, l6] S σ = exec d mX7_mayBe 56 [l0, l1, l2, l3, l4, l5, l6] (.int (nI 1) :: S) σ) ∧
  (∀ (d : Nat) (σ : Sg) (S : List Value) (l0 l1 l2 l3 l4 l5 l6 : Value), exec d mX7_mayBe 56 [l0, l1, l2, l3, l4, l5, l6] S σ = exec d mX7_mayBe 60 [l0, l1, l2, l3, l4, l5, l6] S σ) ∧
  (∀ (d : Nat) (σ : Sg) (S : List Value) (l0 l1 l2 l3 l4 l5 l6 : Value), exec d mX7_mayBe 59 [l0, l1, l2, l3, l4, l5, l6] S σ = exec d mX7_mayBe 60 [l0, l1, l2, l3, l4, l5, l6] (.int (nI 0) :: S) σ) ∧
  (∀ (d : Nat) (σ : Sg) (l0 l1 l2 l3 l4 l5 l6 : Value) (x : Int32), exec d mX7_mayBe 60 [l0, l1, l2, l3, l4, l5, l6] [.int x] σ = if b01 x = true then some (some (.int x), σ) else none) :=
  ⟨fun d σ S l1 l2 l3 l4 l5 l6 k => ex_aload_n (show decode mX7_mayBe.2.1 0 = .ok (.aload_n 0, 1) by decide +kernel) rfl,
  fun d σ S l0 l2 l3 l4 l5 l6 x => ex_iload_n (show decode mX7_mayBe.2.1 1 = .ok (.iload_n 1, 1) by decide +kernel) rfl,
  fun d σ S l0 l1 l2 l4 l5 l6 x => ex_iload_n (show decode mX7_mayBe.2.1 2 = .ok (.iload_n 3, 1) by decide +kernel) rfl,
  fun d σ l0 l1 l2 l3 l4 l5 l6 x0 x1 => ex_iv (hs := [1026, 1028, 68, 1029, 101]) (show decode mX7_mayBe.2.1 3 = .ok (.invokevirtual 154, 3) by decide +kernel) lkV_7_154 ⟨rfl, Nat.le_of_ble_eq_true rfl, Nat.le_of_ble_eq_true rfl, fun _ => rfl⟩ rfl rfl,
  fun d σ S l0 l1 l2 l3 l4 l6 x y => ex_istore (show decode mX7_mayBe.2.1 6 = .ok (.istore 6, 2) by decide +kernel) (Nat.le_of_ble_eq_true rfl) rfl,
  fun d σ S l0 l1 l3 l4 l5 l6 x => ex_iload_n (show decode mX7_mayBe.2.1 8 = .ok (.iload_n 2, 1) by decide +kernel) rfl,
  fun d σ S l0 l2 l3 l4 l5 l6 x => ex_iload_n (show decode mX7_mayBe.2.1 9 = .ok (.iload_n 1, 1) by decide +kernel) rfl,
  fun d σ l0 l1 l2 l3 l4 l5 l6 x0 x1 => ex_is (hs := [1033, 1034, 1035, 101]) (show decode mX7_mayBe.2.1 10 = .ok (.invokestatic 151, 3) by decide +kernel) lkS_7_151 ⟨rfl, Nat.le_of_ble_eq_true rfl, Nat.le_of_ble_eq_true rfl, fun q => nomatch q⟩ rfl rfl,
  fun d σ S l0 l1 l2 l3 l4 l5 l6 x => ex_zne (show decode mX7_mayBe.2.1 13 = .ok (.ifCond .ne 46, 3) by decide +kernel) (by decide),
  fun d σ S l1 l2 l3 l4 l5 l6 k => ex_aload_n (show decode mX7_mayBe.2.1 16 = .ok (.aload_n 0, 1) by decide +kernel) rfl,
  fun d σ S l0 l2 l3 l4 l5 l6 x => ex_iload_n (show decode mX7_mayBe.2.1 17 = .ok (.iload_n 1, 1) by decide +kernel) rfl,
  fun d σ S l0 l1 l3 l4 l5 l6 x => ex_iload_n (show decode mX7_mayBe.2.1 18 = .ok (.iload_n 2, 1) by decide +kernel) rfl,
  fun d σ l0 l1 l2 l3 l4 l5 l6 x0 x1 => ex_iv (hs := [1036, 1038, 69, 1039, 101]) (show decode mX7_mayBe.2.1 19 = .ok (.invokevirtual 158, 3) by decide +kernel) lkV_7_158 ⟨rfl, Nat.le_of_ble_eq_true rfl, Nat.le_of_ble_eq_true rfl, fun _ => rfl⟩ rfl rfl,
  fun d σ S l0 l1 l2 l3 l4 l5 l6 x => ex_zeq (show decode mX7_mayBe.2.1 22 = .ok (.ifCond .eq 37, 3) by decide +kernel) (by decide),
  fun d σ S l1 l2 l3 l4 l5 l6 k => ex_aload_n (show decode mX7_mayBe.2.1 25 = .ok (.aload_n 0, 1) by decide +kernel) rfl,
  fun d σ S l0 l1 l2 l3 l4 l5 l6 => ex_getr (idx := 7) (ci := 7) (ff := 0) (n := 26) (hh := 833) (by decide +kernel),
  fun d σ S l0 l1 l2 l3 l4 l5 l6 => ex_bipush (show decode mX7_mayBe.2.1 29 = .ok (.bipush 9, 2) by decide +kernel) (by decide +kernel),
  fun d σ S l0 l2 l3 l4 l5 l6 x => ex_iload_n (show decode mX7_mayBe.2.1 31 = .ok (.iload_n 1, 1) by decide +kernel) rfl,
  fun d σ S l0 l1 l2 l3 l4 l5 l6 x y => ex_iadd (show decode mX7_mayBe.2.1 32 = .ok (.iadd, 1) by decide +kernel),
  fun d σ S l0 l1 l2 l3 l4 l5 l6 x => ex_iald (by decide +kernel),
  fun d σ S l0 l1 l2 l3 l4 l5 l6 => ex_iconst (show decode mX7_mayBe.2.1 34 = .ok (.iconst 5, 1) by decide +kernel) (by decide +kernel),
  fun d σ S l0 l1 l2 l3 l4 l5 l6 x y => ex_cne (show decode mX7_mayBe.2.1 35 = .ok (.if_icmp .ne 13, 3) by decide +kernel) (by decide),
  fun d σ S l0 l1 l2 l3 l4 l6 x => ex_iload (show decode mX7_mayBe.2.1 38 = .ok (.iload 5, 2) by decide +kernel) rfl,
  fun d σ S l0 l1 l2 l3 l4 l5 x => ex_iload (show decode mX7_mayBe.2.1 40 = .ok (.iload 6, 2) by decide +kernel) rfl,
  fun d σ S l0 l1 l2 l3 l4 l5 l6 x y => ex_clt (show decode mX7_mayBe.2.1 42 = .ok (.if_icmp .lt 17, 3) by decide +kernel) (by decide),
  fun d σ S l0 l1 l2 l3 l4 l5 l6 => ex_goto (show decode mX7_mayBe.2.1 45 = .ok (.goto 10, 3) by decide +kernel) (by decide),
  fun d σ S l0 l1 l2 l3 l5 l6 x => ex_iload (show decode mX7_mayBe.2.1 48 = .ok (.iload 4, 2) by decide +kernel) rfl,
  fun d σ S l0 l1 l2 l3 l4 l5 x => ex_iload (show decode mX7_mayBe.2.1 50 = .ok (.iload 6, 2) by decide +kernel) rfl,
  fun d σ S l0 l1 l2 l3 l4 l5 l6 x y => ex_clt (show decode mX7_mayBe.2.1 52 = .ok (.if_icmp .lt 7, 3) by decide +kernel) (by decide),
  fun d σ S l0 l1 l2 l3 l4 l5 l6 => ex_iconst (show decode mX7_mayBe.2.1 55 = .ok (.iconst 1, 1) by decide +kernel) (by decide +kernel),
  fun d σ S l0 l1 l2 l3 l4 l5 l6 => ex_goto (show decode mX7_mayBe.2.1 56 = .ok (.goto 4, 3) by decide +kernel) (by decide),
  fun d σ S l0 l1 l2 l3 l4 l5 l6 => ex_iconst (show decode mX7_mayBe.2.1 59 = .ok (.iconst 0, 1) by decide +kernel) (by decide +kernel),
  fun d σ l0 l1 l2 l3 l4 l5 l6 x => ex_zret (show decode mX7_mayBe.2.1 60 = .ok (.ireturn, 1) by decide +kernel) rfl⟩
theorem aX7_mayBe_50 : ∀ (d : Nat) (a1 : Int32) (a2 : Int32) (a3 : Int32) (a4 : Int32) (a5 : Int32) (σ : Sg), cal (d + 1) mX7_mayBe [.ref 50, .int a1, .int a2, .int a3, .int a4, .int a5] σ = exec d mX7_mayBe 0 [.ref 50, .int a1, .int a2, .int a3, .int a4, .int a5, uu] [] σ := fun _ _ _ _ _ _ _ => rfl
theorem kX7_mayNow : (∀ (d : Nat) (σ : Sg) (S : List Value) (l1 : Value) (k : Nat), exec d mX7_mayNow 0 [.ref k, l1] S σ = exec d mX7_mayNow 1 [.ref k, l1] (.ref k :: S) σ) ∧
  (∀ (d : Nat) (σ : Sg) (S : List Value) (l0 : Value) (x : Int32), exec d mX7_mayNow 1 [l0, .int x] S σ = exec d mX7_mayNow 2 [l0, .int x] (.int x :: S) σ) ∧
  (∀ (d : Nat) (σ : Sg) (S : List Value) (l1 : Value) (k : Nat), exec d mX7_mayNow 2 [.ref k, l1] S σ = exec d mX7_mayNow 3 [.ref k, l1] (.ref k :: S) σ) ∧
  (∀ (d : Nat) (σ : Sg) (S : List Value) (l0 l1 : Value), exec d mX7_mayNow 3 [l0, l1] (.ref 50 :: S) σ = exec d mX7_mayNow 6 [l0, l1] (.ref 51 :: S) σ) ∧
  (∀ (d : Nat) (σ : Sg) (S : List Value) (l0 l1 : Value), exec d mX7_mayNow 6 [l0, l1] S σ = exec d mX7_mayNow 7 [l0, l1] (.int (nI 3) :: S) σ) ∧
  (∀ (d : Nat) (σ : Sg) (S : List Value) (l0 l1 : Value) (x : Int32), exec d mX7_mayNow 7 [l0, l1] (.int x :: .ref 51 :: S) σ = if inb x 208 = true then exec d mX7_mayNow 8 [l0, l1] (.int (σ 51 x.toNatClampNeg) :: S) σ else none) ∧
  (∀ (d : Nat) (σ : Sg) (S : List Value) (l1 : Value) (k : Nat), exec d mX7_mayNow 8 [.ref k, l1] S σ = exec d mX7_mayNow 9 [.ref k, l1] (.ref k :: S) σ) ∧
  (∀ (d : Nat) (σ : Sg) (S : List Value) (l0 l1 : Value), exec d mX7_mayNow 9 [l0, l1] (.ref 50 :: S) σ = exec d mX7_mayNow 12 [l0, l1] (.ref 51 :: S) σ) ∧
  (∀ (d : Nat) (σ : Sg) (S : List Value) (l0 l1 : Value), exec d mX7_mayNow 12 [l0, l1] S σ = exec d mX7_mayNow 13 [l0, l1] (.int (nI 0) :: S) σ) ∧
  (∀ (d : Nat) (σ : Sg) (S : List Value) (l0 l1 : Value) (x : Int32), exec d mX7_mayNow 13 [l0, l1] (.int x :: .ref 51 :: S) σ = if inb x 208 = true then exec d mX7_mayNow 14 [l0, l1] (.int (σ 51 x.toNatClampNeg) :: S) σ else none) ∧
  (∀ (d : Nat) (σ : Sg) (S : List Value) (l1 : Value) (k : Nat), exec d mX7_mayNow 14 [.ref k, l1] S σ = exec d mX7_mayNow 15 [.ref k, l1] (.ref k :: S) σ) ∧
  (∀ (d : Nat) (σ : Sg) (S : List Value) (l0 l1 : Value), exec d mX7_mayNow 15 [l0, l1] (.ref 50 :: S) σ = exec d mX7_mayNow 18 [l0, l1] (.ref 51 :: S) σ) ∧
  (∀ (d : Nat) (σ : Sg) (S : List Value) (l0 l1 : Value), exec d mX7_mayNow 18 [l0, l1] S σ = exec d mX7_mayNow 19 [l0, l1] (.int (nI 1) :: S) σ) ∧
  (∀ (d : Nat) (σ : Sg) (S : List Value) (l0 l1 : Value) (x : Int32), exec d mX7_mayNow 19 [l0, l1] (.int x :: .ref 51 :: S) σ = if inb x 208 = true then exec d mX7_mayNow 20 [l0, l1] (.int (σ 51 x.toNatClampNeg) :: S) σ else none) ∧
  (∀ (d : Nat) (σ : Sg) (S : List Value) (l1 : Value) (k : Nat), exec d mX7_mayNow 20 [.ref k, l1] S σ = exec d mX7_mayNow 21 [.ref k, l1] (.ref k :: S) σ) ∧
  (∀ (d : Nat) (σ : Sg) (S : List Value) (l0 l1 : Value), exec d mX7_mayNow 21 [l0, l1] (.ref 50 :: S) σ = exec d mX7_mayNow 24 [l0, l1] (.ref 51 :: S) σ) ∧
  (∀ (d : Nat) (σ : Sg) (S : List Value) (l0 l1 : Value), exec d mX7_mayNow 24 [l0, l1] S σ = exec d mX7_mayNow 25 [l0, l1] (.int (nI 2) :: S) σ) ∧
  (∀ (d : Nat) (σ : Sg) (S : List Value) (l0 l1 : Value) (x : Int32), exec d mX7_mayNow 25 [l0, l1] (.int x :: .ref 51 :: S) σ = if inb x 208 = true then exec d mX7_mayNow 26 [l0, l1] (.int (σ 51 x.toNatClampNeg) :: S) σ else none) ∧
  (∀ (d : Nat) (σ : Sg) (l0 l1 : Value) (x0 x1 x2 x3 x4 : Int32), exec d mX7_mayNow 26 [l0, l1] [.int x0, .int x1, .int x2, .int x3, .int x4, .ref 50] σ = kb (cal d mX7_mayBe [.ref 50, .int x4, .int x3, .int x2, .int x1, .int x0] σ) (fun rs σ2 => exec d mX7_mayNow 29 [l0, l1] (rs ++ []) σ2)) ∧
  (∀ (d : Nat) (σ : Sg) (l0 l1 : Value) (x : Int32), exec d mX7_mayNow 29 [l0, l1] [.int x] σ = if b01 x = true then some (some (.int x), σ) else none) :=
  ⟨fun d σ S l1 k => ex_aload_n (show decode mX7_mayNow.2.1 0 = .ok (.aload_n 0, 1) by decide +kernel) rfl,
  fun d σ S l0 x => ex_iload_n (show decode mX7_mayNow.2.1 1 = .ok (.iload_n 1, 1) by decide +kernel) rfl,
  fun d σ S l1 k => ex_aload_n (show decode mX7_mayNow.2.1 2 = .ok (.aload_n 0, 1) by decide +kernel) rfl,
  fun d σ S l0 l1 => ex_getr (idx := 7) (ci := 7) (ff := 0) (n := 26) (hh := 833) (by decide +kernel),
  fun d σ S l0 l1 => ex_iconst (show decode mX7_mayNow.2.1 6 = .ok (.iconst 3, 1) by decide +kernel) (by decide +kernel),
  fun d σ S l0 l1 x => ex_iald (by decide +kernel),
  fun d σ S l1 k => ex_aload_n (show decode mX7_mayNow.2.1 8 = .ok (.aload_n 0, 1) by decide +kernel) rfl,
  fun d σ S l0 l1 => ex_getr (idx := 7) (ci := 7) (ff := 0) (n := 26) (hh := 833) (by decide +kernel),
  fun d σ S l0 l1 => ex_iconst (show decode mX7_mayNow.2.1 12 = .ok (.iconst 0, 1) by decide +kernel) (by decide +kernel),
  fun d σ S l0 l1 x => ex_iald (by decide +kernel),
  fun d σ S l1 k => ex_aload_n (show decode mX7_mayNow.2.1 14 = .ok (.aload_n 0, 1) by decide +kernel) rfl,
  fun d σ S l0 l1 => ex_getr (idx := 7) (ci := 7) (ff := 0) (n := 26) (hh := 833) (by decide +kernel),
  fun d σ S l0 l1 => ex_iconst (show decode mX7_mayNow.2.1 18 = .ok (.iconst 1, 1) by decide +kernel) (by decide +kernel),
  fun d σ S l0 l1 x => ex_iald (by decide +kernel),
  fun d σ S l1 k => ex_aload_n (show decode mX7_mayNow.2.1 20 = .ok (.aload_n 0, 1) by decide +kernel) rfl,
  fun d σ S l0 l1 => ex_getr (idx := 7) (ci := 7) (ff := 0) (n := 26) (hh := 833) (by decide +kernel),
  fun d σ S l0 l1 => ex_iconst (show decode mX7_mayNow.2.1 24 = .ok (.iconst 2, 1) by decide +kernel) (by decide +kernel),
  fun d σ S l0 l1 x => ex_iald (by decide +kernel),
  fun d σ l0 l1 x0 x1 x2 x3 x4 => ex_iv (hs := [1022, 1024, 67, 1025, 101]) (show decode mX7_mayNow.2.1 26 = .ok (.invokevirtual 161, 3) by decide +kernel) lkV_7_161 ⟨rfl, Nat.le_of_ble_eq_true rfl, Nat.le_of_ble_eq_true rfl, fun _ => rfl⟩ rfl rfl,
  fun d σ l0 l1 x => ex_zret (show decode mX7_mayNow.2.1 29 = .ok (.ireturn, 1) by decide +kernel) rfl⟩
theorem aX7_mayNow_50 : ∀ (d : Nat) (a1 : Int32) (σ : Sg), cal (d + 1) mX7_mayNow [.ref 50, .int a1] σ = exec d mX7_mayNow 0 [.ref 50, .int a1] [] σ := fun _ _ _ => rfl
theorem kX7_more : (∀ (d : Nat) (σ : Sg) (S : List Value) (x : Int32), exec d mX7_more 0 [.int x] S σ = exec d mX7_more 1 [.int x] (.int x :: S) σ) ∧
  (∀ (d : Nat) (σ : Sg) (S : List Value) (l0 : Value), exec d mX7_more 1 [l0] S σ = exec d mX7_more 3 [l0] (.int (nI 20) :: S) σ) ∧
  (∀ (d : Nat) (σ : Sg) (S : List Value) (l0 : Value) (x y : Int32), exec d mX7_more 3 [l0] (.int y :: .int x :: S) σ = if y ≤ x then exec d mX7_more 12 [l0] S σ else exec d mX7_more 6 [l0] S σ) ∧
  (∀ (d : Nat) (σ : Sg) (S : List Value) (x : Int32), exec d mX7_more 6 [.int x] S σ = exec d mX7_more 7 [.int x] (.int x :: S) σ) ∧
  (∀ (d : Nat) (σ : Sg) (S : List Value) (l0 : Value), exec d mX7_more 7 [l0] S σ = exec d mX7_more 8 [l0] (.int (nI 1) :: S) σ) ∧
  (∀ (d : Nat) (σ : Sg) (S : List Value) (l0 : Value) (x y : Int32), exec d mX7_more 8 [l0] (.int y :: .int x :: S) σ = exec d mX7_more 9 [l0] (.int (x + y) :: S) σ) ∧
  (∀ (d : Nat) (σ : Sg) (S : List Value) (l0 : Value), exec d mX7_more 9 [l0] S σ = exec d mX7_more 14 [l0] S σ) ∧
  (∀ (d : Nat) (σ : Sg) (S : List Value) (l0 : Value), exec d mX7_more 12 [l0] S σ = exec d mX7_more 14 [l0] (.int (nI 20) :: S) σ) ∧
  (∀ (d : Nat) (σ : Sg) (l0 : Value) (x : Int32), exec d mX7_more 14 [l0] [.int x] σ = some (some (.int x), σ)) :=
  ⟨fun d σ S x => ex_iload_n (show decode mX7_more.2.1 0 = .ok (.iload_n 0, 1) by decide +kernel) rfl,
  fun d σ S l0 => ex_bipush (show decode mX7_more.2.1 1 = .ok (.bipush 20, 2) by decide +kernel) (by decide +kernel),
  fun d σ S l0 x y => ex_cge (show decode mX7_more.2.1 3 = .ok (.if_icmp .ge 9, 3) by decide +kernel) (by decide),
  fun d σ S x => ex_iload_n (show decode mX7_more.2.1 6 = .ok (.iload_n 0, 1) by decide +kernel) rfl,
  fun d σ S l0 => ex_iconst (show decode mX7_more.2.1 7 = .ok (.iconst 1, 1) by decide +kernel) (by decide +kernel),
  fun d σ S l0 x y => ex_iadd (show decode mX7_more.2.1 8 = .ok (.iadd, 1) by decide +kernel),
  fun d σ S l0 => ex_goto (show decode mX7_more.2.1 9 = .ok (.goto 5, 3) by decide +kernel) (by decide),
  fun d σ S l0 => ex_bipush (show decode mX7_more.2.1 12 = .ok (.bipush 20, 2) by decide +kernel) (by decide +kernel),
  fun d σ l0 x => ex_iret (show decode mX7_more.2.1 14 = .ok (.ireturn, 1) by decide +kernel) rfl⟩
theorem aX7_more : ∀ (d : Nat) (a0 : Int32) (σ : Sg), cal (d + 1) mX7_more [.int a0] σ = exec d mX7_more 0 [.int a0] [] σ := fun _ _ _ => rfl
theorem kX7_makes_0 : (∀ (d : Nat) (σ : Sg) (S : List Value) (l1 l2 l3 : Value) (k : Nat), exec d mX7_makes 0 [.ref k, l1, l2, l3] S σ = exec d mX7_makes 1 [.ref k, l1, l2, l3] (.ref k :: S) σ) ∧
  (∀ (d : Nat) (σ : Sg) (S : List Value) (l0 l2 l3 : Value) (x : Int32), exec d mX7_makes 1 [l0, .int x, l2, l3] S σ = exec d mX7_makes 2 [l0, .int x, l2, l3] (.int x :: S) σ) ∧
  (∀ (d : Nat) (σ : Sg) (S : List Value) (l1 l2 l3 : Value) (k : Nat), exec d mX7_makes 2 [.ref k, l1, l2, l3] S σ = exec d mX7_makes 3 [.ref k, l1, l2, l3] (.ref k :: S) σ) ∧
  (∀ (d : Nat) (σ : Sg) (S : List Value) (l0 l1 l2 l3 : Value), exec d mX7_makes 3 [l0, l1, l2, l3] (.ref 50 :: S) σ = exec d mX7_makes 6 [l0, l1, l2, l3] (.ref 51 :: S) σ) ∧
  (∀ (d : Nat) (σ : Sg) (S : List Value) (l0 l1 l2 l3 : Value), exec d mX7_makes 6 [l0, l1, l2, l3] S σ = exec d mX7_makes 7 [l0, l1, l2, l3] (.int (nI 0) :: S) σ) ∧
  (∀ (d : Nat) (σ : Sg) (S : List Value) (l0 l1 l2 l3 : Value) (x : Int32), exec d mX7_makes 7 [l0, l1, l2, l3] (.int x :: .ref 51 :: S) σ = if inb x 208 = true then exec d mX7_makes 8 [l0, l1, l2, l3] (.int (σ 51 x.toNatClampNeg) :: S) σ else none) ∧
  (∀ (d : Nat) (σ : Sg) (l0 l1 l2 l3 : Value) (x0 x1 : Int32), exec d mX7_makes 8 [l0, l1, l2, l3] [.int x0, .int x1, .ref 50] σ = kb (cal d mX7_takesNow [.ref 50, .int x1, .int x0] σ) (fun rs σ2 => exec d mX7_makes 11 [l0, l1, l2, l3] (rs ++ []) σ2)) ∧
  (∀ (d : Nat) (σ : Sg) (S : List Value) (l0 l2 l3 : Value) (x y : Int32), exec d mX7_makes 11 [l0, .int y, l2, l3] (.int x :: S) σ = exec d mX7_makes 12 [l0, .int y, .int x, l3] S σ) ∧
  (∀ (d : Nat) (σ : Sg) (S : List Value) (l1 l2 l3 : Value) (k : Nat), exec d mX7_makes 12 [.ref k, l1, l2, l3] S σ = exec d mX7_makes 13 [.ref k, l1, l2, l3] (.ref k :: S) σ) ∧
  (∀ (d : Nat) (σ : Sg) (S : List Value) (l0 l1 l2 l3 : Value), exec d mX7_makes 13 [l0, l1, l2, l3] (.ref 50 :: S) σ = exec d mX7_makes 16 [l0, l1, l2, l3] (.ref 51 :: S) σ) ∧
  (∀ (d : Nat) (σ : Sg) (S : List Value) (l0 l1 l2 l3 : Value), exec d mX7_makes 16 [l0, l1, l2, l3] S σ = exec d mX7_makes 18 [l0, l1, l2, l3] (.int (nI 9) :: S) σ) ∧
  (∀ (d : Nat) (σ : Sg) (S : List Value) (l0 l2 l3 : Value) (x : Int32), exec d mX7_makes 18 [l0, .int x, l2, l3] S σ = exec d mX7_makes 19 [l0, .int x, l2, l3] (.int x :: S) σ) ∧
  (∀ (d : Nat) (σ : Sg) (S : List Value) (l0 l1 l2 l3 : Value) (x y : Int32), exec d mX7_makes 19 [l0, l1, l2, l3] (.int y :: .int x :: S) σ = exec d mX7_makes 20 [l0, l1, l2, l3] (.int (x + y) :: S) σ) ∧
  (∀ (d : Nat) (σ : Sg) (S : List Value) (l0 l1 l2 l3 : Value) (x : Int32), exec d mX7_makes 20 [l0, l1, l2, l3] (.int x :: .ref 51 :: S) σ = if inb x 208 = true then exec d mX7_makes 21 [l0, l1, l2, l3] (.int (σ 51 x.toNatClampNeg) :: S) σ else none) ∧
  (∀ (d : Nat) (σ : Sg) (S : List Value) (l0 l1 l2 l3 : Value), exec d mX7_makes 21 [l0, l1, l2, l3] S σ = exec d mX7_makes 22 [l0, l1, l2, l3] (.int (nI 5) :: S) σ) ∧
  (∀ (d : Nat) (σ : Sg) (S : List Value) (l0 l1 l2 l3 : Value) (x y : Int32), exec d mX7_makes 22 [l0, l1, l2, l3] (.int y :: .int x :: S) σ = if x = y then exec d mX7_makes 25 [l0, l1, l2, l3] S σ else exec d mX7_makes 29 [l0, l1, l2, l3] S σ) ∧
  (∀ (d : Nat) (σ : Sg) (S : List Value) (l0 l1 l2 l3 : Value), exec d mX7_makes 25 [l0, l1, l2, l3] S σ = exec d mX7_makes 26 [l0, l1, l2, l3] (.int (nI 1) :: S) σ) ∧
  (∀ (d : Nat) (σ : Sg) (S : List Value) (l0 l1 l2 l3 : Value), exec d mX7_makes 26 [l0, l1, l2, l3] S σ = exec d mX7_makes 30 [l0, l1, l2, l3] S σ) ∧
  (∀ (d : Nat) (σ : Sg) (S : List Value) (l0 l1 l2 l3 : Value), exec d mX7_makes 29 [l0, l1, l2, l3] S σ = exec d mX7_makes 30 [l0, l1, l2, l3] (.int (nI 0) :: S) σ) ∧
  (∀ (d : Nat) (σ : Sg) (S : List Value) (l0 l1 l3 : Value) (x y : Int32), exec d mX7_makes 30 [l0, l1, .int y, l3] (.int x :: S) σ = exec d mX7_makes 31 [l0, l1, .int y, .int x] S σ) ∧
  (∀ (d : Nat) (σ : Sg) (S : List Value) (l1 l2 l3 : Value) (k : Nat), exec d mX7_makes 31 [.ref k, l1, l2, l3] S σ = exec d mX7_makes 32 [.ref k, l1, l2, l3] (.ref k :: S) σ) ∧
  (∀ (d : Nat) (σ : Sg) (S : List Value) (l0 l1 l2 l3 : Value), exec d mX7_makes 32 [l0, l1, l2, l3] (.ref 50 :: S) σ = exec d mX7_makes 35 [l0, l1, l2, l3] (.ref 51 :: S) σ) ∧
  (∀ (d : Nat) (σ : Sg) (S : List Value) (l0 l1 l2 l3 : Value), exec d mX7_makes 35 [l0, l1, l2, l3] S σ = exec d mX7_makes 36 [l0, l1, l2, l3] (.int (nI 4) :: S) σ) ∧
  (∀ (d : Nat) (σ : Sg) (S : List Value) (l0 l1 l2 l3 : Value) (k : Nat) (x : Int32), exec d mX7_makes 36 [l0, l1, l2, l3] (.int x :: .ref k :: S) σ = exec d mX7_makes 37 [l0, l1, l2, l3] (.int x :: .ref k :: .int x :: .ref k :: S) σ) ∧
  (∀ (d : Nat) (σ : Sg) (S : List Value) (l0 l1 l2 l3 : Value) (x : Int32), exec d mX7_makes 37 [l0, l1, l2, l3] (.int x :: .ref 51 :: S) σ = if inb x 208 = true then exec d mX7_makes 38 [l0, l1, l2, l3] (.int (σ 51 x.toNatClampNeg) :: S) σ else none) ∧
  (∀ (d : Nat) (σ : Sg) (S : List Value) (l1 l2 l3 : Value) (k : Nat), exec d mX7_makes 38 [.ref k, l1, l2, l3] S σ = exec d mX7_makes 39 [.ref k, l1, l2, l3] (.ref k :: S) σ) ∧
  (∀ (d : Nat) (σ : Sg) (S : List Value) (l0 l2 l3 : Value) (x : Int32), exec d mX7_makes 39 [l0, .int x, l2, l3] S σ = exec d mX7_makes 40 [l0, .int x, l2, l3] (.int x :: S) σ) ∧
  (∀ (d : Nat) (σ : Sg) (S : List Value) (l1 l2 l3 : Value) (k : Nat), exec d mX7_makes 40 [.ref k, l1, l2, l3] S σ = exec d mX7_makes 41 [.ref k, l1, l2, l3] (.ref k :: S) σ) ∧
  (∀ (d : Nat) (σ : Sg) (S : List Value) (l0 l1 l2 l3 : Value), exec d mX7_makes 41 [l0, l1, l2, l3] (.ref 50 :: S) σ = exec d mX7_makes 44 [l0, l1, l2, l3] (.ref 51 :: S) σ) ∧
  (∀ (d : Nat) (σ : Sg) (S : List Value) (l0 l1 l2 l3 : Value), exec d mX7_makes 44 [l0, l1, l2, l3] S σ = exec d mX7_makes 45 [l0, l1, l2, l3] (.int (nI 0) :: S) σ) ∧
  (∀ (d : Nat) (σ : Sg) (S : List Value) (l0 l1 l2 l3 : Value) (x : Int32), exec d mX7_makes 45 [l0, l1, l2, l3] (.int x :: .ref 51 :: S) σ = if inb x 208 = true then exec d mX7_makes 46 [l0, l1, l2, l3] (.int (σ 51 x.toNatClampNeg) :: S) σ else none) ∧
  (∀ (d : Nat) (σ : Sg) (l0 l1 l2 l3 : Value) (x0 x1 x3 x4 : Int32), exec d mX7_makes 46 [l0, l1, l2, l3] [.int x0, .int x1, .ref 50, .int x3, .int x4, .ref 51] σ = kb (cal d mX7_isFaultyNow [.ref 50, .int x1, .int x0] σ) (fun rs σ2 => exec d mX7_makes 49 [l0, l1, l2, l3] (rs ++ [.int x3, .int x4, .ref 51]) σ2)) ∧
  (∀ (d : Nat) (σ : Sg) (S : List Value) (l0 l1 l2 l3 : Value) (x : Int32), exec d mX7_makes 49 [l0, l1, l2, l3] (.int x :: S) σ = if x = nI 0 then exec d mX7_makes 58 [l0, l1, l2, l3] S σ else exec d mX7_makes 52 [l0, l1, l2, l3] S σ) ∧
  (∀ (d : Nat) (σ : Sg) (S : List Value) (l0 l1 l2 l3 : Value), exec d mX7_makes 52 [l0, l1, l2, l3] S σ = exec d mX7_makes 53 [l0, l1, l2, l3] (.int (nI 1) :: S) σ) ∧
  (∀ (d : Nat) (σ : Sg) (S : List Value) (l0 l2 l3 : Value) (x : Int32), exec d mX7_makes 53 [l0, .int x, l2, l3] S σ = exec d mX7_makes 54 [l0, .int x, l2, l3] (.int x :: S) σ) ∧
  (∀ (d : Nat) (σ : Sg) (S : List Value) (l0 l1 l2 l3 : Value) (x y : Int32), exec d mX7_makes 54 [l0, l1, l2, l3] (.int y :: .int x :: S) σ = exec d mX7_makes 55 [l0, l1, l2, l3] (.int (x <<< (y &&& 31)) :: S) σ) ∧
  (∀ (d : Nat) (σ : Sg) (S : List Value) (l0 l1 l2 l3 : Value), exec d mX7_makes 55 [l0, l1, l2, l3] S σ = exec d mX7_makes 59 [l0, l1, l2, l3] S σ) ∧
  (∀ (d : Nat) (σ : Sg) (S : List Value) (l0 l1 l2 l3 : Value), exec d mX7_makes 58 [l0, l1, l2, l3] S σ = exec d mX7_makes 59 [l0, l1, l2, l3] (.int (nI 0) :: S) σ) ∧
  (∀ (d : Nat) (σ : Sg) (S : List Value) (l0 l1 l2 l3 : Value) (x y : Int32), exec d mX7_makes 59 [l0, l1, l2, l3] (.int y :: .int x :: S) σ = exec d mX7_makes 60 [l0, l1, l2, l3] (.int (x ||| y) :: S) σ) ∧
  (∀ (d : Nat) (σ : Sg) (S : List Value) (l0 l1 l2 l3 : Value) (x y : Int32), exec d mX7_makes 60 [l0, l1, l2, l3] (.int y :: .int x :: .ref 51 :: S) σ = if inb x 208 = true then exec d mX7_makes 61 [l0, l1, l2, l3] S (up σ 51 x.toNatClampNeg y) else none) :=
  ⟨fun d σ S l1 l2 l3 k => ex_aload_n (show decode mX7_makes.2.1 0 = .ok (.aload_n 0, 1) by decide +kernel) rfl,
  fun d σ S l0 l2 l3 x => ex_iload_n (show decode mX7_makes.2.1 1 = .ok (.iload_n 1, 1) by decide +kernel) rfl,
  fun d σ S l1 l2 l3 k => ex_aload_n (show decode mX7_makes.2.1 2 = .ok (.aload_n 0, 1) by decide +kernel) rfl,
  fun d σ S l0 l1 l2 l3 => ex_getr (idx := 7) (ci := 7) (ff := 0) (n := 26) (hh := 833) (by decide +kernel),
  fun d σ S l0 l1 l2 l3 => ex_iconst (show decode mX7_makes.2.1 6 = .ok (.iconst 0, 1) by decide +kernel) (by decide +kernel),
  fun d σ S l0 l1 l2 l3 x => ex_iald (by decide +kernel),
  fun d σ l0 l1 l2 l3 x0 x1 => ex_iv (hs := [1026, 1028, 68, 1029, 101]) (show decode mX7_makes.2.1 8 = .ok (.invokevirtual 154, 3) by decide +kernel) lkV_7_154 ⟨rfl, Nat.le_of_ble_eq_true rfl, Nat.le_of_ble_eq_true rfl, fun _ => rfl⟩ rfl rfl,
  fun d σ S l0 l2 l3 x y => ex_istore_n (show decode mX7_makes.2.1 11 = .ok (.istore_n 2, 1) by decide +kernel) (Nat.le_of_ble_eq_true rfl) rfl,
  fun d σ S l1 l2 l3 k => ex_aload_n (show decode mX7_makes.2.1 12 = .ok (.aload_n 0, 1) by decide +kernel) rfl,
  fun d σ S l0 l1 l2 l3 => ex_getr (idx := 7) (ci := 7) (ff := 0) (n := 26) (hh := 833) (by decide +kernel),
  fun d σ S l0 l1 l2 l3 => ex_bipush (show decode mX7_makes.2.1 16 = .ok (.bipush 9, 2) by decide +kernel) (by decide +kernel),
  fun d σ S l0 l2 l3 x => ex_iload_n (show decode mX7_makes.2.1 18 = .ok (.iload_n 1, 1) by decide +kernel) rfl,
  fun d σ S l0 l1 l2 l3 x y => ex_iadd (show decode mX7_makes.2.1 19 = .ok (.iadd, 1) by decide +kernel),
  fun d σ S l0 l1 l2 l3 x => ex_iald (by decide +kernel),
  fun d σ S l0 l1 l2 l3 => ex_iconst (show decode mX7_makes.2.1 21 = .ok (.iconst 5, 1) by decide +kernel) (by decide +kernel),
  fun d σ S l0 l1 l2 l3 x y => ex_cne (show decode mX7_makes.2.1 22 = .ok (.if_icmp .ne 7, 3) by decide +kernel) (by decide),
  fun d σ S l0 l1 l2 l3 => ex_iconst (show decode mX7_makes.2.1 25 = .ok (.iconst 1, 1) by decide +kernel) (by decide +kernel),
  fun d σ S l0 l1 l2 l3 => ex_goto (show decode mX7_makes.2.1 26 = .ok (.goto 4, 3) by decide +kernel) (by decide),
  fun d σ S l0 l1 l2 l3 => ex_iconst (show decode mX7_makes.2.1 29 = .ok (.iconst 0, 1) by decide +kernel) (by decide +kernel),
  fun d σ S l0 l1 l3 x y => ex_istore_n (show decode mX7_makes.2.1 30 = .ok (.istore_n 3, 1) by decide +kernel) (Nat.le_of_ble_eq_true rfl) rfl,
  fun d σ S l1 l2 l3 k => ex_aload_n (show decode mX7_makes.2.1 31 = .ok (.aload_n 0, 1) by decide +kernel) rfl,
  fun d σ S l0 l1 l2 l3 => ex_getr (idx := 7) (ci := 7) (ff := 0) (n := 26) (hh := 833) (by decide +kernel),
  fun d σ S l0 l1 l2 l3 => ex_iconst (show decode mX7_makes.2.1 35 = .ok (.iconst 4, 1) by decide +kernel) (by decide +kernel),
  fun d σ S l0 l1 l2 l3 k x => ex_dup2 (show decode mX7_makes.2.1 36 = .ok (.dup2, 1) by decide +kernel) rfl rfl,
  fun d σ S l0 l1 l2 l3 x => ex_iald (by decide +kernel),
  fun d σ S l1 l2 l3 k => ex_aload_n (show decode mX7_makes.2.1 38 = .ok (.aload_n 0, 1) by decide +kernel) rfl,
  fun d σ S l0 l2 l3 x => ex_iload_n (show decode mX7_makes.2.1 39 = .ok (.iload_n 1, 1) by decide +kernel) rfl,
  fun d σ S l1 l2 l3 k => ex_aload_n (show decode mX7_makes.2.1 40 = .ok (.aload_n 0, 1) by decide +kernel) rfl,
  fun d σ S l0 l1 l2 l3 => ex_getr (idx := 7) (ci := 7) (ff := 0) (n := 26) (hh := 833) (by decide +kernel),
  fun d σ S l0 l1 l2 l3 => ex_iconst (show decode mX7_makes.2.1 44 = .ok (.iconst 0, 1) by decide +kernel) (by decide +kernel),
  fun d σ S l0 l1 l2 l3 x => ex_iald (by decide +kernel),
  fun d σ l0 l1 l2 l3 x0 x1 x3 x4 => ex_iv (hs := [1048, 1050, 72, 1051, 101]) (show decode mX7_makes.2.1 46 = .ok (.invokevirtual 165, 3) by decide +kernel) lkV_7_165 ⟨rfl, Nat.le_of_ble_eq_true rfl, Nat.le_of_ble_eq_true rfl, fun _ => rfl⟩ rfl rfl,
  fun d σ S l0 l1 l2 l3 x => ex_zeq (show decode mX7_makes.2.1 49 = .ok (.ifCond .eq 9, 3) by decide +kernel) (by decide),
  fun d σ S l0 l1 l2 l3 => ex_iconst (show decode mX7_makes.2.1 52 = .ok (.iconst 1, 1) by decide +kernel) (by decide +kernel),
  fun d σ S l0 l2 l3 x => ex_iload_n (show decode mX7_makes.2.1 53 = .ok (.iload_n 1, 1) by decide +kernel) rfl,
  fun d σ S l0 l1 l2 l3 x y => ex_ishl (show decode mX7_makes.2.1 54 = .ok (.ishl, 1) by decide +kernel),
  fun d σ S l0 l1 l2 l3 => ex_goto (show decode mX7_makes.2.1 55 = .ok (.goto 4, 3) by decide +kernel) (by decide),
  fun d σ S l0 l1 l2 l3 => ex_iconst (show decode mX7_makes.2.1 58 = .ok (.iconst 0, 1) by decide +kernel) (by decide +kernel),
  fun d σ S l0 l1 l2 l3 x y => ex_ior (show decode mX7_makes.2.1 59 = .ok (.ior, 1) by decide +kernel),
  fun d σ S l0 l1 l2 l3 x y => ex_iast (by decide +kernel)⟩
theorem kX7_makes_1 : (∀ (d : Nat) (σ : Sg) (S : List Value) (l1 l2 l3 : Value) (k : Nat), exec d mX7_makes 61 [.ref k, l1, l2, l3] S σ = exec d mX7_makes 62 [.ref k, l1, l2, l3] (.ref k :: S) σ) ∧
  (∀ (d : Nat) (σ : Sg) (S : List Value) (l0 l1 l2 l3 : Value), exec d mX7_makes 62 [l0, l1, l2, l3] (.ref 50 :: S) σ = exec d mX7_makes 65 [l0, l1, l2, l3] (.ref 51 :: S) σ) ∧
  (∀ (d : Nat) (σ : Sg) (S : List Value) (l0 l1 l2 l3 : Value), exec d mX7_makes 65 [l0, l1, l2, l3] S σ = exec d mX7_makes 66 [l0, l1, l2, l3] (.int (nI 3) :: S) σ) ∧
  (∀ (d : Nat) (σ : Sg) (S : List Value) (l0 l1 l2 l3 : Value) (k : Nat) (x : Int32), exec d mX7_makes 66 [l0, l1, l2, l3] (.int x :: .ref k :: S) σ = exec d mX7_makes 67 [l0, l1, l2, l3] (.int x :: .ref k :: .int x :: .ref k :: S) σ) ∧
  (∀ (d : Nat) (σ : Sg) (S : List Value) (l0 l1 l2 l3 : Value) (x : Int32), exec d mX7_makes 67 [l0, l1, l2, l3] (.int x :: .ref 51 :: S) σ = if inb x 208 = true then exec d mX7_makes 68 [l0, l1, l2, l3] (.int (σ 51 x.toNatClampNeg) :: S) σ else none) ∧
  (∀ (d : Nat) (σ : Sg) (S : List Value) (l0 l1 l2 l3 : Value), exec d mX7_makes 68 [l0, l1, l2, l3] S σ = exec d mX7_makes 69 [l0, l1, l2, l3] (.int (nI 1) :: S) σ) ∧
  (∀ (d : Nat) (σ : Sg) (S : List Value) (l0 l2 l3 : Value) (x : Int32), exec d mX7_makes 69 [l0, .int x, l2, l3] S σ = exec d mX7_makes 70 [l0, .int x, l2, l3] (.int x :: S) σ) ∧
  (∀ (d : Nat) (σ : Sg) (S : List Value) (l0 l1 l2 l3 : Value) (x y : Int32), exec d mX7_makes 70 [l0, l1, l2, l3] (.int y :: .int x :: S) σ = exec d mX7_makes 71 [l0, l1, l2, l3] (.int (x <<< (y &&& 31)) :: S) σ) ∧
  (∀ (d : Nat) (σ : Sg) (S : List Value) (l0 l1 l2 l3 : Value) (x y : Int32), exec d mX7_makes 71 [l0, l1, l2, l3] (.int y :: .int x :: S) σ = exec d mX7_makes 72 [l0, l1, l2, l3] (.int (x ||| y) :: S) σ) ∧
  (∀ (d : Nat) (σ : Sg) (S : List Value) (l0 l1 l2 l3 : Value) (x y : Int32), exec d mX7_makes 72 [l0, l1, l2, l3] (.int y :: .int x :: .ref 51 :: S) σ = if inb x 208 = true then exec d mX7_makes 73 [l0, l1, l2, l3] S (up σ 51 x.toNatClampNeg y) else none) ∧
  (∀ (d : Nat) (σ : Sg) (S : List Value) (l1 l2 l3 : Value) (k : Nat), exec d mX7_makes 73 [.ref k, l1, l2, l3] S σ = exec d mX7_makes 74 [.ref k, l1, l2, l3] (.ref k :: S) σ) ∧
  (∀ (d : Nat) (σ : Sg) (S : List Value) (l0 l1 l2 l3 : Value), exec d mX7_makes 74 [l0, l1, l2, l3] (.ref 50 :: S) σ = exec d mX7_makes 77 [l0, l1, l2, l3] (.ref 51 :: S) σ) ∧
  (∀ (d : Nat) (σ : Sg) (S : List Value) (l0 l1 l2 l3 : Value), exec d mX7_makes 77 [l0, l1, l2, l3] S σ = exec d mX7_makes 78 [l0, l1, l2, l3] (.int (nI 1) :: S) σ) ∧
  (∀ (d : Nat) (σ : Sg) (S : List Value) (l0 l1 l2 l3 : Value) (k : Nat) (x : Int32), exec d mX7_makes 78 [l0, l1, l2, l3] (.int x :: .ref k :: S) σ = exec d mX7_makes 79 [l0, l1, l2, l3] (.int x :: .ref k :: .int x :: .ref k :: S) σ) ∧
  (∀ (d : Nat) (σ : Sg) (S : List Value) (l0 l1 l2 l3 : Value) (x : Int32), exec d mX7_makes 79 [l0, l1, l2, l3] (.int x :: .ref 51 :: S) σ = if inb x 208 = true then exec d mX7_makes 80 [l0, l1, l2, l3] (.int (σ 51 x.toNatClampNeg) :: S) σ else none) ∧
  (∀ (d : Nat) (σ : Sg) (S : List Value) (l0 l1 l2 : Value) (x : Int32), exec d mX7_makes 80 [l0, l1, l2, .int x] S σ = exec d mX7_makes 81 [l0, l1, l2, .int x] (.int x :: S) σ) ∧
  (∀ (d : Nat) (σ : Sg) (S : List Value) (l0 l1 l2 l3 : Value) (x : Int32), exec d mX7_makes 81 [l0, l1, l2, l3] (.int x :: S) σ = if x = nI 0 then exec d mX7_makes 88 [l0, l1, l2, l3] S σ else exec d mX7_makes 84 [l0, l1, l2, l3] S σ) ∧
  (∀ (d : Nat) (σ : Sg) (S : List Value) (l0 l1 l2 l3 : Value), exec d mX7_makes 84 [l0, l1, l2, l3] S σ = exec d mX7_makes 85 [l0, l1, l2, l3] (.int (nI 0) :: S) σ) ∧
  (∀ (d : Nat) (σ : Sg) (S : List Value) (l0 l1 l2 l3 : Value), exec d mX7_makes 85 [l0, l1, l2, l3] S σ = exec d mX7_makes 89 [l0, l1, l2, l3] S σ) ∧
  (∀ (d : Nat) (σ : Sg) (S : List Value) (l0 l1 l3 : Value) (x : Int32), exec d mX7_makes 88 [l0, l1, .int x, l3] S σ = exec d mX7_makes 89 [l0, l1, .int x, l3] (.int x :: S) σ) ∧
  (∀ (d : Nat) (σ : Sg) (S : List Value) (l0 l1 l2 l3 : Value) (x y : Int32), exec d mX7_makes 89 [l0, l1, l2, l3] (.int y :: .int x :: S) σ = exec d mX7_makes 90 [l0, l1, l2, l3] (.int (x - y) :: S) σ) ∧
  (∀ (d : Nat) (σ : Sg) (S : List Value) (l0 l1 l2 l3 : Value) (x y : Int32), exec d mX7_makes 90 [l0, l1, l2, l3] (.int y :: .int x :: .ref 51 :: S) σ = if inb x 208 = true then exec d mX7_makes 91 [l0, l1, l2, l3] S (up σ 51 x.toNatClampNeg y) else none) ∧
  (∀ (d : Nat) (σ : Sg) (S : List Value) (l1 l2 l3 : Value) (k : Nat), exec d mX7_makes 91 [.ref k, l1, l2, l3] S σ = exec d mX7_makes 92 [.ref k, l1, l2, l3] (.ref k :: S) σ) ∧
  (∀ (d : Nat) (σ : Sg) (S : List Value) (l0 l1 l2 l3 : Value), exec d mX7_makes 92 [l0, l1, l2, l3] (.ref 50 :: S) σ = exec d mX7_makes 95 [l0, l1, l2, l3] (.ref 51 :: S) σ) ∧
  (∀ (d : Nat) (σ : Sg) (S : List Value) (l0 l1 l2 l3 : Value), exec d mX7_makes 95 [l0, l1, l2, l3] S σ = exec d mX7_makes 96 [l0, l1, l2, l3] (.int (nI 2) :: S) σ) ∧
  (∀ (d : Nat) (σ : Sg) (S : List Value) (l0 l1 l2 l3 : Value) (k : Nat) (x : Int32), exec d mX7_makes 96 [l0, l1, l2, l3] (.int x :: .ref k :: S) σ = exec d mX7_makes 97 [l0, l1, l2, l3] (.int x :: .ref k :: .int x :: .ref k :: S) σ) ∧
  (∀ (d : Nat) (σ : Sg) (S : List Value) (l0 l1 l2 l3 : Value) (x : Int32), exec d mX7_makes 97 [l0, l1, l2, l3] (.int x :: .ref 51 :: S) σ = if inb x 208 = true then exec d mX7_makes 98 [l0, l1, l2, l3] (.int (σ 51 x.toNatClampNeg) :: S) σ else none) ∧
  (∀ (d : Nat) (σ : Sg) (S : List Value) (l0 l1 l2 : Value) (x : Int32), exec d mX7_makes 98 [l0, l1, l2, .int x] S σ = exec d mX7_makes 99 [l0, l1, l2, .int x] (.int x :: S) σ) ∧
  (∀ (d : Nat) (σ : Sg) (S : List Value) (l0 l1 l2 l3 : Value) (x : Int32), exec d mX7_makes 99 [l0, l1, l2, l3] (.int x :: S) σ = if x = nI 0 then exec d mX7_makes 106 [l0, l1, l2, l3] S σ else exec d mX7_makes 102 [l0, l1, l2, l3] S σ) ∧
  (∀ (d : Nat) (σ : Sg) (S : List Value) (l0 l1 l3 : Value) (x : Int32), exec d mX7_makes 102 [l0, l1, .int x, l3] S σ = exec d mX7_makes 103 [l0, l1, .int x, l3] (.int x :: S) σ) ∧
  (∀ (d : Nat) (σ : Sg) (S : List Value) (l0 l1 l2 l3 : Value), exec d mX7_makes 103 [l0, l1, l2, l3] S σ = exec d mX7_makes 107 [l0, l1, l2, l3] S σ) ∧
  (∀ (d : Nat) (σ : Sg) (S : List Value) (l0 l1 l2 l3 : Value), exec d mX7_makes 106 [l0, l1, l2, l3] S σ = exec d mX7_makes 107 [l0, l1, l2, l3] (.int (nI 0) :: S) σ) ∧
  (∀ (d : Nat) (σ : Sg) (S : List Value) (l0 l1 l2 l3 : Value) (x y : Int32), exec d mX7_makes 107 [l0, l1, l2, l3] (.int y :: .int x :: S) σ = exec d mX7_makes 108 [l0, l1, l2, l3] (.int (x - y) :: S) σ) ∧
  (∀ (d : Nat) (σ : Sg) (S : List Value) (l0 l1 l2 l3 : Value) (x y : Int32), exec d mX7_makes 108 [l0, l1, l2, l3] (.int y :: .int x :: .ref 51 :: S) σ = if inb x 208 = true then exec d mX7_makes 109 [l0, l1, l2, l3] S (up σ 51 x.toNatClampNeg y) else none) ∧
  (∀ (d : Nat) (σ : Sg) (S : List Value) (l1 l2 l3 : Value) (k : Nat), exec d mX7_makes 109 [.ref k, l1, l2, l3] S σ = exec d mX7_makes 110 [.ref k, l1, l2, l3] (.ref k :: S) σ) ∧
  (∀ (d : Nat) (σ : Sg) (S : List Value) (l0 l1 l2 l3 : Value), exec d mX7_makes 110 [l0, l1, l2, l3] (.ref 50 :: S) σ = exec d mX7_makes 113 [l0, l1, l2, l3] (.ref 51 :: S) σ) ∧
  (∀ (d : Nat) (σ : Sg) (S : List Value) (l0 l1 l2 l3 : Value), exec d mX7_makes 113 [l0, l1, l2, l3] S σ = exec d mX7_makes 114 [l0, l1, l2, l3] (.int (nI 0) :: S) σ) ∧
  (∀ (d : Nat) (σ : Sg) (S : List Value) (l0 l1 l2 : Value) (x : Int32), exec d mX7_makes 114 [l0, l1, l2, .int x] S σ = exec d mX7_makes 115 [l0, l1, l2, .int x] (.int x :: S) σ) ∧
  (∀ (d : Nat) (σ : Sg) (S : List Value) (l0 l1 l2 l3 : Value) (x : Int32), exec d mX7_makes 115 [l0, l1, l2, l3] (.int x :: S) σ = if x = nI 0 then exec d mX7_makes 127 [l0, l1, l2, l3] S σ else exec d mX7_makes 118 [l0, l1, l2, l3] S σ) ∧
  (∀ (d : Nat) (σ : Sg) (S : List Value) (l1 l2 l3 : Value) (k : Nat), exec d mX7_makes 118 [.ref k, l1, l2, l3] S σ = exec d mX7_makes 119 [.ref k, l1, l2, l3] (.ref k :: S) σ) :=
  ⟨fun d σ S l1 l2 l3 k => ex_aload_n (show decode mX7_makes.2.1 61 = .ok (.aload_n 0, 1) by decide +kernel) rfl,
  fun d σ S l0 l1 l2 l3 => ex_getr (idx := 7) (ci := 7) (ff := 0) (n := 26) (hh := 833) (by decide +kernel),
  fun d σ S l0 l1 l2 l3 => ex_iconst (show decode mX7_makes.2.1 65 = .ok (.iconst 3, 1) by decide +kernel) (by decide +kernel),
  fun d σ S l0 l1 l2 l3 k x => ex_dup2 (show decode mX7_makes.2.1 66 = .ok (.dup2, 1) by decide +kernel) rfl rfl,
  fun d σ S l0 l1 l2 l3 x => ex_iald (by decide +kernel),
  fun d σ S l0 l1 l2 l3 => ex_iconst (show decode mX7_makes.2.1 68 = .ok (.iconst 1, 1) by decide +kernel) (by decide +kernel),
  fun d σ S l0 l2 l3 x => ex_iload_n (show decode mX7_makes.2.1 69 = .ok (.iload_n 1, 1) by decide +kernel) rfl,
  fun d σ S l0 l1 l2 l3 x y => ex_ishl (show decode mX7_makes.2.1 70 = .ok (.ishl, 1) by decide +kernel),
  fun d σ S l0 l1 l2 l3 x y => ex_ior (show decode mX7_makes.2.1 71 = .ok (.ior, 1) by decide +kernel),
  fun d σ S l0 l1 l2 l3 x y => ex_iast (by decide +kernel),
  fun d σ S l1 l2 l3 k => ex_aload_n (show decode mX7_makes.2.1 73 = .ok (.aload_n 0, 1) by decide +kernel) rfl,
  fun d σ S l0 l1 l2 l3 => ex_getr (idx := 7) (ci := 7) (ff := 0) (n := 26) (hh := 833) (by decide +kernel),
  fun d σ S l0 l1 l2 l3 => ex_iconst (show decode mX7_makes.2.1 77 = .ok (.iconst 1, 1) by decide +kernel) (by decide +kernel),
  fun d σ S l0 l1 l2 l3 k x => ex_dup2 (show decode mX7_makes.2.1 78 = .ok (.dup2, 1) by decide +kernel) rfl rfl,
  fun d σ S l0 l1 l2 l3 x => ex_iald (by decide +kernel),
  fun d σ S l0 l1 l2 x => ex_iload_n (show decode mX7_makes.2.1 80 = .ok (.iload_n 3, 1) by decide +kernel) rfl,
  fun d σ S l0 l1 l2 l3 x => ex_zeq (show decode mX7_makes.2.1 81 = .ok (.ifCond .eq 7, 3) by decide +kernel) (by decide),
  fun d σ S l0 l1 l2 l3 => ex_iconst (show decode mX7_makes.2.1 84 = .ok (.iconst 0, 1) by decide +kernel) (by decide +kernel),
  fun d σ S l0 l1 l2 l3 => ex_goto (show decode mX7_makes.2.1 85 = .ok (.goto 4, 3) by decide +kernel) (by decide),
  fun d σ S l0 l1 l3 x => ex_iload_n (show decode mX7_makes.2.1 88 = .ok (.iload_n 2, 1) by decide +kernel) rfl,
  fun d σ S l0 l1 l2 l3 x y => ex_isub (show decode mX7_makes.2.1 89 = .ok (.isub, 1) by decide +kernel),
  fun d σ S l0 l1 l2 l3 x y => ex_iast (by decide +kernel),
  fun d σ S l1 l2 l3 k => ex_aload_n (show decode mX7_makes.2.1 91 = .ok (.aload_n 0, 1) by decide +kernel) rfl,
  fun d σ S l0 l1 l2 l3 => ex_getr (idx := 7) (ci := 7) (ff := 0) (n := 26) (hh := 833) (by decide +kernel),
  fun d σ S l0 l1 l2 l3 => ex_iconst (show decode mX7_makes.2.1 95 = .ok (.iconst 2, 1) by decide +kernel) (by decide +kernel),
  fun d σ S l0 l1 l2 l3 k x => ex_dup2 (show decode mX7_makes.2.1 96 = .ok (.dup2, 1) by decide +kernel) rfl rfl,
  fun d σ S l0 l1 l2 l3 x => ex_iald (by decide +kernel),
  fun d σ S l0 l1 l2 x => ex_iload_n (show decode mX7_makes.2.1 98 = .ok (.iload_n 3, 1) by decide +kernel) rfl,
  fun d σ S l0 l1 l2 l3 x => ex_zeq (show decode mX7_makes.2.1 99 = .ok (.ifCond .eq 7, 3) by decide +kernel) (by decide),
  fun d σ S l0 l1 l3 x => ex_iload_n (show decode mX7_makes.2.1 102 = .ok (.iload_n 2, 1) by decide +kernel) rfl,
  fun d σ S l0 l1 l2 l3 => ex_goto (show decode mX7_makes.2.1 103 = .ok (.goto 4, 3) by decide +kernel) (by decide),
  fun d σ S l0 l1 l2 l3 => ex_iconst (show decode mX7_makes.2.1 106 = .ok (.iconst 0, 1) by decide +kernel) (by decide +kernel),
  fun d σ S l0 l1 l2 l3 x y => ex_isub (show decode mX7_makes.2.1 107 = .ok (.isub, 1) by decide +kernel),
  fun d σ S l0 l1 l2 l3 x y => ex_iast (by decide +kernel),
  fun d σ S l1 l2 l3 k => ex_aload_n (show decode mX7_makes.2.1 109 = .ok (.aload_n 0, 1) by decide +kernel) rfl,
  fun d σ S l0 l1 l2 l3 => ex_getr (idx := 7) (ci := 7) (ff := 0) (n := 26) (hh := 833) (by decide +kernel),
  fun d σ S l0 l1 l2 l3 => ex_iconst (show decode mX7_makes.2.1 113 = .ok (.iconst 0, 1) by decide +kernel) (by decide +kernel),
  fun d σ S l0 l1 l2 x => ex_iload_n (show decode mX7_makes.2.1 114 = .ok (.iload_n 3, 1) by decide +kernel) rfl,
  fun d σ S l0 l1 l2 l3 x => ex_zeq (show decode mX7_makes.2.1 115 = .ok (.ifCond .eq 12, 3) by decide +kernel) (by decide),
  fun d σ S l1 l2 l3 k => ex_aload_n (show decode mX7_makes.2.1 118 = .ok (.aload_n 0, 1) by decide +kernel) rfl⟩
theorem kX7_makes_2 : (∀ (d : Nat) (σ : Sg) (S : List Value) (l0 l1 l2 l3 : Value), exec d mX7_makes 119 [l0, l1, l2, l3] (.ref 50 :: S) σ = exec d mX7_makes 122 [l0, l1, l2, l3] (.ref 51 :: S) σ) ∧
  (∀ (d : Nat) (σ : Sg) (S : List Value) (l0 l1 l2 l3 : Value), exec d mX7_makes 122 [l0, l1, l2, l3] S σ = exec d mX7_makes 123 [l0, l1, l2, l3] (.int (nI 0) :: S) σ) ∧
  (∀ (d : Nat) (σ : Sg) (S : List Value) (l0 l1 l2 l3 : Value) (x : Int32), exec d mX7_makes 123 [l0, l1, l2, l3] (.int x :: .ref 51 :: S) σ = if inb x 208 = true then exec d mX7_makes 124 [l0, l1, l2, l3] (.int (σ 51 x.toNatClampNeg) :: S) σ else none) ∧
  (∀ (d : Nat) (σ : Sg) (S : List Value) (l0 l1 l2 l3 : Value), exec d mX7_makes 124 [l0, l1, l2, l3] S σ = exec d mX7_makes 136 [l0, l1, l2, l3] S σ) ∧
  (∀ (d : Nat) (σ : Sg) (S : List Value) (l1 l2 l3 : Value) (k : Nat), exec d mX7_makes 127 [.ref k, l1, l2, l3] S σ = exec d mX7_makes 128 [.ref k, l1, l2, l3] (.ref k :: S) σ) ∧
  (∀ (d : Nat) (σ : Sg) (S : List Value) (l0 l1 l2 l3 : Value), exec d mX7_makes 128 [l0, l1, l2, l3] (.ref 50 :: S) σ = exec d mX7_makes 131 [l0, l1, l2, l3] (.ref 51 :: S) σ) ∧
  (∀ (d : Nat) (σ : Sg) (S : List Value) (l0 l1 l2 l3 : Value), exec d mX7_makes 131 [l0, l1, l2, l3] S σ = exec d mX7_makes 132 [l0, l1, l2, l3] (.int (nI 0) :: S) σ) ∧
  (∀ (d : Nat) (σ : Sg) (S : List Value) (l0 l1 l2 l3 : Value) (x : Int32), exec d mX7_makes 132 [l0, l1, l2, l3] (.int x :: .ref 51 :: S) σ = if inb x 208 = true then exec d mX7_makes 133 [l0, l1, l2, l3] (.int (σ 51 x.toNatClampNeg) :: S) σ else none) ∧
  (∀ (d : Nat) (σ : Sg) (l0 l1 l2 l3 : Value) (x0 x1 : Int32), exec d mX7_makes 133 [l0, l1, l2, l3] [.int x0, .int x1, .ref 51] σ = kb (cal d mX7_more [.int x0] σ) (fun rs σ2 => exec d mX7_makes 136 [l0, l1, l2, l3] (rs ++ [.int x1, .ref 51]) σ2)) ∧
  (∀ (d : Nat) (σ : Sg) (S : List Value) (l0 l1 l2 l3 : Value) (x y : Int32), exec d mX7_makes 136 [l0, l1, l2, l3] (.int y :: .int x :: .ref 51 :: S) σ = if inb x 208 = true then exec d mX7_makes 137 [l0, l1, l2, l3] S (up σ 51 x.toNatClampNeg y) else none) ∧
  (∀ (d : Nat) (σ : Sg) (l0 l1 l2 l3 : Value), exec d mX7_makes 137 [l0, l1, l2, l3] [] σ = some (none, σ)) :=
  ⟨fun d σ S l0 l1 l2 l3 => ex_getr (idx := 7) (ci := 7) (ff := 0) (n := 26) (hh := 833) (by decide +kernel),
  fun d σ S l0 l1 l2 l3 => ex_iconst (show decode mX7_makes.2.1 122 = .ok (.iconst 0, 1) by decide +kernel) (by decide +kernel),
  fun d σ S l0 l1 l2 l3 x => ex_iald (by decide +kernel),
  fun d σ S l0 l1 l2 l3 => ex_goto (show decode mX7_makes.2.1 124 = .ok (.goto 12, 3) by decide +kernel) (by decide),
  fun d σ S l1 l2 l3 k => ex_aload_n (show decode mX7_makes.2.1 127 = .ok (.aload_n 0, 1) by decide +kernel) rfl,
  fun d σ S l0 l1 l2 l3 => ex_getr (idx := 7) (ci := 7) (ff := 0) (n := 26) (hh := 833) (by decide +kernel),
  fun d σ S l0 l1 l2 l3 => ex_iconst (show decode mX7_makes.2.1 131 = .ok (.iconst 0, 1) by decide +kernel) (by decide +kernel),
  fun d σ S l0 l1 l2 l3 x => ex_iald (by decide +kernel),
  fun d σ l0 l1 l2 l3 x0 x1 => ex_is (hs := [1055, 1056, 1057, 101]) (show decode mX7_makes.2.1 133 = .ok (.invokestatic 168, 3) by decide +kernel) lkS_7_168 ⟨rfl, Nat.le_of_ble_eq_true rfl, Nat.le_of_ble_eq_true rfl, fun q => nomatch q⟩ rfl rfl,
  fun d σ S l0 l1 l2 l3 x y => ex_iast (by decide +kernel),
  fun d σ l0 l1 l2 l3 => ex_vret (show decode mX7_makes.2.1 137 = .ok (.return_, 1) by decide +kernel) rfl⟩
theorem aX7_makes_50 : ∀ (d : Nat) (a1 : Int32) (σ : Sg), cal (d + 1) mX7_makes [.ref 50, .int a1] σ = exec d mX7_makes 0 [.ref 50, .int a1, uu, uu] [] σ := fun _ _ _ => rfl
theorem kX7_minds_0 : (∀ (d : Nat) (σ : Sg) (S : List Value) (l1 : Value) (k : Nat), exec d mX7_minds 0 [.ref k, l1] S σ = exec d mX7_minds 1 [.ref k, l1] (.ref k :: S) σ) ∧
  (∀ (d : Nat) (σ : Sg) (S : List Value) (l0 l1 : Value), exec d mX7_minds 1 [l0, l1] (.ref 50 :: S) σ = exec d mX7_minds 4 [l0, l1] (.int (σ 50 3) :: S) σ) ∧
  (∀ (d : Nat) (σ : Sg) (S : List Value) (l0 l1 : Value), exec d mX7_minds 4 [l0, l1] S σ = exec d mX7_minds 6 [l0, l1] (.int (nI 24) :: S) σ) ∧
  (∀ (d : Nat) (σ : Sg) (S : List Value) (l0 l1 : Value) (x y : Int32), exec d mX7_minds 6 [l0, l1] (.int y :: .int x :: S) σ = if x = y then exec d mX7_minds 9 [l0, l1] S σ else exec d mX7_minds 49 [l0, l1] S σ) ∧
  (∀ (d : Nat) (σ : Sg) (S : List Value) (l0 l1 : Value), exec d mX7_minds 9 [l0, l1] S σ = exec d mX7_minds 10 [l0, l1] (.int (nI 0) :: S) σ) ∧
  (∀ (d : Nat) (σ : Sg) (S : List Value) (l1 : Value) (k : Nat) (x : Int32), exec d mX7_minds 10 [.ref k, l1] (.int x :: S) σ = exec d mX7_minds 11 [.ref k, .int x] S σ) ∧
  (∀ (d : Nat) (σ : Sg) (S : List Value) (l0 l1 : Value), exec d mX7_minds 12 [l0, l1] S σ = exec d mX7_minds 15 [l0, l1] (.int (nI 138) :: S) σ) ∧
  (∀ (d : Nat) (σ : Sg) (S : List Value) (l0 l1 : Value) (x y : Int32), exec d mX7_minds 15 [l0, l1] (.int y :: .int x :: S) σ = if y ≤ x then exec d mX7_minds 39 [l0, l1] S σ else exec d mX7_minds 18 [l0, l1] S σ) ∧
  (∀ (d : Nat) (σ : Sg) (S : List Value) (l1 : Value) (k : Nat), exec d mX7_minds 18 [.ref k, l1] S σ = exec d mX7_minds 19 [.ref k, l1] (.ref k :: S) σ) ∧
  (∀ (d : Nat) (σ : Sg) (S : List Value) (l0 l1 : Value), exec d mX7_minds 19 [l0, l1] (.ref 50 :: S) σ = exec d mX7_minds 22 [l0, l1] (.ref 53 :: S) σ) ∧
  (∀ (d : Nat) (σ : Sg) (S : List Value) (l0 : Value) (x : Int32), exec d mX7_minds 22 [l0, .int x] S σ = exec d mX7_minds 23 [l0, .int x] (.int x :: S) σ) ∧
  (∀ (d : Nat) (σ : Sg) (S : List Value) (l1 : Value) (k : Nat), exec d mX7_minds 23 [.ref k, l1] S σ = exec d mX7_minds 24 [.ref k, l1] (.ref k :: S) σ) ∧
  (∀ (d : Nat) (σ : Sg) (S : List Value) (l0 l1 : Value), exec d mX7_minds 24 [l0, l1] (.ref 50 :: S) σ = exec d mX7_minds 27 [l0, l1] (.ref 53 :: S) σ) ∧
  (∀ (d : Nat) (σ : Sg) (S : List Value) (l0 : Value) (x : Int32), exec d mX7_minds 27 [l0, .int x] S σ = exec d mX7_minds 28 [l0, .int x] (.int x :: S) σ) ∧
  (∀ (d : Nat) (σ : Sg) (S : List Value) (l0 l1 : Value), exec d mX7_minds 28 [l0, l1] S σ = exec d mX7_minds 30 [l0, l1] (.int (nI 6) :: S) σ) ∧
  (∀ (d : Nat) (σ : Sg) (S : List Value) (l0 l1 : Value) (x y : Int32), exec d mX7_minds 30 [l0, l1] (.int y :: .int x :: S) σ = exec d mX7_minds 31 [l0, l1] (.int (x + y) :: S) σ) ∧
  (∀ (d : Nat) (σ : Sg) (S : List Value) (l0 l1 : Value) (x : Int32), exec d mX7_minds 31 [l0, l1] (.int x :: .ref 53 :: S) σ = if inb x 144 = true then exec d mX7_minds 32 [l0, l1] (.int (σ 53 x.toNatClampNeg) :: S) σ else none) ∧
  (∀ (d : Nat) (σ : Sg) (S : List Value) (l0 l1 : Value) (x y : Int32), exec d mX7_minds 32 [l0, l1] (.int y :: .int x :: .ref 53 :: S) σ = if inb x 144 = true then exec d mX7_minds 33 [l0, l1] S (up σ 53 x.toNatClampNeg y) else none) ∧
  (∀ (d : Nat) (σ : Sg) (S : List Value) (k : Nat) (x : Int32), exec d mX7_minds 33 [.ref k, .int x] S σ = exec d mX7_minds 36 [.ref k, .int (x + nI 1)] S σ) ∧
  (∀ (d : Nat) (σ : Sg) (S : List Value) (l0 l1 : Value), exec d mX7_minds 36 [l0, l1] S σ = exec d mX7_minds 11 [l0, l1] S σ) ∧
  (∀ (d : Nat) (σ : Sg) (S : List Value) (l1 : Value) (k : Nat), exec d mX7_minds 39 [.ref k, l1] S σ = exec d mX7_minds 40 [.ref k, l1] (.ref k :: S) σ) ∧
  (∀ (d : Nat) (σ : Sg) (S : List Value) (l0 l1 : Value) (k : Nat), exec d mX7_minds 40 [l0, l1] (.ref k :: S) σ = exec d mX7_minds 41 [l0, l1] (.ref k :: .ref k :: S) σ) ∧
  (∀ (d : Nat) (σ : Sg) (S : List Value) (l0 l1 : Value), exec d mX7_minds 41 [l0, l1] (.ref 50 :: S) σ = exec d mX7_minds 44 [l0, l1] (.int (σ 50 3) :: S) σ) ∧
  (∀ (d : Nat) (σ : Sg) (S : List Value) (l0 l1 : Value), exec d mX7_minds 44 [l0, l1] S σ = exec d mX7_minds 45 [l0, l1] (.int (nI 1) :: S) σ) ∧
  (∀ (d : Nat) (σ : Sg) (S : List Value) (l0 l1 : Value) (x y : Int32), exec d mX7_minds 45 [l0, l1] (.int y :: .int x :: S) σ = exec d mX7_minds 46 [l0, l1] (.int (x - y) :: S) σ) ∧
  (∀ (d : Nat) (σ : Sg) (S : List Value) (l0 l1 : Value) (x : Int32), exec d mX7_minds 46 [l0, l1] (.int x :: .ref 50 :: S) σ = exec d mX7_minds 49 [l0, l1] S (up σ 50 3 x)) ∧
  (∀ (d : Nat) (σ : Sg) (S : List Value) (l0 l1 : Value), exec d mX7_minds 49 [l0, l1] S σ = exec d mX7_minds 50 [l0, l1] (.int (nI 0) :: S) σ) ∧
  (∀ (d : Nat) (σ : Sg) (S : List Value) (l1 : Value) (k : Nat) (x : Int32), exec d mX7_minds 50 [.ref k, l1] (.int x :: S) σ = exec d mX7_minds 51 [.ref k, .int x] S σ) ∧
  (∀ (d : Nat) (σ : Sg) (S : List Value) (l0 l1 : Value), exec d mX7_minds 52 [l0, l1] S σ = exec d mX7_minds 54 [l0, l1] (.int (nI 6) :: S) σ) ∧
  (∀ (d : Nat) (σ : Sg) (S : List Value) (l0 l1 : Value) (x y : Int32), exec d mX7_minds 54 [l0, l1] (.int y :: .int x :: S) σ = if y ≤ x then exec d mX7_minds 83 [l0, l1] S σ else exec d mX7_minds 57 [l0, l1] S σ) ∧
  (∀ (d : Nat) (σ : Sg) (S : List Value) (l1 : Value) (k : Nat), exec d mX7_minds 57 [.ref k, l1] S σ = exec d mX7_minds 58 [.ref k, l1] (.ref k :: S) σ) ∧
  (∀ (d : Nat) (σ : Sg) (S : List Value) (l0 l1 : Value), exec d mX7_minds 58 [l0, l1] (.ref 50 :: S) σ = exec d mX7_minds 61 [l0, l1] (.ref 53 :: S) σ) ∧
  (∀ (d : Nat) (σ : Sg) (S : List Value) (l0 l1 : Value), exec d mX7_minds 61 [l0, l1] S σ = exec d mX7_minds 63 [l0, l1] (.int (nI 6) :: S) σ) ∧
  (∀ (d : Nat) (σ : Sg) (S : List Value) (l1 : Value) (k : Nat), exec d mX7_minds 63 [.ref k, l1] S σ = exec d mX7_minds 64 [.ref k, l1] (.ref k :: S) σ) ∧
  (∀ (d : Nat) (σ : Sg) (S : List Value) (l0 l1 : Value), exec d mX7_minds 64 [l0, l1] (.ref 50 :: S) σ = exec d mX7_minds 67 [l0, l1] (.int (σ 50 3) :: S) σ) ∧
  (∀ (d : Nat) (σ : Sg) (S : List Value) (l0 l1 : Value) (x y : Int32), exec d mX7_minds 67 [l0, l1] (.int y :: .int x :: S) σ = exec d mX7_minds 68 [l0, l1] (.int (x * y) :: S) σ) ∧
  (∀ (d : Nat) (σ : Sg) (S : List Value) (l0 : Value) (x : Int32), exec d mX7_minds 68 [l0, .int x] S σ = exec d mX7_minds 69 [l0, .int x] (.int x :: S) σ) ∧
  (∀ (d : Nat) (σ : Sg) (S : List Value) (l0 l1 : Value) (x y : Int32), exec d mX7_minds 69 [l0, l1] (.int y :: .int x :: S) σ = exec d mX7_minds 70 [l0, l1] (.int (x + y) :: S) σ) ∧
  (∀ (d : Nat) (σ : Sg) (S : List Value) (l1 : Value) (k : Nat), exec d mX7_minds 70 [.ref k, l1] S σ = exec d mX7_minds 71 [.ref k, l1] (.ref k :: S) σ) ∧
  (∀ (d : Nat) (σ : Sg) (S : List Value) (l0 l1 : Value), exec d mX7_minds 71 [l0, l1] (.ref 50 :: S) σ = exec d mX7_minds 74 [l0, l1] (.ref 51 :: S) σ) :=
  ⟨fun d σ S l1 k => ex_aload_n (show decode mX7_minds.2.1 0 = .ok (.aload_n 0, 1) by decide +kernel) rfl,
  fun d σ S l0 l1 => ex_get (idx := 141) (ci := 7) (ff := 3) (n := 26) (hh := 836) (by decide +kernel),
  fun d σ S l0 l1 => ex_bipush (show decode mX7_minds.2.1 4 = .ok (.bipush 24, 2) by decide +kernel) (by decide +kernel),
  fun d σ S l0 l1 x y => ex_cne (show decode mX7_minds.2.1 6 = .ok (.if_icmp .ne 43, 3) by decide +kernel) (by decide),
  fun d σ S l0 l1 => ex_iconst (show decode mX7_minds.2.1 9 = .ok (.iconst 0, 1) by decide +kernel) (by decide +kernel),
  fun d σ S l1 k x => ex_istore_n (show decode mX7_minds.2.1 10 = .ok (.istore_n 1, 1) by decide +kernel) (Nat.le_of_ble_eq_true rfl) rfl,
  fun d σ S l0 l1 => ex_sipush (show decode mX7_minds.2.1 12 = .ok (.sipush 138, 3) by decide +kernel) (by decide +kernel),
  fun d σ S l0 l1 x y => ex_cge (show decode mX7_minds.2.1 15 = .ok (.if_icmp .ge 24, 3) by decide +kernel) (by decide),
  fun d σ S l1 k => ex_aload_n (show decode mX7_minds.2.1 18 = .ok (.aload_n 0, 1) by decide +kernel) rfl,
  fun d σ S l0 l1 => ex_getr (idx := 17) (ci := 7) (ff := 2) (n := 26) (hh := 835) (by decide +kernel),
  fun d σ S l0 x => ex_iload_n (show decode mX7_minds.2.1 22 = .ok (.iload_n 1, 1) by decide +kernel) rfl,
  fun d σ S l1 k => ex_aload_n (show decode mX7_minds.2.1 23 = .ok (.aload_n 0, 1) by decide +kernel) rfl,
  fun d σ S l0 l1 => ex_getr (idx := 17) (ci := 7) (ff := 2) (n := 26) (hh := 835) (by decide +kernel),
  fun d σ S l0 x => ex_iload_n (show decode mX7_minds.2.1 27 = .ok (.iload_n 1, 1) by decide +kernel) rfl,
  fun d σ S l0 l1 => ex_bipush (show decode mX7_minds.2.1 28 = .ok (.bipush 6, 2) by decide +kernel) (by decide +kernel),
  fun d σ S l0 l1 x y => ex_iadd (show decode mX7_minds.2.1 30 = .ok (.iadd, 1) by decide +kernel),
  fun d σ S l0 l1 x => ex_iald (by decide +kernel),
  fun d σ S l0 l1 x y => ex_iast (by decide +kernel),
  fun d σ S k x => ex_iinc (show decode mX7_minds.2.1 33 = .ok (.iinc 1 1, 3) by decide +kernel) rfl (by decide +kernel) (Nat.le_of_ble_eq_true rfl) rfl,
  fun d σ S l0 l1 => ex_goto (show decode mX7_minds.2.1 36 = .ok (.goto (-25), 3) by decide +kernel) (by decide),
  fun d σ S l1 k => ex_aload_n (show decode mX7_minds.2.1 39 = .ok (.aload_n 0, 1) by decide +kernel) rfl,
  fun d σ S l0 l1 k => ex_dup (show decode mX7_minds.2.1 40 = .ok (.dup, 1) by decide +kernel) rfl,
  fun d σ S l0 l1 => ex_get (idx := 141) (ci := 7) (ff := 3) (n := 26) (hh := 836) (by decide +kernel),
  fun d σ S l0 l1 => ex_iconst (show decode mX7_minds.2.1 44 = .ok (.iconst 1, 1) by decide +kernel) (by decide +kernel),
  fun d σ S l0 l1 x y => ex_isub (show decode mX7_minds.2.1 45 = .ok (.isub, 1) by decide +kernel),
  fun d σ S l0 l1 x => ex_put (idx := 141) (ci := 7) (ff := 3) (n := 26) (hh := 836) (by decide +kernel),
  fun d σ S l0 l1 => ex_iconst (show decode mX7_minds.2.1 49 = .ok (.iconst 0, 1) by decide +kernel) (by decide +kernel),
  fun d σ S l1 k x => ex_istore_n (show decode mX7_minds.2.1 50 = .ok (.istore_n 1, 1) by decide +kernel) (Nat.le_of_ble_eq_true rfl) rfl,
  fun d σ S l0 l1 => ex_bipush (show decode mX7_minds.2.1 52 = .ok (.bipush 6, 2) by decide +kernel) (by decide +kernel),
  fun d σ S l0 l1 x y => ex_cge (show decode mX7_minds.2.1 54 = .ok (.if_icmp .ge 29, 3) by decide +kernel) (by decide),
  fun d σ S l1 k => ex_aload_n (show decode mX7_minds.2.1 57 = .ok (.aload_n 0, 1) by decide +kernel) rfl,
  fun d σ S l0 l1 => ex_getr (idx := 17) (ci := 7) (ff := 2) (n := 26) (hh := 835) (by decide +kernel),
  fun d σ S l0 l1 => ex_bipush (show decode mX7_minds.2.1 61 = .ok (.bipush 6, 2) by decide +kernel) (by decide +kernel),
  fun d σ S l1 k => ex_aload_n (show decode mX7_minds.2.1 63 = .ok (.aload_n 0, 1) by decide +kernel) rfl,
  fun d σ S l0 l1 => ex_get (idx := 141) (ci := 7) (ff := 3) (n := 26) (hh := 836) (by decide +kernel),
  fun d σ S l0 l1 x y => ex_imul (show decode mX7_minds.2.1 67 = .ok (.imul, 1) by decide +kernel),
  fun d σ S l0 x => ex_iload_n (show decode mX7_minds.2.1 68 = .ok (.iload_n 1, 1) by decide +kernel) rfl,
  fun d σ S l0 l1 x y => ex_iadd (show decode mX7_minds.2.1 69 = .ok (.iadd, 1) by decide +kernel),
  fun d σ S l1 k => ex_aload_n (show decode mX7_minds.2.1 70 = .ok (.aload_n 0, 1) by decide +kernel) rfl,
  fun d σ S l0 l1 => ex_getr (idx := 7) (ci := 7) (ff := 0) (n := 26) (hh := 833) (by decide +kernel)⟩
theorem kX7_minds_1 : (∀ (d : Nat) (σ : Sg) (S : List Value) (l0 : Value) (x : Int32), exec d mX7_minds 74 [l0, .int x] S σ = exec d mX7_minds 75 [l0, .int x] (.int x :: S) σ) ∧
  (∀ (d : Nat) (σ : Sg) (S : List Value) (l0 l1 : Value) (x : Int32), exec d mX7_minds 75 [l0, l1] (.int x :: .ref 51 :: S) σ = if inb x 208 = true then exec d mX7_minds 76 [l0, l1] (.int (σ 51 x.toNatClampNeg) :: S) σ else none) ∧
  (∀ (d : Nat) (σ : Sg) (S : List Value) (l0 l1 : Value) (x y : Int32), exec d mX7_minds 76 [l0, l1] (.int y :: .int x :: .ref 53 :: S) σ = if inb x 144 = true then exec d mX7_minds 77 [l0, l1] S (up σ 53 x.toNatClampNeg y) else none) ∧
  (∀ (d : Nat) (σ : Sg) (S : List Value) (k : Nat) (x : Int32), exec d mX7_minds 77 [.ref k, .int x] S σ = exec d mX7_minds 80 [.ref k, .int (x + nI 1)] S σ) ∧
  (∀ (d : Nat) (σ : Sg) (S : List Value) (l0 l1 : Value), exec d mX7_minds 80 [l0, l1] S σ = exec d mX7_minds 51 [l0, l1] S σ) ∧
  (∀ (d : Nat) (σ : Sg) (S : List Value) (l1 : Value) (k : Nat), exec d mX7_minds 83 [.ref k, l1] S σ = exec d mX7_minds 84 [.ref k, l1] (.ref k :: S) σ) ∧
  (∀ (d : Nat) (σ : Sg) (S : List Value) (l0 l1 : Value) (k : Nat), exec d mX7_minds 84 [l0, l1] (.ref k :: S) σ = exec d mX7_minds 85 [l0, l1] (.ref k :: .ref k :: S) σ) ∧
  (∀ (d : Nat) (σ : Sg) (S : List Value) (l0 l1 : Value), exec d mX7_minds 85 [l0, l1] (.ref 50 :: S) σ = exec d mX7_minds 88 [l0, l1] (.int (σ 50 3) :: S) σ) ∧
  (∀ (d : Nat) (σ : Sg) (S : List Value) (l0 l1 : Value), exec d mX7_minds 88 [l0, l1] S σ = exec d mX7_minds 89 [l0, l1] (.int (nI 1) :: S) σ) ∧
  (∀ (d : Nat) (σ : Sg) (S : List Value) (l0 l1 : Value) (x y : Int32), exec d mX7_minds 89 [l0, l1] (.int y :: .int x :: S) σ = exec d mX7_minds 90 [l0, l1] (.int (x + y) :: S) σ) ∧
  (∀ (d : Nat) (σ : Sg) (S : List Value) (l0 l1 : Value) (x : Int32), exec d mX7_minds 90 [l0, l1] (.int x :: .ref 50 :: S) σ = exec d mX7_minds 93 [l0, l1] S (up σ 50 3 x)) ∧
  (∀ (d : Nat) (σ : Sg) (l0 l1 : Value), exec d mX7_minds 93 [l0, l1] [] σ = some (none, σ)) :=
  ⟨fun d σ S l0 x => ex_iload_n (show decode mX7_minds.2.1 74 = .ok (.iload_n 1, 1) by decide +kernel) rfl,
  fun d σ S l0 l1 x => ex_iald (by decide +kernel),
  fun d σ S l0 l1 x y => ex_iast (by decide +kernel),
  fun d σ S k x => ex_iinc (show decode mX7_minds.2.1 77 = .ok (.iinc 1 1, 3) by decide +kernel) rfl (by decide +kernel) (Nat.le_of_ble_eq_true rfl) rfl,
  fun d σ S l0 l1 => ex_goto (show decode mX7_minds.2.1 80 = .ok (.goto (-29), 3) by decide +kernel) (by decide),
  fun d σ S l1 k => ex_aload_n (show decode mX7_minds.2.1 83 = .ok (.aload_n 0, 1) by decide +kernel) rfl,
  fun d σ S l0 l1 k => ex_dup (show decode mX7_minds.2.1 84 = .ok (.dup, 1) by decide +kernel) rfl,
  fun d σ S l0 l1 => ex_get (idx := 141) (ci := 7) (ff := 3) (n := 26) (hh := 836) (by decide +kernel),
  fun d σ S l0 l1 => ex_iconst (show decode mX7_minds.2.1 88 = .ok (.iconst 1, 1) by decide +kernel) (by decide +kernel),
  fun d σ S l0 l1 x y => ex_iadd (show decode mX7_minds.2.1 89 = .ok (.iadd, 1) by decide +kernel),
  fun d σ S l0 l1 x => ex_put (idx := 141) (ci := 7) (ff := 3) (n := 26) (hh := 836) (by decide +kernel),
  fun d σ l0 l1 => ex_vret (show decode mX7_minds.2.1 93 = .ok (.return_, 1) by decide +kernel) rfl⟩
theorem hX7_minds_11 : ∀ (d : Nat) (σ : Sg) (S : List Value) (l0 : Value) (x : Int32), exec d mX7_minds 11 [l0, .int x] S σ = exec d mX7_minds 12 [l0, .int x] (.int x :: S) σ := fun d σ S l0 x => ex_iload_n (show decode mX7_minds.2.1 11 = .ok (.iload_n 1, 1) by decide +kernel) rfl
theorem hX7_minds_51 : ∀ (d : Nat) (σ : Sg) (S : List Value) (l0 : Value) (x : Int32), exec d mX7_minds 51 [l0, .int x] S σ = exec d mX7_minds 52 [l0, .int x] (.int x :: S) σ := fun d σ S l0 x => ex_iload_n (show decode mX7_minds.2.1 51 = .ok (.iload_n 1, 1) by decide +kernel) rfl
theorem aX7_minds_50 : ∀ (d : Nat)  (σ : Sg), cal (d + 1) mX7_minds [.ref 50] σ = exec d mX7_minds 0 [.ref 50, uu] [] σ := fun _ _ => rfl
theorem kX7_undo : (∀ (d : Nat) (σ : Sg) (S : List Value) (l1 : Value) (k : Nat), exec d mX7_undo 0 [.ref k, l1] S σ = exec d mX7_undo 1 [.ref k, l1] (.ref k :: S) σ) ∧
  (∀ (d : Nat) (σ : Sg) (S : List Value) (l0 l1 : Value), exec d mX7_undo 1 [l0, l1] (.ref 50 :: S) σ = exec d mX7_undo 4 [l0, l1] (.int (σ 50 3) :: S) σ) ∧
  (∀ (d : Nat) (σ : Sg) (S : List Value) (l0 l1 : Value) (x : Int32), exec d mX7_undo 4 [l0, l1] (.int x :: S) σ = if x = nI 0 then exec d mX7_undo 7 [l0, l1] S σ else exec d mX7_undo 10 [l0, l1] S σ) ∧
  (∀ (d : Nat) (σ : Sg) (S : List Value) (l0 l1 : Value), exec d mX7_undo 7 [l0, l1] S σ = exec d mX7_undo 9 [l0, l1] (.int ((-1000002)) :: S) σ) ∧
  (∀ (d : Nat) (σ : Sg) (l0 l1 : Value) (x : Int32), exec d mX7_undo 9 [l0, l1] [.int x] σ = some (some (.int x), σ)) ∧
  (∀ (d : Nat) (σ : Sg) (S : List Value) (l1 : Value) (k : Nat), exec d mX7_undo 10 [.ref k, l1] S σ = exec d mX7_undo 11 [.ref k, l1] (.ref k :: S) σ) ∧
  (∀ (d : Nat) (σ : Sg) (S : List Value) (l0 l1 : Value) (k : Nat), exec d mX7_undo 11 [l0, l1] (.ref k :: S) σ = exec d mX7_undo 12 [l0, l1] (.ref k :: .ref k :: S) σ) ∧
  (∀ (d : Nat) (σ : Sg) (S : List Value) (l0 l1 : Value), exec d mX7_undo 12 [l0, l1] (.ref 50 :: S) σ = exec d mX7_undo 15 [l0, l1] (.int (σ 50 3) :: S) σ) ∧
  (∀ (d : Nat) (σ : Sg) (S : List Value) (l0 l1 : Value), exec d mX7_undo 15 [l0, l1] S σ = exec d mX7_undo 16 [l0, l1] (.int (nI 1) :: S) σ) ∧
  (∀ (d : Nat) (σ : Sg) (S : List Value) (l0 l1 : Value) (x y : Int32), exec d mX7_undo 16 [l0, l1] (.int y :: .int x :: S) σ = exec d mX7_undo 17 [l0, l1] (.int (x - y) :: S) σ) ∧
  (∀ (d : Nat) (σ : Sg) (S : List Value) (l0 l1 : Value) (x : Int32), exec d mX7_undo 17 [l0, l1] (.int x :: .ref 50 :: S) σ = exec d mX7_undo 20 [l0, l1] S (up σ 50 3 x)) ∧
  (∀ (d : Nat) (σ : Sg) (S : List Value) (l0 l1 : Value), exec d mX7_undo 20 [l0, l1] S σ = exec d mX7_undo 21 [l0, l1] (.int (nI 0) :: S) σ) ∧
  (∀ (d : Nat) (σ : Sg) (S : List Value) (l1 : Value) (k : Nat) (x : Int32), exec d mX7_undo 21 [.ref k, l1] (.int x :: S) σ = exec d mX7_undo 22 [.ref k, .int x] S σ) ∧
  (∀ (d : Nat) (σ : Sg) (S : List Value) (l0 l1 : Value), exec d mX7_undo 23 [l0, l1] S σ = exec d mX7_undo 25 [l0, l1] (.int (nI 6) :: S) σ) ∧
  (∀ (d : Nat) (σ : Sg) (S : List Value) (l0 l1 : Value) (x y : Int32), exec d mX7_undo 25 [l0, l1] (.int y :: .int x :: S) σ = if y ≤ x then exec d mX7_undo 54 [l0, l1] S σ else exec d mX7_undo 28 [l0, l1] S σ) ∧
  (∀ (d : Nat) (σ : Sg) (S : List Value) (l1 : Value) (k : Nat), exec d mX7_undo 28 [.ref k, l1] S σ = exec d mX7_undo 29 [.ref k, l1] (.ref k :: S) σ) ∧
  (∀ (d : Nat) (σ : Sg) (S : List Value) (l0 l1 : Value), exec d mX7_undo 29 [l0, l1] (.ref 50 :: S) σ = exec d mX7_undo 32 [l0, l1] (.ref 51 :: S) σ) ∧
  (∀ (d : Nat) (σ : Sg) (S : List Value) (l0 : Value) (x : Int32), exec d mX7_undo 32 [l0, .int x] S σ = exec d mX7_undo 33 [l0, .int x] (.int x :: S) σ) ∧
  (∀ (d : Nat) (σ : Sg) (S : List Value) (l1 : Value) (k : Nat), exec d mX7_undo 33 [.ref k, l1] S σ = exec d mX7_undo 34 [.ref k, l1] (.ref k :: S) σ) ∧
  (∀ (d : Nat) (σ : Sg) (S : List Value) (l0 l1 : Value), exec d mX7_undo 34 [l0, l1] (.ref 50 :: S) σ = exec d mX7_undo 37 [l0, l1] (.ref 53 :: S) σ) ∧
  (∀ (d : Nat) (σ : Sg) (S : List Value) (l0 l1 : Value), exec d mX7_undo 37 [l0, l1] S σ = exec d mX7_undo 39 [l0, l1] (.int (nI 6) :: S) σ) ∧
  (∀ (d : Nat) (σ : Sg) (S : List Value) (l1 : Value) (k : Nat), exec d mX7_undo 39 [.ref k, l1] S σ = exec d mX7_undo 40 [.ref k, l1] (.ref k :: S) σ) ∧
  (∀ (d : Nat) (σ : Sg) (S : List Value) (l0 l1 : Value), exec d mX7_undo 40 [l0, l1] (.ref 50 :: S) σ = exec d mX7_undo 43 [l0, l1] (.int (σ 50 3) :: S) σ) ∧
  (∀ (d : Nat) (σ : Sg) (S : List Value) (l0 l1 : Value) (x y : Int32), exec d mX7_undo 43 [l0, l1] (.int y :: .int x :: S) σ = exec d mX7_undo 44 [l0, l1] (.int (x * y) :: S) σ) ∧
  (∀ (d : Nat) (σ : Sg) (S : List Value) (l0 : Value) (x : Int32), exec d mX7_undo 44 [l0, .int x] S σ = exec d mX7_undo 45 [l0, .int x] (.int x :: S) σ) ∧
  (∀ (d : Nat) (σ : Sg) (S : List Value) (l0 l1 : Value) (x y : Int32), exec d mX7_undo 45 [l0, l1] (.int y :: .int x :: S) σ = exec d mX7_undo 46 [l0, l1] (.int (x + y) :: S) σ) ∧
  (∀ (d : Nat) (σ : Sg) (S : List Value) (l0 l1 : Value) (x : Int32), exec d mX7_undo 46 [l0, l1] (.int x :: .ref 53 :: S) σ = if inb x 144 = true then exec d mX7_undo 47 [l0, l1] (.int (σ 53 x.toNatClampNeg) :: S) σ else none) ∧
  (∀ (d : Nat) (σ : Sg) (S : List Value) (l0 l1 : Value) (x y : Int32), exec d mX7_undo 47 [l0, l1] (.int y :: .int x :: .ref 51 :: S) σ = if inb x 208 = true then exec d mX7_undo 48 [l0, l1] S (up σ 51 x.toNatClampNeg y) else none) ∧
  (∀ (d : Nat) (σ : Sg) (S : List Value) (k : Nat) (x : Int32), exec d mX7_undo 48 [.ref k, .int x] S σ = exec d mX7_undo 51 [.ref k, .int (x + nI 1)] S σ) ∧
  (∀ (d : Nat) (σ : Sg) (S : List Value) (l0 l1 : Value), exec d mX7_undo 51 [l0, l1] S σ = exec d mX7_undo 22 [l0, l1] S σ) ∧
  (∀ (d : Nat) (σ : Sg) (S : List Value) (l1 : Value) (k : Nat), exec d mX7_undo 54 [.ref k, l1] S σ = exec d mX7_undo 55 [.ref k, l1] (.ref k :: S) σ) ∧
  (∀ (d : Nat) (σ : Sg) (S : List Value) (l0 l1 : Value), exec d mX7_undo 55 [l0, l1] (.ref 50 :: S) σ = exec d mX7_undo 58 [l0, l1] (.int (σ 50 3) :: S) σ) ∧
  (∀ (d : Nat) (σ : Sg) (l0 l1 : Value) (x : Int32), exec d mX7_undo 58 [l0, l1] [.int x] σ = some (some (.int x), σ)) :=
  ⟨fun d σ S l1 k => ex_aload_n (show decode mX7_undo.2.1 0 = .ok (.aload_n 0, 1) by decide +kernel) rfl,
  fun d σ S l0 l1 => ex_get (idx := 141) (ci := 7) (ff := 3) (n := 26) (hh := 836) (by decide +kernel),
  fun d σ S l0 l1 x => ex_zne (show decode mX7_undo.2.1 4 = .ok (.ifCond .ne 6, 3) by decide +kernel) (by decide),
  fun d σ S l0 l1 => ex_ldc (hh := 1009) (show decode mX7_undo.2.1 7 = .ok (.ldc 171, 2) by decide +kernel) (by decide +kernel),
  fun d σ l0 l1 x => ex_iret (show decode mX7_undo.2.1 9 = .ok (.ireturn, 1) by decide +kernel) rfl,
  fun d σ S l1 k => ex_aload_n (show decode mX7_undo.2.1 10 = .ok (.aload_n 0, 1) by decide +kernel) rfl,
  fun d σ S l0 l1 k => ex_dup (show decode mX7_undo.2.1 11 = .ok (.dup, 1) by decide +kernel) rfl,
  fun d σ S l0 l1 => ex_get (idx := 141) (ci := 7) (ff := 3) (n := 26) (hh := 836) (by decide +kernel),
  fun d σ S l0 l1 => ex_iconst (show decode mX7_undo.2.1 15 = .ok (.iconst 1, 1) by decide +kernel) (by decide +kernel),
  fun d σ S l0 l1 x y => ex_isub (show decode mX7_undo.2.1 16 = .ok (.isub, 1) by decide +kernel),
  fun d σ S l0 l1 x => ex_put (idx := 141) (ci := 7) (ff := 3) (n := 26) (hh := 836) (by decide +kernel),
  fun d σ S l0 l1 => ex_iconst (show decode mX7_undo.2.1 20 = .ok (.iconst 0, 1) by decide +kernel) (by decide +kernel),
  fun d σ S l1 k x => ex_istore_n (show decode mX7_undo.2.1 21 = .ok (.istore_n 1, 1) by decide +kernel) (Nat.le_of_ble_eq_true rfl) rfl,
  fun d σ S l0 l1 => ex_bipush (show decode mX7_undo.2.1 23 = .ok (.bipush 6, 2) by decide +kernel) (by decide +kernel),
  fun d σ S l0 l1 x y => ex_cge (show decode mX7_undo.2.1 25 = .ok (.if_icmp .ge 29, 3) by decide +kernel) (by decide),
  fun d σ S l1 k => ex_aload_n (show decode mX7_undo.2.1 28 = .ok (.aload_n 0, 1) by decide +kernel) rfl,
  fun d σ S l0 l1 => ex_getr (idx := 7) (ci := 7) (ff := 0) (n := 26) (hh := 833) (by decide +kernel),
  fun d σ S l0 x => ex_iload_n (show decode mX7_undo.2.1 32 = .ok (.iload_n 1, 1) by decide +kernel) rfl,
  fun d σ S l1 k => ex_aload_n (show decode mX7_undo.2.1 33 = .ok (.aload_n 0, 1) by decide +kernel) rfl,
  fun d σ S l0 l1 => ex_getr (idx := 17) (ci := 7) (ff := 2) (n := 26) (hh := 835) (by decide +kernel),
  fun d σ S l0 l1 => ex_bipush (show decode mX7_undo.2.1 37 = .ok (.bipush 6, 2) by decide +kernel) (by decide +kernel),
  fun d σ S l1 k => ex_aload_n (show decode mX7_undo.2.1 39 = .ok (.aload_n 0, 1) by decide +kernel) rfl,
  fun d σ S l0 l1 => ex_get (idx := 141) (ci := 7) (ff := 3) (n := 26) (hh := 836) (by decide +kernel),
  fun d σ S l0 l1 x y => ex_imul (show decode mX7_undo.2.1 43 = .ok (.imul, 1) by decide +kernel),
  fun d σ S l0 x => ex_iload_n (show decode mX7_undo.2.1 44 = .ok (.iload_n 1, 1) by decide +kernel) rfl,
  fun d σ S l0 l1 x y => ex_iadd (show decode mX7_undo.2.1 45 = .ok (.iadd, 1) by decide +kernel),
  fun d σ S l0 l1 x => ex_iald (by decide +kernel),
  fun d σ S l0 l1 x y => ex_iast (by decide +kernel),
  fun d σ S k x => ex_iinc (show decode mX7_undo.2.1 48 = .ok (.iinc 1 1, 3) by decide +kernel) rfl (by decide +kernel) (Nat.le_of_ble_eq_true rfl) rfl,
  fun d σ S l0 l1 => ex_goto (show decode mX7_undo.2.1 51 = .ok (.goto (-29), 3) by decide +kernel) (by decide),
  fun d σ S l1 k => ex_aload_n (show decode mX7_undo.2.1 54 = .ok (.aload_n 0, 1) by decide +kernel) rfl,
  fun d σ S l0 l1 => ex_get (idx := 141) (ci := 7) (ff := 3) (n := 26) (hh := 836) (by decide +kernel),
  fun d σ l0 l1 x => ex_iret (show decode mX7_undo.2.1 58 = .ok (.ireturn, 1) by decide +kernel) rfl⟩
theorem hX7_undo_22 : ∀ (d : Nat) (σ : Sg) (S : List Value) (l0 : Value) (x : Int32), exec d mX7_undo 22 [l0, .int x] S σ = exec d mX7_undo 23 [l0, .int x] (.int x :: S) σ := fun d σ S l0 x => ex_iload_n (show decode mX7_undo.2.1 22 = .ok (.iload_n 1, 1) by decide +kernel) rfl
theorem aX7_undo_50 : ∀ (d : Nat)  (σ : Sg), cal (d + 1) mX7_undo [.ref 50] σ = exec d mX7_undo 0 [.ref 50, uu] [] σ := fun _ _ => rfl
theorem kX7_make : (∀ (d : Nat) (σ : Sg) (S : List Value) (l1 : Value) (k : Nat), exec d mX7_make 0 [.ref k, l1] S σ = exec d mX7_make 1 [.ref k, l1] (.ref k :: S) σ) ∧
  (∀ (d : Nat) (σ : Sg) (S : List Value) (l0 : Value) (x : Int32), exec d mX7_make 1 [l0, .int x] S σ = exec d mX7_make 2 [l0, .int x] (.int x :: S) σ) ∧
  (∀ (d : Nat) (σ : Sg) (l0 l1 : Value) (x0 : Int32), exec d mX7_make 2 [l0, l1] [.int x0, .ref 50] σ = kb (cal d mX7_isPart [.ref 50, .int x0] σ) (fun rs σ2 => exec d mX7_make 5 [l0, l1] (rs ++ []) σ2)) ∧
  (∀ (d : Nat) (σ : Sg) (S : List Value) (l0 l1 : Value) (x : Int32), exec d mX7_make 5 [l0, l1] (.int x :: S) σ = if x = nI 0 then exec d mX7_make 8 [l0, l1] S σ else exec d mX7_make 11 [l0, l1] S σ) ∧
  (∀ (d : Nat) (σ : Sg) (S : List Value) (l0 l1 : Value), exec d mX7_make 8 [l0, l1] S σ = exec d mX7_make 10 [l0, l1] (.int ((-1000001)) :: S) σ) ∧
  (∀ (d : Nat) (σ : Sg) (l0 l1 : Value) (x : Int32), exec d mX7_make 10 [l0, l1] [.int x] σ = some (some (.int x), σ)) ∧
  (∀ (d : Nat) (σ : Sg) (S : List Value) (l1 : Value) (k : Nat), exec d mX7_make 11 [.ref k, l1] S σ = exec d mX7_make 12 [.ref k, l1] (.ref k :: S) σ) ∧
  (∀ (d : Nat) (σ : Sg) (S : List Value) (l0 : Value) (x : Int32), exec d mX7_make 12 [l0, .int x] S σ = exec d mX7_make 13 [l0, .int x] (.int x :: S) σ) ∧
  (∀ (d : Nat) (σ : Sg) (l0 l1 : Value) (x0 : Int32), exec d mX7_make 13 [l0, l1] [.int x0, .ref 50] σ = kb (cal d mX7_mayNow [.ref 50, .int x0] σ) (fun rs σ2 => exec d mX7_make 16 [l0, l1] (rs ++ []) σ2)) ∧
  (∀ (d : Nat) (σ : Sg) (S : List Value) (l0 l1 : Value) (x : Int32), exec d mX7_make 16 [l0, l1] (.int x :: S) σ = if x = nI 0 then exec d mX7_make 19 [l0, l1] S σ else exec d mX7_make 22 [l0, l1] S σ) ∧
  (∀ (d : Nat) (σ : Sg) (S : List Value) (l0 l1 : Value), exec d mX7_make 19 [l0, l1] S σ = exec d mX7_make 21 [l0, l1] (.int ((-1000002)) :: S) σ) ∧
  (∀ (d : Nat) (σ : Sg) (l0 l1 : Value) (x : Int32), exec d mX7_make 21 [l0, l1] [.int x] σ = some (some (.int x), σ)) ∧
  (∀ (d : Nat) (σ : Sg) (S : List Value) (l1 : Value) (k : Nat), exec d mX7_make 22 [.ref k, l1] S σ = exec d mX7_make 23 [.ref k, l1] (.ref k :: S) σ) ∧
  (∀ (d : Nat) (σ : Sg) (l0 l1 : Value), exec d mX7_make 23 [l0, l1] [.ref 50] σ = kb (cal d mX7_minds [.ref 50] σ) (fun rs σ2 => exec d mX7_make 26 [l0, l1] (rs ++ []) σ2)) ∧
  (∀ (d : Nat) (σ : Sg) (S : List Value) (l1 : Value) (k : Nat), exec d mX7_make 26 [.ref k, l1] S σ = exec d mX7_make 27 [.ref k, l1] (.ref k :: S) σ) ∧
  (∀ (d : Nat) (σ : Sg) (S : List Value) (l0 : Value) (x : Int32), exec d mX7_make 27 [l0, .int x] S σ = exec d mX7_make 28 [l0, .int x] (.int x :: S) σ) ∧
  (∀ (d : Nat) (σ : Sg) (l0 l1 : Value) (x0 : Int32), exec d mX7_make 28 [l0, l1] [.int x0, .ref 50] σ = kb (cal d mX7_makes [.ref 50, .int x0] σ) (fun rs σ2 => exec d mX7_make 31 [l0, l1] (rs ++ []) σ2)) ∧
  (∀ (d : Nat) (σ : Sg) (S : List Value) (l1 : Value) (k : Nat), exec d mX7_make 31 [.ref k, l1] S σ = exec d mX7_make 32 [.ref k, l1] (.ref k :: S) σ) ∧
  (∀ (d : Nat) (σ : Sg) (S : List Value) (l0 l1 : Value), exec d mX7_make 32 [l0, l1] (.ref 50 :: S) σ = exec d mX7_make 35 [l0, l1] (.ref 51 :: S) σ) ∧
  (∀ (d : Nat) (σ : Sg) (S : List Value) (l0 l1 : Value), exec d mX7_make 35 [l0, l1] S σ = exec d mX7_make 36 [l0, l1] (.int (nI 4) :: S) σ) ∧
  (∀ (d : Nat) (σ : Sg) (S : List Value) (l0 l1 : Value) (x : Int32), exec d mX7_make 36 [l0, l1] (.int x :: .ref 51 :: S) σ = if inb x 208 = true then exec d mX7_make 37 [l0, l1] (.int (σ 51 x.toNatClampNeg) :: S) σ else none) ∧
  (∀ (d : Nat) (σ : Sg) (S : List Value) (l0 : Value) (x : Int32), exec d mX7_make 37 [l0, .int x] S σ = exec d mX7_make 38 [l0, .int x] (.int x :: S) σ) ∧
  (∀ (d : Nat) (σ : Sg) (S : List Value) (l0 l1 : Value) (x y : Int32), exec d mX7_make 38 [l0, l1] (.int y :: .int x :: S) σ = exec d mX7_make 39 [l0, l1] (.int (x >>> (y &&& 31)) :: S) σ) ∧
  (∀ (d : Nat) (σ : Sg) (S : List Value) (l0 l1 : Value), exec d mX7_make 39 [l0, l1] S σ = exec d mX7_make 40 [l0, l1] (.int (nI 1) :: S) σ) ∧
  (∀ (d : Nat) (σ : Sg) (S : List Value) (l0 l1 : Value) (x y : Int32), exec d mX7_make 40 [l0, l1] (.int y :: .int x :: S) σ = exec d mX7_make 41 [l0, l1] (.int (x &&& y) :: S) σ) ∧
  (∀ (d : Nat) (σ : Sg) (l0 l1 : Value) (x : Int32), exec d mX7_make 41 [l0, l1] [.int x] σ = some (some (.int x), σ)) :=
  ⟨fun d σ S l1 k => ex_aload_n (show decode mX7_make.2.1 0 = .ok (.aload_n 0, 1) by decide +kernel) rfl,
  fun d σ S l0 x => ex_iload_n (show decode mX7_make.2.1 1 = .ok (.iload_n 1, 1) by decide +kernel) rfl,
  fun d σ l0 l1 x0 => ex_iv (hs := [1014, 1016, 65, 1017, 101]) (show decode mX7_make.2.1 2 = .ok (.invokevirtual 172, 3) by decide +kernel) lkV_7_172 ⟨rfl, Nat.le_of_ble_eq_true rfl, Nat.le_of_ble_eq_true rfl, fun _ => rfl⟩ rfl rfl,
  fun d σ S l0 l1 x => ex_zne (show decode mX7_make.2.1 5 = .ok (.ifCond .ne 6, 3) by decide +kernel) (by decide),
  fun d σ S l0 l1 => ex_ldc (hh := 924) (show decode mX7_make.2.1 8 = .ok (.ldc 73, 2) by decide +kernel) (by decide +kernel),
  fun d σ l0 l1 x => ex_iret (show decode mX7_make.2.1 10 = .ok (.ireturn, 1) by decide +kernel) rfl,
  fun d σ S l1 k => ex_aload_n (show decode mX7_make.2.1 11 = .ok (.aload_n 0, 1) by decide +kernel) rfl,
  fun d σ S l0 x => ex_iload_n (show decode mX7_make.2.1 12 = .ok (.iload_n 1, 1) by decide +kernel) rfl,
  fun d σ l0 l1 x0 => ex_iv (hs := [1018, 1020, 66, 1021, 101]) (show decode mX7_make.2.1 13 = .ok (.invokevirtual 175, 3) by decide +kernel) lkV_7_175 ⟨rfl, Nat.le_of_ble_eq_true rfl, Nat.le_of_ble_eq_true rfl, fun _ => rfl⟩ rfl rfl,
  fun d σ S l0 l1 x => ex_zne (show decode mX7_make.2.1 16 = .ok (.ifCond .ne 6, 3) by decide +kernel) (by decide),
  fun d σ S l0 l1 => ex_ldc (hh := 1009) (show decode mX7_make.2.1 19 = .ok (.ldc 171, 2) by decide +kernel) (by decide +kernel),
  fun d σ l0 l1 x => ex_iret (show decode mX7_make.2.1 21 = .ok (.ireturn, 1) by decide +kernel) rfl,
  fun d σ S l1 k => ex_aload_n (show decode mX7_make.2.1 22 = .ok (.aload_n 0, 1) by decide +kernel) rfl,
  fun d σ l0 l1 => ex_iv (hs := [1040, 1042, 70, 1043, 101]) (show decode mX7_make.2.1 23 = .ok (.invokevirtual 178, 3) by decide +kernel) lkV_7_178 ⟨rfl, Nat.le_of_ble_eq_true rfl, Nat.le_of_ble_eq_true rfl, fun _ => rfl⟩ rfl rfl,
  fun d σ S l1 k => ex_aload_n (show decode mX7_make.2.1 26 = .ok (.aload_n 0, 1) by decide +kernel) rfl,
  fun d σ S l0 x => ex_iload_n (show decode mX7_make.2.1 27 = .ok (.iload_n 1, 1) by decide +kernel) rfl,
  fun d σ l0 l1 x0 => ex_iv (hs := [1044, 1046, 71, 1047, 101]) (show decode mX7_make.2.1 28 = .ok (.invokevirtual 181, 3) by decide +kernel) lkV_7_181 ⟨rfl, Nat.le_of_ble_eq_true rfl, Nat.le_of_ble_eq_true rfl, fun _ => rfl⟩ rfl rfl,
  fun d σ S l1 k => ex_aload_n (show decode mX7_make.2.1 31 = .ok (.aload_n 0, 1) by decide +kernel) rfl,
  fun d σ S l0 l1 => ex_getr (idx := 7) (ci := 7) (ff := 0) (n := 26) (hh := 833) (by decide +kernel),
  fun d σ S l0 l1 => ex_iconst (show decode mX7_make.2.1 35 = .ok (.iconst 4, 1) by decide +kernel) (by decide +kernel),
  fun d σ S l0 l1 x => ex_iald (by decide +kernel),
  fun d σ S l0 x => ex_iload_n (show decode mX7_make.2.1 37 = .ok (.iload_n 1, 1) by decide +kernel) rfl,
  fun d σ S l0 l1 x y => ex_ishr (show decode mX7_make.2.1 38 = .ok (.ishr, 1) by decide +kernel),
  fun d σ S l0 l1 => ex_iconst (show decode mX7_make.2.1 39 = .ok (.iconst 1, 1) by decide +kernel) (by decide +kernel),
  fun d σ S l0 l1 x y => ex_iand (show decode mX7_make.2.1 40 = .ok (.iand, 1) by decide +kernel),
  fun d σ l0 l1 x => ex_iret (show decode mX7_make.2.1 41 = .ok (.ireturn, 1) by decide +kernel) rfl⟩
theorem aX7_make_50 : ∀ (d : Nat) (a1 : Int32) (σ : Sg), cal (d + 1) mX7_make [.ref 50, .int a1] σ = exec d mX7_make 0 [.ref 50, .int a1] [] σ := fun _ _ _ => rfl
theorem kX7_mend_0 : (∀ (d : Nat) (σ : Sg) (S : List Value) (l1 : Value) (k : Nat), exec d mX7_mend 0 [.ref k, l1] S σ = exec d mX7_mend 1 [.ref k, l1] (.ref k :: S) σ) ∧
  (∀ (d : Nat) (σ : Sg) (S : List Value) (l0 : Value) (x : Int32), exec d mX7_mend 1 [l0, .int x] S σ = exec d mX7_mend 2 [l0, .int x] (.int x :: S) σ) ∧
  (∀ (d : Nat) (σ : Sg) (l0 l1 : Value) (x0 : Int32), exec d mX7_mend 2 [l0, l1] [.int x0, .ref 50] σ = kb (cal d mX7_isPart [.ref 50, .int x0] σ) (fun rs σ2 => exec d mX7_mend 5 [l0, l1] (rs ++ []) σ2)) ∧
  (∀ (d : Nat) (σ : Sg) (S : List Value) (l0 l1 : Value) (x : Int32), exec d mX7_mend 5 [l0, l1] (.int x :: S) σ = if x = nI 0 then exec d mX7_mend 8 [l0, l1] S σ else exec d mX7_mend 11 [l0, l1] S σ) ∧
  (∀ (d : Nat) (σ : Sg) (S : List Value) (l0 l1 : Value), exec d mX7_mend 8 [l0, l1] S σ = exec d mX7_mend 10 [l0, l1] (.int ((-1000001)) :: S) σ) ∧
  (∀ (d : Nat) (σ : Sg) (l0 l1 : Value) (x : Int32), exec d mX7_mend 10 [l0, l1] [.int x] σ = some (some (.int x), σ)) ∧
  (∀ (d : Nat) (σ : Sg) (S : List Value) (l1 : Value) (k : Nat), exec d mX7_mend 11 [.ref k, l1] S σ = exec d mX7_mend 12 [.ref k, l1] (.ref k :: S) σ) ∧
  (∀ (d : Nat) (σ : Sg) (S : List Value) (l0 l1 : Value), exec d mX7_mend 12 [l0, l1] (.ref 50 :: S) σ = exec d mX7_mend 15 [l0, l1] (.ref 51 :: S) σ) ∧
  (∀ (d : Nat) (σ : Sg) (S : List Value) (l0 l1 : Value), exec d mX7_mend 15 [l0, l1] S σ = exec d mX7_mend 16 [l0, l1] (.int (nI 4) :: S) σ) ∧
  (∀ (d : Nat) (σ : Sg) (S : List Value) (l0 l1 : Value) (x : Int32), exec d mX7_mend 16 [l0, l1] (.int x :: .ref 51 :: S) σ = if inb x 208 = true then exec d mX7_mend 17 [l0, l1] (.int (σ 51 x.toNatClampNeg) :: S) σ else none) ∧
  (∀ (d : Nat) (σ : Sg) (S : List Value) (l0 : Value) (x : Int32), exec d mX7_mend 17 [l0, .int x] S σ = exec d mX7_mend 18 [l0, .int x] (.int x :: S) σ) ∧
  (∀ (d : Nat) (σ : Sg) (l0 l1 : Value) (x0 x1 : Int32), exec d mX7_mend 18 [l0, l1] [.int x0, .int x1] σ = kb (cal d mX7_has [.int x1, .int x0] σ) (fun rs σ2 => exec d mX7_mend 21 [l0, l1] (rs ++ []) σ2)) ∧
  (∀ (d : Nat) (σ : Sg) (S : List Value) (l0 l1 : Value) (x : Int32), exec d mX7_mend 21 [l0, l1] (.int x :: S) σ = if x = nI 0 then exec d mX7_mend 44 [l0, l1] S σ else exec d mX7_mend 24 [l0, l1] S σ) ∧
  (∀ (d : Nat) (σ : Sg) (S : List Value) (l1 : Value) (k : Nat), exec d mX7_mend 24 [.ref k, l1] S σ = exec d mX7_mend 25 [.ref k, l1] (.ref k :: S) σ) ∧
  (∀ (d : Nat) (σ : Sg) (S : List Value) (l0 l1 : Value), exec d mX7_mend 25 [l0, l1] (.ref 50 :: S) σ = exec d mX7_mend 28 [l0, l1] (.ref 51 :: S) σ) ∧
  (∀ (d : Nat) (σ : Sg) (S : List Value) (l0 l1 : Value), exec d mX7_mend 28 [l0, l1] S σ = exec d mX7_mend 29 [l0, l1] (.int (nI 1) :: S) σ) ∧
  (∀ (d : Nat) (σ : Sg) (S : List Value) (l0 l1 : Value) (x : Int32), exec d mX7_mend 29 [l0, l1] (.int x :: .ref 51 :: S) σ = if inb x 208 = true then exec d mX7_mend 30 [l0, l1] (.int (σ 51 x.toNatClampNeg) :: S) σ else none) ∧
  (∀ (d : Nat) (σ : Sg) (S : List Value) (l1 : Value) (k : Nat), exec d mX7_mend 30 [.ref k, l1] S σ = exec d mX7_mend 31 [.ref k, l1] (.ref k :: S) σ) ∧
  (∀ (d : Nat) (σ : Sg) (S : List Value) (l0 l1 : Value), exec d mX7_mend 31 [l0, l1] (.ref 50 :: S) σ = exec d mX7_mend 34 [l0, l1] (.ref 51 :: S) σ) ∧
  (∀ (d : Nat) (σ : Sg) (S : List Value) (l0 l1 : Value), exec d mX7_mend 34 [l0, l1] S σ = exec d mX7_mend 36 [l0, l1] (.int (nI 23) :: S) σ) ∧
  (∀ (d : Nat) (σ : Sg) (S : List Value) (l0 : Value) (x : Int32), exec d mX7_mend 36 [l0, .int x] S σ = exec d mX7_mend 37 [l0, .int x] (.int x :: S) σ) ∧
  (∀ (d : Nat) (σ : Sg) (S : List Value) (l0 l1 : Value) (x y : Int32), exec d mX7_mend 37 [l0, l1] (.int y :: .int x :: S) σ = exec d mX7_mend 38 [l0, l1] (.int (x + y) :: S) σ) ∧
  (∀ (d : Nat) (σ : Sg) (S : List Value) (l0 l1 : Value) (x : Int32), exec d mX7_mend 38 [l0, l1] (.int x :: .ref 51 :: S) σ = if inb x 208 = true then exec d mX7_mend 39 [l0, l1] (.int (σ 51 x.toNatClampNeg) :: S) σ else none) ∧
  (∀ (d : Nat) (σ : Sg) (S : List Value) (l0 l1 : Value), exec d mX7_mend 39 [l0, l1] S σ = exec d mX7_mend 40 [l0, l1] (.int (nI 1) :: S) σ) ∧
  (∀ (d : Nat) (σ : Sg) (S : List Value) (l0 l1 : Value) (x y : Int32), exec d mX7_mend 40 [l0, l1] (.int y :: .int x :: S) σ = exec d mX7_mend 41 [l0, l1] (.int (x + y) :: S) σ) ∧
  (∀ (d : Nat) (σ : Sg) (S : List Value) (l0 l1 : Value) (x y : Int32), exec d mX7_mend 41 [l0, l1] (.int y :: .int x :: S) σ = if y ≤ x then exec d mX7_mend 47 [l0, l1] S σ else exec d mX7_mend 44 [l0, l1] S σ) ∧
  (∀ (d : Nat) (σ : Sg) (S : List Value) (l0 l1 : Value), exec d mX7_mend 44 [l0, l1] S σ = exec d mX7_mend 46 [l0, l1] (.int ((-1000002)) :: S) σ) ∧
  (∀ (d : Nat) (σ : Sg) (l0 l1 : Value) (x : Int32), exec d mX7_mend 46 [l0, l1] [.int x] σ = some (some (.int x), σ)) ∧
  (∀ (d : Nat) (σ : Sg) (S : List Value) (l1 : Value) (k : Nat), exec d mX7_mend 47 [.ref k, l1] S σ = exec d mX7_mend 48 [.ref k, l1] (.ref k :: S) σ) ∧
  (∀ (d : Nat) (σ : Sg) (l0 l1 : Value), exec d mX7_mend 48 [l0, l1] [.ref 50] σ = kb (cal d mX7_minds [.ref 50] σ) (fun rs σ2 => exec d mX7_mend 51 [l0, l1] (rs ++ []) σ2)) ∧
  (∀ (d : Nat) (σ : Sg) (S : List Value) (l1 : Value) (k : Nat), exec d mX7_mend 51 [.ref k, l1] S σ = exec d mX7_mend 52 [.ref k, l1] (.ref k :: S) σ) ∧
  (∀ (d : Nat) (σ : Sg) (S : List Value) (l0 l1 : Value), exec d mX7_mend 52 [l0, l1] (.ref 50 :: S) σ = exec d mX7_mend 55 [l0, l1] (.ref 51 :: S) σ) ∧
  (∀ (d : Nat) (σ : Sg) (S : List Value) (l0 l1 : Value), exec d mX7_mend 55 [l0, l1] S σ = exec d mX7_mend 56 [l0, l1] (.int (nI 4) :: S) σ) ∧
  (∀ (d : Nat) (σ : Sg) (S : List Value) (l0 l1 : Value) (k : Nat) (x : Int32), exec d mX7_mend 56 [l0, l1] (.int x :: .ref k :: S) σ = exec d mX7_mend 57 [l0, l1] (.int x :: .ref k :: .int x :: .ref k :: S) σ) ∧
  (∀ (d : Nat) (σ : Sg) (S : List Value) (l0 l1 : Value) (x : Int32), exec d mX7_mend 57 [l0, l1] (.int x :: .ref 51 :: S) σ = if inb x 208 = true then exec d mX7_mend 58 [l0, l1] (.int (σ 51 x.toNatClampNeg) :: S) σ else none) ∧
  (∀ (d : Nat) (σ : Sg) (S : List Value) (l0 l1 : Value), exec d mX7_mend 58 [l0, l1] S σ = exec d mX7_mend 59 [l0, l1] (.int (nI 1) :: S) σ) ∧
  (∀ (d : Nat) (σ : Sg) (S : List Value) (l0 : Value) (x : Int32), exec d mX7_mend 59 [l0, .int x] S σ = exec d mX7_mend 60 [l0, .int x] (.int x :: S) σ) ∧
  (∀ (d : Nat) (σ : Sg) (S : List Value) (l0 l1 : Value) (x y : Int32), exec d mX7_mend 60 [l0, l1] (.int y :: .int x :: S) σ = exec d mX7_mend 61 [l0, l1] (.int (x <<< (y &&& 31)) :: S) σ) ∧
  (∀ (d : Nat) (σ : Sg) (S : List Value) (l0 l1 : Value), exec d mX7_mend 61 [l0, l1] S σ = exec d mX7_mend 62 [l0, l1] (.int ((-1)) :: S) σ) ∧
  (∀ (d : Nat) (σ : Sg) (S : List Value) (l0 l1 : Value) (x y : Int32), exec d mX7_mend 62 [l0, l1] (.int y :: .int x :: S) σ = exec d mX7_mend 63 [l0, l1] (.int (x ^^^ y) :: S) σ) :=
  ⟨fun d σ S l1 k => ex_aload_n (show decode mX7_mend.2.1 0 = .ok (.aload_n 0, 1) by decide +kernel) rfl,
  fun d σ S l0 x => ex_iload_n (show decode mX7_mend.2.1 1 = .ok (.iload_n 1, 1) by decide +kernel) rfl,
  fun d σ l0 l1 x0 => ex_iv (hs := [1014, 1016, 65, 1017, 101]) (show decode mX7_mend.2.1 2 = .ok (.invokevirtual 172, 3) by decide +kernel) lkV_7_172 ⟨rfl, Nat.le_of_ble_eq_true rfl, Nat.le_of_ble_eq_true rfl, fun _ => rfl⟩ rfl rfl,
  fun d σ S l0 l1 x => ex_zne (show decode mX7_mend.2.1 5 = .ok (.ifCond .ne 6, 3) by decide +kernel) (by decide),
  fun d σ S l0 l1 => ex_ldc (hh := 924) (show decode mX7_mend.2.1 8 = .ok (.ldc 73, 2) by decide +kernel) (by decide +kernel),
  fun d σ l0 l1 x => ex_iret (show decode mX7_mend.2.1 10 = .ok (.ireturn, 1) by decide +kernel) rfl,
  fun d σ S l1 k => ex_aload_n (show decode mX7_mend.2.1 11 = .ok (.aload_n 0, 1) by decide +kernel) rfl,
  fun d σ S l0 l1 => ex_getr (idx := 7) (ci := 7) (ff := 0) (n := 26) (hh := 833) (by decide +kernel),
  fun d σ S l0 l1 => ex_iconst (show decode mX7_mend.2.1 15 = .ok (.iconst 4, 1) by decide +kernel) (by decide +kernel),
  fun d σ S l0 l1 x => ex_iald (by decide +kernel),
  fun d σ S l0 x => ex_iload_n (show decode mX7_mend.2.1 17 = .ok (.iload_n 1, 1) by decide +kernel) rfl,
  fun d σ l0 l1 x0 x1 => ex_is (hs := [1033, 1034, 1035, 101]) (show decode mX7_mend.2.1 18 = .ok (.invokestatic 151, 3) by decide +kernel) lkS_7_151 ⟨rfl, Nat.le_of_ble_eq_true rfl, Nat.le_of_ble_eq_true rfl, fun q => nomatch q⟩ rfl rfl,
  fun d σ S l0 l1 x => ex_zeq (show decode mX7_mend.2.1 21 = .ok (.ifCond .eq 23, 3) by decide +kernel) (by decide),
  fun d σ S l1 k => ex_aload_n (show decode mX7_mend.2.1 24 = .ok (.aload_n 0, 1) by decide +kernel) rfl,
  fun d σ S l0 l1 => ex_getr (idx := 7) (ci := 7) (ff := 0) (n := 26) (hh := 833) (by decide +kernel),
  fun d σ S l0 l1 => ex_iconst (show decode mX7_mend.2.1 28 = .ok (.iconst 1, 1) by decide +kernel) (by decide +kernel),
  fun d σ S l0 l1 x => ex_iald (by decide +kernel),
  fun d σ S l1 k => ex_aload_n (show decode mX7_mend.2.1 30 = .ok (.aload_n 0, 1) by decide +kernel) rfl,
  fun d σ S l0 l1 => ex_getr (idx := 7) (ci := 7) (ff := 0) (n := 26) (hh := 833) (by decide +kernel),
  fun d σ S l0 l1 => ex_bipush (show decode mX7_mend.2.1 34 = .ok (.bipush 23, 2) by decide +kernel) (by decide +kernel),
  fun d σ S l0 x => ex_iload_n (show decode mX7_mend.2.1 36 = .ok (.iload_n 1, 1) by decide +kernel) rfl,
  fun d σ S l0 l1 x y => ex_iadd (show decode mX7_mend.2.1 37 = .ok (.iadd, 1) by decide +kernel),
  fun d σ S l0 l1 x => ex_iald (by decide +kernel),
  fun d σ S l0 l1 => ex_iconst (show decode mX7_mend.2.1 39 = .ok (.iconst 1, 1) by decide +kernel) (by decide +kernel),
  fun d σ S l0 l1 x y => ex_iadd (show decode mX7_mend.2.1 40 = .ok (.iadd, 1) by decide +kernel),
  fun d σ S l0 l1 x y => ex_cge (show decode mX7_mend.2.1 41 = .ok (.if_icmp .ge 6, 3) by decide +kernel) (by decide),
  fun d σ S l0 l1 => ex_ldc (hh := 1009) (show decode mX7_mend.2.1 44 = .ok (.ldc 171, 2) by decide +kernel) (by decide +kernel),
  fun d σ l0 l1 x => ex_iret (show decode mX7_mend.2.1 46 = .ok (.ireturn, 1) by decide +kernel) rfl,
  fun d σ S l1 k => ex_aload_n (show decode mX7_mend.2.1 47 = .ok (.aload_n 0, 1) by decide +kernel) rfl,
  fun d σ l0 l1 => ex_iv (hs := [1040, 1042, 70, 1043, 101]) (show decode mX7_mend.2.1 48 = .ok (.invokevirtual 178, 3) by decide +kernel) lkV_7_178 ⟨rfl, Nat.le_of_ble_eq_true rfl, Nat.le_of_ble_eq_true rfl, fun _ => rfl⟩ rfl rfl,
  fun d σ S l1 k => ex_aload_n (show decode mX7_mend.2.1 51 = .ok (.aload_n 0, 1) by decide +kernel) rfl,
  fun d σ S l0 l1 => ex_getr (idx := 7) (ci := 7) (ff := 0) (n := 26) (hh := 833) (by decide +kernel),
  fun d σ S l0 l1 => ex_iconst (show decode mX7_mend.2.1 55 = .ok (.iconst 4, 1) by decide +kernel) (by decide +kernel),
  fun d σ S l0 l1 k x => ex_dup2 (show decode mX7_mend.2.1 56 = .ok (.dup2, 1) by decide +kernel) rfl rfl,
  fun d σ S l0 l1 x => ex_iald (by decide +kernel),
  fun d σ S l0 l1 => ex_iconst (show decode mX7_mend.2.1 58 = .ok (.iconst 1, 1) by decide +kernel) (by decide +kernel),
  fun d σ S l0 x => ex_iload_n (show decode mX7_mend.2.1 59 = .ok (.iload_n 1, 1) by decide +kernel) rfl,
  fun d σ S l0 l1 x y => ex_ishl (show decode mX7_mend.2.1 60 = .ok (.ishl, 1) by decide +kernel),
  fun d σ S l0 l1 => ex_iconst (show decode mX7_mend.2.1 61 = .ok (.iconst (-1), 1) by decide +kernel) (by decide +kernel),
  fun d σ S l0 l1 x y => ex_ixor (show decode mX7_mend.2.1 62 = .ok (.ixor, 1) by decide +kernel)⟩
theorem kX7_mend_1 : (∀ (d : Nat) (σ : Sg) (S : List Value) (l0 l1 : Value) (x y : Int32), exec d mX7_mend 63 [l0, l1] (.int y :: .int x :: S) σ = exec d mX7_mend 64 [l0, l1] (.int (x &&& y) :: S) σ) ∧
  (∀ (d : Nat) (σ : Sg) (S : List Value) (l0 l1 : Value) (x y : Int32), exec d mX7_mend 64 [l0, l1] (.int y :: .int x :: .ref 51 :: S) σ = if inb x 208 = true then exec d mX7_mend 65 [l0, l1] S (up σ 51 x.toNatClampNeg y) else none) ∧
  (∀ (d : Nat) (σ : Sg) (S : List Value) (l1 : Value) (k : Nat), exec d mX7_mend 65 [.ref k, l1] S σ = exec d mX7_mend 66 [.ref k, l1] (.ref k :: S) σ) ∧
  (∀ (d : Nat) (σ : Sg) (S : List Value) (l0 l1 : Value), exec d mX7_mend 66 [l0, l1] (.ref 50 :: S) σ = exec d mX7_mend 69 [l0, l1] (.ref 51 :: S) σ) ∧
  (∀ (d : Nat) (σ : Sg) (S : List Value) (l0 l1 : Value), exec d mX7_mend 69 [l0, l1] S σ = exec d mX7_mend 70 [l0, l1] (.int (nI 1) :: S) σ) ∧
  (∀ (d : Nat) (σ : Sg) (S : List Value) (l0 l1 : Value) (k : Nat) (x : Int32), exec d mX7_mend 70 [l0, l1] (.int x :: .ref k :: S) σ = exec d mX7_mend 71 [l0, l1] (.int x :: .ref k :: .int x :: .ref k :: S) σ) ∧
  (∀ (d : Nat) (σ : Sg) (S : List Value) (l0 l1 : Value) (x : Int32), exec d mX7_mend 71 [l0, l1] (.int x :: .ref 51 :: S) σ = if inb x 208 = true then exec d mX7_mend 72 [l0, l1] (.int (σ 51 x.toNatClampNeg) :: S) σ else none) ∧
  (∀ (d : Nat) (σ : Sg) (S : List Value) (l1 : Value) (k : Nat), exec d mX7_mend 72 [.ref k, l1] S σ = exec d mX7_mend 73 [.ref k, l1] (.ref k :: S) σ) ∧
  (∀ (d : Nat) (σ : Sg) (S : List Value) (l0 l1 : Value), exec d mX7_mend 73 [l0, l1] (.ref 50 :: S) σ = exec d mX7_mend 76 [l0, l1] (.ref 51 :: S) σ) ∧
  (∀ (d : Nat) (σ : Sg) (S : List Value) (l0 l1 : Value), exec d mX7_mend 76 [l0, l1] S σ = exec d mX7_mend 78 [l0, l1] (.int (nI 23) :: S) σ) ∧
  (∀ (d : Nat) (σ : Sg) (S : List Value) (l0 : Value) (x : Int32), exec d mX7_mend 78 [l0, .int x] S σ = exec d mX7_mend 79 [l0, .int x] (.int x :: S) σ) ∧
  (∀ (d : Nat) (σ : Sg) (S : List Value) (l0 l1 : Value) (x y : Int32), exec d mX7_mend 79 [l0, l1] (.int y :: .int x :: S) σ = exec d mX7_mend 80 [l0, l1] (.int (x + y) :: S) σ) ∧
  (∀ (d : Nat) (σ : Sg) (S : List Value) (l0 l1 : Value) (x : Int32), exec d mX7_mend 80 [l0, l1] (.int x :: .ref 51 :: S) σ = if inb x 208 = true then exec d mX7_mend 81 [l0, l1] (.int (σ 51 x.toNatClampNeg) :: S) σ else none) ∧
  (∀ (d : Nat) (σ : Sg) (S : List Value) (l0 l1 : Value), exec d mX7_mend 81 [l0, l1] S σ = exec d mX7_mend 82 [l0, l1] (.int (nI 1) :: S) σ) ∧
  (∀ (d : Nat) (σ : Sg) (S : List Value) (l0 l1 : Value) (x y : Int32), exec d mX7_mend 82 [l0, l1] (.int y :: .int x :: S) σ = exec d mX7_mend 83 [l0, l1] (.int (x + y) :: S) σ) ∧
  (∀ (d : Nat) (σ : Sg) (S : List Value) (l0 l1 : Value) (x y : Int32), exec d mX7_mend 83 [l0, l1] (.int y :: .int x :: S) σ = exec d mX7_mend 84 [l0, l1] (.int (x - y) :: S) σ) ∧
  (∀ (d : Nat) (σ : Sg) (S : List Value) (l0 l1 : Value) (x y : Int32), exec d mX7_mend 84 [l0, l1] (.int y :: .int x :: .ref 51 :: S) σ = if inb x 208 = true then exec d mX7_mend 85 [l0, l1] S (up σ 51 x.toNatClampNeg y) else none) ∧
  (∀ (d : Nat) (σ : Sg) (S : List Value) (l1 : Value) (k : Nat), exec d mX7_mend 85 [.ref k, l1] S σ = exec d mX7_mend 86 [.ref k, l1] (.ref k :: S) σ) ∧
  (∀ (d : Nat) (σ : Sg) (S : List Value) (l0 l1 : Value), exec d mX7_mend 86 [l0, l1] (.ref 50 :: S) σ = exec d mX7_mend 89 [l0, l1] (.ref 51 :: S) σ) ∧
  (∀ (d : Nat) (σ : Sg) (S : List Value) (l0 l1 : Value), exec d mX7_mend 89 [l0, l1] S σ = exec d mX7_mend 90 [l0, l1] (.int (nI 1) :: S) σ) ∧
  (∀ (d : Nat) (σ : Sg) (S : List Value) (l0 l1 : Value) (x : Int32), exec d mX7_mend 90 [l0, l1] (.int x :: .ref 51 :: S) σ = if inb x 208 = true then exec d mX7_mend 91 [l0, l1] (.int (σ 51 x.toNatClampNeg) :: S) σ else none) ∧
  (∀ (d : Nat) (σ : Sg) (l0 l1 : Value) (x : Int32), exec d mX7_mend 91 [l0, l1] [.int x] σ = some (some (.int x), σ)) :=
  ⟨fun d σ S l0 l1 x y => ex_iand (show decode mX7_mend.2.1 63 = .ok (.iand, 1) by decide +kernel),
  fun d σ S l0 l1 x y => ex_iast (by decide +kernel),
  fun d σ S l1 k => ex_aload_n (show decode mX7_mend.2.1 65 = .ok (.aload_n 0, 1) by decide +kernel) rfl,
  fun d σ S l0 l1 => ex_getr (idx := 7) (ci := 7) (ff := 0) (n := 26) (hh := 833) (by decide +kernel),
  fun d σ S l0 l1 => ex_iconst (show decode mX7_mend.2.1 69 = .ok (.iconst 1, 1) by decide +kernel) (by decide +kernel),
  fun d σ S l0 l1 k x => ex_dup2 (show decode mX7_mend.2.1 70 = .ok (.dup2, 1) by decide +kernel) rfl rfl,
  fun d σ S l0 l1 x => ex_iald (by decide +kernel),
  fun d σ S l1 k => ex_aload_n (show decode mX7_mend.2.1 72 = .ok (.aload_n 0, 1) by decide +kernel) rfl,
  fun d σ S l0 l1 => ex_getr (idx := 7) (ci := 7) (ff := 0) (n := 26) (hh := 833) (by decide +kernel),
  fun d σ S l0 l1 => ex_bipush (show decode mX7_mend.2.1 76 = .ok (.bipush 23, 2) by decide +kernel) (by decide +kernel),
  fun d σ S l0 x => ex_iload_n (show decode mX7_mend.2.1 78 = .ok (.iload_n 1, 1) by decide +kernel) rfl,
  fun d σ S l0 l1 x y => ex_iadd (show decode mX7_mend.2.1 79 = .ok (.iadd, 1) by decide +kernel),
  fun d σ S l0 l1 x => ex_iald (by decide +kernel),
  fun d σ S l0 l1 => ex_iconst (show decode mX7_mend.2.1 81 = .ok (.iconst 1, 1) by decide +kernel) (by decide +kernel),
  fun d σ S l0 l1 x y => ex_iadd (show decode mX7_mend.2.1 82 = .ok (.iadd, 1) by decide +kernel),
  fun d σ S l0 l1 x y => ex_isub (show decode mX7_mend.2.1 83 = .ok (.isub, 1) by decide +kernel),
  fun d σ S l0 l1 x y => ex_iast (by decide +kernel),
  fun d σ S l1 k => ex_aload_n (show decode mX7_mend.2.1 85 = .ok (.aload_n 0, 1) by decide +kernel) rfl,
  fun d σ S l0 l1 => ex_getr (idx := 7) (ci := 7) (ff := 0) (n := 26) (hh := 833) (by decide +kernel),
  fun d σ S l0 l1 => ex_iconst (show decode mX7_mend.2.1 89 = .ok (.iconst 1, 1) by decide +kernel) (by decide +kernel),
  fun d σ S l0 l1 x => ex_iald (by decide +kernel),
  fun d σ l0 l1 x => ex_iret (show decode mX7_mend.2.1 91 = .ok (.ireturn, 1) by decide +kernel) rfl⟩
theorem aX7_mend_50 : ∀ (d : Nat) (a1 : Int32) (σ : Sg), cal (d + 1) mX7_mend [.ref 50, .int a1] σ = exec d mX7_mend 0 [.ref 50, .int a1] [] σ := fun _ _ _ => rfl
theorem kX7_feast_0 : (∀ (d : Nat) (σ : Sg) (S : List Value) (l1 : Value) (k : Nat), exec d mX7_feast 0 [.ref k, l1] S σ = exec d mX7_feast 1 [.ref k, l1] (.ref k :: S) σ) ∧
  (∀ (d : Nat) (σ : Sg) (S : List Value) (l0 : Value) (x : Int32), exec d mX7_feast 1 [l0, .int x] S σ = exec d mX7_feast 2 [l0, .int x] (.int x :: S) σ) ∧
  (∀ (d : Nat) (σ : Sg) (l0 l1 : Value) (x0 : Int32), exec d mX7_feast 2 [l0, l1] [.int x0, .ref 50] σ = kb (cal d mX7_isElder [.ref 50, .int x0] σ) (fun rs σ2 => exec d mX7_feast 5 [l0, l1] (rs ++ []) σ2)) ∧
  (∀ (d : Nat) (σ : Sg) (S : List Value) (l0 l1 : Value) (x : Int32), exec d mX7_feast 5 [l0, l1] (.int x :: S) σ = if x = nI 0 then exec d mX7_feast 8 [l0, l1] S σ else exec d mX7_feast 11 [l0, l1] S σ) ∧
  (∀ (d : Nat) (σ : Sg) (S : List Value) (l0 l1 : Value), exec d mX7_feast 8 [l0, l1] S σ = exec d mX7_feast 10 [l0, l1] (.int ((-1000001)) :: S) σ) ∧
  (∀ (d : Nat) (σ : Sg) (l0 l1 : Value) (x : Int32), exec d mX7_feast 10 [l0, l1] [.int x] σ = some (some (.int x), σ)) ∧
  (∀ (d : Nat) (σ : Sg) (S : List Value) (l1 : Value) (k : Nat), exec d mX7_feast 11 [.ref k, l1] S σ = exec d mX7_feast 12 [.ref k, l1] (.ref k :: S) σ) ∧
  (∀ (d : Nat) (σ : Sg) (S : List Value) (l0 l1 : Value), exec d mX7_feast 12 [l0, l1] (.ref 50 :: S) σ = exec d mX7_feast 15 [l0, l1] (.ref 51 :: S) σ) ∧
  (∀ (d : Nat) (σ : Sg) (S : List Value) (l0 l1 : Value), exec d mX7_feast 15 [l0, l1] S σ = exec d mX7_feast 16 [l0, l1] (.int (nI 5) :: S) σ) ∧
  (∀ (d : Nat) (σ : Sg) (S : List Value) (l0 l1 : Value) (x : Int32), exec d mX7_feast 16 [l0, l1] (.int x :: .ref 51 :: S) σ = if inb x 208 = true then exec d mX7_feast 17 [l0, l1] (.int (σ 51 x.toNatClampNeg) :: S) σ else none) ∧
  (∀ (d : Nat) (σ : Sg) (S : List Value) (l0 : Value) (x : Int32), exec d mX7_feast 17 [l0, .int x] S σ = exec d mX7_feast 18 [l0, .int x] (.int x :: S) σ) ∧
  (∀ (d : Nat) (σ : Sg) (l0 l1 : Value) (x0 x1 : Int32), exec d mX7_feast 18 [l0, l1] [.int x0, .int x1] σ = kb (cal d mX7_has [.int x1, .int x0] σ) (fun rs σ2 => exec d mX7_feast 21 [l0, l1] (rs ++ []) σ2)) ∧
  (∀ (d : Nat) (σ : Sg) (S : List Value) (l0 l1 : Value) (x : Int32), exec d mX7_feast 21 [l0, l1] (.int x :: S) σ = if x = nI 0 then exec d mX7_feast 24 [l0, l1] S σ else exec d mX7_feast 42 [l0, l1] S σ) ∧
  (∀ (d : Nat) (σ : Sg) (S : List Value) (l1 : Value) (k : Nat), exec d mX7_feast 24 [.ref k, l1] S σ = exec d mX7_feast 25 [.ref k, l1] (.ref k :: S) σ) ∧
  (∀ (d : Nat) (σ : Sg) (S : List Value) (l0 l1 : Value), exec d mX7_feast 25 [l0, l1] (.ref 50 :: S) σ = exec d mX7_feast 28 [l0, l1] (.ref 51 :: S) σ) ∧
  (∀ (d : Nat) (σ : Sg) (S : List Value) (l0 l1 : Value), exec d mX7_feast 28 [l0, l1] S σ = exec d mX7_feast 29 [l0, l1] (.int (nI 2) :: S) σ) ∧
  (∀ (d : Nat) (σ : Sg) (S : List Value) (l0 l1 : Value) (x : Int32), exec d mX7_feast 29 [l0, l1] (.int x :: .ref 51 :: S) σ = if inb x 208 = true then exec d mX7_feast 30 [l0, l1] (.int (σ 51 x.toNatClampNeg) :: S) σ else none) ∧
  (∀ (d : Nat) (σ : Sg) (S : List Value) (l1 : Value) (k : Nat), exec d mX7_feast 30 [.ref k, l1] S σ = exec d mX7_feast 31 [.ref k, l1] (.ref k :: S) σ) ∧
  (∀ (d : Nat) (σ : Sg) (S : List Value) (l0 l1 : Value), exec d mX7_feast 31 [l0, l1] (.ref 50 :: S) σ = exec d mX7_feast 34 [l0, l1] (.ref 51 :: S) σ) ∧
  (∀ (d : Nat) (σ : Sg) (S : List Value) (l0 l1 : Value), exec d mX7_feast 34 [l0, l1] S σ = exec d mX7_feast 36 [l0, l1] (.int (nI 47) :: S) σ) ∧
  (∀ (d : Nat) (σ : Sg) (S : List Value) (l0 : Value) (x : Int32), exec d mX7_feast 36 [l0, .int x] S σ = exec d mX7_feast 37 [l0, .int x] (.int x :: S) σ) ∧
  (∀ (d : Nat) (σ : Sg) (S : List Value) (l0 l1 : Value) (x y : Int32), exec d mX7_feast 37 [l0, l1] (.int y :: .int x :: S) σ = exec d mX7_feast 38 [l0, l1] (.int (x + y) :: S) σ) ∧
  (∀ (d : Nat) (σ : Sg) (S : List Value) (l0 l1 : Value) (x : Int32), exec d mX7_feast 38 [l0, l1] (.int x :: .ref 51 :: S) σ = if inb x 208 = true then exec d mX7_feast 39 [l0, l1] (.int (σ 51 x.toNatClampNeg) :: S) σ else none) ∧
  (∀ (d : Nat) (σ : Sg) (S : List Value) (l0 l1 : Value) (x y : Int32), exec d mX7_feast 39 [l0, l1] (.int y :: .int x :: S) σ = if y ≤ x then exec d mX7_feast 45 [l0, l1] S σ else exec d mX7_feast 42 [l0, l1] S σ) ∧
  (∀ (d : Nat) (σ : Sg) (S : List Value) (l0 l1 : Value), exec d mX7_feast 42 [l0, l1] S σ = exec d mX7_feast 44 [l0, l1] (.int ((-1000002)) :: S) σ) ∧
  (∀ (d : Nat) (σ : Sg) (l0 l1 : Value) (x : Int32), exec d mX7_feast 44 [l0, l1] [.int x] σ = some (some (.int x), σ)) ∧
  (∀ (d : Nat) (σ : Sg) (S : List Value) (l1 : Value) (k : Nat), exec d mX7_feast 45 [.ref k, l1] S σ = exec d mX7_feast 46 [.ref k, l1] (.ref k :: S) σ) ∧
  (∀ (d : Nat) (σ : Sg) (l0 l1 : Value), exec d mX7_feast 46 [l0, l1] [.ref 50] σ = kb (cal d mX7_minds [.ref 50] σ) (fun rs σ2 => exec d mX7_feast 49 [l0, l1] (rs ++ []) σ2)) ∧
  (∀ (d : Nat) (σ : Sg) (S : List Value) (l1 : Value) (k : Nat), exec d mX7_feast 49 [.ref k, l1] S σ = exec d mX7_feast 50 [.ref k, l1] (.ref k :: S) σ) ∧
  (∀ (d : Nat) (σ : Sg) (S : List Value) (l0 l1 : Value), exec d mX7_feast 50 [l0, l1] (.ref 50 :: S) σ = exec d mX7_feast 53 [l0, l1] (.ref 51 :: S) σ) ∧
  (∀ (d : Nat) (σ : Sg) (S : List Value) (l0 l1 : Value), exec d mX7_feast 53 [l0, l1] S σ = exec d mX7_feast 54 [l0, l1] (.int (nI 5) :: S) σ) ∧
  (∀ (d : Nat) (σ : Sg) (S : List Value) (l0 l1 : Value) (k : Nat) (x : Int32), exec d mX7_feast 54 [l0, l1] (.int x :: .ref k :: S) σ = exec d mX7_feast 55 [l0, l1] (.int x :: .ref k :: .int x :: .ref k :: S) σ) ∧
  (∀ (d : Nat) (σ : Sg) (S : List Value) (l0 l1 : Value) (x : Int32), exec d mX7_feast 55 [l0, l1] (.int x :: .ref 51 :: S) σ = if inb x 208 = true then exec d mX7_feast 56 [l0, l1] (.int (σ 51 x.toNatClampNeg) :: S) σ else none) ∧
  (∀ (d : Nat) (σ : Sg) (S : List Value) (l0 l1 : Value), exec d mX7_feast 56 [l0, l1] S σ = exec d mX7_feast 57 [l0, l1] (.int (nI 1) :: S) σ) ∧
  (∀ (d : Nat) (σ : Sg) (S : List Value) (l0 : Value) (x : Int32), exec d mX7_feast 57 [l0, .int x] S σ = exec d mX7_feast 58 [l0, .int x] (.int x :: S) σ) ∧
  (∀ (d : Nat) (σ : Sg) (S : List Value) (l0 l1 : Value) (x y : Int32), exec d mX7_feast 58 [l0, l1] (.int y :: .int x :: S) σ = exec d mX7_feast 59 [l0, l1] (.int (x <<< (y &&& 31)) :: S) σ) ∧
  (∀ (d : Nat) (σ : Sg) (S : List Value) (l0 l1 : Value) (x y : Int32), exec d mX7_feast 59 [l0, l1] (.int y :: .int x :: S) σ = exec d mX7_feast 60 [l0, l1] (.int (x ||| y) :: S) σ) ∧
  (∀ (d : Nat) (σ : Sg) (S : List Value) (l0 l1 : Value) (x y : Int32), exec d mX7_feast 60 [l0, l1] (.int y :: .int x :: .ref 51 :: S) σ = if inb x 208 = true then exec d mX7_feast 61 [l0, l1] S (up σ 51 x.toNatClampNeg y) else none) ∧
  (∀ (d : Nat) (σ : Sg) (S : List Value) (l1 : Value) (k : Nat), exec d mX7_feast 61 [.ref k, l1] S σ = exec d mX7_feast 62 [.ref k, l1] (.ref k :: S) σ) ∧
  (∀ (d : Nat) (σ : Sg) (S : List Value) (l0 l1 : Value), exec d mX7_feast 62 [l0, l1] (.ref 50 :: S) σ = exec d mX7_feast 65 [l0, l1] (.ref 51 :: S) σ) :=
  ⟨fun d σ S l1 k => ex_aload_n (show decode mX7_feast.2.1 0 = .ok (.aload_n 0, 1) by decide +kernel) rfl,
  fun d σ S l0 x => ex_iload_n (show decode mX7_feast.2.1 1 = .ok (.iload_n 1, 1) by decide +kernel) rfl,
  fun d σ l0 l1 x0 => ex_iv (hs := [1066, 1068, 73, 1069, 101]) (show decode mX7_feast.2.1 2 = .ok (.invokevirtual 185, 3) by decide +kernel) lkV_7_185 ⟨rfl, Nat.le_of_ble_eq_true rfl, Nat.le_of_ble_eq_true rfl, fun _ => rfl⟩ rfl rfl,
  fun d σ S l0 l1 x => ex_zne (show decode mX7_feast.2.1 5 = .ok (.ifCond .ne 6, 3) by decide +kernel) (by decide),
  fun d σ S l0 l1 => ex_ldc (hh := 924) (show decode mX7_feast.2.1 8 = .ok (.ldc 73, 2) by decide +kernel) (by decide +kernel),
  fun d σ l0 l1 x => ex_iret (show decode mX7_feast.2.1 10 = .ok (.ireturn, 1) by decide +kernel) rfl,
  fun d σ S l1 k => ex_aload_n (show decode mX7_feast.2.1 11 = .ok (.aload_n 0, 1) by decide +kernel) rfl,
  fun d σ S l0 l1 => ex_getr (idx := 7) (ci := 7) (ff := 0) (n := 26) (hh := 833) (by decide +kernel),
  fun d σ S l0 l1 => ex_iconst (show decode mX7_feast.2.1 15 = .ok (.iconst 5, 1) by decide +kernel) (by decide +kernel),
  fun d σ S l0 l1 x => ex_iald (by decide +kernel),
  fun d σ S l0 x => ex_iload_n (show decode mX7_feast.2.1 17 = .ok (.iload_n 1, 1) by decide +kernel) rfl,
  fun d σ l0 l1 x0 x1 => ex_is (hs := [1033, 1034, 1035, 101]) (show decode mX7_feast.2.1 18 = .ok (.invokestatic 151, 3) by decide +kernel) lkS_7_151 ⟨rfl, Nat.le_of_ble_eq_true rfl, Nat.le_of_ble_eq_true rfl, fun q => nomatch q⟩ rfl rfl,
  fun d σ S l0 l1 x => ex_zne (show decode mX7_feast.2.1 21 = .ok (.ifCond .ne 21, 3) by decide +kernel) (by decide),
  fun d σ S l1 k => ex_aload_n (show decode mX7_feast.2.1 24 = .ok (.aload_n 0, 1) by decide +kernel) rfl,
  fun d σ S l0 l1 => ex_getr (idx := 7) (ci := 7) (ff := 0) (n := 26) (hh := 833) (by decide +kernel),
  fun d σ S l0 l1 => ex_iconst (show decode mX7_feast.2.1 28 = .ok (.iconst 2, 1) by decide +kernel) (by decide +kernel),
  fun d σ S l0 l1 x => ex_iald (by decide +kernel),
  fun d σ S l1 k => ex_aload_n (show decode mX7_feast.2.1 30 = .ok (.aload_n 0, 1) by decide +kernel) rfl,
  fun d σ S l0 l1 => ex_getr (idx := 7) (ci := 7) (ff := 0) (n := 26) (hh := 833) (by decide +kernel),
  fun d σ S l0 l1 => ex_bipush (show decode mX7_feast.2.1 34 = .ok (.bipush 47, 2) by decide +kernel) (by decide +kernel),
  fun d σ S l0 x => ex_iload_n (show decode mX7_feast.2.1 36 = .ok (.iload_n 1, 1) by decide +kernel) rfl,
  fun d σ S l0 l1 x y => ex_iadd (show decode mX7_feast.2.1 37 = .ok (.iadd, 1) by decide +kernel),
  fun d σ S l0 l1 x => ex_iald (by decide +kernel),
  fun d σ S l0 l1 x y => ex_cge (show decode mX7_feast.2.1 39 = .ok (.if_icmp .ge 6, 3) by decide +kernel) (by decide),
  fun d σ S l0 l1 => ex_ldc (hh := 1009) (show decode mX7_feast.2.1 42 = .ok (.ldc 171, 2) by decide +kernel) (by decide +kernel),
  fun d σ l0 l1 x => ex_iret (show decode mX7_feast.2.1 44 = .ok (.ireturn, 1) by decide +kernel) rfl,
  fun d σ S l1 k => ex_aload_n (show decode mX7_feast.2.1 45 = .ok (.aload_n 0, 1) by decide +kernel) rfl,
  fun d σ l0 l1 => ex_iv (hs := [1040, 1042, 70, 1043, 101]) (show decode mX7_feast.2.1 46 = .ok (.invokevirtual 178, 3) by decide +kernel) lkV_7_178 ⟨rfl, Nat.le_of_ble_eq_true rfl, Nat.le_of_ble_eq_true rfl, fun _ => rfl⟩ rfl rfl,
  fun d σ S l1 k => ex_aload_n (show decode mX7_feast.2.1 49 = .ok (.aload_n 0, 1) by decide +kernel) rfl,
  fun d σ S l0 l1 => ex_getr (idx := 7) (ci := 7) (ff := 0) (n := 26) (hh := 833) (by decide +kernel),
  fun d σ S l0 l1 => ex_iconst (show decode mX7_feast.2.1 53 = .ok (.iconst 5, 1) by decide +kernel) (by decide +kernel),
  fun d σ S l0 l1 k x => ex_dup2 (show decode mX7_feast.2.1 54 = .ok (.dup2, 1) by decide +kernel) rfl rfl,
  fun d σ S l0 l1 x => ex_iald (by decide +kernel),
  fun d σ S l0 l1 => ex_iconst (show decode mX7_feast.2.1 56 = .ok (.iconst 1, 1) by decide +kernel) (by decide +kernel),
  fun d σ S l0 x => ex_iload_n (show decode mX7_feast.2.1 57 = .ok (.iload_n 1, 1) by decide +kernel) rfl,
  fun d σ S l0 l1 x y => ex_ishl (show decode mX7_feast.2.1 58 = .ok (.ishl, 1) by decide +kernel),
  fun d σ S l0 l1 x y => ex_ior (show decode mX7_feast.2.1 59 = .ok (.ior, 1) by decide +kernel),
  fun d σ S l0 l1 x y => ex_iast (by decide +kernel),
  fun d σ S l1 k => ex_aload_n (show decode mX7_feast.2.1 61 = .ok (.aload_n 0, 1) by decide +kernel) rfl,
  fun d σ S l0 l1 => ex_getr (idx := 7) (ci := 7) (ff := 0) (n := 26) (hh := 833) (by decide +kernel)⟩
theorem kX7_feast_1 : (∀ (d : Nat) (σ : Sg) (S : List Value) (l0 l1 : Value), exec d mX7_feast 65 [l0, l1] S σ = exec d mX7_feast 66 [l0, l1] (.int (nI 2) :: S) σ) ∧
  (∀ (d : Nat) (σ : Sg) (S : List Value) (l0 l1 : Value) (k : Nat) (x : Int32), exec d mX7_feast 66 [l0, l1] (.int x :: .ref k :: S) σ = exec d mX7_feast 67 [l0, l1] (.int x :: .ref k :: .int x :: .ref k :: S) σ) ∧
  (∀ (d : Nat) (σ : Sg) (S : List Value) (l0 l1 : Value) (x : Int32), exec d mX7_feast 67 [l0, l1] (.int x :: .ref 51 :: S) σ = if inb x 208 = true then exec d mX7_feast 68 [l0, l1] (.int (σ 51 x.toNatClampNeg) :: S) σ else none) ∧
  (∀ (d : Nat) (σ : Sg) (S : List Value) (l1 : Value) (k : Nat), exec d mX7_feast 68 [.ref k, l1] S σ = exec d mX7_feast 69 [.ref k, l1] (.ref k :: S) σ) ∧
  (∀ (d : Nat) (σ : Sg) (S : List Value) (l0 l1 : Value), exec d mX7_feast 69 [l0, l1] (.ref 50 :: S) σ = exec d mX7_feast 72 [l0, l1] (.ref 51 :: S) σ) ∧
  (∀ (d : Nat) (σ : Sg) (S : List Value) (l0 l1 : Value), exec d mX7_feast 72 [l0, l1] S σ = exec d mX7_feast 74 [l0, l1] (.int (nI 47) :: S) σ) ∧
  (∀ (d : Nat) (σ : Sg) (S : List Value) (l0 : Value) (x : Int32), exec d mX7_feast 74 [l0, .int x] S σ = exec d mX7_feast 75 [l0, .int x] (.int x :: S) σ) ∧
  (∀ (d : Nat) (σ : Sg) (S : List Value) (l0 l1 : Value) (x y : Int32), exec d mX7_feast 75 [l0, l1] (.int y :: .int x :: S) σ = exec d mX7_feast 76 [l0, l1] (.int (x + y) :: S) σ) ∧
  (∀ (d : Nat) (σ : Sg) (S : List Value) (l0 l1 : Value) (x : Int32), exec d mX7_feast 76 [l0, l1] (.int x :: .ref 51 :: S) σ = if inb x 208 = true then exec d mX7_feast 77 [l0, l1] (.int (σ 51 x.toNatClampNeg) :: S) σ else none) ∧
  (∀ (d : Nat) (σ : Sg) (S : List Value) (l0 l1 : Value) (x y : Int32), exec d mX7_feast 77 [l0, l1] (.int y :: .int x :: S) σ = exec d mX7_feast 78 [l0, l1] (.int (x - y) :: S) σ) ∧
  (∀ (d : Nat) (σ : Sg) (S : List Value) (l0 l1 : Value) (x y : Int32), exec d mX7_feast 78 [l0, l1] (.int y :: .int x :: .ref 51 :: S) σ = if inb x 208 = true then exec d mX7_feast 79 [l0, l1] S (up σ 51 x.toNatClampNeg y) else none) ∧
  (∀ (d : Nat) (σ : Sg) (S : List Value) (l1 : Value) (k : Nat), exec d mX7_feast 79 [.ref k, l1] S σ = exec d mX7_feast 80 [.ref k, l1] (.ref k :: S) σ) ∧
  (∀ (d : Nat) (σ : Sg) (S : List Value) (l0 l1 : Value), exec d mX7_feast 80 [l0, l1] (.ref 50 :: S) σ = exec d mX7_feast 83 [l0, l1] (.ref 51 :: S) σ) ∧
  (∀ (d : Nat) (σ : Sg) (S : List Value) (l0 l1 : Value), exec d mX7_feast 83 [l0, l1] S σ = exec d mX7_feast 84 [l0, l1] (.int (nI 2) :: S) σ) ∧
  (∀ (d : Nat) (σ : Sg) (S : List Value) (l0 l1 : Value) (x : Int32), exec d mX7_feast 84 [l0, l1] (.int x :: .ref 51 :: S) σ = if inb x 208 = true then exec d mX7_feast 85 [l0, l1] (.int (σ 51 x.toNatClampNeg) :: S) σ else none) ∧
  (∀ (d : Nat) (σ : Sg) (l0 l1 : Value) (x : Int32), exec d mX7_feast 85 [l0, l1] [.int x] σ = some (some (.int x), σ)) :=
  ⟨fun d σ S l0 l1 => ex_iconst (show decode mX7_feast.2.1 65 = .ok (.iconst 2, 1) by decide +kernel) (by decide +kernel),
  fun d σ S l0 l1 k x => ex_dup2 (show decode mX7_feast.2.1 66 = .ok (.dup2, 1) by decide +kernel) rfl rfl,
  fun d σ S l0 l1 x => ex_iald (by decide +kernel),
  fun d σ S l1 k => ex_aload_n (show decode mX7_feast.2.1 68 = .ok (.aload_n 0, 1) by decide +kernel) rfl,
  fun d σ S l0 l1 => ex_getr (idx := 7) (ci := 7) (ff := 0) (n := 26) (hh := 833) (by decide +kernel),
  fun d σ S l0 l1 => ex_bipush (show decode mX7_feast.2.1 72 = .ok (.bipush 47, 2) by decide +kernel) (by decide +kernel),
  fun d σ S l0 x => ex_iload_n (show decode mX7_feast.2.1 74 = .ok (.iload_n 1, 1) by decide +kernel) rfl,
  fun d σ S l0 l1 x y => ex_iadd (show decode mX7_feast.2.1 75 = .ok (.iadd, 1) by decide +kernel),
  fun d σ S l0 l1 x => ex_iald (by decide +kernel),
  fun d σ S l0 l1 x y => ex_isub (show decode mX7_feast.2.1 77 = .ok (.isub, 1) by decide +kernel),
  fun d σ S l0 l1 x y => ex_iast (by decide +kernel),
  fun d σ S l1 k => ex_aload_n (show decode mX7_feast.2.1 79 = .ok (.aload_n 0, 1) by decide +kernel) rfl,
  fun d σ S l0 l1 => ex_getr (idx := 7) (ci := 7) (ff := 0) (n := 26) (hh := 833) (by decide +kernel),
  fun d σ S l0 l1 => ex_iconst (show decode mX7_feast.2.1 83 = .ok (.iconst 2, 1) by decide +kernel) (by decide +kernel),
  fun d σ S l0 l1 x => ex_iald (by decide +kernel),
  fun d σ l0 l1 x => ex_iret (show decode mX7_feast.2.1 85 = .ok (.ireturn, 1) by decide +kernel) rfl⟩
theorem aX7_feast_50 : ∀ (d : Nat) (a1 : Int32) (σ : Sg), cal (d + 1) mX7_feast [.ref 50, .int a1] σ = exec d mX7_feast 0 [.ref 50, .int a1] [] σ := fun _ _ _ => rfl
theorem kX7_idle_0 : (∀ (d : Nat) (σ : Sg) (S : List Value) (l1 l2 : Value) (k : Nat), exec d mX7_idle 0 [.ref k, l1, l2] S σ = exec d mX7_idle 1 [.ref k, l1, l2] (.ref k :: S) σ) ∧
  (∀ (d : Nat) (σ : Sg) (l0 l1 l2 : Value), exec d mX7_idle 1 [l0, l1, l2] [.ref 50] σ = kb (cal d mX7_isTrial [.ref 50] σ) (fun rs σ2 => exec d mX7_idle 4 [l0, l1, l2] (rs ++ []) σ2)) ∧
  (∀ (d : Nat) (σ : Sg) (S : List Value) (l0 l1 l2 : Value) (x : Int32), exec d mX7_idle 4 [l0, l1, l2] (.int x :: S) σ = if x = nI 0 then exec d mX7_idle 7 [l0, l1, l2] S σ else exec d mX7_idle 10 [l0, l1, l2] S σ) ∧
  (∀ (d : Nat) (σ : Sg) (S : List Value) (l0 l1 l2 : Value), exec d mX7_idle 7 [l0, l1, l2] S σ = exec d mX7_idle 9 [l0, l1, l2] (.int ((-1000002)) :: S) σ) ∧
  (∀ (d : Nat) (σ : Sg) (l0 l1 l2 : Value) (x : Int32), exec d mX7_idle 9 [l0, l1, l2] [.int x] σ = some (some (.int x), σ)) ∧
  (∀ (d : Nat) (σ : Sg) (S : List Value) (l0 l2 : Value) (x : Int32), exec d mX7_idle 10 [l0, .int x, l2] S σ = exec d mX7_idle 11 [l0, .int x, l2] (.int x :: S) σ) ∧
  (∀ (d : Nat) (σ : Sg) (S : List Value) (l0 l1 l2 : Value) (x : Int32), exec d mX7_idle 11 [l0, l1, l2] (.int x :: S) σ = exec d mX7_idle 12 [l0, l1, l2] (.long x.toInt64 :: S) σ) ∧
  (∀ (d : Nat) (σ : Sg) (S : List Value) (l0 l1 l2 : Value), exec d mX7_idle 12 [l0, l1, l2] S σ = exec d mX7_idle 13 [l0, l1, l2] (.long (lN 1) :: S) σ) ∧
  (∀ (d : Nat) (σ : Sg) (S : List Value) (l0 l1 l2 : Value), exec d mX7_idle 13 [l0, l1, l2] S σ = exec d mX7_idle 16 [l0, l1, l2] (.long (lN 20) :: S) σ) ∧
  (∀ (d : Nat) (σ : Sg) (l0 l1 l2 : Value) (x0 x1 x2 : Int64), exec d mX7_idle 16 [l0, l1, l2] [.long x0, .long x1, .long x2] σ = kb (cal d mX7_in [.long x2, .long x1, .long x0] σ) (fun rs σ2 => exec d mX7_idle 19 [l0, l1, l2] (rs ++ []) σ2)) ∧
  (∀ (d : Nat) (σ : Sg) (S : List Value) (l0 l1 l2 : Value) (x : Int32), exec d mX7_idle 19 [l0, l1, l2] (.int x :: S) σ = if x = nI 0 then exec d mX7_idle 22 [l0, l1, l2] S σ else exec d mX7_idle 25 [l0, l1, l2] S σ) ∧
  (∀ (d : Nat) (σ : Sg) (S : List Value) (l0 l1 l2 : Value), exec d mX7_idle 22 [l0, l1, l2] S σ = exec d mX7_idle 24 [l0, l1, l2] (.int ((-1000001)) :: S) σ) ∧
  (∀ (d : Nat) (σ : Sg) (l0 l1 l2 : Value) (x : Int32), exec d mX7_idle 24 [l0, l1, l2] [.int x] σ = some (some (.int x), σ)) ∧
  (∀ (d : Nat) (σ : Sg) (S : List Value) (l1 l2 : Value) (k : Nat), exec d mX7_idle 25 [.ref k, l1, l2] S σ = exec d mX7_idle 26 [.ref k, l1, l2] (.ref k :: S) σ) ∧
  (∀ (d : Nat) (σ : Sg) (S : List Value) (l0 l1 l2 : Value), exec d mX7_idle 26 [l0, l1, l2] (.ref 50 :: S) σ = exec d mX7_idle 29 [l0, l1, l2] (.ref 51 :: S) σ) ∧
  (∀ (d : Nat) (σ : Sg) (S : List Value) (l0 l1 l2 : Value), exec d mX7_idle 29 [l0, l1, l2] S σ = exec d mX7_idle 30 [l0, l1, l2] (.int (nI 1) :: S) σ) ∧
  (∀ (d : Nat) (σ : Sg) (S : List Value) (l0 l1 l2 : Value) (x : Int32), exec d mX7_idle 30 [l0, l1, l2] (.int x :: .ref 51 :: S) σ = if inb x 208 = true then exec d mX7_idle 31 [l0, l1, l2] (.int (σ 51 x.toNatClampNeg) :: S) σ else none) ∧
  (∀ (d : Nat) (σ : Sg) (S : List Value) (l0 l2 : Value) (x : Int32), exec d mX7_idle 31 [l0, .int x, l2] S σ = exec d mX7_idle 32 [l0, .int x, l2] (.int x :: S) σ) ∧
  (∀ (d : Nat) (σ : Sg) (S : List Value) (l0 l1 l2 : Value) (x y : Int32), exec d mX7_idle 32 [l0, l1, l2] (.int y :: .int x :: S) σ = if y ≤ x then exec d mX7_idle 38 [l0, l1, l2] S σ else exec d mX7_idle 35 [l0, l1, l2] S σ) ∧
  (∀ (d : Nat) (σ : Sg) (S : List Value) (l0 l1 l2 : Value), exec d mX7_idle 35 [l0, l1, l2] S σ = exec d mX7_idle 37 [l0, l1, l2] (.int ((-1000002)) :: S) σ) ∧
  (∀ (d : Nat) (σ : Sg) (l0 l1 l2 : Value) (x : Int32), exec d mX7_idle 37 [l0, l1, l2] [.int x] σ = some (some (.int x), σ)) ∧
  (∀ (d : Nat) (σ : Sg) (S : List Value) (l0 l1 l2 : Value), exec d mX7_idle 38 [l0, l1, l2] S σ = exec d mX7_idle 39 [l0, l1, l2] (.int (nI 0) :: S) σ) ∧
  (∀ (d : Nat) (σ : Sg) (S : List Value) (l0 l2 : Value) (x y : Int32), exec d mX7_idle 39 [l0, .int y, l2] (.int x :: S) σ = exec d mX7_idle 40 [l0, .int y, .int x] S σ) ∧
  (∀ (d : Nat) (σ : Sg) (S : List Value) (l0 l2 : Value) (x : Int32), exec d mX7_idle 41 [l0, .int x, l2] S σ = exec d mX7_idle 42 [l0, .int x, l2] (.int x :: S) σ) ∧
  (∀ (d : Nat) (σ : Sg) (S : List Value) (l0 l1 l2 : Value) (x y : Int32), exec d mX7_idle 42 [l0, l1, l2] (.int y :: .int x :: S) σ = if y ≤ x then exec d mX7_idle 65 [l0, l1, l2] S σ else exec d mX7_idle 45 [l0, l1, l2] S σ) ∧
  (∀ (d : Nat) (σ : Sg) (S : List Value) (l1 l2 : Value) (k : Nat), exec d mX7_idle 45 [.ref k, l1, l2] S σ = exec d mX7_idle 46 [.ref k, l1, l2] (.ref k :: S) σ) ∧
  (∀ (d : Nat) (σ : Sg) (l0 l1 l2 : Value), exec d mX7_idle 46 [l0, l1, l2] [.ref 50] σ = kb (cal d mX7_minds [.ref 50] σ) (fun rs σ2 => exec d mX7_idle 49 [l0, l1, l2] (rs ++ []) σ2)) ∧
  (∀ (d : Nat) (σ : Sg) (S : List Value) (l1 l2 : Value) (k : Nat), exec d mX7_idle 49 [.ref k, l1, l2] S σ = exec d mX7_idle 50 [.ref k, l1, l2] (.ref k :: S) σ) ∧
  (∀ (d : Nat) (σ : Sg) (S : List Value) (l0 l1 l2 : Value), exec d mX7_idle 50 [l0, l1, l2] (.ref 50 :: S) σ = exec d mX7_idle 53 [l0, l1, l2] (.ref 51 :: S) σ) ∧
  (∀ (d : Nat) (σ : Sg) (S : List Value) (l0 l1 l2 : Value), exec d mX7_idle 53 [l0, l1, l2] S σ = exec d mX7_idle 54 [l0, l1, l2] (.int (nI 1) :: S) σ) ∧
  (∀ (d : Nat) (σ : Sg) (S : List Value) (l0 l1 l2 : Value) (k : Nat) (x : Int32), exec d mX7_idle 54 [l0, l1, l2] (.int x :: .ref k :: S) σ = exec d mX7_idle 55 [l0, l1, l2] (.int x :: .ref k :: .int x :: .ref k :: S) σ) ∧
  (∀ (d : Nat) (σ : Sg) (S : List Value) (l0 l1 l2 : Value) (x : Int32), exec d mX7_idle 55 [l0, l1, l2] (.int x :: .ref 51 :: S) σ = if inb x 208 = true then exec d mX7_idle 56 [l0, l1, l2] (.int (σ 51 x.toNatClampNeg) :: S) σ else none) ∧
  (∀ (d : Nat) (σ : Sg) (S : List Value) (l0 l1 l2 : Value), exec d mX7_idle 56 [l0, l1, l2] S σ = exec d mX7_idle 57 [l0, l1, l2] (.int (nI 1) :: S) σ) ∧
  (∀ (d : Nat) (σ : Sg) (S : List Value) (l0 l1 l2 : Value) (x y : Int32), exec d mX7_idle 57 [l0, l1, l2] (.int y :: .int x :: S) σ = exec d mX7_idle 58 [l0, l1, l2] (.int (x - y) :: S) σ) ∧
  (∀ (d : Nat) (σ : Sg) (S : List Value) (l0 l1 l2 : Value) (x y : Int32), exec d mX7_idle 58 [l0, l1, l2] (.int y :: .int x :: .ref 51 :: S) σ = if inb x 208 = true then exec d mX7_idle 59 [l0, l1, l2] S (up σ 51 x.toNatClampNeg y) else none) ∧
  (∀ (d : Nat) (σ : Sg) (S : List Value) (l0 : Value) (x y : Int32), exec d mX7_idle 59 [l0, .int y, .int x] S σ = exec d mX7_idle 62 [l0, .int y, .int (x + nI 1)] S σ) ∧
  (∀ (d : Nat) (σ : Sg) (S : List Value) (l0 l1 l2 : Value), exec d mX7_idle 62 [l0, l1, l2] S σ = exec d mX7_idle 40 [l0, l1, l2] S σ) ∧
  (∀ (d : Nat) (σ : Sg) (S : List Value) (l1 l2 : Value) (k : Nat), exec d mX7_idle 65 [.ref k, l1, l2] S σ = exec d mX7_idle 66 [.ref k, l1, l2] (.ref k :: S) σ) ∧
  (∀ (d : Nat) (σ : Sg) (S : List Value) (l0 l1 l2 : Value), exec d mX7_idle 66 [l0, l1, l2] (.ref 50 :: S) σ = exec d mX7_idle 69 [l0, l1, l2] (.ref 51 :: S) σ) ∧
  (∀ (d : Nat) (σ : Sg) (S : List Value) (l0 l1 l2 : Value), exec d mX7_idle 69 [l0, l1, l2] S σ = exec d mX7_idle 70 [l0, l1, l2] (.int (nI 1) :: S) σ) :=
  ⟨fun d σ S l1 l2 k => ex_aload_n (show decode mX7_idle.2.1 0 = .ok (.aload_n 0, 1) by decide +kernel) rfl,
  fun d σ l0 l1 l2 => ex_iv (hs := [1074, 1076, 74, 1077, 101]) (show decode mX7_idle.2.1 1 = .ok (.invokevirtual 188, 3) by decide +kernel) lkV_7_188 ⟨rfl, Nat.le_of_ble_eq_true rfl, Nat.le_of_ble_eq_true rfl, fun _ => rfl⟩ rfl rfl,
  fun d σ S l0 l1 l2 x => ex_zne (show decode mX7_idle.2.1 4 = .ok (.ifCond .ne 6, 3) by decide +kernel) (by decide),
  fun d σ S l0 l1 l2 => ex_ldc (hh := 1009) (show decode mX7_idle.2.1 7 = .ok (.ldc 171, 2) by decide +kernel) (by decide +kernel),
  fun d σ l0 l1 l2 x => ex_iret (show decode mX7_idle.2.1 9 = .ok (.ireturn, 1) by decide +kernel) rfl,
  fun d σ S l0 l2 x => ex_iload_n (show decode mX7_idle.2.1 10 = .ok (.iload_n 1, 1) by decide +kernel) rfl,
  fun d σ S l0 l1 l2 x => ex_i2l (show decode mX7_idle.2.1 11 = .ok (.i2l, 1) by decide +kernel),
  fun d σ S l0 l1 l2 => ex_lconst (show decode mX7_idle.2.1 12 = .ok (.lconst 1, 1) by decide +kernel) (by decide +kernel),
  fun d σ S l0 l1 l2 => ex_ldc2 (hh := 1078) (show decode mX7_idle.2.1 13 = .ok (.ldc2_w 191, 3) by decide +kernel) (by decide +kernel),
  fun d σ l0 l1 l2 x0 x1 x2 => ex_is (hs := [920, 921, 922, 101]) (show decode mX7_idle.2.1 16 = .ok (.invokestatic 63, 3) by decide +kernel) lkS_7_63 ⟨rfl, Nat.le_of_ble_eq_true rfl, Nat.le_of_ble_eq_true rfl, fun q => nomatch q⟩ rfl rfl,
  fun d σ S l0 l1 l2 x => ex_zne (show decode mX7_idle.2.1 19 = .ok (.ifCond .ne 6, 3) by decide +kernel) (by decide),
  fun d σ S l0 l1 l2 => ex_ldc (hh := 924) (show decode mX7_idle.2.1 22 = .ok (.ldc 73, 2) by decide +kernel) (by decide +kernel),
  fun d σ l0 l1 l2 x => ex_iret (show decode mX7_idle.2.1 24 = .ok (.ireturn, 1) by decide +kernel) rfl,
  fun d σ S l1 l2 k => ex_aload_n (show decode mX7_idle.2.1 25 = .ok (.aload_n 0, 1) by decide +kernel) rfl,
  fun d σ S l0 l1 l2 => ex_getr (idx := 7) (ci := 7) (ff := 0) (n := 26) (hh := 833) (by decide +kernel),
  fun d σ S l0 l1 l2 => ex_iconst (show decode mX7_idle.2.1 29 = .ok (.iconst 1, 1) by decide +kernel) (by decide +kernel),
  fun d σ S l0 l1 l2 x => ex_iald (by decide +kernel),
  fun d σ S l0 l2 x => ex_iload_n (show decode mX7_idle.2.1 31 = .ok (.iload_n 1, 1) by decide +kernel) rfl,
  fun d σ S l0 l1 l2 x y => ex_cge (show decode mX7_idle.2.1 32 = .ok (.if_icmp .ge 6, 3) by decide +kernel) (by decide),
  fun d σ S l0 l1 l2 => ex_ldc (hh := 1009) (show decode mX7_idle.2.1 35 = .ok (.ldc 171, 2) by decide +kernel) (by decide +kernel),
  fun d σ l0 l1 l2 x => ex_iret (show decode mX7_idle.2.1 37 = .ok (.ireturn, 1) by decide +kernel) rfl,
  fun d σ S l0 l1 l2 => ex_iconst (show decode mX7_idle.2.1 38 = .ok (.iconst 0, 1) by decide +kernel) (by decide +kernel),
  fun d σ S l0 l2 x y => ex_istore_n (show decode mX7_idle.2.1 39 = .ok (.istore_n 2, 1) by decide +kernel) (Nat.le_of_ble_eq_true rfl) rfl,
  fun d σ S l0 l2 x => ex_iload_n (show decode mX7_idle.2.1 41 = .ok (.iload_n 1, 1) by decide +kernel) rfl,
  fun d σ S l0 l1 l2 x y => ex_cge (show decode mX7_idle.2.1 42 = .ok (.if_icmp .ge 23, 3) by decide +kernel) (by decide),
  fun d σ S l1 l2 k => ex_aload_n (show decode mX7_idle.2.1 45 = .ok (.aload_n 0, 1) by decide +kernel) rfl,
  fun d σ l0 l1 l2 => ex_iv (hs := [1040, 1042, 70, 1043, 101]) (show decode mX7_idle.2.1 46 = .ok (.invokevirtual 178, 3) by decide +kernel) lkV_7_178 ⟨rfl, Nat.le_of_ble_eq_true rfl, Nat.le_of_ble_eq_true rfl, fun _ => rfl⟩ rfl rfl,
  fun d σ S l1 l2 k => ex_aload_n (show decode mX7_idle.2.1 49 = .ok (.aload_n 0, 1) by decide +kernel) rfl,
  fun d σ S l0 l1 l2 => ex_getr (idx := 7) (ci := 7) (ff := 0) (n := 26) (hh := 833) (by decide +kernel),
  fun d σ S l0 l1 l2 => ex_iconst (show decode mX7_idle.2.1 53 = .ok (.iconst 1, 1) by decide +kernel) (by decide +kernel),
  fun d σ S l0 l1 l2 k x => ex_dup2 (show decode mX7_idle.2.1 54 = .ok (.dup2, 1) by decide +kernel) rfl rfl,
  fun d σ S l0 l1 l2 x => ex_iald (by decide +kernel),
  fun d σ S l0 l1 l2 => ex_iconst (show decode mX7_idle.2.1 56 = .ok (.iconst 1, 1) by decide +kernel) (by decide +kernel),
  fun d σ S l0 l1 l2 x y => ex_isub (show decode mX7_idle.2.1 57 = .ok (.isub, 1) by decide +kernel),
  fun d σ S l0 l1 l2 x y => ex_iast (by decide +kernel),
  fun d σ S l0 x y => ex_iinc (show decode mX7_idle.2.1 59 = .ok (.iinc 2 1, 3) by decide +kernel) rfl (by decide +kernel) (Nat.le_of_ble_eq_true rfl) rfl,
  fun d σ S l0 l1 l2 => ex_goto (show decode mX7_idle.2.1 62 = .ok (.goto (-22), 3) by decide +kernel) (by decide),
  fun d σ S l1 l2 k => ex_aload_n (show decode mX7_idle.2.1 65 = .ok (.aload_n 0, 1) by decide +kernel) rfl,
  fun d σ S l0 l1 l2 => ex_getr (idx := 7) (ci := 7) (ff := 0) (n := 26) (hh := 833) (by decide +kernel),
  fun d σ S l0 l1 l2 => ex_iconst (show decode mX7_idle.2.1 69 = .ok (.iconst 1, 1) by decide +kernel) (by decide +kernel)⟩
theorem kX7_idle_1 : (∀ (d : Nat) (σ : Sg) (S : List Value) (l0 l1 l2 : Value) (x : Int32), exec d mX7_idle 70 [l0, l1, l2] (.int x :: .ref 51 :: S) σ = if inb x 208 = true then exec d mX7_idle 71 [l0, l1, l2] (.int (σ 51 x.toNatClampNeg) :: S) σ else none) ∧
  (∀ (d : Nat) (σ : Sg) (l0 l1 l2 : Value) (x : Int32), exec d mX7_idle 71 [l0, l1, l2] [.int x] σ = some (some (.int x), σ)) :=
  ⟨fun d σ S l0 l1 l2 x => ex_iald (by decide +kernel),
  fun d σ l0 l1 l2 x => ex_iret (show decode mX7_idle.2.1 71 = .ok (.ireturn, 1) by decide +kernel) rfl⟩
theorem hX7_idle_40 : ∀ (d : Nat) (σ : Sg) (S : List Value) (l0 l1 : Value) (x : Int32), exec d mX7_idle 40 [l0, l1, .int x] S σ = exec d mX7_idle 41 [l0, l1, .int x] (.int x :: S) σ := fun d σ S l0 l1 x => ex_iload_n (show decode mX7_idle.2.1 40 = .ok (.iload_n 2, 1) by decide +kernel) rfl
theorem aX7_idle_50 : ∀ (d : Nat) (a1 : Int32) (σ : Sg), cal (d + 1) mX7_idle [.ref 50, .int a1] σ = exec d mX7_idle 0 [.ref 50, .int a1, uu] [] σ := fun _ _ _ => rfl
theorem kX7_lesson_0 : (∀ (d : Nat) (σ : Sg) (S : List Value) (k : Nat), exec d mX7_lesson 0 [.ref k] S σ = exec d mX7_lesson 1 [.ref k] (.ref k :: S) σ) ∧
  (∀ (d : Nat) (σ : Sg) (l0 : Value), exec d mX7_lesson 1 [l0] [.ref 50] σ = kb (cal d mX7_isTrial [.ref 50] σ) (fun rs σ2 => exec d mX7_lesson 4 [l0] (rs ++ []) σ2)) ∧
  (∀ (d : Nat) (σ : Sg) (S : List Value) (l0 : Value) (x : Int32), exec d mX7_lesson 4 [l0] (.int x :: S) σ = if x = nI 0 then exec d mX7_lesson 38 [l0] S σ else exec d mX7_lesson 7 [l0] S σ) ∧
  (∀ (d : Nat) (σ : Sg) (S : List Value) (k : Nat), exec d mX7_lesson 7 [.ref k] S σ = exec d mX7_lesson 8 [.ref k] (.ref k :: S) σ) ∧
  (∀ (d : Nat) (σ : Sg) (S : List Value) (l0 : Value), exec d mX7_lesson 8 [l0] (.ref 50 :: S) σ = exec d mX7_lesson 11 [l0] (.ref 51 :: S) σ) ∧
  (∀ (d : Nat) (σ : Sg) (S : List Value) (l0 : Value), exec d mX7_lesson 11 [l0] S σ = exec d mX7_lesson 12 [l0] (.int (nI 2) :: S) σ) ∧
  (∀ (d : Nat) (σ : Sg) (S : List Value) (l0 : Value) (x : Int32), exec d mX7_lesson 12 [l0] (.int x :: .ref 51 :: S) σ = if inb x 208 = true then exec d mX7_lesson 13 [l0] (.int (σ 51 x.toNatClampNeg) :: S) σ else none) ∧
  (∀ (d : Nat) (σ : Sg) (S : List Value) (l0 : Value), exec d mX7_lesson 13 [l0] S σ = exec d mX7_lesson 14 [l0] (.int (nI 3) :: S) σ) ∧
  (∀ (d : Nat) (σ : Sg) (S : List Value) (l0 : Value) (x y : Int32), exec d mX7_lesson 14 [l0] (.int y :: .int x :: S) σ = if x < y then exec d mX7_lesson 38 [l0] S σ else exec d mX7_lesson 17 [l0] S σ) ∧
  (∀ (d : Nat) (σ : Sg) (S : List Value) (k : Nat), exec d mX7_lesson 17 [.ref k] S σ = exec d mX7_lesson 18 [.ref k] (.ref k :: S) σ) ∧
  (∀ (d : Nat) (σ : Sg) (S : List Value) (l0 : Value), exec d mX7_lesson 18 [l0] (.ref 50 :: S) σ = exec d mX7_lesson 21 [l0] (.ref 51 :: S) σ) ∧
  (∀ (d : Nat) (σ : Sg) (S : List Value) (l0 : Value), exec d mX7_lesson 21 [l0] S σ = exec d mX7_lesson 22 [l0] (.int (nI 1) :: S) σ) ∧
  (∀ (d : Nat) (σ : Sg) (S : List Value) (l0 : Value) (x : Int32), exec d mX7_lesson 22 [l0] (.int x :: .ref 51 :: S) σ = if inb x 208 = true then exec d mX7_lesson 23 [l0] (.int (σ 51 x.toNatClampNeg) :: S) σ else none) ∧
  (∀ (d : Nat) (σ : Sg) (S : List Value) (l0 : Value), exec d mX7_lesson 23 [l0] S σ = exec d mX7_lesson 24 [l0] (.int (nI 1) :: S) σ) ∧
  (∀ (d : Nat) (σ : Sg) (S : List Value) (l0 : Value) (x y : Int32), exec d mX7_lesson 24 [l0] (.int y :: .int x :: S) σ = if x < y then exec d mX7_lesson 38 [l0] S σ else exec d mX7_lesson 27 [l0] S σ) ∧
  (∀ (d : Nat) (σ : Sg) (S : List Value) (k : Nat), exec d mX7_lesson 27 [.ref k] S σ = exec d mX7_lesson 28 [.ref k] (.ref k :: S) σ) ∧
  (∀ (d : Nat) (σ : Sg) (S : List Value) (l0 : Value), exec d mX7_lesson 28 [l0] (.ref 50 :: S) σ = exec d mX7_lesson 31 [l0] (.ref 51 :: S) σ) ∧
  (∀ (d : Nat) (σ : Sg) (S : List Value) (l0 : Value), exec d mX7_lesson 31 [l0] S σ = exec d mX7_lesson 32 [l0] (.int (nI 0) :: S) σ) ∧
  (∀ (d : Nat) (σ : Sg) (S : List Value) (l0 : Value) (x : Int32), exec d mX7_lesson 32 [l0] (.int x :: .ref 51 :: S) σ = if inb x 208 = true then exec d mX7_lesson 33 [l0] (.int (σ 51 x.toNatClampNeg) :: S) σ else none) ∧
  (∀ (d : Nat) (σ : Sg) (S : List Value) (l0 : Value), exec d mX7_lesson 33 [l0] S σ = exec d mX7_lesson 35 [l0] (.int (nI 20) :: S) σ) ∧
  (∀ (d : Nat) (σ : Sg) (S : List Value) (l0 : Value) (x y : Int32), exec d mX7_lesson 35 [l0] (.int y :: .int x :: S) σ = if x = y then exec d mX7_lesson 38 [l0] S σ else exec d mX7_lesson 41 [l0] S σ) ∧
  (∀ (d : Nat) (σ : Sg) (S : List Value) (l0 : Value), exec d mX7_lesson 38 [l0] S σ = exec d mX7_lesson 40 [l0] (.int ((-1000002)) :: S) σ) ∧
  (∀ (d : Nat) (σ : Sg) (l0 : Value) (x : Int32), exec d mX7_lesson 40 [l0] [.int x] σ = some (some (.int x), σ)) ∧
  (∀ (d : Nat) (σ : Sg) (S : List Value) (k : Nat), exec d mX7_lesson 41 [.ref k] S σ = exec d mX7_lesson 42 [.ref k] (.ref k :: S) σ) ∧
  (∀ (d : Nat) (σ : Sg) (l0 : Value), exec d mX7_lesson 42 [l0] [.ref 50] σ = kb (cal d mX7_minds [.ref 50] σ) (fun rs σ2 => exec d mX7_lesson 45 [l0] (rs ++ []) σ2)) ∧
  (∀ (d : Nat) (σ : Sg) (S : List Value) (k : Nat), exec d mX7_lesson 45 [.ref k] S σ = exec d mX7_lesson 46 [.ref k] (.ref k :: S) σ) ∧
  (∀ (d : Nat) (σ : Sg) (S : List Value) (l0 : Value), exec d mX7_lesson 46 [l0] (.ref 50 :: S) σ = exec d mX7_lesson 49 [l0] (.ref 51 :: S) σ) ∧
  (∀ (d : Nat) (σ : Sg) (S : List Value) (l0 : Value), exec d mX7_lesson 49 [l0] S σ = exec d mX7_lesson 50 [l0] (.int (nI 2) :: S) σ) ∧
  (∀ (d : Nat) (σ : Sg) (S : List Value) (l0 : Value) (k : Nat) (x : Int32), exec d mX7_lesson 50 [l0] (.int x :: .ref k :: S) σ = exec d mX7_lesson 51 [l0] (.int x :: .ref k :: .int x :: .ref k :: S) σ) ∧
  (∀ (d : Nat) (σ : Sg) (S : List Value) (l0 : Value) (x : Int32), exec d mX7_lesson 51 [l0] (.int x :: .ref 51 :: S) σ = if inb x 208 = true then exec d mX7_lesson 52 [l0] (.int (σ 51 x.toNatClampNeg) :: S) σ else none) ∧
  (∀ (d : Nat) (σ : Sg) (S : List Value) (l0 : Value), exec d mX7_lesson 52 [l0] S σ = exec d mX7_lesson 53 [l0] (.int (nI 3) :: S) σ) ∧
  (∀ (d : Nat) (σ : Sg) (S : List Value) (l0 : Value) (x y : Int32), exec d mX7_lesson 53 [l0] (.int y :: .int x :: S) σ = exec d mX7_lesson 54 [l0] (.int (x - y) :: S) σ) ∧
  (∀ (d : Nat) (σ : Sg) (S : List Value) (l0 : Value) (x y : Int32), exec d mX7_lesson 54 [l0] (.int y :: .int x :: .ref 51 :: S) σ = if inb x 208 = true then exec d mX7_lesson 55 [l0] S (up σ 51 x.toNatClampNeg y) else none) ∧
  (∀ (d : Nat) (σ : Sg) (S : List Value) (k : Nat), exec d mX7_lesson 55 [.ref k] S σ = exec d mX7_lesson 56 [.ref k] (.ref k :: S) σ) ∧
  (∀ (d : Nat) (σ : Sg) (S : List Value) (l0 : Value), exec d mX7_lesson 56 [l0] (.ref 50 :: S) σ = exec d mX7_lesson 59 [l0] (.ref 51 :: S) σ) ∧
  (∀ (d : Nat) (σ : Sg) (S : List Value) (l0 : Value), exec d mX7_lesson 59 [l0] S σ = exec d mX7_lesson 60 [l0] (.int (nI 1) :: S) σ) ∧
  (∀ (d : Nat) (σ : Sg) (S : List Value) (l0 : Value) (k : Nat) (x : Int32), exec d mX7_lesson 60 [l0] (.int x :: .ref k :: S) σ = exec d mX7_lesson 61 [l0] (.int x :: .ref k :: .int x :: .ref k :: S) σ) ∧
  (∀ (d : Nat) (σ : Sg) (S : List Value) (l0 : Value) (x : Int32), exec d mX7_lesson 61 [l0] (.int x :: .ref 51 :: S) σ = if inb x 208 = true then exec d mX7_lesson 62 [l0] (.int (σ 51 x.toNatClampNeg) :: S) σ else none) ∧
  (∀ (d : Nat) (σ : Sg) (S : List Value) (l0 : Value), exec d mX7_lesson 62 [l0] S σ = exec d mX7_lesson 63 [l0] (.int (nI 1) :: S) σ) ∧
  (∀ (d : Nat) (σ : Sg) (S : List Value) (l0 : Value) (x y : Int32), exec d mX7_lesson 63 [l0] (.int y :: .int x :: S) σ = exec d mX7_lesson 64 [l0] (.int (x - y) :: S) σ) :=
  ⟨fun d σ S k => ex_aload_n (show decode mX7_lesson.2.1 0 = .ok (.aload_n 0, 1) by decide +kernel) rfl,
  fun d σ l0 => ex_iv (hs := [1074, 1076, 74, 1077, 101]) (show decode mX7_lesson.2.1 1 = .ok (.invokevirtual 188, 3) by decide +kernel) lkV_7_188 ⟨rfl, Nat.le_of_ble_eq_true rfl, Nat.le_of_ble_eq_true rfl, fun _ => rfl⟩ rfl rfl,
  fun d σ S l0 x => ex_zeq (show decode mX7_lesson.2.1 4 = .ok (.ifCond .eq 34, 3) by decide +kernel) (by decide),
  fun d σ S k => ex_aload_n (show decode mX7_lesson.2.1 7 = .ok (.aload_n 0, 1) by decide +kernel) rfl,
  fun d σ S l0 => ex_getr (idx := 7) (ci := 7) (ff := 0) (n := 26) (hh := 833) (by decide +kernel),
  fun d σ S l0 => ex_iconst (show decode mX7_lesson.2.1 11 = .ok (.iconst 2, 1) by decide +kernel) (by decide +kernel),
  fun d σ S l0 x => ex_iald (by decide +kernel),
  fun d σ S l0 => ex_iconst (show decode mX7_lesson.2.1 13 = .ok (.iconst 3, 1) by decide +kernel) (by decide +kernel),
  fun d σ S l0 x y => ex_clt (show decode mX7_lesson.2.1 14 = .ok (.if_icmp .lt 24, 3) by decide +kernel) (by decide),
  fun d σ S k => ex_aload_n (show decode mX7_lesson.2.1 17 = .ok (.aload_n 0, 1) by decide +kernel) rfl,
  fun d σ S l0 => ex_getr (idx := 7) (ci := 7) (ff := 0) (n := 26) (hh := 833) (by decide +kernel),
  fun d σ S l0 => ex_iconst (show decode mX7_lesson.2.1 21 = .ok (.iconst 1, 1) by decide +kernel) (by decide +kernel),
  fun d σ S l0 x => ex_iald (by decide +kernel),
  fun d σ S l0 => ex_iconst (show decode mX7_lesson.2.1 23 = .ok (.iconst 1, 1) by decide +kernel) (by decide +kernel),
  fun d σ S l0 x y => ex_clt (show decode mX7_lesson.2.1 24 = .ok (.if_icmp .lt 14, 3) by decide +kernel) (by decide),
  fun d σ S k => ex_aload_n (show decode mX7_lesson.2.1 27 = .ok (.aload_n 0, 1) by decide +kernel) rfl,
  fun d σ S l0 => ex_getr (idx := 7) (ci := 7) (ff := 0) (n := 26) (hh := 833) (by decide +kernel),
  fun d σ S l0 => ex_iconst (show decode mX7_lesson.2.1 31 = .ok (.iconst 0, 1) by decide +kernel) (by decide +kernel),
  fun d σ S l0 x => ex_iald (by decide +kernel),
  fun d σ S l0 => ex_bipush (show decode mX7_lesson.2.1 33 = .ok (.bipush 20, 2) by decide +kernel) (by decide +kernel),
  fun d σ S l0 x y => ex_cne (show decode mX7_lesson.2.1 35 = .ok (.if_icmp .ne 6, 3) by decide +kernel) (by decide),
  fun d σ S l0 => ex_ldc (hh := 1009) (show decode mX7_lesson.2.1 38 = .ok (.ldc 171, 2) by decide +kernel) (by decide +kernel),
  fun d σ l0 x => ex_iret (show decode mX7_lesson.2.1 40 = .ok (.ireturn, 1) by decide +kernel) rfl,
  fun d σ S k => ex_aload_n (show decode mX7_lesson.2.1 41 = .ok (.aload_n 0, 1) by decide +kernel) rfl,
  fun d σ l0 => ex_iv (hs := [1040, 1042, 70, 1043, 101]) (show decode mX7_lesson.2.1 42 = .ok (.invokevirtual 178, 3) by decide +kernel) lkV_7_178 ⟨rfl, Nat.le_of_ble_eq_true rfl, Nat.le_of_ble_eq_true rfl, fun _ => rfl⟩ rfl rfl,
  fun d σ S k => ex_aload_n (show decode mX7_lesson.2.1 45 = .ok (.aload_n 0, 1) by decide +kernel) rfl,
  fun d σ S l0 => ex_getr (idx := 7) (ci := 7) (ff := 0) (n := 26) (hh := 833) (by decide +kernel),
  fun d σ S l0 => ex_iconst (show decode mX7_lesson.2.1 49 = .ok (.iconst 2, 1) by decide +kernel) (by decide +kernel),
  fun d σ S l0 k x => ex_dup2 (show decode mX7_lesson.2.1 50 = .ok (.dup2, 1) by decide +kernel) rfl rfl,
  fun d σ S l0 x => ex_iald (by decide +kernel),
  fun d σ S l0 => ex_iconst (show decode mX7_lesson.2.1 52 = .ok (.iconst 3, 1) by decide +kernel) (by decide +kernel),
  fun d σ S l0 x y => ex_isub (show decode mX7_lesson.2.1 53 = .ok (.isub, 1) by decide +kernel),
  fun d σ S l0 x y => ex_iast (by decide +kernel),
  fun d σ S k => ex_aload_n (show decode mX7_lesson.2.1 55 = .ok (.aload_n 0, 1) by decide +kernel) rfl,
  fun d σ S l0 => ex_getr (idx := 7) (ci := 7) (ff := 0) (n := 26) (hh := 833) (by decide +kernel),
  fun d σ S l0 => ex_iconst (show decode mX7_lesson.2.1 59 = .ok (.iconst 1, 1) by decide +kernel) (by decide +kernel),
  fun d σ S l0 k x => ex_dup2 (show decode mX7_lesson.2.1 60 = .ok (.dup2, 1) by decide +kernel) rfl rfl,
  fun d σ S l0 x => ex_iald (by decide +kernel),
  fun d σ S l0 => ex_iconst (show decode mX7_lesson.2.1 62 = .ok (.iconst 1, 1) by decide +kernel) (by decide +kernel),
  fun d σ S l0 x y => ex_isub (show decode mX7_lesson.2.1 63 = .ok (.isub, 1) by decide +kernel)⟩
theorem kX7_lesson_1 : (∀ (d : Nat) (σ : Sg) (S : List Value) (l0 : Value) (x y : Int32), exec d mX7_lesson 64 [l0] (.int y :: .int x :: .ref 51 :: S) σ = if inb x 208 = true then exec d mX7_lesson 65 [l0] S (up σ 51 x.toNatClampNeg y) else none) ∧
  (∀ (d : Nat) (σ : Sg) (S : List Value) (k : Nat), exec d mX7_lesson 65 [.ref k] S σ = exec d mX7_lesson 66 [.ref k] (.ref k :: S) σ) ∧
  (∀ (d : Nat) (σ : Sg) (S : List Value) (l0 : Value), exec d mX7_lesson 66 [l0] (.ref 50 :: S) σ = exec d mX7_lesson 69 [l0] (.ref 51 :: S) σ) ∧
  (∀ (d : Nat) (σ : Sg) (S : List Value) (l0 : Value), exec d mX7_lesson 69 [l0] S σ = exec d mX7_lesson 70 [l0] (.int (nI 0) :: S) σ) ∧
  (∀ (d : Nat) (σ : Sg) (S : List Value) (l0 : Value) (k : Nat) (x : Int32), exec d mX7_lesson 70 [l0] (.int x :: .ref k :: S) σ = exec d mX7_lesson 71 [l0] (.int x :: .ref k :: .int x :: .ref k :: S) σ) ∧
  (∀ (d : Nat) (σ : Sg) (S : List Value) (l0 : Value) (x : Int32), exec d mX7_lesson 71 [l0] (.int x :: .ref 51 :: S) σ = if inb x 208 = true then exec d mX7_lesson 72 [l0] (.int (σ 51 x.toNatClampNeg) :: S) σ else none) ∧
  (∀ (d : Nat) (σ : Sg) (S : List Value) (l0 : Value), exec d mX7_lesson 72 [l0] S σ = exec d mX7_lesson 73 [l0] (.int (nI 1) :: S) σ) ∧
  (∀ (d : Nat) (σ : Sg) (S : List Value) (l0 : Value) (x y : Int32), exec d mX7_lesson 73 [l0] (.int y :: .int x :: S) σ = exec d mX7_lesson 74 [l0] (.int (x + y) :: S) σ) ∧
  (∀ (d : Nat) (σ : Sg) (S : List Value) (l0 : Value) (x y : Int32), exec d mX7_lesson 74 [l0] (.int y :: .int x :: .ref 51 :: S) σ = if inb x 208 = true then exec d mX7_lesson 75 [l0] S (up σ 51 x.toNatClampNeg y) else none) ∧
  (∀ (d : Nat) (σ : Sg) (S : List Value) (k : Nat), exec d mX7_lesson 75 [.ref k] S σ = exec d mX7_lesson 76 [.ref k] (.ref k :: S) σ) ∧
  (∀ (d : Nat) (σ : Sg) (S : List Value) (l0 : Value), exec d mX7_lesson 76 [l0] (.ref 50 :: S) σ = exec d mX7_lesson 79 [l0] (.ref 51 :: S) σ) ∧
  (∀ (d : Nat) (σ : Sg) (S : List Value) (l0 : Value), exec d mX7_lesson 79 [l0] S σ = exec d mX7_lesson 80 [l0] (.int (nI 0) :: S) σ) ∧
  (∀ (d : Nat) (σ : Sg) (S : List Value) (l0 : Value) (x : Int32), exec d mX7_lesson 80 [l0] (.int x :: .ref 51 :: S) σ = if inb x 208 = true then exec d mX7_lesson 81 [l0] (.int (σ 51 x.toNatClampNeg) :: S) σ else none) ∧
  (∀ (d : Nat) (σ : Sg) (l0 : Value) (x : Int32), exec d mX7_lesson 81 [l0] [.int x] σ = some (some (.int x), σ)) :=
  ⟨fun d σ S l0 x y => ex_iast (by decide +kernel),
  fun d σ S k => ex_aload_n (show decode mX7_lesson.2.1 65 = .ok (.aload_n 0, 1) by decide +kernel) rfl,
  fun d σ S l0 => ex_getr (idx := 7) (ci := 7) (ff := 0) (n := 26) (hh := 833) (by decide +kernel),
  fun d σ S l0 => ex_iconst (show decode mX7_lesson.2.1 69 = .ok (.iconst 0, 1) by decide +kernel) (by decide +kernel),
  fun d σ S l0 k x => ex_dup2 (show decode mX7_lesson.2.1 70 = .ok (.dup2, 1) by decide +kernel) rfl rfl,
  fun d σ S l0 x => ex_iald (by decide +kernel),
  fun d σ S l0 => ex_iconst (show decode mX7_lesson.2.1 72 = .ok (.iconst 1, 1) by decide +kernel) (by decide +kernel),
  fun d σ S l0 x y => ex_iadd (show decode mX7_lesson.2.1 73 = .ok (.iadd, 1) by decide +kernel),
  fun d σ S l0 x y => ex_iast (by decide +kernel),
  fun d σ S k => ex_aload_n (show decode mX7_lesson.2.1 75 = .ok (.aload_n 0, 1) by decide +kernel) rfl,
  fun d σ S l0 => ex_getr (idx := 7) (ci := 7) (ff := 0) (n := 26) (hh := 833) (by decide +kernel),
  fun d σ S l0 => ex_iconst (show decode mX7_lesson.2.1 79 = .ok (.iconst 0, 1) by decide +kernel) (by decide +kernel),
  fun d σ S l0 x => ex_iald (by decide +kernel),
  fun d σ l0 x => ex_iret (show decode mX7_lesson.2.1 81 = .ok (.ireturn, 1) by decide +kernel) rfl⟩
theorem aX7_lesson_50 : ∀ (d : Nat)  (σ : Sg), cal (d + 1) mX7_lesson [.ref 50] σ = exec d mX7_lesson 0 [.ref 50] [] σ := fun _ _ => rfl
theorem kX7_isFound_0 : (∀ (d : Nat) (σ : Sg) (S : List Value) (l1 l2 l3 : Value) (k : Nat), exec d mX7_isFound 0 [.ref k, l1, l2, l3] S σ = exec d mX7_isFound 1 [.ref k, l1, l2, l3] (.ref k :: S) σ) ∧
  (∀ (d : Nat) (σ : Sg) (S : List Value) (l0 l1 l2 l3 : Value), exec d mX7_isFound 1 [l0, l1, l2, l3] (.ref 50 :: S) σ = exec d mX7_isFound 4 [l0, l1, l2, l3] (.ref 51 :: S) σ) ∧
  (∀ (d : Nat) (σ : Sg) (S : List Value) (l0 l1 l2 l3 : Value), exec d mX7_isFound 4 [l0, l1, l2, l3] S σ = exec d mX7_isFound 6 [l0, l1, l2, l3] (.int (nI 37) :: S) σ) ∧
  (∀ (d : Nat) (σ : Sg) (S : List Value) (l0 l2 l3 : Value) (x : Int32), exec d mX7_isFound 6 [l0, .int x, l2, l3] S σ = exec d mX7_isFound 7 [l0, .int x, l2, l3] (.int x :: S) σ) ∧
  (∀ (d : Nat) (σ : Sg) (S : List Value) (l0 l1 l2 l3 : Value) (x y : Int32), exec d mX7_isFound 7 [l0, l1, l2, l3] (.int y :: .int x :: S) σ = exec d mX7_isFound 8 [l0, l1, l2, l3] (.int (x + y) :: S) σ) ∧
  (∀ (d : Nat) (σ : Sg) (S : List Value) (l0 l1 l2 l3 : Value) (x : Int32), exec d mX7_isFound 8 [l0, l1, l2, l3] (.int x :: .ref 51 :: S) σ = if inb x 208 = true then exec d mX7_isFound 9 [l0, l1, l2, l3] (.int (σ 51 x.toNatClampNeg) :: S) σ else none) ∧
  (∀ (d : Nat) (σ : Sg) (S : List Value) (l0 l1 l3 : Value) (x y : Int32), exec d mX7_isFound 9 [l0, l1, .int y, l3] (.int x :: S) σ = exec d mX7_isFound 10 [l0, l1, .int y, .int x] S σ) ∧
  (∀ (d : Nat) (σ : Sg) (S : List Value) (l1 l2 l3 : Value) (k : Nat), exec d mX7_isFound 10 [.ref k, l1, l2, l3] S σ = exec d mX7_isFound 11 [.ref k, l1, l2, l3] (.ref k :: S) σ) ∧
  (∀ (d : Nat) (σ : Sg) (S : List Value) (l0 l1 l2 l3 : Value), exec d mX7_isFound 11 [l0, l1, l2, l3] (.ref 50 :: S) σ = exec d mX7_isFound 14 [l0, l1, l2, l3] (.ref 51 :: S) σ) ∧
  (∀ (d : Nat) (σ : Sg) (S : List Value) (l0 l1 l2 l3 : Value), exec d mX7_isFound 14 [l0, l1, l2, l3] S σ = exec d mX7_isFound 16 [l0, l1, l2, l3] (.int (nI 9) :: S) σ) ∧
  (∀ (d : Nat) (σ : Sg) (S : List Value) (l0 l1 l3 : Value) (x : Int32), exec d mX7_isFound 16 [l0, l1, .int x, l3] S σ = exec d mX7_isFound 17 [l0, l1, .int x, l3] (.int x :: S) σ) ∧
  (∀ (d : Nat) (σ : Sg) (S : List Value) (l0 l1 l2 l3 : Value) (x y : Int32), exec d mX7_isFound 17 [l0, l1, l2, l3] (.int y :: .int x :: S) σ = exec d mX7_isFound 18 [l0, l1, l2, l3] (.int (x + y) :: S) σ) ∧
  (∀ (d : Nat) (σ : Sg) (S : List Value) (l0 l1 l2 l3 : Value) (x : Int32), exec d mX7_isFound 18 [l0, l1, l2, l3] (.int x :: .ref 51 :: S) σ = if inb x 208 = true then exec d mX7_isFound 19 [l0, l1, l2, l3] (.int (σ 51 x.toNatClampNeg) :: S) σ else none) ∧
  (∀ (d : Nat) (σ : Sg) (S : List Value) (l0 l1 l2 l3 : Value) (x : Int32), exec d mX7_isFound 19 [l0, l1, l2, l3] (.int x :: S) σ = (if x = nI 3 then exec d mX7_isFound 44 [l0, l1, l2, l3] S σ else (if x = nI 4 then exec d mX7_isFound 63 [l0, l1, l2, l3] S σ else (if x = nI 5 then exec d mX7_isFound 75 [l0, l1, l2, l3] S σ else exec d mX7_isFound 87 [l0, l1, l2, l3] S σ)))) ∧
  (∀ (d : Nat) (σ : Sg) (S : List Value) (l0 l1 l2 : Value) (x : Int32), exec d mX7_isFound 44 [l0, l1, l2, .int x] S σ = exec d mX7_isFound 45 [l0, l1, l2, .int x] (.int x :: S) σ) ∧
  (∀ (d : Nat) (σ : Sg) (S : List Value) (l1 l2 l3 : Value) (k : Nat), exec d mX7_isFound 45 [.ref k, l1, l2, l3] S σ = exec d mX7_isFound 46 [.ref k, l1, l2, l3] (.ref k :: S) σ) ∧
  (∀ (d : Nat) (σ : Sg) (S : List Value) (l0 l1 l2 l3 : Value), exec d mX7_isFound 46 [l0, l1, l2, l3] (.ref 50 :: S) σ = exec d mX7_isFound 49 [l0, l1, l2, l3] (.ref 51 :: S) σ) ∧
  (∀ (d : Nat) (σ : Sg) (S : List Value) (l0 l1 l2 l3 : Value), exec d mX7_isFound 49 [l0, l1, l2, l3] S σ = exec d mX7_isFound 51 [l0, l1, l2, l3] (.int (nI 16) :: S) σ) ∧
  (∀ (d : Nat) (σ : Sg) (S : List Value) (l0 l1 l3 : Value) (x : Int32), exec d mX7_isFound 51 [l0, l1, .int x, l3] S σ = exec d mX7_isFound 52 [l0, l1, .int x, l3] (.int x :: S) σ) ∧
  (∀ (d : Nat) (σ : Sg) (S : List Value) (l0 l1 l2 l3 : Value) (x y : Int32), exec d mX7_isFound 52 [l0, l1, l2, l3] (.int y :: .int x :: S) σ = exec d mX7_isFound 53 [l0, l1, l2, l3] (.int (x + y) :: S) σ) ∧
  (∀ (d : Nat) (σ : Sg) (S : List Value) (l0 l1 l2 l3 : Value) (x : Int32), exec d mX7_isFound 53 [l0, l1, l2, l3] (.int x :: .ref 51 :: S) σ = if inb x 208 = true then exec d mX7_isFound 54 [l0, l1, l2, l3] (.int (σ 51 x.toNatClampNeg) :: S) σ else none) ∧
  (∀ (d : Nat) (σ : Sg) (S : List Value) (l0 l1 l2 l3 : Value) (x y : Int32), exec d mX7_isFound 54 [l0, l1, l2, l3] (.int y :: .int x :: S) σ = if x < y then exec d mX7_isFound 61 [l0, l1, l2, l3] S σ else exec d mX7_isFound 57 [l0, l1, l2, l3] S σ) ∧
  (∀ (d : Nat) (σ : Sg) (S : List Value) (l0 l1 l2 l3 : Value), exec d mX7_isFound 57 [l0, l1, l2, l3] S σ = exec d mX7_isFound 58 [l0, l1, l2, l3] (.int (nI 1) :: S) σ) ∧
  (∀ (d : Nat) (σ : Sg) (S : List Value) (l0 l1 l2 l3 : Value), exec d mX7_isFound 58 [l0, l1, l2, l3] S σ = exec d mX7_isFound 62 [l0, l1, l2, l3] S σ) ∧
  (∀ (d : Nat) (σ : Sg) (S : List Value) (l0 l1 l2 l3 : Value), exec d mX7_isFound 61 [l0, l1, l2, l3] S σ = exec d mX7_isFound 62 [l0, l1, l2, l3] (.int (nI 0) :: S) σ) ∧
  (∀ (d : Nat) (σ : Sg) (l0 l1 l2 l3 : Value) (x : Int32), exec d mX7_isFound 62 [l0, l1, l2, l3] [.int x] σ = if b01 x = true then some (some (.int x), σ) else none) ∧
  (∀ (d : Nat) (σ : Sg) (S : List Value) (l0 l1 l2 : Value) (x : Int32), exec d mX7_isFound 63 [l0, l1, l2, .int x] S σ = exec d mX7_isFound 64 [l0, l1, l2, .int x] (.int x :: S) σ) ∧
  (∀ (d : Nat) (σ : Sg) (S : List Value) (l0 l1 l2 l3 : Value), exec d mX7_isFound 64 [l0, l1, l2, l3] S σ = exec d mX7_isFound 66 [l0, l1, l2, l3] (.int (nI 10) :: S) σ) ∧
  (∀ (d : Nat) (σ : Sg) (S : List Value) (l0 l1 l2 l3 : Value) (x y : Int32), exec d mX7_isFound 66 [l0, l1, l2, l3] (.int y :: .int x :: S) σ = if x ≤ y then exec d mX7_isFound 73 [l0, l1, l2, l3] S σ else exec d mX7_isFound 69 [l0, l1, l2, l3] S σ) ∧
  (∀ (d : Nat) (σ : Sg) (S : List Value) (l0 l1 l2 l3 : Value), exec d mX7_isFound 69 [l0, l1, l2, l3] S σ = exec d mX7_isFound 70 [l0, l1, l2, l3] (.int (nI 1) :: S) σ) ∧
  (∀ (d : Nat) (σ : Sg) (S : List Value) (l0 l1 l2 l3 : Value), exec d mX7_isFound 70 [l0, l1, l2, l3] S σ = exec d mX7_isFound 74 [l0, l1, l2, l3] S σ) ∧
  (∀ (d : Nat) (σ : Sg) (S : List Value) (l0 l1 l2 l3 : Value), exec d mX7_isFound 73 [l0, l1, l2, l3] S σ = exec d mX7_isFound 74 [l0, l1, l2, l3] (.int (nI 0) :: S) σ) ∧
  (∀ (d : Nat) (σ : Sg) (l0 l1 l2 l3 : Value) (x : Int32), exec d mX7_isFound 74 [l0, l1, l2, l3] [.int x] σ = if b01 x = true then some (some (.int x), σ) else none) ∧
  (∀ (d : Nat) (σ : Sg) (S : List Value) (l0 l1 l2 : Value) (x : Int32), exec d mX7_isFound 75 [l0, l1, l2, .int x] S σ = exec d mX7_isFound 76 [l0, l1, l2, .int x] (.int x :: S) σ) ∧
  (∀ (d : Nat) (σ : Sg) (S : List Value) (l0 l1 l2 l3 : Value), exec d mX7_isFound 76 [l0, l1, l2, l3] S σ = exec d mX7_isFound 78 [l0, l1, l2, l3] (.int (nI 15) :: S) σ) ∧
  (∀ (d : Nat) (σ : Sg) (S : List Value) (l0 l1 l2 l3 : Value) (x y : Int32), exec d mX7_isFound 78 [l0, l1, l2, l3] (.int y :: .int x :: S) σ = if x ≤ y then exec d mX7_isFound 85 [l0, l1, l2, l3] S σ else exec d mX7_isFound 81 [l0, l1, l2, l3] S σ) ∧
  (∀ (d : Nat) (σ : Sg) (S : List Value) (l0 l1 l2 l3 : Value), exec d mX7_isFound 81 [l0, l1, l2, l3] S σ = exec d mX7_isFound 82 [l0, l1, l2, l3] (.int (nI 1) :: S) σ) ∧
  (∀ (d : Nat) (σ : Sg) (S : List Value) (l0 l1 l2 l3 : Value), exec d mX7_isFound 82 [l0, l1, l2, l3] S σ = exec d mX7_isFound 86 [l0, l1, l2, l3] S σ) ∧
  (∀ (d : Nat) (σ : Sg) (S : List Value) (l0 l1 l2 l3 : Value), exec d mX7_isFound 85 [l0, l1, l2, l3] S σ = exec d mX7_isFound 86 [l0, l1, l2, l3] (.int (nI 0) :: S) σ) ∧
  (∀ (d : Nat) (σ : Sg) (l0 l1 l2 l3 : Value) (x : Int32), exec d mX7_isFound 86 [l0, l1, l2, l3] [.int x] σ = if b01 x = true then some (some (.int x), σ) else none) :=
  ⟨fun d σ S l1 l2 l3 k => ex_aload_n (show decode mX7_isFound.2.1 0 = .ok (.aload_n 0, 1) by decide +kernel) rfl,
  fun d σ S l0 l1 l2 l3 => ex_getr (idx := 7) (ci := 7) (ff := 0) (n := 26) (hh := 833) (by decide +kernel),
  fun d σ S l0 l1 l2 l3 => ex_bipush (show decode mX7_isFound.2.1 4 = .ok (.bipush 37, 2) by decide +kernel) (by decide +kernel),
  fun d σ S l0 l2 l3 x => ex_iload_n (show decode mX7_isFound.2.1 6 = .ok (.iload_n 1, 1) by decide +kernel) rfl,
  fun d σ S l0 l1 l2 l3 x y => ex_iadd (show decode mX7_isFound.2.1 7 = .ok (.iadd, 1) by decide +kernel),
  fun d σ S l0 l1 l2 l3 x => ex_iald (by decide +kernel),
  fun d σ S l0 l1 l3 x y => ex_istore_n (show decode mX7_isFound.2.1 9 = .ok (.istore_n 3, 1) by decide +kernel) (Nat.le_of_ble_eq_true rfl) rfl,
  fun d σ S l1 l2 l3 k => ex_aload_n (show decode mX7_isFound.2.1 10 = .ok (.aload_n 0, 1) by decide +kernel) rfl,
  fun d σ S l0 l1 l2 l3 => ex_getr (idx := 7) (ci := 7) (ff := 0) (n := 26) (hh := 833) (by decide +kernel),
  fun d σ S l0 l1 l2 l3 => ex_bipush (show decode mX7_isFound.2.1 14 = .ok (.bipush 9, 2) by decide +kernel) (by decide +kernel),
  fun d σ S l0 l1 l3 x => ex_iload_n (show decode mX7_isFound.2.1 16 = .ok (.iload_n 2, 1) by decide +kernel) rfl,
  fun d σ S l0 l1 l2 l3 x y => ex_iadd (show decode mX7_isFound.2.1 17 = .ok (.iadd, 1) by decide +kernel),
  fun d σ S l0 l1 l2 l3 x => ex_iald (by decide +kernel),
  fun d σ S l0 l1 l2 l3 x => ex_tsw (lo := 3) (df := 87) (ts := [44, 63, 75]) (show decode mX7_isFound.2.1 19 = .ok (.tableswitch 68 3 5 #[25, 44, 56], 25) by decide +kernel) (by decide) (by decide) (by decide) (by decide),
  fun d σ S l0 l1 l2 x => ex_iload_n (show decode mX7_isFound.2.1 44 = .ok (.iload_n 3, 1) by decide +kernel) rfl,
  fun d σ S l1 l2 l3 k => ex_aload_n (show decode mX7_isFound.2.1 45 = .ok (.aload_n 0, 1) by decide +kernel) rfl,
  fun d σ S l0 l1 l2 l3 => ex_getr (idx := 7) (ci := 7) (ff := 0) (n := 26) (hh := 833) (by decide +kernel),
  fun d σ S l0 l1 l2 l3 => ex_bipush (show decode mX7_isFound.2.1 49 = .ok (.bipush 16, 2) by decide +kernel) (by decide +kernel),
  fun d σ S l0 l1 l3 x => ex_iload_n (show decode mX7_isFound.2.1 51 = .ok (.iload_n 2, 1) by decide +kernel) rfl,
  fun d σ S l0 l1 l2 l3 x y => ex_iadd (show decode mX7_isFound.2.1 52 = .ok (.iadd, 1) by decide +kernel),
  fun d σ S l0 l1 l2 l3 x => ex_iald (by decide +kernel),
  fun d σ S l0 l1 l2 l3 x y => ex_clt (show decode mX7_isFound.2.1 54 = .ok (.if_icmp .lt 7, 3) by decide +kernel) (by decide),
  fun d σ S l0 l1 l2 l3 => ex_iconst (show decode mX7_isFound.2.1 57 = .ok (.iconst 1, 1) by decide +kernel) (by decide +kernel),
  fun d σ S l0 l1 l2 l3 => ex_goto (show decode mX7_isFound.2.1 58 = .ok (.goto 4, 3) by decide +kernel) (by decide),
  fun d σ S l0 l1 l2 l3 => ex_iconst (show decode mX7_isFound.2.1 61 = .ok (.iconst 0, 1) by decide +kernel) (by decide +kernel),
  fun d σ l0 l1 l2 l3 x => ex_zret (show decode mX7_isFound.2.1 62 = .ok (.ireturn, 1) by decide +kernel) rfl,
  fun d σ S l0 l1 l2 x => ex_iload_n (show decode mX7_isFound.2.1 63 = .ok (.iload_n 3, 1) by decide +kernel) rfl,
  fun d σ S l0 l1 l2 l3 => ex_bipush (show decode mX7_isFound.2.1 64 = .ok (.bipush 10, 2) by decide +kernel) (by decide +kernel),
  fun d σ S l0 l1 l2 l3 x y => ex_cle (show decode mX7_isFound.2.1 66 = .ok (.if_icmp .le 7, 3) by decide +kernel) (by decide),
  fun d σ S l0 l1 l2 l3 => ex_iconst (show decode mX7_isFound.2.1 69 = .ok (.iconst 1, 1) by decide +kernel) (by decide +kernel),
  fun d σ S l0 l1 l2 l3 => ex_goto (show decode mX7_isFound.2.1 70 = .ok (.goto 4, 3) by decide +kernel) (by decide),
  fun d σ S l0 l1 l2 l3 => ex_iconst (show decode mX7_isFound.2.1 73 = .ok (.iconst 0, 1) by decide +kernel) (by decide +kernel),
  fun d σ l0 l1 l2 l3 x => ex_zret (show decode mX7_isFound.2.1 74 = .ok (.ireturn, 1) by decide +kernel) rfl,
  fun d σ S l0 l1 l2 x => ex_iload_n (show decode mX7_isFound.2.1 75 = .ok (.iload_n 3, 1) by decide +kernel) rfl,
  fun d σ S l0 l1 l2 l3 => ex_bipush (show decode mX7_isFound.2.1 76 = .ok (.bipush 15, 2) by decide +kernel) (by decide +kernel),
  fun d σ S l0 l1 l2 l3 x y => ex_cle (show decode mX7_isFound.2.1 78 = .ok (.if_icmp .le 7, 3) by decide +kernel) (by decide),
  fun d σ S l0 l1 l2 l3 => ex_iconst (show decode mX7_isFound.2.1 81 = .ok (.iconst 1, 1) by decide +kernel) (by decide +kernel),
  fun d σ S l0 l1 l2 l3 => ex_goto (show decode mX7_isFound.2.1 82 = .ok (.goto 4, 3) by decide +kernel) (by decide),
  fun d σ S l0 l1 l2 l3 => ex_iconst (show decode mX7_isFound.2.1 85 = .ok (.iconst 0, 1) by decide +kernel) (by decide +kernel),
  fun d σ l0 l1 l2 l3 x => ex_zret (show decode mX7_isFound.2.1 86 = .ok (.ireturn, 1) by decide +kernel) rfl⟩
theorem kX7_isFound_1 : (∀ (d : Nat) (σ : Sg) (S : List Value) (l0 l1 l2 l3 : Value), exec d mX7_isFound 87 [l0, l1, l2, l3] S σ = exec d mX7_isFound 88 [l0, l1, l2, l3] (.int (nI 1) :: S) σ) ∧
  (∀ (d : Nat) (σ : Sg) (l0 l1 l2 l3 : Value) (x : Int32), exec d mX7_isFound 88 [l0, l1, l2, l3] [.int x] σ = if b01 x = true then some (some (.int x), σ) else none) :=
  ⟨fun d σ S l0 l1 l2 l3 => ex_iconst (show decode mX7_isFound.2.1 87 = .ok (.iconst 1, 1) by decide +kernel) (by decide +kernel),
  fun d σ l0 l1 l2 l3 x => ex_zret (show decode mX7_isFound.2.1 88 = .ok (.ireturn, 1) by decide +kernel) rfl⟩
theorem aX7_isFound_50 : ∀ (d : Nat) (a1 : Int32) (a2 : Int32) (σ : Sg), cal (d + 1) mX7_isFound [.ref 50, .int a1, .int a2] σ = exec d mX7_isFound 0 [.ref 50, .int a1, .int a2, uu] [] σ := fun _ _ _ _ => rfl
theorem kX7_findsOf : (∀ (d : Nat) (σ : Sg) (S : List Value) (l0 l1 l2 l3 l4 : Value), exec d mX7_findsOf 0 [l0, l1, l2, l3, l4] S σ = exec d mX7_findsOf 1 [l0, l1, l2, l3, l4] (.int (nI 0) :: S) σ) ∧
  (∀ (d : Nat) (σ : Sg) (S : List Value) (l0 l1 l3 l4 : Value) (x y : Int32), exec d mX7_findsOf 1 [l0, l1, .int y, l3, l4] (.int x :: S) σ = exec d mX7_findsOf 2 [l0, l1, .int y, .int x, l4] S σ) ∧
  (∀ (d : Nat) (σ : Sg) (S : List Value) (l0 l1 l2 l3 l4 : Value), exec d mX7_findsOf 2 [l0, l1, l2, l3, l4] S σ = exec d mX7_findsOf 3 [l0, l1, l2, l3, l4] (.int (nI 0) :: S) σ) ∧
  (∀ (d : Nat) (σ : Sg) (S : List Value) (l0 l1 l2 l4 : Value) (x y : Int32), exec d mX7_findsOf 3 [l0, l1, l2, .int y, l4] (.int x :: S) σ = exec d mX7_findsOf 5 [l0, l1, l2, .int y, .int x] S σ) ∧
  (∀ (d : Nat) (σ : Sg) (S : List Value) (l1 l2 l3 l4 : Value) (k : Nat), exec d mX7_findsOf 7 [.ref k, l1, l2, l3, l4] S σ = exec d mX7_findsOf 8 [.ref k, l1, l2, l3, l4] (.ref k :: S) σ) ∧
  (∀ (d : Nat) (σ : Sg) (S : List Value) (l0 l1 l2 l3 l4 : Value), exec d mX7_findsOf 8 [l0, l1, l2, l3, l4] (.ref 50 :: S) σ = exec d mX7_findsOf 11 [l0, l1, l2, l3, l4] (.ref 51 :: S) σ) ∧
  (∀ (d : Nat) (σ : Sg) (S : List Value) (l0 l1 l2 l3 l4 : Value), exec d mX7_findsOf 11 [l0, l1, l2, l3, l4] S σ = exec d mX7_findsOf 13 [l0, l1, l2, l3, l4] (.int (nI 7) :: S) σ) ∧
  (∀ (d : Nat) (σ : Sg) (S : List Value) (l0 l1 l2 l3 l4 : Value) (x : Int32), exec d mX7_findsOf 13 [l0, l1, l2, l3, l4] (.int x :: .ref 51 :: S) σ = if inb x 208 = true then exec d mX7_findsOf 14 [l0, l1, l2, l3, l4] (.int (σ 51 x.toNatClampNeg) :: S) σ else none) ∧
  (∀ (d : Nat) (σ : Sg) (S : List Value) (l0 l1 l2 l3 l4 : Value) (x y : Int32), exec d mX7_findsOf 14 [l0, l1, l2, l3, l4] (.int y :: .int x :: S) σ = if y ≤ x then exec d mX7_findsOf 50 [l0, l1, l2, l3, l4] S σ else exec d mX7_findsOf 17 [l0, l1, l2, l3, l4] S σ) ∧
  (∀ (d : Nat) (σ : Sg) (S : List Value) (l0 l1 l2 l4 : Value) (x : Int32), exec d mX7_findsOf 17 [l0, l1, l2, .int x, l4] S σ = exec d mX7_findsOf 18 [l0, l1, l2, .int x, l4] (.int x :: S) σ) ∧
  (∀ (d : Nat) (σ : Sg) (S : List Value) (l0 l1 l3 l4 : Value) (x : Int32), exec d mX7_findsOf 18 [l0, l1, .int x, l3, l4] S σ = exec d mX7_findsOf 19 [l0, l1, .int x, l3, l4] (.int x :: S) σ) ∧
  (∀ (d : Nat) (σ : Sg) (S : List Value) (l0 l1 l2 l3 : Value) (x : Int32), exec d mX7_findsOf 19 [l0, l1, l2, l3, .int x] S σ = exec d mX7_findsOf 21 [l0, l1, l2, l3, .int x] (.int x :: S) σ) ∧
  (∀ (d : Nat) (σ : Sg) (l0 l1 l2 l3 l4 : Value) (x0 x1 x2 : Int32), exec d mX7_findsOf 21 [l0, l1, l2, l3, l4] [.int x0, .int x1, .int x2] σ = kb (cal d mX7_has [.int x1, .int x0] σ) (fun rs σ2 => exec d mX7_findsOf 24 [l0, l1, l2, l3, l4] (rs ++ [.int x2]) σ2)) ∧
  (∀ (d : Nat) (σ : Sg) (S : List Value) (l0 l1 l2 l3 l4 : Value) (x : Int32), exec d mX7_findsOf 24 [l0, l1, l2, l3, l4] (.int x :: S) σ = if x = nI 0 then exec d mX7_findsOf 41 [l0, l1, l2, l3, l4] S σ else exec d mX7_findsOf 27 [l0, l1, l2, l3, l4] S σ) ∧
  (∀ (d : Nat) (σ : Sg) (S : List Value) (l1 l2 l3 l4 : Value) (k : Nat), exec d mX7_findsOf 27 [.ref k, l1, l2, l3, l4] S σ = exec d mX7_findsOf 28 [.ref k, l1, l2, l3, l4] (.ref k :: S) σ) ∧
  (∀ (d : Nat) (σ : Sg) (S : List Value) (l0 l2 l3 l4 : Value) (x : Int32), exec d mX7_findsOf 28 [l0, .int x, l2, l3, l4] S σ = exec d mX7_findsOf 29 [l0, .int x, l2, l3, l4] (.int x :: S) σ) ∧
  (∀ (d : Nat) (σ : Sg) (S : List Value) (l0 l1 l2 l3 : Value) (x : Int32), exec d mX7_findsOf 29 [l0, l1, l2, l3, .int x] S σ = exec d mX7_findsOf 31 [l0, l1, l2, l3, .int x] (.int x :: S) σ) ∧
  (∀ (d : Nat) (σ : Sg) (l0 l1 l2 l3 l4 : Value) (x0 x1 x3 : Int32), exec d mX7_findsOf 31 [l0, l1, l2, l3, l4] [.int x0, .int x1, .ref 50, .int x3] σ = kb (cal d mX7_isFound [.ref 50, .int x1, .int x0] σ) (fun rs σ2 => exec d mX7_findsOf 34 [l0, l1, l2, l3, l4] (rs ++ [.int x3]) σ2)) ∧
  (∀ (d : Nat) (σ : Sg) (S : List Value) (l0 l1 l2 l3 l4 : Value) (x : Int32), exec d mX7_findsOf 34 [l0, l1, l2, l3, l4] (.int x :: S) σ = if x = nI 0 then exec d mX7_findsOf 41 [l0, l1, l2, l3, l4] S σ else exec d mX7_findsOf 37 [l0, l1, l2, l3, l4] S σ) ∧
  (∀ (d : Nat) (σ : Sg) (S : List Value) (l0 l1 l2 l3 l4 : Value), exec d mX7_findsOf 37 [l0, l1, l2, l3, l4] S σ = exec d mX7_findsOf 38 [l0, l1, l2, l3, l4] (.int (nI 1) :: S) σ) ∧
  (∀ (d : Nat) (σ : Sg) (S : List Value) (l0 l1 l2 l3 l4 : Value), exec d mX7_findsOf 38 [l0, l1, l2, l3, l4] S σ = exec d mX7_findsOf 42 [l0, l1, l2, l3, l4] S σ) ∧
  (∀ (d : Nat) (σ : Sg) (S : List Value) (l0 l1 l2 l3 l4 : Value), exec d mX7_findsOf 41 [l0, l1, l2, l3, l4] S σ = exec d mX7_findsOf 42 [l0, l1, l2, l3, l4] (.int (nI 0) :: S) σ) ∧
  (∀ (d : Nat) (σ : Sg) (S : List Value) (l0 l1 l2 l3 l4 : Value) (x y : Int32), exec d mX7_findsOf 42 [l0, l1, l2, l3, l4] (.int y :: .int x :: S) σ = exec d mX7_findsOf 43 [l0, l1, l2, l3, l4] (.int (x + y) :: S) σ) ∧
  (∀ (d : Nat) (σ : Sg) (S : List Value) (l0 l1 l3 l4 : Value) (x y : Int32), exec d mX7_findsOf 43 [l0, l1, .int y, l3, l4] (.int x :: S) σ = exec d mX7_findsOf 44 [l0, l1, .int y, .int x, l4] S σ) ∧
  (∀ (d : Nat) (σ : Sg) (S : List Value) (l0 l1 l2 : Value) (x y : Int32), exec d mX7_findsOf 44 [l0, l1, l2, .int y, .int x] S σ = exec d mX7_findsOf 47 [l0, l1, l2, .int y, .int (x + nI 1)] S σ) ∧
  (∀ (d : Nat) (σ : Sg) (S : List Value) (l0 l1 l2 l3 l4 : Value), exec d mX7_findsOf 47 [l0, l1, l2, l3, l4] S σ = exec d mX7_findsOf 5 [l0, l1, l2, l3, l4] S σ) ∧
  (∀ (d : Nat) (σ : Sg) (S : List Value) (l0 l1 l2 l4 : Value) (x : Int32), exec d mX7_findsOf 50 [l0, l1, l2, .int x, l4] S σ = exec d mX7_findsOf 51 [l0, l1, l2, .int x, l4] (.int x :: S) σ) ∧
  (∀ (d : Nat) (σ : Sg) (l0 l1 l2 l3 l4 : Value) (x : Int32), exec d mX7_findsOf 51 [l0, l1, l2, l3, l4] [.int x] σ = some (some (.int x), σ)) :=
  ⟨fun d σ S l0 l1 l2 l3 l4 => ex_iconst (show decode mX7_findsOf.2.1 0 = .ok (.iconst 0, 1) by decide +kernel) (by decide +kernel),
  fun d σ S l0 l1 l3 l4 x y => ex_istore_n (show decode mX7_findsOf.2.1 1 = .ok (.istore_n 3, 1) by decide +kernel) (Nat.le_of_ble_eq_true rfl) rfl,
  fun d σ S l0 l1 l2 l3 l4 => ex_iconst (show decode mX7_findsOf.2.1 2 = .ok (.iconst 0, 1) by decide +kernel) (by decide +kernel),
  fun d σ S l0 l1 l2 l4 x y => ex_istore (show decode mX7_findsOf.2.1 3 = .ok (.istore 4, 2) by decide +kernel) (Nat.le_of_ble_eq_true rfl) rfl,
  fun d σ S l1 l2 l3 l4 k => ex_aload_n (show decode mX7_findsOf.2.1 7 = .ok (.aload_n 0, 1) by decide +kernel) rfl,
  fun d σ S l0 l1 l2 l3 l4 => ex_getr (idx := 7) (ci := 7) (ff := 0) (n := 26) (hh := 833) (by decide +kernel),
  fun d σ S l0 l1 l2 l3 l4 => ex_bipush (show decode mX7_findsOf.2.1 11 = .ok (.bipush 7, 2) by decide +kernel) (by decide +kernel),
  fun d σ S l0 l1 l2 l3 l4 x => ex_iald (by decide +kernel),
  fun d σ S l0 l1 l2 l3 l4 x y => ex_cge (show decode mX7_findsOf.2.1 14 = .ok (.if_icmp .ge 36, 3) by decide +kernel) (by decide),
  fun d σ S l0 l1 l2 l4 x => ex_iload_n (show decode mX7_findsOf.2.1 17 = .ok (.iload_n 3, 1) by decide +kernel) rfl,
  fun d σ S l0 l1 l3 l4 x => ex_iload_n (show decode mX7_findsOf.2.1 18 = .ok (.iload_n 2, 1) by decide +kernel) rfl,
  fun d σ S l0 l1 l2 l3 x => ex_iload (show decode mX7_findsOf.2.1 19 = .ok (.iload 4, 2) by decide +kernel) rfl,
  fun d σ l0 l1 l2 l3 l4 x0 x1 x2 => ex_is (hs := [1033, 1034, 1035, 101]) (show decode mX7_findsOf.2.1 21 = .ok (.invokestatic 151, 3) by decide +kernel) lkS_7_151 ⟨rfl, Nat.le_of_ble_eq_true rfl, Nat.le_of_ble_eq_true rfl, fun q => nomatch q⟩ rfl rfl,
  fun d σ S l0 l1 l2 l3 l4 x => ex_zeq (show decode mX7_findsOf.2.1 24 = .ok (.ifCond .eq 17, 3) by decide +kernel) (by decide),
  fun d σ S l1 l2 l3 l4 k => ex_aload_n (show decode mX7_findsOf.2.1 27 = .ok (.aload_n 0, 1) by decide +kernel) rfl,
  fun d σ S l0 l2 l3 l4 x => ex_iload_n (show decode mX7_findsOf.2.1 28 = .ok (.iload_n 1, 1) by decide +kernel) rfl,
  fun d σ S l0 l1 l2 l3 x => ex_iload (show decode mX7_findsOf.2.1 29 = .ok (.iload 4, 2) by decide +kernel) rfl,
  fun d σ l0 l1 l2 l3 l4 x0 x1 x3 => ex_iv (hs := [1096, 1098, 76, 1099, 101]) (show decode mX7_findsOf.2.1 31 = .ok (.invokevirtual 193, 3) by decide +kernel) lkV_7_193 ⟨rfl, Nat.le_of_ble_eq_true rfl, Nat.le_of_ble_eq_true rfl, fun _ => rfl⟩ rfl rfl,
  fun d σ S l0 l1 l2 l3 l4 x => ex_zeq (show decode mX7_findsOf.2.1 34 = .ok (.ifCond .eq 7, 3) by decide +kernel) (by decide),
  fun d σ S l0 l1 l2 l3 l4 => ex_iconst (show decode mX7_findsOf.2.1 37 = .ok (.iconst 1, 1) by decide +kernel) (by decide +kernel),
  fun d σ S l0 l1 l2 l3 l4 => ex_goto (show decode mX7_findsOf.2.1 38 = .ok (.goto 4, 3) by decide +kernel) (by decide),
  fun d σ S l0 l1 l2 l3 l4 => ex_iconst (show decode mX7_findsOf.2.1 41 = .ok (.iconst 0, 1) by decide +kernel) (by decide +kernel),
  fun d σ S l0 l1 l2 l3 l4 x y => ex_iadd (show decode mX7_findsOf.2.1 42 = .ok (.iadd, 1) by decide +kernel),
  fun d σ S l0 l1 l3 l4 x y => ex_istore_n (show decode mX7_findsOf.2.1 43 = .ok (.istore_n 3, 1) by decide +kernel) (Nat.le_of_ble_eq_true rfl) rfl,
  fun d σ S l0 l1 l2 x y => ex_iinc (show decode mX7_findsOf.2.1 44 = .ok (.iinc 4 1, 3) by decide +kernel) rfl (by decide +kernel) (Nat.le_of_ble_eq_true rfl) rfl,
  fun d σ S l0 l1 l2 l3 l4 => ex_goto (show decode mX7_findsOf.2.1 47 = .ok (.goto (-42), 3) by decide +kernel) (by decide),
  fun d σ S l0 l1 l2 l4 x => ex_iload_n (show decode mX7_findsOf.2.1 50 = .ok (.iload_n 3, 1) by decide +kernel) rfl,
  fun d σ l0 l1 l2 l3 l4 x => ex_iret (show decode mX7_findsOf.2.1 51 = .ok (.ireturn, 1) by decide +kernel) rfl⟩
theorem hX7_findsOf_5 : ∀ (d : Nat) (σ : Sg) (S : List Value) (l0 l1 l2 l3 : Value) (x : Int32), exec d mX7_findsOf 5 [l0, l1, l2, l3, .int x] S σ = exec d mX7_findsOf 7 [l0, l1, l2, l3, .int x] (.int x :: S) σ := fun d σ S l0 l1 l2 l3 x => ex_iload (show decode mX7_findsOf.2.1 5 = .ok (.iload 4, 2) by decide +kernel) rfl
theorem aX7_findsOf_50 : ∀ (d : Nat) (a1 : Int32) (a2 : Int32) (σ : Sg), cal (d + 1) mX7_findsOf [.ref 50, .int a1, .int a2] σ = exec d mX7_findsOf 0 [.ref 50, .int a1, .int a2, uu, uu] [] σ := fun _ _ _ _ => rfl
theorem kX7_votesBy : (∀ (d : Nat) (σ : Sg) (S : List Value) (l0 l1 l2 l3 l4 : Value), exec d mX7_votesBy 0 [l0, l1, l2, l3, l4] S σ = exec d mX7_votesBy 1 [l0, l1, l2, l3, l4] (.int (nI 0) :: S) σ) ∧
  (∀ (d : Nat) (σ : Sg) (S : List Value) (l0 l1 l3 l4 : Value) (x y : Int32), exec d mX7_votesBy 1 [l0, l1, .int y, l3, l4] (.int x :: S) σ = exec d mX7_votesBy 2 [l0, l1, .int y, .int x, l4] S σ) ∧
  (∀ (d : Nat) (σ : Sg) (S : List Value) (l0 l1 l2 l3 l4 : Value), exec d mX7_votesBy 2 [l0, l1, l2, l3, l4] S σ = exec d mX7_votesBy 3 [l0, l1, l2, l3, l4] (.int (nI 0) :: S) σ) ∧
  (∀ (d : Nat) (σ : Sg) (S : List Value) (l0 l1 l2 l4 : Value) (x y : Int32), exec d mX7_votesBy 3 [l0, l1, l2, .int y, l4] (.int x :: S) σ = exec d mX7_votesBy 5 [l0, l1, l2, .int y, .int x] S σ) ∧
  (∀ (d : Nat) (σ : Sg) (S : List Value) (l1 l2 l3 l4 : Value) (k : Nat), exec d mX7_votesBy 7 [.ref k, l1, l2, l3, l4] S σ = exec d mX7_votesBy 8 [.ref k, l1, l2, l3, l4] (.ref k :: S) σ) ∧
  (∀ (d : Nat) (σ : Sg) (S : List Value) (l0 l1 l2 l3 l4 : Value), exec d mX7_votesBy 8 [l0, l1, l2, l3, l4] (.ref 50 :: S) σ = exec d mX7_votesBy 11 [l0, l1, l2, l3, l4] (.ref 51 :: S) σ) ∧
  (∀ (d : Nat) (σ : Sg) (S : List Value) (l0 l1 l2 l3 l4 : Value), exec d mX7_votesBy 11 [l0, l1, l2, l3, l4] S σ = exec d mX7_votesBy 13 [l0, l1, l2, l3, l4] (.int (nI 8) :: S) σ) ∧
  (∀ (d : Nat) (σ : Sg) (S : List Value) (l0 l1 l2 l3 l4 : Value) (x : Int32), exec d mX7_votesBy 13 [l0, l1, l2, l3, l4] (.int x :: .ref 51 :: S) σ = if inb x 208 = true then exec d mX7_votesBy 14 [l0, l1, l2, l3, l4] (.int (σ 51 x.toNatClampNeg) :: S) σ else none) ∧
  (∀ (d : Nat) (σ : Sg) (S : List Value) (l0 l1 l2 l3 l4 : Value) (x y : Int32), exec d mX7_votesBy 14 [l0, l1, l2, l3, l4] (.int y :: .int x :: S) σ = if y ≤ x then exec d mX7_votesBy 63 [l0, l1, l2, l3, l4] S σ else exec d mX7_votesBy 17 [l0, l1, l2, l3, l4] S σ) ∧
  (∀ (d : Nat) (σ : Sg) (S : List Value) (l0 l1 l2 l4 : Value) (x : Int32), exec d mX7_votesBy 17 [l0, l1, l2, .int x, l4] S σ = exec d mX7_votesBy 18 [l0, l1, l2, .int x, l4] (.int x :: S) σ) ∧
  (∀ (d : Nat) (σ : Sg) (S : List Value) (l0 l2 l3 l4 : Value) (x : Int32), exec d mX7_votesBy 18 [l0, .int x, l2, l3, l4] S σ = exec d mX7_votesBy 19 [l0, .int x, l2, l3, l4] (.int x :: S) σ) ∧
  (∀ (d : Nat) (σ : Sg) (S : List Value) (l0 l1 l2 l3 : Value) (x : Int32), exec d mX7_votesBy 19 [l0, l1, l2, l3, .int x] S σ = exec d mX7_votesBy 21 [l0, l1, l2, l3, .int x] (.int x :: S) σ) ∧
  (∀ (d : Nat) (σ : Sg) (l0 l1 l2 l3 l4 : Value) (x0 x1 x2 : Int32), exec d mX7_votesBy 21 [l0, l1, l2, l3, l4] [.int x0, .int x1, .int x2] σ = kb (cal d mX7_has [.int x1, .int x0] σ) (fun rs σ2 => exec d mX7_votesBy 24 [l0, l1, l2, l3, l4] (rs ++ [.int x2]) σ2)) ∧
  (∀ (d : Nat) (σ : Sg) (S : List Value) (l0 l1 l2 l3 l4 : Value) (x : Int32), exec d mX7_votesBy 24 [l0, l1, l2, l3, l4] (.int x :: S) σ = if x = nI 0 then exec d mX7_votesBy 27 [l0, l1, l2, l3, l4] S σ else exec d mX7_votesBy 47 [l0, l1, l2, l3, l4] S σ) ∧
  (∀ (d : Nat) (σ : Sg) (S : List Value) (l1 l2 l3 l4 : Value) (k : Nat), exec d mX7_votesBy 27 [.ref k, l1, l2, l3, l4] S σ = exec d mX7_votesBy 28 [.ref k, l1, l2, l3, l4] (.ref k :: S) σ) ∧
  (∀ (d : Nat) (σ : Sg) (S : List Value) (l0 l1 l2 l3 : Value) (x : Int32), exec d mX7_votesBy 28 [l0, l1, l2, l3, .int x] S σ = exec d mX7_votesBy 30 [l0, l1, l2, l3, .int x] (.int x :: S) σ) ∧
  (∀ (d : Nat) (σ : Sg) (S : List Value) (l0 l1 l3 l4 : Value) (x : Int32), exec d mX7_votesBy 30 [l0, l1, .int x, l3, l4] S σ = exec d mX7_votesBy 31 [l0, l1, .int x, l3, l4] (.int x :: S) σ) ∧
  (∀ (d : Nat) (σ : Sg) (l0 l1 l2 l3 l4 : Value) (x0 x1 x3 : Int32), exec d mX7_votesBy 31 [l0, l1, l2, l3, l4] [.int x0, .int x1, .ref 50, .int x3] σ = kb (cal d mX7_findsOf [.ref 50, .int x1, .int x0] σ) (fun rs σ2 => exec d mX7_votesBy 34 [l0, l1, l2, l3, l4] (rs ++ [.int x3]) σ2)) ∧
  (∀ (d : Nat) (σ : Sg) (S : List Value) (l1 l2 l3 l4 : Value) (k : Nat), exec d mX7_votesBy 34 [.ref k, l1, l2, l3, l4] S σ = exec d mX7_votesBy 35 [.ref k, l1, l2, l3, l4] (.ref k :: S) σ) ∧
  (∀ (d : Nat) (σ : Sg) (S : List Value) (l0 l1 l2 l3 l4 : Value), exec d mX7_votesBy 35 [l0, l1, l2, l3, l4] (.ref 50 :: S) σ = exec d mX7_votesBy 38 [l0, l1, l2, l3, l4] (.ref 51 :: S) σ) ∧
  (∀ (d : Nat) (σ : Sg) (S : List Value) (l0 l1 l2 l3 l4 : Value), exec d mX7_votesBy 38 [l0, l1, l2, l3, l4] S σ = exec d mX7_votesBy 40 [l0, l1, l2, l3, l4] (.int (nI 42) :: S) σ) ∧
  (∀ (d : Nat) (σ : Sg) (S : List Value) (l0 l1 l2 l3 : Value) (x : Int32), exec d mX7_votesBy 40 [l0, l1, l2, l3, .int x] S σ = exec d mX7_votesBy 42 [l0, l1, l2, l3, .int x] (.int x :: S) σ) ∧
  (∀ (d : Nat) (σ : Sg) (S : List Value) (l0 l1 l2 l3 l4 : Value) (x y : Int32), exec d mX7_votesBy 42 [l0, l1, l2, l3, l4] (.int y :: .int x :: S) σ = exec d mX7_votesBy 43 [l0, l1, l2, l3, l4] (.int (x + y) :: S) σ) ∧
  (∀ (d : Nat) (σ : Sg) (S : List Value) (l0 l1 l2 l3 l4 : Value) (x : Int32), exec d mX7_votesBy 43 [l0, l1, l2, l3, l4] (.int x :: .ref 51 :: S) σ = if inb x 208 = true then exec d mX7_votesBy 44 [l0, l1, l2, l3, l4] (.int (σ 51 x.toNatClampNeg) :: S) σ else none) ∧
  (∀ (d : Nat) (σ : Sg) (S : List Value) (l0 l1 l2 l3 l4 : Value) (x y : Int32), exec d mX7_votesBy 44 [l0, l1, l2, l3, l4] (.int y :: .int x :: S) σ = if y < x then exec d mX7_votesBy 54 [l0, l1, l2, l3, l4] S σ else exec d mX7_votesBy 47 [l0, l1, l2, l3, l4] S σ) ∧
  (∀ (d : Nat) (σ : Sg) (S : List Value) (l0 l1 l2 l3 l4 : Value), exec d mX7_votesBy 47 [l0, l1, l2, l3, l4] S σ = exec d mX7_votesBy 48 [l0, l1, l2, l3, l4] (.int (nI 1) :: S) σ) ∧
  (∀ (d : Nat) (σ : Sg) (S : List Value) (l0 l1 l2 l3 : Value) (x : Int32), exec d mX7_votesBy 48 [l0, l1, l2, l3, .int x] S σ = exec d mX7_votesBy 50 [l0, l1, l2, l3, .int x] (.int x :: S) σ) ∧
  (∀ (d : Nat) (σ : Sg) (S : List Value) (l0 l1 l2 l3 l4 : Value) (x y : Int32), exec d mX7_votesBy 50 [l0, l1, l2, l3, l4] (.int y :: .int x :: S) σ = exec d mX7_votesBy 51 [l0, l1, l2, l3, l4] (.int (x <<< (y &&& 31)) :: S) σ) ∧
  (∀ (d : Nat) (σ : Sg) (S : List Value) (l0 l1 l2 l3 l4 : Value), exec d mX7_votesBy 51 [l0, l1, l2, l3, l4] S σ = exec d mX7_votesBy 55 [l0, l1, l2, l3, l4] S σ) ∧
  (∀ (d : Nat) (σ : Sg) (S : List Value) (l0 l1 l2 l3 l4 : Value), exec d mX7_votesBy 54 [l0, l1, l2, l3, l4] S σ = exec d mX7_votesBy 55 [l0, l1, l2, l3, l4] (.int (nI 0) :: S) σ) ∧
  (∀ (d : Nat) (σ : Sg) (S : List Value) (l0 l1 l2 l3 l4 : Value) (x y : Int32), exec d mX7_votesBy 55 [l0, l1, l2, l3, l4] (.int y :: .int x :: S) σ = exec d mX7_votesBy 56 [l0, l1, l2, l3, l4] (.int (x ||| y) :: S) σ) ∧
  (∀ (d : Nat) (σ : Sg) (S : List Value) (l0 l1 l3 l4 : Value) (x y : Int32), exec d mX7_votesBy 56 [l0, l1, .int y, l3, l4] (.int x :: S) σ = exec d mX7_votesBy 57 [l0, l1, .int y, .int x, l4] S σ) ∧
  (∀ (d : Nat) (σ : Sg) (S : List Value) (l0 l1 l2 : Value) (x y : Int32), exec d mX7_votesBy 57 [l0, l1, l2, .int y, .int x] S σ = exec d mX7_votesBy 60 [l0, l1, l2, .int y, .int (x + nI 1)] S σ) ∧
  (∀ (d : Nat) (σ : Sg) (S : List Value) (l0 l1 l2 l3 l4 : Value), exec d mX7_votesBy 60 [l0, l1, l2, l3, l4] S σ = exec d mX7_votesBy 5 [l0, l1, l2, l3, l4] S σ) ∧
  (∀ (d : Nat) (σ : Sg) (S : List Value) (l0 l1 l2 l4 : Value) (x : Int32), exec d mX7_votesBy 63 [l0, l1, l2, .int x, l4] S σ = exec d mX7_votesBy 64 [l0, l1, l2, .int x, l4] (.int x :: S) σ) ∧
  (∀ (d : Nat) (σ : Sg) (l0 l1 l2 l3 l4 : Value) (x : Int32), exec d mX7_votesBy 64 [l0, l1, l2, l3, l4] [.int x] σ = some (some (.int x), σ)) :=
  ⟨fun d σ S l0 l1 l2 l3 l4 => ex_iconst (show decode mX7_votesBy.2.1 0 = .ok (.iconst 0, 1) by decide +kernel) (by decide +kernel),
  fun d σ S l0 l1 l3 l4 x y => ex_istore_n (show decode mX7_votesBy.2.1 1 = .ok (.istore_n 3, 1) by decide +kernel) (Nat.le_of_ble_eq_true rfl) rfl,
  fun d σ S l0 l1 l2 l3 l4 => ex_iconst (show decode mX7_votesBy.2.1 2 = .ok (.iconst 0, 1) by decide +kernel) (by decide +kernel),
  fun d σ S l0 l1 l2 l4 x y => ex_istore (show decode mX7_votesBy.2.1 3 = .ok (.istore 4, 2) by decide +kernel) (Nat.le_of_ble_eq_true rfl) rfl,
  fun d σ S l1 l2 l3 l4 k => ex_aload_n (show decode mX7_votesBy.2.1 7 = .ok (.aload_n 0, 1) by decide +kernel) rfl,
  fun d σ S l0 l1 l2 l3 l4 => ex_getr (idx := 7) (ci := 7) (ff := 0) (n := 26) (hh := 833) (by decide +kernel),
  fun d σ S l0 l1 l2 l3 l4 => ex_bipush (show decode mX7_votesBy.2.1 11 = .ok (.bipush 8, 2) by decide +kernel) (by decide +kernel),
  fun d σ S l0 l1 l2 l3 l4 x => ex_iald (by decide +kernel),
  fun d σ S l0 l1 l2 l3 l4 x y => ex_cge (show decode mX7_votesBy.2.1 14 = .ok (.if_icmp .ge 49, 3) by decide +kernel) (by decide),
  fun d σ S l0 l1 l2 l4 x => ex_iload_n (show decode mX7_votesBy.2.1 17 = .ok (.iload_n 3, 1) by decide +kernel) rfl,
  fun d σ S l0 l2 l3 l4 x => ex_iload_n (show decode mX7_votesBy.2.1 18 = .ok (.iload_n 1, 1) by decide +kernel) rfl,
  fun d σ S l0 l1 l2 l3 x => ex_iload (show decode mX7_votesBy.2.1 19 = .ok (.iload 4, 2) by decide +kernel) rfl,
  fun d σ l0 l1 l2 l3 l4 x0 x1 x2 => ex_is (hs := [1033, 1034, 1035, 101]) (show decode mX7_votesBy.2.1 21 = .ok (.invokestatic 151, 3) by decide +kernel) lkS_7_151 ⟨rfl, Nat.le_of_ble_eq_true rfl, Nat.le_of_ble_eq_true rfl, fun q => nomatch q⟩ rfl rfl,
  fun d σ S l0 l1 l2 l3 l4 x => ex_zne (show decode mX7_votesBy.2.1 24 = .ok (.ifCond .ne 23, 3) by decide +kernel) (by decide),
  fun d σ S l1 l2 l3 l4 k => ex_aload_n (show decode mX7_votesBy.2.1 27 = .ok (.aload_n 0, 1) by decide +kernel) rfl,
  fun d σ S l0 l1 l2 l3 x => ex_iload (show decode mX7_votesBy.2.1 28 = .ok (.iload 4, 2) by decide +kernel) rfl,
  fun d σ S l0 l1 l3 l4 x => ex_iload_n (show decode mX7_votesBy.2.1 30 = .ok (.iload_n 2, 1) by decide +kernel) rfl,
  fun d σ l0 l1 l2 l3 l4 x0 x1 x3 => ex_iv (hs := [1092, 1094, 75, 1095, 101]) (show decode mX7_votesBy.2.1 31 = .ok (.invokevirtual 196, 3) by decide +kernel) lkV_7_196 ⟨rfl, Nat.le_of_ble_eq_true rfl, Nat.le_of_ble_eq_true rfl, fun _ => rfl⟩ rfl rfl,
  fun d σ S l1 l2 l3 l4 k => ex_aload_n (show decode mX7_votesBy.2.1 34 = .ok (.aload_n 0, 1) by decide +kernel) rfl,
  fun d σ S l0 l1 l2 l3 l4 => ex_getr (idx := 7) (ci := 7) (ff := 0) (n := 26) (hh := 833) (by decide +kernel),
  fun d σ S l0 l1 l2 l3 l4 => ex_bipush (show decode mX7_votesBy.2.1 38 = .ok (.bipush 42, 2) by decide +kernel) (by decide +kernel),
  fun d σ S l0 l1 l2 l3 x => ex_iload (show decode mX7_votesBy.2.1 40 = .ok (.iload 4, 2) by decide +kernel) rfl,
  fun d σ S l0 l1 l2 l3 l4 x y => ex_iadd (show decode mX7_votesBy.2.1 42 = .ok (.iadd, 1) by decide +kernel),
  fun d σ S l0 l1 l2 l3 l4 x => ex_iald (by decide +kernel),
  fun d σ S l0 l1 l2 l3 l4 x y => ex_cgt (show decode mX7_votesBy.2.1 44 = .ok (.if_icmp .gt 10, 3) by decide +kernel) (by decide),
  fun d σ S l0 l1 l2 l3 l4 => ex_iconst (show decode mX7_votesBy.2.1 47 = .ok (.iconst 1, 1) by decide +kernel) (by decide +kernel),
  fun d σ S l0 l1 l2 l3 x => ex_iload (show decode mX7_votesBy.2.1 48 = .ok (.iload 4, 2) by decide +kernel) rfl,
  fun d σ S l0 l1 l2 l3 l4 x y => ex_ishl (show decode mX7_votesBy.2.1 50 = .ok (.ishl, 1) by decide +kernel),
  fun d σ S l0 l1 l2 l3 l4 => ex_goto (show decode mX7_votesBy.2.1 51 = .ok (.goto 4, 3) by decide +kernel) (by decide),
  fun d σ S l0 l1 l2 l3 l4 => ex_iconst (show decode mX7_votesBy.2.1 54 = .ok (.iconst 0, 1) by decide +kernel) (by decide +kernel),
  fun d σ S l0 l1 l2 l3 l4 x y => ex_ior (show decode mX7_votesBy.2.1 55 = .ok (.ior, 1) by decide +kernel),
  fun d σ S l0 l1 l3 l4 x y => ex_istore_n (show decode mX7_votesBy.2.1 56 = .ok (.istore_n 3, 1) by decide +kernel) (Nat.le_of_ble_eq_true rfl) rfl,
  fun d σ S l0 l1 l2 x y => ex_iinc (show decode mX7_votesBy.2.1 57 = .ok (.iinc 4 1, 3) by decide +kernel) rfl (by decide +kernel) (Nat.le_of_ble_eq_true rfl) rfl,
  fun d σ S l0 l1 l2 l3 l4 => ex_goto (show decode mX7_votesBy.2.1 60 = .ok (.goto (-55), 3) by decide +kernel) (by decide),
  fun d σ S l0 l1 l2 l4 x => ex_iload_n (show decode mX7_votesBy.2.1 63 = .ok (.iload_n 3, 1) by decide +kernel) rfl,
  fun d σ l0 l1 l2 l3 l4 x => ex_iret (show decode mX7_votesBy.2.1 64 = .ok (.ireturn, 1) by decide +kernel) rfl⟩
theorem hX7_votesBy_5 : ∀ (d : Nat) (σ : Sg) (S : List Value) (l0 l1 l2 l3 : Value) (x : Int32), exec d mX7_votesBy 5 [l0, l1, l2, l3, .int x] S σ = exec d mX7_votesBy 7 [l0, l1, l2, l3, .int x] (.int x :: S) σ := fun d σ S l0 l1 l2 l3 x => ex_iload (show decode mX7_votesBy.2.1 5 = .ok (.iload 4, 2) by decide +kernel) rfl
theorem aX7_votesBy_50 : ∀ (d : Nat) (a1 : Int32) (a2 : Int32) (σ : Sg), cal (d + 1) mX7_votesBy [.ref 50, .int a1, .int a2] σ = exec d mX7_votesBy 0 [.ref 50, .int a1, .int a2, uu, uu] [] σ := fun _ _ _ _ => rfl
theorem kX7_isMost : (∀ (d : Nat) (σ : Sg) (S : List Value) (l1 : Value) (k : Nat), exec d mX7_isMost 0 [.ref k, l1] S σ = exec d mX7_isMost 1 [.ref k, l1] (.ref k :: S) σ) ∧
  (∀ (d : Nat) (σ : Sg) (S : List Value) (l0 l1 : Value), exec d mX7_isMost 1 [l0, l1] (.ref 50 :: S) σ = exec d mX7_isMost 4 [l0, l1] (.ref 51 :: S) σ) ∧
  (∀ (d : Nat) (σ : Sg) (S : List Value) (l0 l1 : Value), exec d mX7_isMost 4 [l0, l1] S σ = exec d mX7_isMost 6 [l0, l1] (.int (nI 8) :: S) σ) ∧
  (∀ (d : Nat) (σ : Sg) (S : List Value) (l0 l1 : Value) (x : Int32), exec d mX7_isMost 6 [l0, l1] (.int x :: .ref 51 :: S) σ = if inb x 208 = true then exec d mX7_isMost 7 [l0, l1] (.int (σ 51 x.toNatClampNeg) :: S) σ else none) ∧
  (∀ (d : Nat) (σ : Sg) (S : List Value) (l0 l1 : Value) (x : Int32), exec d mX7_isMost 7 [l0, l1] (.int x :: S) σ = if x = nI 0 then exec d mX7_isMost 26 [l0, l1] S σ else exec d mX7_isMost 10 [l0, l1] S σ) ∧
  (∀ (d : Nat) (σ : Sg) (S : List Value) (l0 l1 : Value), exec d mX7_isMost 10 [l0, l1] S σ = exec d mX7_isMost 11 [l0, l1] (.int (nI 2) :: S) σ) ∧
  (∀ (d : Nat) (σ : Sg) (S : List Value) (l0 : Value) (x : Int32), exec d mX7_isMost 11 [l0, .int x] S σ = exec d mX7_isMost 12 [l0, .int x] (.int x :: S) σ) ∧
  (∀ (d : Nat) (σ : Sg) (l0 l1 : Value) (x0 x1 : Int32), exec d mX7_isMost 12 [l0, l1] [.int x0, .int x1] σ = kb (cal d mX7_ones [.int x0] σ) (fun rs σ2 => exec d mX7_isMost 15 [l0, l1] (rs ++ [.int x1]) σ2)) ∧
  (∀ (d : Nat) (σ : Sg) (S : List Value) (l0 l1 : Value) (x y : Int32), exec d mX7_isMost 15 [l0, l1] (.int y :: .int x :: S) σ = exec d mX7_isMost 16 [l0, l1] (.int (x * y) :: S) σ) ∧
  (∀ (d : Nat) (σ : Sg) (S : List Value) (l1 : Value) (k : Nat), exec d mX7_isMost 16 [.ref k, l1] S σ = exec d mX7_isMost 17 [.ref k, l1] (.ref k :: S) σ) ∧
  (∀ (d : Nat) (σ : Sg) (S : List Value) (l0 l1 : Value), exec d mX7_isMost 17 [l0, l1] (.ref 50 :: S) σ = exec d mX7_isMost 20 [l0, l1] (.ref 51 :: S) σ) ∧
  (∀ (d : Nat) (σ : Sg) (S : List Value) (l0 l1 : Value), exec d mX7_isMost 20 [l0, l1] S σ = exec d mX7_isMost 22 [l0, l1] (.int (nI 8) :: S) σ) ∧
  (∀ (d : Nat) (σ : Sg) (S : List Value) (l0 l1 : Value) (x : Int32), exec d mX7_isMost 22 [l0, l1] (.int x :: .ref 51 :: S) σ = if inb x 208 = true then exec d mX7_isMost 23 [l0, l1] (.int (σ 51 x.toNatClampNeg) :: S) σ else none) ∧
  (∀ (d : Nat) (σ : Sg) (S : List Value) (l0 l1 : Value) (x y : Int32), exec d mX7_isMost 23 [l0, l1] (.int y :: .int x :: S) σ = if x ≤ y then exec d mX7_isMost 30 [l0, l1] S σ else exec d mX7_isMost 26 [l0, l1] S σ) ∧
  (∀ (d : Nat) (σ : Sg) (S : List Value) (l0 l1 : Value), exec d mX7_isMost 26 [l0, l1] S σ = exec d mX7_isMost 27 [l0, l1] (.int (nI 1) :: S) σ) ∧
  (∀ (d : Nat) (σ : Sg) (S : List Value) (l0 l1 : Value), exec d mX7_isMost 27 [l0, l1] S σ = exec d mX7_isMost 31 [l0, l1] S σ) ∧
  (∀ (d : Nat) (σ : Sg) (S : List Value) (l0 l1 : Value), exec d mX7_isMost 30 [l0, l1] S σ = exec d mX7_isMost 31 [l0, l1] (.int (nI 0) :: S) σ) ∧
  (∀ (d : Nat) (σ : Sg) (l0 l1 : Value) (x : Int32), exec d mX7_isMost 31 [l0, l1] [.int x] σ = if b01 x = true then some (some (.int x), σ) else none) :=
  ⟨fun d σ S l1 k => ex_aload_n (show decode mX7_isMost.2.1 0 = .ok (.aload_n 0, 1) by decide +kernel) rfl,
  fun d σ S l0 l1 => ex_getr (idx := 7) (ci := 7) (ff := 0) (n := 26) (hh := 833) (by decide +kernel),
  fun d σ S l0 l1 => ex_bipush (show decode mX7_isMost.2.1 4 = .ok (.bipush 8, 2) by decide +kernel) (by decide +kernel),
  fun d σ S l0 l1 x => ex_iald (by decide +kernel),
  fun d σ S l0 l1 x => ex_zeq (show decode mX7_isMost.2.1 7 = .ok (.ifCond .eq 19, 3) by decide +kernel) (by decide),
  fun d σ S l0 l1 => ex_iconst (show decode mX7_isMost.2.1 10 = .ok (.iconst 2, 1) by decide +kernel) (by decide +kernel),
  fun d σ S l0 x => ex_iload_n (show decode mX7_isMost.2.1 11 = .ok (.iload_n 1, 1) by decide +kernel) rfl,
  fun d σ l0 l1 x0 x1 => ex_is (hs := [1121, 1122, 1123, 101]) (show decode mX7_isMost.2.1 12 = .ok (.invokestatic 199, 3) by decide +kernel) lkS_7_199 ⟨rfl, Nat.le_of_ble_eq_true rfl, Nat.le_of_ble_eq_true rfl, fun q => nomatch q⟩ rfl rfl,
  fun d σ S l0 l1 x y => ex_imul (show decode mX7_isMost.2.1 15 = .ok (.imul, 1) by decide +kernel),
  fun d σ S l1 k => ex_aload_n (show decode mX7_isMost.2.1 16 = .ok (.aload_n 0, 1) by decide +kernel) rfl,
  fun d σ S l0 l1 => ex_getr (idx := 7) (ci := 7) (ff := 0) (n := 26) (hh := 833) (by decide +kernel),
  fun d σ S l0 l1 => ex_bipush (show decode mX7_isMost.2.1 20 = .ok (.bipush 8, 2) by decide +kernel) (by decide +kernel),
  fun d σ S l0 l1 x => ex_iald (by decide +kernel),
  fun d σ S l0 l1 x y => ex_cle (show decode mX7_isMost.2.1 23 = .ok (.if_icmp .le 7, 3) by decide +kernel) (by decide),
  fun d σ S l0 l1 => ex_iconst (show decode mX7_isMost.2.1 26 = .ok (.iconst 1, 1) by decide +kernel) (by decide +kernel),
  fun d σ S l0 l1 => ex_goto (show decode mX7_isMost.2.1 27 = .ok (.goto 4, 3) by decide +kernel) (by decide),
  fun d σ S l0 l1 => ex_iconst (show decode mX7_isMost.2.1 30 = .ok (.iconst 0, 1) by decide +kernel) (by decide +kernel),
  fun d σ l0 l1 x => ex_zret (show decode mX7_isMost.2.1 31 = .ok (.ireturn, 1) by decide +kernel) rfl⟩
theorem aX7_isMost_50 : ∀ (d : Nat) (a1 : Int32) (σ : Sg), cal (d + 1) mX7_isMost [.ref 50, .int a1] σ = exec d mX7_isMost 0 [.ref 50, .int a1] [] σ := fun _ _ _ => rfl
theorem kX7_votesNow : (∀ (d : Nat) (σ : Sg) (S : List Value) (k : Nat), exec d mX7_votesNow 0 [.ref k] S σ = exec d mX7_votesNow 1 [.ref k] (.ref k :: S) σ) ∧
  (∀ (d : Nat) (σ : Sg) (S : List Value) (k : Nat), exec d mX7_votesNow 1 [.ref k] S σ = exec d mX7_votesNow 2 [.ref k] (.ref k :: S) σ) ∧
  (∀ (d : Nat) (σ : Sg) (S : List Value) (l0 : Value), exec d mX7_votesNow 2 [l0] (.ref 50 :: S) σ = exec d mX7_votesNow 5 [l0] (.ref 51 :: S) σ) ∧
  (∀ (d : Nat) (σ : Sg) (S : List Value) (l0 : Value), exec d mX7_votesNow 5 [l0] S σ = exec d mX7_votesNow 6 [l0] (.int (nI 5) :: S) σ) ∧
  (∀ (d : Nat) (σ : Sg) (S : List Value) (l0 : Value) (x : Int32), exec d mX7_votesNow 6 [l0] (.int x :: .ref 51 :: S) σ = if inb x 208 = true then exec d mX7_votesNow 7 [l0] (.int (σ 51 x.toNatClampNeg) :: S) σ else none) ∧
  (∀ (d : Nat) (σ : Sg) (S : List Value) (k : Nat), exec d mX7_votesNow 7 [.ref k] S σ = exec d mX7_votesNow 8 [.ref k] (.ref k :: S) σ) ∧
  (∀ (d : Nat) (σ : Sg) (S : List Value) (l0 : Value), exec d mX7_votesNow 8 [l0] (.ref 50 :: S) σ = exec d mX7_votesNow 11 [l0] (.ref 51 :: S) σ) ∧
  (∀ (d : Nat) (σ : Sg) (S : List Value) (l0 : Value), exec d mX7_votesNow 11 [l0] S σ = exec d mX7_votesNow 12 [l0] (.int (nI 4) :: S) σ) ∧
  (∀ (d : Nat) (σ : Sg) (S : List Value) (l0 : Value) (x : Int32), exec d mX7_votesNow 12 [l0] (.int x :: .ref 51 :: S) σ = if inb x 208 = true then exec d mX7_votesNow 13 [l0] (.int (σ 51 x.toNatClampNeg) :: S) σ else none) ∧
  (∀ (d : Nat) (σ : Sg) (l0 : Value) (x0 x1 : Int32), exec d mX7_votesNow 13 [l0] [.int x0, .int x1, .ref 50] σ = kb (cal d mX7_votesBy [.ref 50, .int x1, .int x0] σ) (fun rs σ2 => exec d mX7_votesNow 16 [l0] (rs ++ []) σ2)) ∧
  (∀ (d : Nat) (σ : Sg) (l0 : Value) (x : Int32), exec d mX7_votesNow 16 [l0] [.int x] σ = some (some (.int x), σ)) :=
  ⟨fun d σ S k => ex_aload_n (show decode mX7_votesNow.2.1 0 = .ok (.aload_n 0, 1) by decide +kernel) rfl,
  fun d σ S k => ex_aload_n (show decode mX7_votesNow.2.1 1 = .ok (.aload_n 0, 1) by decide +kernel) rfl,
  fun d σ S l0 => ex_getr (idx := 7) (ci := 7) (ff := 0) (n := 26) (hh := 833) (by decide +kernel),
  fun d σ S l0 => ex_iconst (show decode mX7_votesNow.2.1 5 = .ok (.iconst 5, 1) by decide +kernel) (by decide +kernel),
  fun d σ S l0 x => ex_iald (by decide +kernel),
  fun d σ S k => ex_aload_n (show decode mX7_votesNow.2.1 7 = .ok (.aload_n 0, 1) by decide +kernel) rfl,
  fun d σ S l0 => ex_getr (idx := 7) (ci := 7) (ff := 0) (n := 26) (hh := 833) (by decide +kernel),
  fun d σ S l0 => ex_iconst (show decode mX7_votesNow.2.1 11 = .ok (.iconst 4, 1) by decide +kernel) (by decide +kernel),
  fun d σ S l0 x => ex_iald (by decide +kernel),
  fun d σ l0 x0 x1 => ex_iv (hs := [1104, 1106, 78, 1107, 101]) (show decode mX7_votesNow.2.1 13 = .ok (.invokevirtual 202, 3) by decide +kernel) lkV_7_202 ⟨rfl, Nat.le_of_ble_eq_true rfl, Nat.le_of_ble_eq_true rfl, fun _ => rfl⟩ rfl rfl,
  fun d σ l0 x => ex_iret (show decode mX7_votesNow.2.1 16 = .ok (.ireturn, 1) by decide +kernel) rfl⟩
theorem aX7_votesNow_50 : ∀ (d : Nat)  (σ : Sg), cal (d + 1) mX7_votesNow [.ref 50] σ = exec d mX7_votesNow 0 [.ref 50] [] σ := fun _ _ => rfl
theorem kX7_part_0 : (∀ (d : Nat) (σ : Sg) (S : List Value) (l1 l2 : Value) (k : Nat), exec d mX7_part 0 [.ref k, l1, l2] S σ = exec d mX7_part 1 [.ref k, l1, l2] (.ref k :: S) σ) ∧
  (∀ (d : Nat) (σ : Sg) (S : List Value) (l0 l2 : Value) (x : Int32), exec d mX7_part 1 [l0, .int x, l2] S σ = exec d mX7_part 2 [l0, .int x, l2] (.int x :: S) σ) ∧
  (∀ (d : Nat) (σ : Sg) (l0 l1 l2 : Value) (x0 : Int32), exec d mX7_part 2 [l0, l1, l2] [.int x0, .ref 50] σ = kb (cal d mX7_isPart [.ref 50, .int x0] σ) (fun rs σ2 => exec d mX7_part 5 [l0, l1, l2] (rs ++ []) σ2)) ∧
  (∀ (d : Nat) (σ : Sg) (S : List Value) (l0 l1 l2 : Value) (x : Int32), exec d mX7_part 5 [l0, l1, l2] (.int x :: S) σ = if x = nI 0 then exec d mX7_part 8 [l0, l1, l2] S σ else exec d mX7_part 11 [l0, l1, l2] S σ) ∧
  (∀ (d : Nat) (σ : Sg) (S : List Value) (l0 l1 l2 : Value), exec d mX7_part 8 [l0, l1, l2] S σ = exec d mX7_part 10 [l0, l1, l2] (.int ((-1000001)) :: S) σ) ∧
  (∀ (d : Nat) (σ : Sg) (l0 l1 l2 : Value) (x : Int32), exec d mX7_part 10 [l0, l1, l2] [.int x] σ = some (some (.int x), σ)) ∧
  (∀ (d : Nat) (σ : Sg) (S : List Value) (l0 l1 : Value) (x : Int32), exec d mX7_part 11 [l0, l1, .int x] S σ = exec d mX7_part 12 [l0, l1, .int x] (.int x :: S) σ) ∧
  (∀ (d : Nat) (σ : Sg) (S : List Value) (l0 l1 l2 : Value) (x : Int32), exec d mX7_part 12 [l0, l1, l2] (.int x :: S) σ = (if x = nI 0 then exec d mX7_part 60 [l0, l1, l2] S σ else (if x = nI 1 then exec d mX7_part 70 [l0, l1, l2] S σ else (if x = nI 2 then exec d mX7_part 80 [l0, l1, l2] S σ else (if x = nI 3 then exec d mX7_part 109 [l0, l1, l2] S σ else (if x = nI 4 then exec d mX7_part 120 [l0, l1, l2] S σ else (if x = nI 5 then exec d mX7_part 131 [l0, l1, l2] S σ else (if x = nI 6 then exec d mX7_part 143 [l0, l1, l2] S σ else (if x = nI 7 then exec d mX7_part 163 [l0, l1, l2] S σ else exec d mX7_part 177 [l0, l1, l2] S σ))))))))) ∧
  (∀ (d : Nat) (σ : Sg) (S : List Value) (l1 l2 : Value) (k : Nat), exec d mX7_part 60 [.ref k, l1, l2] S σ = exec d mX7_part 61 [.ref k, l1, l2] (.ref k :: S) σ) ∧
  (∀ (d : Nat) (σ : Sg) (S : List Value) (l0 l1 l2 : Value), exec d mX7_part 61 [l0, l1, l2] (.ref 50 :: S) σ = exec d mX7_part 64 [l0, l1, l2] (.ref 51 :: S) σ) ∧
  (∀ (d : Nat) (σ : Sg) (S : List Value) (l0 l1 l2 : Value), exec d mX7_part 64 [l0, l1, l2] S σ = exec d mX7_part 66 [l0, l1, l2] (.int (nI 16) :: S) σ) ∧
  (∀ (d : Nat) (σ : Sg) (S : List Value) (l0 l2 : Value) (x : Int32), exec d mX7_part 66 [l0, .int x, l2] S σ = exec d mX7_part 67 [l0, .int x, l2] (.int x :: S) σ) ∧
  (∀ (d : Nat) (σ : Sg) (S : List Value) (l0 l1 l2 : Value) (x y : Int32), exec d mX7_part 67 [l0, l1, l2] (.int y :: .int x :: S) σ = exec d mX7_part 68 [l0, l1, l2] (.int (x + y) :: S) σ) ∧
  (∀ (d : Nat) (σ : Sg) (S : List Value) (l0 l1 l2 : Value) (x : Int32), exec d mX7_part 68 [l0, l1, l2] (.int x :: .ref 51 :: S) σ = if inb x 208 = true then exec d mX7_part 69 [l0, l1, l2] (.int (σ 51 x.toNatClampNeg) :: S) σ else none) ∧
  (∀ (d : Nat) (σ : Sg) (l0 l1 l2 : Value) (x : Int32), exec d mX7_part 69 [l0, l1, l2] [.int x] σ = some (some (.int x), σ)) ∧
  (∀ (d : Nat) (σ : Sg) (S : List Value) (l1 l2 : Value) (k : Nat), exec d mX7_part 70 [.ref k, l1, l2] S σ = exec d mX7_part 71 [.ref k, l1, l2] (.ref k :: S) σ) ∧
  (∀ (d : Nat) (σ : Sg) (S : List Value) (l0 l1 l2 : Value), exec d mX7_part 71 [l0, l1, l2] (.ref 50 :: S) σ = exec d mX7_part 74 [l0, l1, l2] (.ref 51 :: S) σ) ∧
  (∀ (d : Nat) (σ : Sg) (S : List Value) (l0 l1 l2 : Value), exec d mX7_part 74 [l0, l1, l2] S σ = exec d mX7_part 76 [l0, l1, l2] (.int (nI 23) :: S) σ) ∧
  (∀ (d : Nat) (σ : Sg) (S : List Value) (l0 l2 : Value) (x : Int32), exec d mX7_part 76 [l0, .int x, l2] S σ = exec d mX7_part 77 [l0, .int x, l2] (.int x :: S) σ) ∧
  (∀ (d : Nat) (σ : Sg) (S : List Value) (l0 l1 l2 : Value) (x y : Int32), exec d mX7_part 77 [l0, l1, l2] (.int y :: .int x :: S) σ = exec d mX7_part 78 [l0, l1, l2] (.int (x + y) :: S) σ) ∧
  (∀ (d : Nat) (σ : Sg) (S : List Value) (l0 l1 l2 : Value) (x : Int32), exec d mX7_part 78 [l0, l1, l2] (.int x :: .ref 51 :: S) σ = if inb x 208 = true then exec d mX7_part 79 [l0, l1, l2] (.int (σ 51 x.toNatClampNeg) :: S) σ else none) ∧
  (∀ (d : Nat) (σ : Sg) (l0 l1 l2 : Value) (x : Int32), exec d mX7_part 79 [l0, l1, l2] [.int x] σ = some (some (.int x), σ)) ∧
  (∀ (d : Nat) (σ : Sg) (S : List Value) (l1 l2 : Value) (k : Nat), exec d mX7_part 80 [.ref k, l1, l2] S σ = exec d mX7_part 81 [.ref k, l1, l2] (.ref k :: S) σ) ∧
  (∀ (d : Nat) (σ : Sg) (S : List Value) (l0 l1 l2 : Value), exec d mX7_part 81 [l0, l1, l2] (.ref 50 :: S) σ = exec d mX7_part 84 [l0, l1, l2] (.ref 51 :: S) σ) ∧
  (∀ (d : Nat) (σ : Sg) (S : List Value) (l0 l1 l2 : Value), exec d mX7_part 84 [l0, l1, l2] S σ = exec d mX7_part 86 [l0, l1, l2] (.int (nI 30) :: S) σ) ∧
  (∀ (d : Nat) (σ : Sg) (S : List Value) (l0 l2 : Value) (x : Int32), exec d mX7_part 86 [l0, .int x, l2] S σ = exec d mX7_part 87 [l0, .int x, l2] (.int x :: S) σ) ∧
  (∀ (d : Nat) (σ : Sg) (S : List Value) (l0 l1 l2 : Value) (x y : Int32), exec d mX7_part 87 [l0, l1, l2] (.int y :: .int x :: S) σ = exec d mX7_part 88 [l0, l1, l2] (.int (x + y) :: S) σ) ∧
  (∀ (d : Nat) (σ : Sg) (S : List Value) (l0 l1 l2 : Value) (x : Int32), exec d mX7_part 88 [l0, l1, l2] (.int x :: .ref 51 :: S) σ = if inb x 208 = true then exec d mX7_part 89 [l0, l1, l2] (.int (σ 51 x.toNatClampNeg) :: S) σ else none) ∧
  (∀ (d : Nat) (σ : Sg) (S : List Value) (l0 l1 l2 : Value), exec d mX7_part 89 [l0, l1, l2] S σ = exec d mX7_part 91 [l0, l1, l2] (.int (nI 7) :: S) σ) ∧
  (∀ (d : Nat) (σ : Sg) (S : List Value) (l0 l1 l2 : Value) (x y : Int32), exec d mX7_part 91 [l0, l1, l2] (.int y :: .int x :: S) σ = if x = y then exec d mX7_part 94 [l0, l1, l2] S σ else exec d mX7_part 99 [l0, l1, l2] S σ) ∧
  (∀ (d : Nat) (σ : Sg) (S : List Value) (l0 l1 l2 : Value), exec d mX7_part 94 [l0, l1, l2] S σ = exec d mX7_part 96 [l0, l1, l2] (.int ((-1000000)) :: S) σ) ∧
  (∀ (d : Nat) (σ : Sg) (S : List Value) (l0 l1 l2 : Value), exec d mX7_part 96 [l0, l1, l2] S σ = exec d mX7_part 108 [l0, l1, l2] S σ) ∧
  (∀ (d : Nat) (σ : Sg) (S : List Value) (l1 l2 : Value) (k : Nat), exec d mX7_part 99 [.ref k, l1, l2] S σ = exec d mX7_part 100 [.ref k, l1, l2] (.ref k :: S) σ) ∧
  (∀ (d : Nat) (σ : Sg) (S : List Value) (l0 l1 l2 : Value), exec d mX7_part 100 [l0, l1, l2] (.ref 50 :: S) σ = exec d mX7_part 103 [l0, l1, l2] (.ref 51 :: S) σ) ∧
  (∀ (d : Nat) (σ : Sg) (S : List Value) (l0 l1 l2 : Value), exec d mX7_part 103 [l0, l1, l2] S σ = exec d mX7_part 105 [l0, l1, l2] (.int (nI 30) :: S) σ) ∧
  (∀ (d : Nat) (σ : Sg) (S : List Value) (l0 l2 : Value) (x : Int32), exec d mX7_part 105 [l0, .int x, l2] S σ = exec d mX7_part 106 [l0, .int x, l2] (.int x :: S) σ) ∧
  (∀ (d : Nat) (σ : Sg) (S : List Value) (l0 l1 l2 : Value) (x y : Int32), exec d mX7_part 106 [l0, l1, l2] (.int y :: .int x :: S) σ = exec d mX7_part 107 [l0, l1, l2] (.int (x + y) :: S) σ) ∧
  (∀ (d : Nat) (σ : Sg) (S : List Value) (l0 l1 l2 : Value) (x : Int32), exec d mX7_part 107 [l0, l1, l2] (.int x :: .ref 51 :: S) σ = if inb x 208 = true then exec d mX7_part 108 [l0, l1, l2] (.int (σ 51 x.toNatClampNeg) :: S) σ else none) ∧
  (∀ (d : Nat) (σ : Sg) (l0 l1 l2 : Value) (x : Int32), exec d mX7_part 108 [l0, l1, l2] [.int x] σ = some (some (.int x), σ)) ∧
  (∀ (d : Nat) (σ : Sg) (S : List Value) (l1 l2 : Value) (k : Nat), exec d mX7_part 109 [.ref k, l1, l2] S σ = exec d mX7_part 110 [.ref k, l1, l2] (.ref k :: S) σ) :=
  ⟨fun d σ S l1 l2 k => ex_aload_n (show decode mX7_part.2.1 0 = .ok (.aload_n 0, 1) by decide +kernel) rfl,
  fun d σ S l0 l2 x => ex_iload_n (show decode mX7_part.2.1 1 = .ok (.iload_n 1, 1) by decide +kernel) rfl,
  fun d σ l0 l1 l2 x0 => ex_iv (hs := [1014, 1016, 65, 1017, 101]) (show decode mX7_part.2.1 2 = .ok (.invokevirtual 172, 3) by decide +kernel) lkV_7_172 ⟨rfl, Nat.le_of_ble_eq_true rfl, Nat.le_of_ble_eq_true rfl, fun _ => rfl⟩ rfl rfl,
  fun d σ S l0 l1 l2 x => ex_zne (show decode mX7_part.2.1 5 = .ok (.ifCond .ne 6, 3) by decide +kernel) (by decide),
  fun d σ S l0 l1 l2 => ex_ldc (hh := 924) (show decode mX7_part.2.1 8 = .ok (.ldc 73, 2) by decide +kernel) (by decide +kernel),
  fun d σ l0 l1 l2 x => ex_iret (show decode mX7_part.2.1 10 = .ok (.ireturn, 1) by decide +kernel) rfl,
  fun d σ S l0 l1 x => ex_iload_n (show decode mX7_part.2.1 11 = .ok (.iload_n 2, 1) by decide +kernel) rfl,
  fun d σ S l0 l1 l2 x => ex_tsw (lo := 0) (df := 177) (ts := [60, 70, 80, 109, 120, 131, 143, 163]) (show decode mX7_part.2.1 12 = .ok (.tableswitch 165 0 7 #[48, 58, 68, 97, 108, 119, 131, 151], 48) by decide +kernel) (by decide) (by decide) (by decide) (by decide),
  fun d σ S l1 l2 k => ex_aload_n (show decode mX7_part.2.1 60 = .ok (.aload_n 0, 1) by decide +kernel) rfl,
  fun d σ S l0 l1 l2 => ex_getr (idx := 7) (ci := 7) (ff := 0) (n := 26) (hh := 833) (by decide +kernel),
  fun d σ S l0 l1 l2 => ex_bipush (show decode mX7_part.2.1 64 = .ok (.bipush 16, 2) by decide +kernel) (by decide +kernel),
  fun d σ S l0 l2 x => ex_iload_n (show decode mX7_part.2.1 66 = .ok (.iload_n 1, 1) by decide +kernel) rfl,
  fun d σ S l0 l1 l2 x y => ex_iadd (show decode mX7_part.2.1 67 = .ok (.iadd, 1) by decide +kernel),
  fun d σ S l0 l1 l2 x => ex_iald (by decide +kernel),
  fun d σ l0 l1 l2 x => ex_iret (show decode mX7_part.2.1 69 = .ok (.ireturn, 1) by decide +kernel) rfl,
  fun d σ S l1 l2 k => ex_aload_n (show decode mX7_part.2.1 70 = .ok (.aload_n 0, 1) by decide +kernel) rfl,
  fun d σ S l0 l1 l2 => ex_getr (idx := 7) (ci := 7) (ff := 0) (n := 26) (hh := 833) (by decide +kernel),
  fun d σ S l0 l1 l2 => ex_bipush (show decode mX7_part.2.1 74 = .ok (.bipush 23, 2) by decide +kernel) (by decide +kernel),
  fun d σ S l0 l2 x => ex_iload_n (show decode mX7_part.2.1 76 = .ok (.iload_n 1, 1) by decide +kernel) rfl,
  fun d σ S l0 l1 l2 x y => ex_iadd (show decode mX7_part.2.1 77 = .ok (.iadd, 1) by decide +kernel),
  fun d σ S l0 l1 l2 x => ex_iald (by decide +kernel),
  fun d σ l0 l1 l2 x => ex_iret (show decode mX7_part.2.1 79 = .ok (.ireturn, 1) by decide +kernel) rfl,
  fun d σ S l1 l2 k => ex_aload_n (show decode mX7_part.2.1 80 = .ok (.aload_n 0, 1) by decide +kernel) rfl,
  fun d σ S l0 l1 l2 => ex_getr (idx := 7) (ci := 7) (ff := 0) (n := 26) (hh := 833) (by decide +kernel),
  fun d σ S l0 l1 l2 => ex_bipush (show decode mX7_part.2.1 84 = .ok (.bipush 30, 2) by decide +kernel) (by decide +kernel),
  fun d σ S l0 l2 x => ex_iload_n (show decode mX7_part.2.1 86 = .ok (.iload_n 1, 1) by decide +kernel) rfl,
  fun d σ S l0 l1 l2 x y => ex_iadd (show decode mX7_part.2.1 87 = .ok (.iadd, 1) by decide +kernel),
  fun d σ S l0 l1 l2 x => ex_iald (by decide +kernel),
  fun d σ S l0 l1 l2 => ex_bipush (show decode mX7_part.2.1 89 = .ok (.bipush 7, 2) by decide +kernel) (by decide +kernel),
  fun d σ S l0 l1 l2 x y => ex_cne (show decode mX7_part.2.1 91 = .ok (.if_icmp .ne 8, 3) by decide +kernel) (by decide),
  fun d σ S l0 l1 l2 => ex_ldc (hh := 1087) (show decode mX7_part.2.1 94 = .ok (.ldc 205, 2) by decide +kernel) (by decide +kernel),
  fun d σ S l0 l1 l2 => ex_goto (show decode mX7_part.2.1 96 = .ok (.goto 12, 3) by decide +kernel) (by decide),
  fun d σ S l1 l2 k => ex_aload_n (show decode mX7_part.2.1 99 = .ok (.aload_n 0, 1) by decide +kernel) rfl,
  fun d σ S l0 l1 l2 => ex_getr (idx := 7) (ci := 7) (ff := 0) (n := 26) (hh := 833) (by decide +kernel),
  fun d σ S l0 l1 l2 => ex_bipush (show decode mX7_part.2.1 103 = .ok (.bipush 30, 2) by decide +kernel) (by decide +kernel),
  fun d σ S l0 l2 x => ex_iload_n (show decode mX7_part.2.1 105 = .ok (.iload_n 1, 1) by decide +kernel) rfl,
  fun d σ S l0 l1 l2 x y => ex_iadd (show decode mX7_part.2.1 106 = .ok (.iadd, 1) by decide +kernel),
  fun d σ S l0 l1 l2 x => ex_iald (by decide +kernel),
  fun d σ l0 l1 l2 x => ex_iret (show decode mX7_part.2.1 108 = .ok (.ireturn, 1) by decide +kernel) rfl,
  fun d σ S l1 l2 k => ex_aload_n (show decode mX7_part.2.1 109 = .ok (.aload_n 0, 1) by decide +kernel) rfl⟩
theorem kX7_part_1 : (∀ (d : Nat) (σ : Sg) (S : List Value) (l0 l1 l2 : Value), exec d mX7_part 110 [l0, l1, l2] (.ref 50 :: S) σ = exec d mX7_part 113 [l0, l1, l2] (.ref 51 :: S) σ) ∧
  (∀ (d : Nat) (σ : Sg) (S : List Value) (l0 l1 l2 : Value), exec d mX7_part 113 [l0, l1, l2] S σ = exec d mX7_part 114 [l0, l1, l2] (.int (nI 3) :: S) σ) ∧
  (∀ (d : Nat) (σ : Sg) (S : List Value) (l0 l1 l2 : Value) (x : Int32), exec d mX7_part 114 [l0, l1, l2] (.int x :: .ref 51 :: S) σ = if inb x 208 = true then exec d mX7_part 115 [l0, l1, l2] (.int (σ 51 x.toNatClampNeg) :: S) σ else none) ∧
  (∀ (d : Nat) (σ : Sg) (S : List Value) (l0 l2 : Value) (x : Int32), exec d mX7_part 115 [l0, .int x, l2] S σ = exec d mX7_part 116 [l0, .int x, l2] (.int x :: S) σ) ∧
  (∀ (d : Nat) (σ : Sg) (S : List Value) (l0 l1 l2 : Value) (x y : Int32), exec d mX7_part 116 [l0, l1, l2] (.int y :: .int x :: S) σ = exec d mX7_part 117 [l0, l1, l2] (.int (x >>> (y &&& 31)) :: S) σ) ∧
  (∀ (d : Nat) (σ : Sg) (S : List Value) (l0 l1 l2 : Value), exec d mX7_part 117 [l0, l1, l2] S σ = exec d mX7_part 118 [l0, l1, l2] (.int (nI 1) :: S) σ) ∧
  (∀ (d : Nat) (σ : Sg) (S : List Value) (l0 l1 l2 : Value) (x y : Int32), exec d mX7_part 118 [l0, l1, l2] (.int y :: .int x :: S) σ = exec d mX7_part 119 [l0, l1, l2] (.int (x &&& y) :: S) σ) ∧
  (∀ (d : Nat) (σ : Sg) (l0 l1 l2 : Value) (x : Int32), exec d mX7_part 119 [l0, l1, l2] [.int x] σ = some (some (.int x), σ)) ∧
  (∀ (d : Nat) (σ : Sg) (S : List Value) (l1 l2 : Value) (k : Nat), exec d mX7_part 120 [.ref k, l1, l2] S σ = exec d mX7_part 121 [.ref k, l1, l2] (.ref k :: S) σ) ∧
  (∀ (d : Nat) (σ : Sg) (S : List Value) (l0 l1 l2 : Value), exec d mX7_part 121 [l0, l1, l2] (.ref 50 :: S) σ = exec d mX7_part 124 [l0, l1, l2] (.ref 51 :: S) σ) ∧
  (∀ (d : Nat) (σ : Sg) (S : List Value) (l0 l1 l2 : Value), exec d mX7_part 124 [l0, l1, l2] S σ = exec d mX7_part 125 [l0, l1, l2] (.int (nI 4) :: S) σ) ∧
  (∀ (d : Nat) (σ : Sg) (S : List Value) (l0 l1 l2 : Value) (x : Int32), exec d mX7_part 125 [l0, l1, l2] (.int x :: .ref 51 :: S) σ = if inb x 208 = true then exec d mX7_part 126 [l0, l1, l2] (.int (σ 51 x.toNatClampNeg) :: S) σ else none) ∧
  (∀ (d : Nat) (σ : Sg) (S : List Value) (l0 l2 : Value) (x : Int32), exec d mX7_part 126 [l0, .int x, l2] S σ = exec d mX7_part 127 [l0, .int x, l2] (.int x :: S) σ) ∧
  (∀ (d : Nat) (σ : Sg) (S : List Value) (l0 l1 l2 : Value) (x y : Int32), exec d mX7_part 127 [l0, l1, l2] (.int y :: .int x :: S) σ = exec d mX7_part 128 [l0, l1, l2] (.int (x >>> (y &&& 31)) :: S) σ) ∧
  (∀ (d : Nat) (σ : Sg) (S : List Value) (l0 l1 l2 : Value), exec d mX7_part 128 [l0, l1, l2] S σ = exec d mX7_part 129 [l0, l1, l2] (.int (nI 1) :: S) σ) ∧
  (∀ (d : Nat) (σ : Sg) (S : List Value) (l0 l1 l2 : Value) (x y : Int32), exec d mX7_part 129 [l0, l1, l2] (.int y :: .int x :: S) σ = exec d mX7_part 130 [l0, l1, l2] (.int (x &&& y) :: S) σ) ∧
  (∀ (d : Nat) (σ : Sg) (l0 l1 l2 : Value) (x : Int32), exec d mX7_part 130 [l0, l1, l2] [.int x] σ = some (some (.int x), σ)) ∧
  (∀ (d : Nat) (σ : Sg) (S : List Value) (l1 l2 : Value) (k : Nat), exec d mX7_part 131 [.ref k, l1, l2] S σ = exec d mX7_part 132 [.ref k, l1, l2] (.ref k :: S) σ) ∧
  (∀ (d : Nat) (σ : Sg) (S : List Value) (l0 l2 : Value) (x : Int32), exec d mX7_part 132 [l0, .int x, l2] S σ = exec d mX7_part 133 [l0, .int x, l2] (.int x :: S) σ) ∧
  (∀ (d : Nat) (σ : Sg) (S : List Value) (l1 l2 : Value) (k : Nat), exec d mX7_part 133 [.ref k, l1, l2] S σ = exec d mX7_part 134 [.ref k, l1, l2] (.ref k :: S) σ) ∧
  (∀ (d : Nat) (σ : Sg) (S : List Value) (l0 l1 l2 : Value), exec d mX7_part 134 [l0, l1, l2] (.ref 50 :: S) σ = exec d mX7_part 137 [l0, l1, l2] (.ref 51 :: S) σ) ∧
  (∀ (d : Nat) (σ : Sg) (S : List Value) (l0 l1 l2 : Value), exec d mX7_part 137 [l0, l1, l2] S σ = exec d mX7_part 138 [l0, l1, l2] (.int (nI 0) :: S) σ) ∧
  (∀ (d : Nat) (σ : Sg) (S : List Value) (l0 l1 l2 : Value) (x : Int32), exec d mX7_part 138 [l0, l1, l2] (.int x :: .ref 51 :: S) σ = if inb x 208 = true then exec d mX7_part 139 [l0, l1, l2] (.int (σ 51 x.toNatClampNeg) :: S) σ else none) ∧
  (∀ (d : Nat) (σ : Sg) (l0 l1 l2 : Value) (x0 x1 : Int32), exec d mX7_part 139 [l0, l1, l2] [.int x0, .int x1, .ref 50] σ = kb (cal d mX7_takesNow [.ref 50, .int x1, .int x0] σ) (fun rs σ2 => exec d mX7_part 142 [l0, l1, l2] (rs ++ []) σ2)) ∧
  (∀ (d : Nat) (σ : Sg) (l0 l1 l2 : Value) (x : Int32), exec d mX7_part 142 [l0, l1, l2] [.int x] σ = some (some (.int x), σ)) ∧
  (∀ (d : Nat) (σ : Sg) (S : List Value) (l1 l2 : Value) (k : Nat), exec d mX7_part 143 [.ref k, l1, l2] S σ = exec d mX7_part 144 [.ref k, l1, l2] (.ref k :: S) σ) ∧
  (∀ (d : Nat) (σ : Sg) (S : List Value) (l0 l2 : Value) (x : Int32), exec d mX7_part 144 [l0, .int x, l2] S σ = exec d mX7_part 145 [l0, .int x, l2] (.int x :: S) σ) ∧
  (∀ (d : Nat) (σ : Sg) (S : List Value) (l1 l2 : Value) (k : Nat), exec d mX7_part 145 [.ref k, l1, l2] S σ = exec d mX7_part 146 [.ref k, l1, l2] (.ref k :: S) σ) ∧
  (∀ (d : Nat) (σ : Sg) (S : List Value) (l0 l1 l2 : Value), exec d mX7_part 146 [l0, l1, l2] (.ref 50 :: S) σ = exec d mX7_part 149 [l0, l1, l2] (.ref 51 :: S) σ) ∧
  (∀ (d : Nat) (σ : Sg) (S : List Value) (l0 l1 l2 : Value), exec d mX7_part 149 [l0, l1, l2] S σ = exec d mX7_part 150 [l0, l1, l2] (.int (nI 0) :: S) σ) ∧
  (∀ (d : Nat) (σ : Sg) (S : List Value) (l0 l1 l2 : Value) (x : Int32), exec d mX7_part 150 [l0, l1, l2] (.int x :: .ref 51 :: S) σ = if inb x 208 = true then exec d mX7_part 151 [l0, l1, l2] (.int (σ 51 x.toNatClampNeg) :: S) σ else none) ∧
  (∀ (d : Nat) (σ : Sg) (l0 l1 l2 : Value) (x0 x1 : Int32), exec d mX7_part 151 [l0, l1, l2] [.int x0, .int x1, .ref 50] σ = kb (cal d mX7_isFaultyNow [.ref 50, .int x1, .int x0] σ) (fun rs σ2 => exec d mX7_part 154 [l0, l1, l2] (rs ++ []) σ2)) ∧
  (∀ (d : Nat) (σ : Sg) (S : List Value) (l0 l1 l2 : Value) (x : Int32), exec d mX7_part 154 [l0, l1, l2] (.int x :: S) σ = if x = nI 0 then exec d mX7_part 161 [l0, l1, l2] S σ else exec d mX7_part 157 [l0, l1, l2] S σ) ∧
  (∀ (d : Nat) (σ : Sg) (S : List Value) (l0 l1 l2 : Value), exec d mX7_part 157 [l0, l1, l2] S σ = exec d mX7_part 158 [l0, l1, l2] (.int (nI 1) :: S) σ) ∧
  (∀ (d : Nat) (σ : Sg) (S : List Value) (l0 l1 l2 : Value), exec d mX7_part 158 [l0, l1, l2] S σ = exec d mX7_part 162 [l0, l1, l2] S σ) ∧
  (∀ (d : Nat) (σ : Sg) (S : List Value) (l0 l1 l2 : Value), exec d mX7_part 161 [l0, l1, l2] S σ = exec d mX7_part 162 [l0, l1, l2] (.int (nI 0) :: S) σ) ∧
  (∀ (d : Nat) (σ : Sg) (l0 l1 l2 : Value) (x : Int32), exec d mX7_part 162 [l0, l1, l2] [.int x] σ = some (some (.int x), σ)) ∧
  (∀ (d : Nat) (σ : Sg) (S : List Value) (l1 l2 : Value) (k : Nat), exec d mX7_part 163 [.ref k, l1, l2] S σ = exec d mX7_part 164 [.ref k, l1, l2] (.ref k :: S) σ) ∧
  (∀ (d : Nat) (σ : Sg) (S : List Value) (l0 l2 : Value) (x : Int32), exec d mX7_part 164 [l0, .int x, l2] S σ = exec d mX7_part 165 [l0, .int x, l2] (.int x :: S) σ) ∧
  (∀ (d : Nat) (σ : Sg) (l0 l1 l2 : Value) (x0 : Int32), exec d mX7_part 165 [l0, l1, l2] [.int x0, .ref 50] σ = kb (cal d mX7_mayNow [.ref 50, .int x0] σ) (fun rs σ2 => exec d mX7_part 168 [l0, l1, l2] (rs ++ []) σ2)) :=
  ⟨fun d σ S l0 l1 l2 => ex_getr (idx := 7) (ci := 7) (ff := 0) (n := 26) (hh := 833) (by decide +kernel),
  fun d σ S l0 l1 l2 => ex_iconst (show decode mX7_part.2.1 113 = .ok (.iconst 3, 1) by decide +kernel) (by decide +kernel),
  fun d σ S l0 l1 l2 x => ex_iald (by decide +kernel),
  fun d σ S l0 l2 x => ex_iload_n (show decode mX7_part.2.1 115 = .ok (.iload_n 1, 1) by decide +kernel) rfl,
  fun d σ S l0 l1 l2 x y => ex_ishr (show decode mX7_part.2.1 116 = .ok (.ishr, 1) by decide +kernel),
  fun d σ S l0 l1 l2 => ex_iconst (show decode mX7_part.2.1 117 = .ok (.iconst 1, 1) by decide +kernel) (by decide +kernel),
  fun d σ S l0 l1 l2 x y => ex_iand (show decode mX7_part.2.1 118 = .ok (.iand, 1) by decide +kernel),
  fun d σ l0 l1 l2 x => ex_iret (show decode mX7_part.2.1 119 = .ok (.ireturn, 1) by decide +kernel) rfl,
  fun d σ S l1 l2 k => ex_aload_n (show decode mX7_part.2.1 120 = .ok (.aload_n 0, 1) by decide +kernel) rfl,
  fun d σ S l0 l1 l2 => ex_getr (idx := 7) (ci := 7) (ff := 0) (n := 26) (hh := 833) (by decide +kernel),
  fun d σ S l0 l1 l2 => ex_iconst (show decode mX7_part.2.1 124 = .ok (.iconst 4, 1) by decide +kernel) (by decide +kernel),
  fun d σ S l0 l1 l2 x => ex_iald (by decide +kernel),
  fun d σ S l0 l2 x => ex_iload_n (show decode mX7_part.2.1 126 = .ok (.iload_n 1, 1) by decide +kernel) rfl,
  fun d σ S l0 l1 l2 x y => ex_ishr (show decode mX7_part.2.1 127 = .ok (.ishr, 1) by decide +kernel),
  fun d σ S l0 l1 l2 => ex_iconst (show decode mX7_part.2.1 128 = .ok (.iconst 1, 1) by decide +kernel) (by decide +kernel),
  fun d σ S l0 l1 l2 x y => ex_iand (show decode mX7_part.2.1 129 = .ok (.iand, 1) by decide +kernel),
  fun d σ l0 l1 l2 x => ex_iret (show decode mX7_part.2.1 130 = .ok (.ireturn, 1) by decide +kernel) rfl,
  fun d σ S l1 l2 k => ex_aload_n (show decode mX7_part.2.1 131 = .ok (.aload_n 0, 1) by decide +kernel) rfl,
  fun d σ S l0 l2 x => ex_iload_n (show decode mX7_part.2.1 132 = .ok (.iload_n 1, 1) by decide +kernel) rfl,
  fun d σ S l1 l2 k => ex_aload_n (show decode mX7_part.2.1 133 = .ok (.aload_n 0, 1) by decide +kernel) rfl,
  fun d σ S l0 l1 l2 => ex_getr (idx := 7) (ci := 7) (ff := 0) (n := 26) (hh := 833) (by decide +kernel),
  fun d σ S l0 l1 l2 => ex_iconst (show decode mX7_part.2.1 137 = .ok (.iconst 0, 1) by decide +kernel) (by decide +kernel),
  fun d σ S l0 l1 l2 x => ex_iald (by decide +kernel),
  fun d σ l0 l1 l2 x0 x1 => ex_iv (hs := [1026, 1028, 68, 1029, 101]) (show decode mX7_part.2.1 139 = .ok (.invokevirtual 154, 3) by decide +kernel) lkV_7_154 ⟨rfl, Nat.le_of_ble_eq_true rfl, Nat.le_of_ble_eq_true rfl, fun _ => rfl⟩ rfl rfl,
  fun d σ l0 l1 l2 x => ex_iret (show decode mX7_part.2.1 142 = .ok (.ireturn, 1) by decide +kernel) rfl,
  fun d σ S l1 l2 k => ex_aload_n (show decode mX7_part.2.1 143 = .ok (.aload_n 0, 1) by decide +kernel) rfl,
  fun d σ S l0 l2 x => ex_iload_n (show decode mX7_part.2.1 144 = .ok (.iload_n 1, 1) by decide +kernel) rfl,
  fun d σ S l1 l2 k => ex_aload_n (show decode mX7_part.2.1 145 = .ok (.aload_n 0, 1) by decide +kernel) rfl,
  fun d σ S l0 l1 l2 => ex_getr (idx := 7) (ci := 7) (ff := 0) (n := 26) (hh := 833) (by decide +kernel),
  fun d σ S l0 l1 l2 => ex_iconst (show decode mX7_part.2.1 149 = .ok (.iconst 0, 1) by decide +kernel) (by decide +kernel),
  fun d σ S l0 l1 l2 x => ex_iald (by decide +kernel),
  fun d σ l0 l1 l2 x0 x1 => ex_iv (hs := [1048, 1050, 72, 1051, 101]) (show decode mX7_part.2.1 151 = .ok (.invokevirtual 165, 3) by decide +kernel) lkV_7_165 ⟨rfl, Nat.le_of_ble_eq_true rfl, Nat.le_of_ble_eq_true rfl, fun _ => rfl⟩ rfl rfl,
  fun d σ S l0 l1 l2 x => ex_zeq (show decode mX7_part.2.1 154 = .ok (.ifCond .eq 7, 3) by decide +kernel) (by decide),
  fun d σ S l0 l1 l2 => ex_iconst (show decode mX7_part.2.1 157 = .ok (.iconst 1, 1) by decide +kernel) (by decide +kernel),
  fun d σ S l0 l1 l2 => ex_goto (show decode mX7_part.2.1 158 = .ok (.goto 4, 3) by decide +kernel) (by decide),
  fun d σ S l0 l1 l2 => ex_iconst (show decode mX7_part.2.1 161 = .ok (.iconst 0, 1) by decide +kernel) (by decide +kernel),
  fun d σ l0 l1 l2 x => ex_iret (show decode mX7_part.2.1 162 = .ok (.ireturn, 1) by decide +kernel) rfl,
  fun d σ S l1 l2 k => ex_aload_n (show decode mX7_part.2.1 163 = .ok (.aload_n 0, 1) by decide +kernel) rfl,
  fun d σ S l0 l2 x => ex_iload_n (show decode mX7_part.2.1 164 = .ok (.iload_n 1, 1) by decide +kernel) rfl,
  fun d σ l0 l1 l2 x0 => ex_iv (hs := [1018, 1020, 66, 1021, 101]) (show decode mX7_part.2.1 165 = .ok (.invokevirtual 175, 3) by decide +kernel) lkV_7_175 ⟨rfl, Nat.le_of_ble_eq_true rfl, Nat.le_of_ble_eq_true rfl, fun _ => rfl⟩ rfl rfl⟩
theorem kX7_part_2 : (∀ (d : Nat) (σ : Sg) (S : List Value) (l0 l1 l2 : Value) (x : Int32), exec d mX7_part 168 [l0, l1, l2] (.int x :: S) σ = if x = nI 0 then exec d mX7_part 175 [l0, l1, l2] S σ else exec d mX7_part 171 [l0, l1, l2] S σ) ∧
  (∀ (d : Nat) (σ : Sg) (S : List Value) (l0 l1 l2 : Value), exec d mX7_part 171 [l0, l1, l2] S σ = exec d mX7_part 172 [l0, l1, l2] (.int (nI 1) :: S) σ) ∧
  (∀ (d : Nat) (σ : Sg) (S : List Value) (l0 l1 l2 : Value), exec d mX7_part 172 [l0, l1, l2] S σ = exec d mX7_part 176 [l0, l1, l2] S σ) ∧
  (∀ (d : Nat) (σ : Sg) (S : List Value) (l0 l1 l2 : Value), exec d mX7_part 175 [l0, l1, l2] S σ = exec d mX7_part 176 [l0, l1, l2] (.int (nI 0) :: S) σ) ∧
  (∀ (d : Nat) (σ : Sg) (l0 l1 l2 : Value) (x : Int32), exec d mX7_part 176 [l0, l1, l2] [.int x] σ = some (some (.int x), σ)) ∧
  (∀ (d : Nat) (σ : Sg) (S : List Value) (l0 l1 l2 : Value), exec d mX7_part 177 [l0, l1, l2] S σ = exec d mX7_part 179 [l0, l1, l2] (.int ((-1000001)) :: S) σ) ∧
  (∀ (d : Nat) (σ : Sg) (l0 l1 l2 : Value) (x : Int32), exec d mX7_part 179 [l0, l1, l2] [.int x] σ = some (some (.int x), σ)) :=
  ⟨fun d σ S l0 l1 l2 x => ex_zeq (show decode mX7_part.2.1 168 = .ok (.ifCond .eq 7, 3) by decide +kernel) (by decide),
  fun d σ S l0 l1 l2 => ex_iconst (show decode mX7_part.2.1 171 = .ok (.iconst 1, 1) by decide +kernel) (by decide +kernel),
  fun d σ S l0 l1 l2 => ex_goto (show decode mX7_part.2.1 172 = .ok (.goto 4, 3) by decide +kernel) (by decide),
  fun d σ S l0 l1 l2 => ex_iconst (show decode mX7_part.2.1 175 = .ok (.iconst 0, 1) by decide +kernel) (by decide +kernel),
  fun d σ l0 l1 l2 x => ex_iret (show decode mX7_part.2.1 176 = .ok (.ireturn, 1) by decide +kernel) rfl,
  fun d σ S l0 l1 l2 => ex_ldc (hh := 924) (show decode mX7_part.2.1 177 = .ok (.ldc 73, 2) by decide +kernel) (by decide +kernel),
  fun d σ l0 l1 l2 x => ex_iret (show decode mX7_part.2.1 179 = .ok (.ireturn, 1) by decide +kernel) rfl⟩
theorem aX7_part_50 : ∀ (d : Nat) (a1 : Int32) (a2 : Int32) (σ : Sg), cal (d + 1) mX7_part [.ref 50, .int a1, .int a2] σ = exec d mX7_part 0 [.ref 50, .int a1, .int a2] [] σ := fun _ _ _ _ => rfl
theorem kX7_elder_0 : (∀ (d : Nat) (σ : Sg) (S : List Value) (l1 l2 : Value) (k : Nat), exec d mX7_elder 0 [.ref k, l1, l2] S σ = exec d mX7_elder 1 [.ref k, l1, l2] (.ref k :: S) σ) ∧
  (∀ (d : Nat) (σ : Sg) (S : List Value) (l0 l2 : Value) (x : Int32), exec d mX7_elder 1 [l0, .int x, l2] S σ = exec d mX7_elder 2 [l0, .int x, l2] (.int x :: S) σ) ∧
  (∀ (d : Nat) (σ : Sg) (l0 l1 l2 : Value) (x0 : Int32), exec d mX7_elder 2 [l0, l1, l2] [.int x0, .ref 50] σ = kb (cal d mX7_isElder [.ref 50, .int x0] σ) (fun rs σ2 => exec d mX7_elder 5 [l0, l1, l2] (rs ++ []) σ2)) ∧
  (∀ (d : Nat) (σ : Sg) (S : List Value) (l0 l1 l2 : Value) (x : Int32), exec d mX7_elder 5 [l0, l1, l2] (.int x :: S) σ = if x = nI 0 then exec d mX7_elder 8 [l0, l1, l2] S σ else exec d mX7_elder 11 [l0, l1, l2] S σ) ∧
  (∀ (d : Nat) (σ : Sg) (S : List Value) (l0 l1 l2 : Value), exec d mX7_elder 8 [l0, l1, l2] S σ = exec d mX7_elder 10 [l0, l1, l2] (.int ((-1000001)) :: S) σ) ∧
  (∀ (d : Nat) (σ : Sg) (l0 l1 l2 : Value) (x : Int32), exec d mX7_elder 10 [l0, l1, l2] [.int x] σ = some (some (.int x), σ)) ∧
  (∀ (d : Nat) (σ : Sg) (S : List Value) (l0 l1 : Value) (x : Int32), exec d mX7_elder 11 [l0, l1, .int x] S σ = exec d mX7_elder 12 [l0, l1, .int x] (.int x :: S) σ) ∧
  (∀ (d : Nat) (σ : Sg) (S : List Value) (l0 l1 l2 : Value) (x : Int32), exec d mX7_elder 12 [l0, l1, l2] (.int x :: S) σ = (if x = nI 0 then exec d mX7_elder 52 [l0, l1, l2] S σ else (if x = nI 1 then exec d mX7_elder 62 [l0, l1, l2] S σ else (if x = nI 2 then exec d mX7_elder 72 [l0, l1, l2] S σ else (if x = nI 3 then exec d mX7_elder 82 [l0, l1, l2] S σ else (if x = nI 4 then exec d mX7_elder 93 [l0, l1, l2] S σ else (if x = nI 5 then exec d mX7_elder 105 [l0, l1, l2] S σ else exec d mX7_elder 114 [l0, l1, l2] S σ))))))) ∧
  (∀ (d : Nat) (σ : Sg) (S : List Value) (l1 l2 : Value) (k : Nat), exec d mX7_elder 52 [.ref k, l1, l2] S σ = exec d mX7_elder 53 [.ref k, l1, l2] (.ref k :: S) σ) ∧
  (∀ (d : Nat) (σ : Sg) (S : List Value) (l0 l1 l2 : Value), exec d mX7_elder 53 [l0, l1, l2] (.ref 50 :: S) σ = exec d mX7_elder 56 [l0, l1, l2] (.ref 51 :: S) σ) ∧
  (∀ (d : Nat) (σ : Sg) (S : List Value) (l0 l1 l2 : Value), exec d mX7_elder 56 [l0, l1, l2] S σ = exec d mX7_elder 58 [l0, l1, l2] (.int (nI 37) :: S) σ) ∧
  (∀ (d : Nat) (σ : Sg) (S : List Value) (l0 l2 : Value) (x : Int32), exec d mX7_elder 58 [l0, .int x, l2] S σ = exec d mX7_elder 59 [l0, .int x, l2] (.int x :: S) σ) ∧
  (∀ (d : Nat) (σ : Sg) (S : List Value) (l0 l1 l2 : Value) (x y : Int32), exec d mX7_elder 59 [l0, l1, l2] (.int y :: .int x :: S) σ = exec d mX7_elder 60 [l0, l1, l2] (.int (x + y) :: S) σ) ∧
  (∀ (d : Nat) (σ : Sg) (S : List Value) (l0 l1 l2 : Value) (x : Int32), exec d mX7_elder 60 [l0, l1, l2] (.int x :: .ref 51 :: S) σ = if inb x 208 = true then exec d mX7_elder 61 [l0, l1, l2] (.int (σ 51 x.toNatClampNeg) :: S) σ else none) ∧
  (∀ (d : Nat) (σ : Sg) (l0 l1 l2 : Value) (x : Int32), exec d mX7_elder 61 [l0, l1, l2] [.int x] σ = some (some (.int x), σ)) ∧
  (∀ (d : Nat) (σ : Sg) (S : List Value) (l1 l2 : Value) (k : Nat), exec d mX7_elder 62 [.ref k, l1, l2] S σ = exec d mX7_elder 63 [.ref k, l1, l2] (.ref k :: S) σ) ∧
  (∀ (d : Nat) (σ : Sg) (S : List Value) (l0 l1 l2 : Value), exec d mX7_elder 63 [l0, l1, l2] (.ref 50 :: S) σ = exec d mX7_elder 66 [l0, l1, l2] (.ref 51 :: S) σ) ∧
  (∀ (d : Nat) (σ : Sg) (S : List Value) (l0 l1 l2 : Value), exec d mX7_elder 66 [l0, l1, l2] S σ = exec d mX7_elder 68 [l0, l1, l2] (.int (nI 42) :: S) σ) ∧
  (∀ (d : Nat) (σ : Sg) (S : List Value) (l0 l2 : Value) (x : Int32), exec d mX7_elder 68 [l0, .int x, l2] S σ = exec d mX7_elder 69 [l0, .int x, l2] (.int x :: S) σ) ∧
  (∀ (d : Nat) (σ : Sg) (S : List Value) (l0 l1 l2 : Value) (x y : Int32), exec d mX7_elder 69 [l0, l1, l2] (.int y :: .int x :: S) σ = exec d mX7_elder 70 [l0, l1, l2] (.int (x + y) :: S) σ) ∧
  (∀ (d : Nat) (σ : Sg) (S : List Value) (l0 l1 l2 : Value) (x : Int32), exec d mX7_elder 70 [l0, l1, l2] (.int x :: .ref 51 :: S) σ = if inb x 208 = true then exec d mX7_elder 71 [l0, l1, l2] (.int (σ 51 x.toNatClampNeg) :: S) σ else none) ∧
  (∀ (d : Nat) (σ : Sg) (l0 l1 l2 : Value) (x : Int32), exec d mX7_elder 71 [l0, l1, l2] [.int x] σ = some (some (.int x), σ)) ∧
  (∀ (d : Nat) (σ : Sg) (S : List Value) (l1 l2 : Value) (k : Nat), exec d mX7_elder 72 [.ref k, l1, l2] S σ = exec d mX7_elder 73 [.ref k, l1, l2] (.ref k :: S) σ) ∧
  (∀ (d : Nat) (σ : Sg) (S : List Value) (l0 l1 l2 : Value), exec d mX7_elder 73 [l0, l1, l2] (.ref 50 :: S) σ = exec d mX7_elder 76 [l0, l1, l2] (.ref 51 :: S) σ) ∧
  (∀ (d : Nat) (σ : Sg) (S : List Value) (l0 l1 l2 : Value), exec d mX7_elder 76 [l0, l1, l2] S σ = exec d mX7_elder 78 [l0, l1, l2] (.int (nI 47) :: S) σ) ∧
  (∀ (d : Nat) (σ : Sg) (S : List Value) (l0 l2 : Value) (x : Int32), exec d mX7_elder 78 [l0, .int x, l2] S σ = exec d mX7_elder 79 [l0, .int x, l2] (.int x :: S) σ) ∧
  (∀ (d : Nat) (σ : Sg) (S : List Value) (l0 l1 l2 : Value) (x y : Int32), exec d mX7_elder 79 [l0, l1, l2] (.int y :: .int x :: S) σ = exec d mX7_elder 80 [l0, l1, l2] (.int (x + y) :: S) σ) ∧
  (∀ (d : Nat) (σ : Sg) (S : List Value) (l0 l1 l2 : Value) (x : Int32), exec d mX7_elder 80 [l0, l1, l2] (.int x :: .ref 51 :: S) σ = if inb x 208 = true then exec d mX7_elder 81 [l0, l1, l2] (.int (σ 51 x.toNatClampNeg) :: S) σ else none) ∧
  (∀ (d : Nat) (σ : Sg) (l0 l1 l2 : Value) (x : Int32), exec d mX7_elder 81 [l0, l1, l2] [.int x] σ = some (some (.int x), σ)) ∧
  (∀ (d : Nat) (σ : Sg) (S : List Value) (l1 l2 : Value) (k : Nat), exec d mX7_elder 82 [.ref k, l1, l2] S σ = exec d mX7_elder 83 [.ref k, l1, l2] (.ref k :: S) σ) ∧
  (∀ (d : Nat) (σ : Sg) (S : List Value) (l0 l1 l2 : Value), exec d mX7_elder 83 [l0, l1, l2] (.ref 50 :: S) σ = exec d mX7_elder 86 [l0, l1, l2] (.ref 51 :: S) σ) ∧
  (∀ (d : Nat) (σ : Sg) (S : List Value) (l0 l1 l2 : Value), exec d mX7_elder 86 [l0, l1, l2] S σ = exec d mX7_elder 87 [l0, l1, l2] (.int (nI 5) :: S) σ) ∧
  (∀ (d : Nat) (σ : Sg) (S : List Value) (l0 l1 l2 : Value) (x : Int32), exec d mX7_elder 87 [l0, l1, l2] (.int x :: .ref 51 :: S) σ = if inb x 208 = true then exec d mX7_elder 88 [l0, l1, l2] (.int (σ 51 x.toNatClampNeg) :: S) σ else none) ∧
  (∀ (d : Nat) (σ : Sg) (S : List Value) (l0 l2 : Value) (x : Int32), exec d mX7_elder 88 [l0, .int x, l2] S σ = exec d mX7_elder 89 [l0, .int x, l2] (.int x :: S) σ) ∧
  (∀ (d : Nat) (σ : Sg) (S : List Value) (l0 l1 l2 : Value) (x y : Int32), exec d mX7_elder 89 [l0, l1, l2] (.int y :: .int x :: S) σ = exec d mX7_elder 90 [l0, l1, l2] (.int (x >>> (y &&& 31)) :: S) σ) ∧
  (∀ (d : Nat) (σ : Sg) (S : List Value) (l0 l1 l2 : Value), exec d mX7_elder 90 [l0, l1, l2] S σ = exec d mX7_elder 91 [l0, l1, l2] (.int (nI 1) :: S) σ) ∧
  (∀ (d : Nat) (σ : Sg) (S : List Value) (l0 l1 l2 : Value) (x y : Int32), exec d mX7_elder 91 [l0, l1, l2] (.int y :: .int x :: S) σ = exec d mX7_elder 92 [l0, l1, l2] (.int (x &&& y) :: S) σ) ∧
  (∀ (d : Nat) (σ : Sg) (l0 l1 l2 : Value) (x : Int32), exec d mX7_elder 92 [l0, l1, l2] [.int x] σ = some (some (.int x), σ)) ∧
  (∀ (d : Nat) (σ : Sg) (S : List Value) (l1 l2 : Value) (k : Nat), exec d mX7_elder 93 [.ref k, l1, l2] S σ = exec d mX7_elder 94 [.ref k, l1, l2] (.ref k :: S) σ) ∧
  (∀ (d : Nat) (σ : Sg) (S : List Value) (l0 l2 : Value) (x : Int32), exec d mX7_elder 94 [l0, .int x, l2] S σ = exec d mX7_elder 95 [l0, .int x, l2] (.int x :: S) σ) :=
  ⟨fun d σ S l1 l2 k => ex_aload_n (show decode mX7_elder.2.1 0 = .ok (.aload_n 0, 1) by decide +kernel) rfl,
  fun d σ S l0 l2 x => ex_iload_n (show decode mX7_elder.2.1 1 = .ok (.iload_n 1, 1) by decide +kernel) rfl,
  fun d σ l0 l1 l2 x0 => ex_iv (hs := [1066, 1068, 73, 1069, 101]) (show decode mX7_elder.2.1 2 = .ok (.invokevirtual 185, 3) by decide +kernel) lkV_7_185 ⟨rfl, Nat.le_of_ble_eq_true rfl, Nat.le_of_ble_eq_true rfl, fun _ => rfl⟩ rfl rfl,
  fun d σ S l0 l1 l2 x => ex_zne (show decode mX7_elder.2.1 5 = .ok (.ifCond .ne 6, 3) by decide +kernel) (by decide),
  fun d σ S l0 l1 l2 => ex_ldc (hh := 924) (show decode mX7_elder.2.1 8 = .ok (.ldc 73, 2) by decide +kernel) (by decide +kernel),
  fun d σ l0 l1 l2 x => ex_iret (show decode mX7_elder.2.1 10 = .ok (.ireturn, 1) by decide +kernel) rfl,
  fun d σ S l0 l1 x => ex_iload_n (show decode mX7_elder.2.1 11 = .ok (.iload_n 2, 1) by decide +kernel) rfl,
  fun d σ S l0 l1 l2 x => ex_tsw (lo := 0) (df := 114) (ts := [52, 62, 72, 82, 93, 105]) (show decode mX7_elder.2.1 12 = .ok (.tableswitch 102 0 5 #[40, 50, 60, 70, 81, 93], 40) by decide +kernel) (by decide) (by decide) (by decide) (by decide),
  fun d σ S l1 l2 k => ex_aload_n (show decode mX7_elder.2.1 52 = .ok (.aload_n 0, 1) by decide +kernel) rfl,
  fun d σ S l0 l1 l2 => ex_getr (idx := 7) (ci := 7) (ff := 0) (n := 26) (hh := 833) (by decide +kernel),
  fun d σ S l0 l1 l2 => ex_bipush (show decode mX7_elder.2.1 56 = .ok (.bipush 37, 2) by decide +kernel) (by decide +kernel),
  fun d σ S l0 l2 x => ex_iload_n (show decode mX7_elder.2.1 58 = .ok (.iload_n 1, 1) by decide +kernel) rfl,
  fun d σ S l0 l1 l2 x y => ex_iadd (show decode mX7_elder.2.1 59 = .ok (.iadd, 1) by decide +kernel),
  fun d σ S l0 l1 l2 x => ex_iald (by decide +kernel),
  fun d σ l0 l1 l2 x => ex_iret (show decode mX7_elder.2.1 61 = .ok (.ireturn, 1) by decide +kernel) rfl,
  fun d σ S l1 l2 k => ex_aload_n (show decode mX7_elder.2.1 62 = .ok (.aload_n 0, 1) by decide +kernel) rfl,
  fun d σ S l0 l1 l2 => ex_getr (idx := 7) (ci := 7) (ff := 0) (n := 26) (hh := 833) (by decide +kernel),
  fun d σ S l0 l1 l2 => ex_bipush (show decode mX7_elder.2.1 66 = .ok (.bipush 42, 2) by decide +kernel) (by decide +kernel),
  fun d σ S l0 l2 x => ex_iload_n (show decode mX7_elder.2.1 68 = .ok (.iload_n 1, 1) by decide +kernel) rfl,
  fun d σ S l0 l1 l2 x y => ex_iadd (show decode mX7_elder.2.1 69 = .ok (.iadd, 1) by decide +kernel),
  fun d σ S l0 l1 l2 x => ex_iald (by decide +kernel),
  fun d σ l0 l1 l2 x => ex_iret (show decode mX7_elder.2.1 71 = .ok (.ireturn, 1) by decide +kernel) rfl,
  fun d σ S l1 l2 k => ex_aload_n (show decode mX7_elder.2.1 72 = .ok (.aload_n 0, 1) by decide +kernel) rfl,
  fun d σ S l0 l1 l2 => ex_getr (idx := 7) (ci := 7) (ff := 0) (n := 26) (hh := 833) (by decide +kernel),
  fun d σ S l0 l1 l2 => ex_bipush (show decode mX7_elder.2.1 76 = .ok (.bipush 47, 2) by decide +kernel) (by decide +kernel),
  fun d σ S l0 l2 x => ex_iload_n (show decode mX7_elder.2.1 78 = .ok (.iload_n 1, 1) by decide +kernel) rfl,
  fun d σ S l0 l1 l2 x y => ex_iadd (show decode mX7_elder.2.1 79 = .ok (.iadd, 1) by decide +kernel),
  fun d σ S l0 l1 l2 x => ex_iald (by decide +kernel),
  fun d σ l0 l1 l2 x => ex_iret (show decode mX7_elder.2.1 81 = .ok (.ireturn, 1) by decide +kernel) rfl,
  fun d σ S l1 l2 k => ex_aload_n (show decode mX7_elder.2.1 82 = .ok (.aload_n 0, 1) by decide +kernel) rfl,
  fun d σ S l0 l1 l2 => ex_getr (idx := 7) (ci := 7) (ff := 0) (n := 26) (hh := 833) (by decide +kernel),
  fun d σ S l0 l1 l2 => ex_iconst (show decode mX7_elder.2.1 86 = .ok (.iconst 5, 1) by decide +kernel) (by decide +kernel),
  fun d σ S l0 l1 l2 x => ex_iald (by decide +kernel),
  fun d σ S l0 l2 x => ex_iload_n (show decode mX7_elder.2.1 88 = .ok (.iload_n 1, 1) by decide +kernel) rfl,
  fun d σ S l0 l1 l2 x y => ex_ishr (show decode mX7_elder.2.1 89 = .ok (.ishr, 1) by decide +kernel),
  fun d σ S l0 l1 l2 => ex_iconst (show decode mX7_elder.2.1 90 = .ok (.iconst 1, 1) by decide +kernel) (by decide +kernel),
  fun d σ S l0 l1 l2 x y => ex_iand (show decode mX7_elder.2.1 91 = .ok (.iand, 1) by decide +kernel),
  fun d σ l0 l1 l2 x => ex_iret (show decode mX7_elder.2.1 92 = .ok (.ireturn, 1) by decide +kernel) rfl,
  fun d σ S l1 l2 k => ex_aload_n (show decode mX7_elder.2.1 93 = .ok (.aload_n 0, 1) by decide +kernel) rfl,
  fun d σ S l0 l2 x => ex_iload_n (show decode mX7_elder.2.1 94 = .ok (.iload_n 1, 1) by decide +kernel) rfl⟩
theorem kX7_elder_1 : (∀ (d : Nat) (σ : Sg) (S : List Value) (l1 l2 : Value) (k : Nat), exec d mX7_elder 95 [.ref k, l1, l2] S σ = exec d mX7_elder 96 [.ref k, l1, l2] (.ref k :: S) σ) ∧
  (∀ (d : Nat) (σ : Sg) (S : List Value) (l0 l1 l2 : Value), exec d mX7_elder 96 [l0, l1, l2] (.ref 50 :: S) σ = exec d mX7_elder 99 [l0, l1, l2] (.ref 51 :: S) σ) ∧
  (∀ (d : Nat) (σ : Sg) (S : List Value) (l0 l1 l2 : Value), exec d mX7_elder 99 [l0, l1, l2] S σ = exec d mX7_elder 100 [l0, l1, l2] (.int (nI 4) :: S) σ) ∧
  (∀ (d : Nat) (σ : Sg) (S : List Value) (l0 l1 l2 : Value) (x : Int32), exec d mX7_elder 100 [l0, l1, l2] (.int x :: .ref 51 :: S) σ = if inb x 208 = true then exec d mX7_elder 101 [l0, l1, l2] (.int (σ 51 x.toNatClampNeg) :: S) σ else none) ∧
  (∀ (d : Nat) (σ : Sg) (l0 l1 l2 : Value) (x0 x1 : Int32), exec d mX7_elder 101 [l0, l1, l2] [.int x0, .int x1, .ref 50] σ = kb (cal d mX7_findsOf [.ref 50, .int x1, .int x0] σ) (fun rs σ2 => exec d mX7_elder 104 [l0, l1, l2] (rs ++ []) σ2)) ∧
  (∀ (d : Nat) (σ : Sg) (l0 l1 l2 : Value) (x : Int32), exec d mX7_elder 104 [l0, l1, l2] [.int x] σ = some (some (.int x), σ)) ∧
  (∀ (d : Nat) (σ : Sg) (S : List Value) (l1 l2 : Value) (k : Nat), exec d mX7_elder 105 [.ref k, l1, l2] S σ = exec d mX7_elder 106 [.ref k, l1, l2] (.ref k :: S) σ) ∧
  (∀ (d : Nat) (σ : Sg) (l0 l1 l2 : Value), exec d mX7_elder 106 [l0, l1, l2] [.ref 50] σ = kb (cal d mX7_votesNow [.ref 50] σ) (fun rs σ2 => exec d mX7_elder 109 [l0, l1, l2] (rs ++ []) σ2)) ∧
  (∀ (d : Nat) (σ : Sg) (S : List Value) (l0 l2 : Value) (x : Int32), exec d mX7_elder 109 [l0, .int x, l2] S σ = exec d mX7_elder 110 [l0, .int x, l2] (.int x :: S) σ) ∧
  (∀ (d : Nat) (σ : Sg) (S : List Value) (l0 l1 l2 : Value) (x y : Int32), exec d mX7_elder 110 [l0, l1, l2] (.int y :: .int x :: S) σ = exec d mX7_elder 111 [l0, l1, l2] (.int (x >>> (y &&& 31)) :: S) σ) ∧
  (∀ (d : Nat) (σ : Sg) (S : List Value) (l0 l1 l2 : Value), exec d mX7_elder 111 [l0, l1, l2] S σ = exec d mX7_elder 112 [l0, l1, l2] (.int (nI 1) :: S) σ) ∧
  (∀ (d : Nat) (σ : Sg) (S : List Value) (l0 l1 l2 : Value) (x y : Int32), exec d mX7_elder 112 [l0, l1, l2] (.int y :: .int x :: S) σ = exec d mX7_elder 113 [l0, l1, l2] (.int (x &&& y) :: S) σ) ∧
  (∀ (d : Nat) (σ : Sg) (l0 l1 l2 : Value) (x : Int32), exec d mX7_elder 113 [l0, l1, l2] [.int x] σ = some (some (.int x), σ)) ∧
  (∀ (d : Nat) (σ : Sg) (S : List Value) (l0 l1 l2 : Value), exec d mX7_elder 114 [l0, l1, l2] S σ = exec d mX7_elder 116 [l0, l1, l2] (.int ((-1000001)) :: S) σ) ∧
  (∀ (d : Nat) (σ : Sg) (l0 l1 l2 : Value) (x : Int32), exec d mX7_elder 116 [l0, l1, l2] [.int x] σ = some (some (.int x), σ)) :=
  ⟨fun d σ S l1 l2 k => ex_aload_n (show decode mX7_elder.2.1 95 = .ok (.aload_n 0, 1) by decide +kernel) rfl,
  fun d σ S l0 l1 l2 => ex_getr (idx := 7) (ci := 7) (ff := 0) (n := 26) (hh := 833) (by decide +kernel),
  fun d σ S l0 l1 l2 => ex_iconst (show decode mX7_elder.2.1 99 = .ok (.iconst 4, 1) by decide +kernel) (by decide +kernel),
  fun d σ S l0 l1 l2 x => ex_iald (by decide +kernel),
  fun d σ l0 l1 l2 x0 x1 => ex_iv (hs := [1092, 1094, 75, 1095, 101]) (show decode mX7_elder.2.1 101 = .ok (.invokevirtual 196, 3) by decide +kernel) lkV_7_196 ⟨rfl, Nat.le_of_ble_eq_true rfl, Nat.le_of_ble_eq_true rfl, fun _ => rfl⟩ rfl rfl,
  fun d σ l0 l1 l2 x => ex_iret (show decode mX7_elder.2.1 104 = .ok (.ireturn, 1) by decide +kernel) rfl,
  fun d σ S l1 l2 k => ex_aload_n (show decode mX7_elder.2.1 105 = .ok (.aload_n 0, 1) by decide +kernel) rfl,
  fun d σ l0 l1 l2 => ex_iv (hs := [1100, 1102, 77, 1103, 101]) (show decode mX7_elder.2.1 106 = .ok (.invokevirtual 206, 3) by decide +kernel) lkV_7_206 ⟨rfl, Nat.le_of_ble_eq_true rfl, Nat.le_of_ble_eq_true rfl, fun _ => rfl⟩ rfl rfl,
  fun d σ S l0 l2 x => ex_iload_n (show decode mX7_elder.2.1 109 = .ok (.iload_n 1, 1) by decide +kernel) rfl,
  fun d σ S l0 l1 l2 x y => ex_ishr (show decode mX7_elder.2.1 110 = .ok (.ishr, 1) by decide +kernel),
  fun d σ S l0 l1 l2 => ex_iconst (show decode mX7_elder.2.1 111 = .ok (.iconst 1, 1) by decide +kernel) (by decide +kernel),
  fun d σ S l0 l1 l2 x y => ex_iand (show decode mX7_elder.2.1 112 = .ok (.iand, 1) by decide +kernel),
  fun d σ l0 l1 l2 x => ex_iret (show decode mX7_elder.2.1 113 = .ok (.ireturn, 1) by decide +kernel) rfl,
  fun d σ S l0 l1 l2 => ex_ldc (hh := 924) (show decode mX7_elder.2.1 114 = .ok (.ldc 73, 2) by decide +kernel) (by decide +kernel),
  fun d σ l0 l1 l2 x => ex_iret (show decode mX7_elder.2.1 116 = .ok (.ireturn, 1) by decide +kernel) rfl⟩
theorem aX7_elder_50 : ∀ (d : Nat) (a1 : Int32) (a2 : Int32) (σ : Sg), cal (d + 1) mX7_elder [.ref 50, .int a1, .int a2] σ = exec d mX7_elder 0 [.ref 50, .int a1, .int a2] [] σ := fun _ _ _ _ => rfl
