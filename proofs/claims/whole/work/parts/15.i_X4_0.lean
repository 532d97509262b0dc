/-! generated: the instructions of GuildPiece$Tape -/
theorem kX4_append : (∀ (d : Nat) (σ : Sg) (S : List Value) (l1 : Value) (k : Nat), exec d mX4_append 0 [.ref k, l1] S σ = exec d mX4_append 1 [.ref k, l1] (.ref k :: S) σ) ∧
  (∀ (d : Nat) (σ : Sg) (S : List Value) (l0 l1 : Value), exec d mX4_append 1 [l0, l1] (.ref 6 :: S) σ = exec d mX4_append 4 [l0, l1] (.ref 7 :: S) σ) ∧
  (∀ (d : Nat) (σ : Sg) (S : List Value) (l1 : Value) (k : Nat), exec d mX4_append 4 [.ref k, l1] S σ = exec d mX4_append 5 [.ref k, l1] (.ref k :: S) σ) ∧
  (∀ (d : Nat) (σ : Sg) (S : List Value) (l0 l1 : Value), exec d mX4_append 5 [l0, l1] (.ref 6 :: S) σ = exec d mX4_append 8 [l0, l1] (.int (σ 6 1) :: S) σ) ∧
  (∀ (d : Nat) (σ : Sg) (S : List Value) (l0 : Value) (x : Int32), exec d mX4_append 8 [l0, .int x] S σ = exec d mX4_append 9 [l0, .int x] (.int x :: S) σ) ∧
  (∀ (d : Nat) (σ : Sg) (S : List Value) (l0 l1 : Value) (x y : Int32), exec d mX4_append 9 [l0, l1] (.int y :: .int x :: .ref 7 :: S) σ = if inb x 120 = true then exec d mX4_append 10 [l0, l1] S (up σ 7 x.toNatClampNeg y) else none) ∧
  (∀ (d : Nat) (σ : Sg) (S : List Value) (l1 : Value) (k : Nat), exec d mX4_append 10 [.ref k, l1] S σ = exec d mX4_append 11 [.ref k, l1] (.ref k :: S) σ) ∧
  (∀ (d : Nat) (σ : Sg) (S : List Value) (l0 l1 : Value) (k : Nat), exec d mX4_append 11 [l0, l1] (.ref k :: S) σ = exec d mX4_append 12 [l0, l1] (.ref k :: .ref k :: S) σ) ∧
  (∀ (d : Nat) (σ : Sg) (S : List Value) (l0 l1 : Value), exec d mX4_append 12 [l0, l1] (.ref 6 :: S) σ = exec d mX4_append 15 [l0, l1] (.int (σ 6 1) :: S) σ) ∧
  (∀ (d : Nat) (σ : Sg) (S : List Value) (l0 l1 : Value), exec d mX4_append 15 [l0, l1] S σ = exec d mX4_append 16 [l0, l1] (.int (nI 1) :: S) σ) ∧
  (∀ (d : Nat) (σ : Sg) (S : List Value) (l0 l1 : Value) (x y : Int32), exec d mX4_append 16 [l0, l1] (.int y :: .int x :: S) σ = exec d mX4_append 17 [l0, l1] (.int (x + y) :: S) σ) ∧
  (∀ (d : Nat) (σ : Sg) (S : List Value) (l0 l1 : Value) (x : Int32), exec d mX4_append 17 [l0, l1] (.int x :: .ref 6 :: S) σ = exec d mX4_append 20 [l0, l1] S (up σ 6 1 x)) ∧
  (∀ (d : Nat) (σ : Sg) (S : List Value) (l1 : Value) (k : Nat), exec d mX4_append 20 [.ref k, l1] S σ = exec d mX4_append 21 [.ref k, l1] (.ref k :: S) σ) ∧
  (∀ (d : Nat) (σ : Sg) (S : List Value) (l0 l1 : Value), exec d mX4_append 21 [l0, l1] (.ref 6 :: S) σ = exec d mX4_append 24 [l0, l1] (.int (σ 6 1) :: S) σ) ∧
  (∀ (d : Nat) (σ : Sg) (l0 l1 : Value) (x : Int32), exec d mX4_append 24 [l0, l1] [.int x] σ = some (some (.int x), σ)) :=
  ⟨fun d σ S l1 k => ex_aload_n (show decode mX4_append.2.1 0 = .ok (.aload_n 0, 1) by decide +kernel) rfl,
  fun d σ S l0 l1 => ex_getr (idx := 11) (ci := 4) (ff := 0) (n := 9) (hh := 143) (by decide +kernel),
  fun d σ S l1 k => ex_aload_n (show decode mX4_append.2.1 4 = .ok (.aload_n 0, 1) by decide +kernel) rfl,
  fun d σ S l0 l1 => ex_get (idx := 15) (ci := 4) (ff := 1) (n := 9) (hh := 144) (by decide +kernel),
  fun d σ S l0 x => ex_iload_n (show decode mX4_append.2.1 8 = .ok (.iload_n 1, 1) by decide +kernel) rfl,
  fun d σ S l0 l1 x y => ex_iast (by decide +kernel),
  fun d σ S l1 k => ex_aload_n (show decode mX4_append.2.1 10 = .ok (.aload_n 0, 1) by decide +kernel) rfl,
  fun d σ S l0 l1 k => ex_dup (show decode mX4_append.2.1 11 = .ok (.dup, 1) by decide +kernel) rfl,
  fun d σ S l0 l1 => ex_get (idx := 15) (ci := 4) (ff := 1) (n := 9) (hh := 144) (by decide +kernel),
  fun d σ S l0 l1 => ex_iconst (show decode mX4_append.2.1 15 = .ok (.iconst 1, 1) by decide +kernel) (by decide +kernel),
  fun d σ S l0 l1 x y => ex_iadd (show decode mX4_append.2.1 16 = .ok (.iadd, 1) by decide +kernel),
  fun d σ S l0 l1 x => ex_put (idx := 15) (ci := 4) (ff := 1) (n := 9) (hh := 144) (by decide +kernel),
  fun d σ S l1 k => ex_aload_n (show decode mX4_append.2.1 20 = .ok (.aload_n 0, 1) by decide +kernel) rfl,
  fun d σ S l0 l1 => ex_get (idx := 15) (ci := 4) (ff := 1) (n := 9) (hh := 144) (by decide +kernel),
  fun d σ l0 l1 x => ex_iret (show decode mX4_append.2.1 24 = .ok (.ireturn, 1) by decide +kernel) rfl⟩
theorem aX4_append_6 : ∀ (d : Nat) (a1 : Int32) (σ : Sg), cal (d + 1) mX4_append [.ref 6, .int a1] σ = exec d mX4_append 0 [.ref 6, .int a1] [] σ := fun _ _ _ => rfl
theorem kX4_readInto : (∀ (d : Nat) (σ : Sg) (S : List Value) (l0 l2 : Value) (k : Nat), exec d mX4_readInto 0 [l0, .ref k, l2] S σ = exec d mX4_readInto 1 [l0, .ref k, l2] (.ref k :: S) σ) ∧
  (∀ (d : Nat) (σ : Sg) (l0 l1 l2 : Value), exec d mX4_readInto 1 [l0, l1, l2] [.ref 35] σ = kb (cal d mX5_clear [.ref 35] σ) (fun rs σ2 => exec d mX4_readInto 4 [l0, l1, l2] (rs ++ []) σ2)) ∧
  (∀ (d : Nat) (σ : Sg) (S : List Value) (l1 l2 : Value) (k : Nat), exec d mX4_readInto 4 [.ref k, l1, l2] S σ = exec d mX4_readInto 5 [.ref k, l1, l2] (.ref k :: S) σ) ∧
  (∀ (d : Nat) (σ : Sg) (S : List Value) (l0 l1 l2 : Value), exec d mX4_readInto 5 [l0, l1, l2] S σ = exec d mX4_readInto 6 [l0, l1, l2] (.int (nI 0) :: S) σ) ∧
  (∀ (d : Nat) (σ : Sg) (S : List Value) (l0 l1 l2 : Value) (x : Int32), exec d mX4_readInto 6 [l0, l1, l2] (.int x :: .ref 6 :: S) σ = exec d mX4_readInto 9 [l0, l1, l2] S (up σ 6 2 x)) ∧
  (∀ (d : Nat) (σ : Sg) (S : List Value) (l1 l2 : Value) (k : Nat), exec d mX4_readInto 9 [.ref k, l1, l2] S σ = exec d mX4_readInto 10 [.ref k, l1, l2] (.ref k :: S) σ) ∧
  (∀ (d : Nat) (σ : Sg) (S : List Value) (l0 l2 : Value) (k : Nat), exec d mX4_readInto 10 [l0, .ref k, l2] S σ = exec d mX4_readInto 11 [l0, .ref k, l2] (.ref k :: S) σ) ∧
  (∀ (d : Nat) (σ : Sg) (l0 l1 l2 : Value), exec d mX4_readInto 11 [l0, l1, l2] [.ref 35, .ref 6] σ = kb (cal d mX4_readLaw [.ref 6, .ref 35] σ) (fun rs σ2 => exec d mX4_readInto 14 [l0, l1, l2] (rs ++ []) σ2)) ∧
  (∀ (d : Nat) (σ : Sg) (S : List Value) (l0 l1 l2 : Value) (x : Int32), exec d mX4_readInto 14 [l0, l1, l2] (.int x :: S) σ = if x = nI 0 then exec d mX4_readInto 17 [l0, l1, l2] S σ else exec d mX4_readInto 19 [l0, l1, l2] S σ) ∧
  (∀ (d : Nat) (σ : Sg) (S : List Value) (l0 l1 l2 : Value), exec d mX4_readInto 17 [l0, l1, l2] S σ = exec d mX4_readInto 18 [l0, l1, l2] (.int (nI 0) :: S) σ) ∧
  (∀ (d : Nat) (σ : Sg) (l0 l1 l2 : Value) (x : Int32), exec d mX4_readInto 18 [l0, l1, l2] [.int x] σ = if b01 x = true then some (some (.int x), σ) else none) ∧
  (∀ (d : Nat) (σ : Sg) (S : List Value) (l0 l1 l2 : Value), exec d mX4_readInto 19 [l0, l1, l2] S σ = exec d mX4_readInto 20 [l0, l1, l2] (.int (nI 0) :: S) σ) ∧
  (∀ (d : Nat) (σ : Sg) (S : List Value) (l0 l2 : Value) (k : Nat) (x : Int32), exec d mX4_readInto 20 [l0, .ref k, l2] (.int x :: S) σ = exec d mX4_readInto 21 [l0, .ref k, .int x] S σ) ∧
  (∀ (d : Nat) (σ : Sg) (S : List Value) (l0 l1 l2 : Value), exec d mX4_readInto 22 [l0, l1, l2] S σ = exec d mX4_readInto 24 [l0, l1, l2] (.int (nI 120) :: S) σ) ∧
  (∀ (d : Nat) (σ : Sg) (S : List Value) (l0 l1 l2 : Value) (x y : Int32), exec d mX4_readInto 24 [l0, l1, l2] (.int y :: .int x :: S) σ = if y < x then exec d mX4_readInto 54 [l0, l1, l2] S σ else exec d mX4_readInto 27 [l0, l1, l2] S σ) ∧
  (∀ (d : Nat) (σ : Sg) (S : List Value) (l1 l2 : Value) (k : Nat), exec d mX4_readInto 27 [.ref k, l1, l2] S σ = exec d mX4_readInto 28 [.ref k, l1, l2] (.ref k :: S) σ) ∧
  (∀ (d : Nat) (σ : Sg) (S : List Value) (l0 l1 l2 : Value), exec d mX4_readInto 28 [l0, l1, l2] (.ref 6 :: S) σ = exec d mX4_readInto 31 [l0, l1, l2] (.int (σ 6 2) :: S) σ) ∧
  (∀ (d : Nat) (σ : Sg) (S : List Value) (l1 l2 : Value) (k : Nat), exec d mX4_readInto 31 [.ref k, l1, l2] S σ = exec d mX4_readInto 32 [.ref k, l1, l2] (.ref k :: S) σ) ∧
  (∀ (d : Nat) (σ : Sg) (S : List Value) (l0 l1 l2 : Value), exec d mX4_readInto 32 [l0, l1, l2] (.ref 6 :: S) σ = exec d mX4_readInto 35 [l0, l1, l2] (.int (σ 6 1) :: S) σ) ∧
  (∀ (d : Nat) (σ : Sg) (S : List Value) (l0 l1 l2 : Value) (x y : Int32), exec d mX4_readInto 35 [l0, l1, l2] (.int y :: .int x :: S) σ = if y ≤ x then exec d mX4_readInto 54 [l0, l1, l2] S σ else exec d mX4_readInto 38 [l0, l1, l2] S σ) ∧
  (∀ (d : Nat) (σ : Sg) (S : List Value) (l1 l2 : Value) (k : Nat), exec d mX4_readInto 38 [.ref k, l1, l2] S σ = exec d mX4_readInto 39 [.ref k, l1, l2] (.ref k :: S) σ) ∧
  (∀ (d : Nat) (σ : Sg) (S : List Value) (l0 l2 : Value) (k : Nat), exec d mX4_readInto 39 [l0, .ref k, l2] S σ = exec d mX4_readInto 40 [l0, .ref k, l2] (.ref k :: S) σ) ∧
  (∀ (d : Nat) (σ : Sg) (l0 l1 l2 : Value), exec d mX4_readInto 40 [l0, l1, l2] [.ref 35, .ref 6] σ = kb (cal d mX4_readOne [.ref 6, .ref 35] σ) (fun rs σ2 => exec d mX4_readInto 43 [l0, l1, l2] (rs ++ []) σ2)) ∧
  (∀ (d : Nat) (σ : Sg) (S : List Value) (l0 l1 l2 : Value) (x : Int32), exec d mX4_readInto 43 [l0, l1, l2] (.int x :: S) σ = if x = nI 0 then exec d mX4_readInto 46 [l0, l1, l2] S σ else exec d mX4_readInto 48 [l0, l1, l2] S σ) ∧
  (∀ (d : Nat) (σ : Sg) (S : List Value) (l0 l1 l2 : Value), exec d mX4_readInto 46 [l0, l1, l2] S σ = exec d mX4_readInto 47 [l0, l1, l2] (.int (nI 0) :: S) σ) ∧
  (∀ (d : Nat) (σ : Sg) (l0 l1 l2 : Value) (x : Int32), exec d mX4_readInto 47 [l0, l1, l2] [.int x] σ = if b01 x = true then some (some (.int x), σ) else none) ∧
  (∀ (d : Nat) (σ : Sg) (S : List Value) (l0 : Value) (k : Nat) (x : Int32), exec d mX4_readInto 48 [l0, .ref k, .int x] S σ = exec d mX4_readInto 51 [l0, .ref k, .int (x + nI 1)] S σ) ∧
  (∀ (d : Nat) (σ : Sg) (S : List Value) (l0 l1 l2 : Value), exec d mX4_readInto 51 [l0, l1, l2] S σ = exec d mX4_readInto 21 [l0, l1, l2] S σ) ∧
  (∀ (d : Nat) (σ : Sg) (S : List Value) (l0 l2 : Value) (k : Nat), exec d mX4_readInto 54 [l0, .ref k, l2] S σ = exec d mX4_readInto 55 [l0, .ref k, l2] (.ref k :: S) σ) ∧
  (∀ (d : Nat) (σ : Sg) (S : List Value) (l0 l1 l2 : Value), exec d mX4_readInto 55 [l0, l1, l2] (.ref 35 :: S) σ = exec d mX4_readInto 58 [l0, l1, l2] (.int (σ 35 4) :: S) σ) ∧
  (∀ (d : Nat) (σ : Sg) (S : List Value) (l0 l1 l2 : Value) (x : Int32), exec d mX4_readInto 58 [l0, l1, l2] (.int x :: S) σ = if x = nI 0 then exec d mX4_readInto 61 [l0, l1, l2] S σ else exec d mX4_readInto 67 [l0, l1, l2] S σ) ∧
  (∀ (d : Nat) (σ : Sg) (S : List Value) (l1 l2 : Value) (k : Nat), exec d mX4_readInto 61 [.ref k, l1, l2] S σ = exec d mX4_readInto 62 [.ref k, l1, l2] (.ref k :: S) σ) ∧
  (∀ (d : Nat) (σ : Sg) (S : List Value) (l0 l1 l2 : Value), exec d mX4_readInto 62 [l0, l1, l2] S σ = exec d mX4_readInto 63 [l0, l1, l2] (.int (nI 1) :: S) σ) ∧
  (∀ (d : Nat) (σ : Sg) (l0 l1 l2 : Value) (x0 : Int32), exec d mX4_readInto 63 [l0, l1, l2] [.int x0, .ref 6] σ = kb (cal d mX4_fail [.ref 6, .int x0] σ) (fun rs σ2 => exec d mX4_readInto 66 [l0, l1, l2] (rs ++ []) σ2)) ∧
  (∀ (d : Nat) (σ : Sg) (l0 l1 l2 : Value) (x : Int32), exec d mX4_readInto 66 [l0, l1, l2] [.int x] σ = if b01 x = true then some (some (.int x), σ) else none) ∧
  (∀ (d : Nat) (σ : Sg) (S : List Value) (l0 l2 : Value) (k : Nat), exec d mX4_readInto 67 [l0, .ref k, l2] S σ = exec d mX4_readInto 68 [l0, .ref k, l2] (.ref k :: S) σ) ∧
  (∀ (d : Nat) (σ : Sg) (S : List Value) (l0 l1 l2 : Value), exec d mX4_readInto 68 [l0, l1, l2] S σ = exec d mX4_readInto 69 [l0, l1, l2] (.int (nI 1) :: S) σ) ∧
  (∀ (d : Nat) (σ : Sg) (S : List Value) (l0 l1 l2 : Value) (x : Int32), exec d mX4_readInto 69 [l0, l1, l2] (.int x :: .ref 35 :: S) σ = if b01 x = true then exec d mX4_readInto 72 [l0, l1, l2] S (up σ 35 0 x) else none) ∧
  (∀ (d : Nat) (σ : Sg) (S : List Value) (l0 l1 l2 : Value), exec d mX4_readInto 72 [l0, l1, l2] S σ = exec d mX4_readInto 73 [l0, l1, l2] (.int (nI 1) :: S) σ) ∧
  (∀ (d : Nat) (σ : Sg) (l0 l1 l2 : Value) (x : Int32), exec d mX4_readInto 73 [l0, l1, l2] [.int x] σ = if b01 x = true then some (some (.int x), σ) else none) :=
  ⟨fun d σ S l0 l2 k => ex_aload_n (show decode mX4_readInto.2.1 0 = .ok (.aload_n 1, 1) by decide +kernel) rfl,
  fun d σ l0 l1 l2 => ex_iv (hs := [445, 447, 8, 448, 97]) (show decode mX4_readInto.2.1 1 = .ok (.invokevirtual 19, 3) by decide +kernel) lkV_4_19 ⟨rfl, Nat.le_of_ble_eq_true rfl, Nat.le_of_ble_eq_true rfl, fun _ => rfl⟩ rfl rfl,
  fun d σ S l1 l2 k => ex_aload_n (show decode mX4_readInto.2.1 4 = .ok (.aload_n 0, 1) by decide +kernel) rfl,
  fun d σ S l0 l1 l2 => ex_iconst (show decode mX4_readInto.2.1 5 = .ok (.iconst 0, 1) by decide +kernel) (by decide +kernel),
  fun d σ S l0 l1 l2 x => ex_put (idx := 24) (ci := 4) (ff := 2) (n := 9) (hh := 146) (by decide +kernel),
  fun d σ S l1 l2 k => ex_aload_n (show decode mX4_readInto.2.1 9 = .ok (.aload_n 0, 1) by decide +kernel) rfl,
  fun d σ S l0 l2 k => ex_aload_n (show decode mX4_readInto.2.1 10 = .ok (.aload_n 1, 1) by decide +kernel) rfl,
  fun d σ l0 l1 l2 => ex_iv (hs := [449, 451, 9, 452, 96]) (show decode mX4_readInto.2.1 11 = .ok (.invokevirtual 27, 3) by decide +kernel) lkV_4_27 ⟨rfl, Nat.le_of_ble_eq_true rfl, Nat.le_of_ble_eq_true rfl, fun _ => rfl⟩ rfl rfl,
  fun d σ S l0 l1 l2 x => ex_zne (show decode mX4_readInto.2.1 14 = .ok (.ifCond .ne 5, 3) by decide +kernel) (by decide),
  fun d σ S l0 l1 l2 => ex_iconst (show decode mX4_readInto.2.1 17 = .ok (.iconst 0, 1) by decide +kernel) (by decide +kernel),
  fun d σ l0 l1 l2 x => ex_zret (show decode mX4_readInto.2.1 18 = .ok (.ireturn, 1) by decide +kernel) rfl,
  fun d σ S l0 l1 l2 => ex_iconst (show decode mX4_readInto.2.1 19 = .ok (.iconst 0, 1) by decide +kernel) (by decide +kernel),
  fun d σ S l0 l2 k x => ex_istore_n (show decode mX4_readInto.2.1 20 = .ok (.istore_n 2, 1) by decide +kernel) (Nat.le_of_ble_eq_true rfl) rfl,
  fun d σ S l0 l1 l2 => ex_bipush (show decode mX4_readInto.2.1 22 = .ok (.bipush 120, 2) by decide +kernel) (by decide +kernel),
  fun d σ S l0 l1 l2 x y => ex_cgt (show decode mX4_readInto.2.1 24 = .ok (.if_icmp .gt 30, 3) by decide +kernel) (by decide),
  fun d σ S l1 l2 k => ex_aload_n (show decode mX4_readInto.2.1 27 = .ok (.aload_n 0, 1) by decide +kernel) rfl,
  fun d σ S l0 l1 l2 => ex_get (idx := 24) (ci := 4) (ff := 2) (n := 9) (hh := 146) (by decide +kernel),
  fun d σ S l1 l2 k => ex_aload_n (show decode mX4_readInto.2.1 31 = .ok (.aload_n 0, 1) by decide +kernel) rfl,
  fun d σ S l0 l1 l2 => ex_get (idx := 15) (ci := 4) (ff := 1) (n := 9) (hh := 144) (by decide +kernel),
  fun d σ S l0 l1 l2 x y => ex_cge (show decode mX4_readInto.2.1 35 = .ok (.if_icmp .ge 19, 3) by decide +kernel) (by decide),
  fun d σ S l1 l2 k => ex_aload_n (show decode mX4_readInto.2.1 38 = .ok (.aload_n 0, 1) by decide +kernel) rfl,
  fun d σ S l0 l2 k => ex_aload_n (show decode mX4_readInto.2.1 39 = .ok (.aload_n 1, 1) by decide +kernel) rfl,
  fun d σ l0 l1 l2 => ex_iv (hs := [476, 478, 15, 479, 96]) (show decode mX4_readInto.2.1 40 = .ok (.invokevirtual 31, 3) by decide +kernel) lkV_4_31 ⟨rfl, Nat.le_of_ble_eq_true rfl, Nat.le_of_ble_eq_true rfl, fun _ => rfl⟩ rfl rfl,
  fun d σ S l0 l1 l2 x => ex_zne (show decode mX4_readInto.2.1 43 = .ok (.ifCond .ne 5, 3) by decide +kernel) (by decide),
  fun d σ S l0 l1 l2 => ex_iconst (show decode mX4_readInto.2.1 46 = .ok (.iconst 0, 1) by decide +kernel) (by decide +kernel),
  fun d σ l0 l1 l2 x => ex_zret (show decode mX4_readInto.2.1 47 = .ok (.ireturn, 1) by decide +kernel) rfl,
  fun d σ S l0 k x => ex_iinc (show decode mX4_readInto.2.1 48 = .ok (.iinc 2 1, 3) by decide +kernel) rfl (by decide +kernel) (Nat.le_of_ble_eq_true rfl) rfl,
  fun d σ S l0 l1 l2 => ex_goto (show decode mX4_readInto.2.1 51 = .ok (.goto (-30), 3) by decide +kernel) (by decide),
  fun d σ S l0 l2 k => ex_aload_n (show decode mX4_readInto.2.1 54 = .ok (.aload_n 1, 1) by decide +kernel) rfl,
  fun d σ S l0 l1 l2 => ex_get (idx := 34) (ci := 5) (ff := 4) (n := 17) (hh := 200) (by decide +kernel),
  fun d σ S l0 l1 l2 x => ex_zne (show decode mX4_readInto.2.1 58 = .ok (.ifCond .ne 9, 3) by decide +kernel) (by decide),
  fun d σ S l1 l2 k => ex_aload_n (show decode mX4_readInto.2.1 61 = .ok (.aload_n 0, 1) by decide +kernel) rfl,
  fun d σ S l0 l1 l2 => ex_iconst (show decode mX4_readInto.2.1 62 = .ok (.iconst 1, 1) by decide +kernel) (by decide +kernel),
  fun d σ l0 l1 l2 x0 => ex_iv (hs := [461, 463, 12, 464, 96]) (show decode mX4_readInto.2.1 63 = .ok (.invokevirtual 37, 3) by decide +kernel) lkV_4_37 ⟨rfl, Nat.le_of_ble_eq_true rfl, Nat.le_of_ble_eq_true rfl, fun _ => rfl⟩ rfl rfl,
  fun d σ l0 l1 l2 x => ex_zret (show decode mX4_readInto.2.1 66 = .ok (.ireturn, 1) by decide +kernel) rfl,
  fun d σ S l0 l2 k => ex_aload_n (show decode mX4_readInto.2.1 67 = .ok (.aload_n 1, 1) by decide +kernel) rfl,
  fun d σ S l0 l1 l2 => ex_iconst (show decode mX4_readInto.2.1 68 = .ok (.iconst 1, 1) by decide +kernel) (by decide +kernel),
  fun d σ S l0 l1 l2 x => ex_putz (idx := 41) (ci := 5) (ff := 0) (n := 17) (hh := 181) (by decide +kernel),
  fun d σ S l0 l1 l2 => ex_iconst (show decode mX4_readInto.2.1 72 = .ok (.iconst 1, 1) by decide +kernel) (by decide +kernel),
  fun d σ l0 l1 l2 x => ex_zret (show decode mX4_readInto.2.1 73 = .ok (.ireturn, 1) by decide +kernel) rfl⟩
theorem hX4_readInto_21 : ∀ (d : Nat) (σ : Sg) (S : List Value) (l0 l1 : Value) (x : Int32), exec d mX4_readInto 21 [l0, l1, .int x] S σ = exec d mX4_readInto 22 [l0, l1, .int x] (.int x :: S) σ := fun d σ S l0 l1 x => ex_iload_n (show decode mX4_readInto.2.1 21 = .ok (.iload_n 2, 1) by decide +kernel) rfl
theorem aX4_readInto_6_35 : ∀ (d : Nat)  (σ : Sg), cal (d + 1) mX4_readInto [.ref 6, .ref 35] σ = exec d mX4_readInto 0 [.ref 6, .ref 35, uu] [] σ := fun _ _ => rfl
theorem kX4_readLaw : (∀ (d : Nat) (σ : Sg) (S : List Value) (l1 : Value) (k : Nat), exec d mX4_readLaw 0 [.ref k, l1] S σ = exec d mX4_readLaw 1 [.ref k, l1] (.ref k :: S) σ) ∧
  (∀ (d : Nat) (σ : Sg) (S : List Value) (l0 l1 : Value), exec d mX4_readLaw 1 [l0, l1] S σ = exec d mX4_readLaw 3 [l0, l1] (.int (nI 103) :: S) σ) ∧
  (∀ (d : Nat) (σ : Sg) (l0 l1 : Value) (x0 : Int32), exec d mX4_readLaw 3 [l0, l1] [.int x0, .ref 6] σ = kb (cal d mX4_readLetter [.ref 6, .int x0] σ) (fun rs σ2 => exec d mX4_readLaw 6 [l0, l1] (rs ++ []) σ2)) ∧
  (∀ (d : Nat) (σ : Sg) (S : List Value) (l0 l1 : Value) (x : Int32), exec d mX4_readLaw 6 [l0, l1] (.int x :: S) σ = if x = nI 0 then exec d mX4_readLaw 23 [l0, l1] S σ else exec d mX4_readLaw 9 [l0, l1] S σ) ∧
  (∀ (d : Nat) (σ : Sg) (S : List Value) (l1 : Value) (k : Nat), exec d mX4_readLaw 9 [.ref k, l1] S σ = exec d mX4_readLaw 10 [.ref k, l1] (.ref k :: S) σ) ∧
  (∀ (d : Nat) (σ : Sg) (S : List Value) (l0 l1 : Value), exec d mX4_readLaw 10 [l0, l1] S σ = exec d mX4_readLaw 11 [l0, l1] (.int (nI 0) :: S) σ) ∧
  (∀ (d : Nat) (σ : Sg) (S : List Value) (l0 l1 : Value), exec d mX4_readLaw 11 [l0, l1] S σ = exec d mX4_readLaw 13 [l0, l1] (.int (nI 60) :: S) σ) ∧
  (∀ (d : Nat) (σ : Sg) (S : List Value) (l0 l1 : Value), exec d mX4_readLaw 13 [l0, l1] S σ = exec d mX4_readLaw 14 [l0, l1] (.int (nI 0) :: S) σ) ∧
  (∀ (d : Nat) (σ : Sg) (S : List Value) (l0 l1 : Value), exec d mX4_readLaw 14 [l0, l1] S σ = exec d mX4_readLaw 16 [l0, l1] (.int (nI 99) :: S) σ) ∧
  (∀ (d : Nat) (σ : Sg) (S : List Value) (l0 l1 : Value), exec d mX4_readLaw 16 [l0, l1] S σ = exec d mX4_readLaw 17 [l0, l1] (.int ((-1)) :: S) σ) ∧
  (∀ (d : Nat) (σ : Sg) (l0 l1 : Value) (x0 x1 x2 x3 x4 : Int32), exec d mX4_readLaw 17 [l0, l1] [.int x0, .int x1, .int x2, .int x3, .int x4, .ref 6] σ = kb (cal d mX4_readThree [.ref 6, .int x4, .int x3, .int x2, .int x1, .int x0] σ) (fun rs σ2 => exec d mX4_readLaw 20 [l0, l1] (rs ++ []) σ2)) ∧
  (∀ (d : Nat) (σ : Sg) (S : List Value) (l0 l1 : Value) (x : Int32), exec d mX4_readLaw 20 [l0, l1] (.int x :: S) σ = if x = nI 0 then exec d mX4_readLaw 23 [l0, l1] S σ else exec d mX4_readLaw 25 [l0, l1] S σ) ∧
  (∀ (d : Nat) (σ : Sg) (S : List Value) (l0 l1 : Value), exec d mX4_readLaw 23 [l0, l1] S σ = exec d mX4_readLaw 24 [l0, l1] (.int (nI 0) :: S) σ) ∧
  (∀ (d : Nat) (σ : Sg) (l0 l1 : Value) (x : Int32), exec d mX4_readLaw 24 [l0, l1] [.int x] σ = if b01 x = true then some (some (.int x), σ) else none) ∧
  (∀ (d : Nat) (σ : Sg) (S : List Value) (l0 : Value) (k : Nat), exec d mX4_readLaw 25 [l0, .ref k] S σ = exec d mX4_readLaw 26 [l0, .ref k] (.ref k :: S) σ) ∧
  (∀ (d : Nat) (σ : Sg) (S : List Value) (l1 : Value) (k : Nat), exec d mX4_readLaw 26 [.ref k, l1] S σ = exec d mX4_readLaw 27 [.ref k, l1] (.ref k :: S) σ) ∧
  (∀ (d : Nat) (σ : Sg) (S : List Value) (l0 l1 : Value), exec d mX4_readLaw 27 [l0, l1] (.ref 6 :: S) σ = exec d mX4_readLaw 30 [l0, l1] (.int (σ 6 6) :: S) σ) ∧
  (∀ (d : Nat) (σ : Sg) (S : List Value) (l0 l1 : Value) (x : Int32), exec d mX4_readLaw 30 [l0, l1] (.int x :: .ref 35 :: S) σ = exec d mX4_readLaw 33 [l0, l1] S (up σ 35 1 x)) ∧
  (∀ (d : Nat) (σ : Sg) (S : List Value) (l0 : Value) (k : Nat), exec d mX4_readLaw 33 [l0, .ref k] S σ = exec d mX4_readLaw 34 [l0, .ref k] (.ref k :: S) σ) ∧
  (∀ (d : Nat) (σ : Sg) (S : List Value) (l1 : Value) (k : Nat), exec d mX4_readLaw 34 [.ref k, l1] S σ = exec d mX4_readLaw 35 [.ref k, l1] (.ref k :: S) σ) ∧
  (∀ (d : Nat) (σ : Sg) (S : List Value) (l0 l1 : Value), exec d mX4_readLaw 35 [l0, l1] (.ref 6 :: S) σ = exec d mX4_readLaw 38 [l0, l1] (.int (σ 6 7) :: S) σ) ∧
  (∀ (d : Nat) (σ : Sg) (S : List Value) (l0 l1 : Value) (x : Int32), exec d mX4_readLaw 38 [l0, l1] (.int x :: .ref 35 :: S) σ = exec d mX4_readLaw 41 [l0, l1] S (up σ 35 2 x)) ∧
  (∀ (d : Nat) (σ : Sg) (S : List Value) (l0 : Value) (k : Nat), exec d mX4_readLaw 41 [l0, .ref k] S σ = exec d mX4_readLaw 42 [l0, .ref k] (.ref k :: S) σ) ∧
  (∀ (d : Nat) (σ : Sg) (S : List Value) (l1 : Value) (k : Nat), exec d mX4_readLaw 42 [.ref k, l1] S σ = exec d mX4_readLaw 43 [.ref k, l1] (.ref k :: S) σ) ∧
  (∀ (d : Nat) (σ : Sg) (S : List Value) (l0 l1 : Value), exec d mX4_readLaw 43 [l0, l1] (.ref 6 :: S) σ = exec d mX4_readLaw 46 [l0, l1] (.int (σ 6 8) :: S) σ) ∧
  (∀ (d : Nat) (σ : Sg) (S : List Value) (l0 l1 : Value) (x : Int32), exec d mX4_readLaw 46 [l0, l1] (.int x :: .ref 35 :: S) σ = exec d mX4_readLaw 49 [l0, l1] S (up σ 35 3 x)) ∧
  (∀ (d : Nat) (σ : Sg) (S : List Value) (l0 l1 : Value), exec d mX4_readLaw 49 [l0, l1] S σ = exec d mX4_readLaw 50 [l0, l1] (.int (nI 1) :: S) σ) ∧
  (∀ (d : Nat) (σ : Sg) (l0 l1 : Value) (x : Int32), exec d mX4_readLaw 50 [l0, l1] [.int x] σ = if b01 x = true then some (some (.int x), σ) else none) :=
  ⟨fun d σ S l1 k => ex_aload_n (show decode mX4_readLaw.2.1 0 = .ok (.aload_n 0, 1) by decide +kernel) rfl,
  fun d σ S l0 l1 => ex_bipush (show decode mX4_readLaw.2.1 1 = .ok (.bipush 103, 2) by decide +kernel) (by decide +kernel),
  fun d σ l0 l1 x0 => ex_iv (hs := [453, 455, 10, 456, 96]) (show decode mX4_readLaw.2.1 3 = .ok (.invokevirtual 45, 3) by decide +kernel) lkV_4_45 ⟨rfl, Nat.le_of_ble_eq_true rfl, Nat.le_of_ble_eq_true rfl, fun _ => rfl⟩ rfl rfl,
  fun d σ S l0 l1 x => ex_zeq (show decode mX4_readLaw.2.1 6 = .ok (.ifCond .eq 17, 3) by decide +kernel) (by decide),
  fun d σ S l1 k => ex_aload_n (show decode mX4_readLaw.2.1 9 = .ok (.aload_n 0, 1) by decide +kernel) rfl,
  fun d σ S l0 l1 => ex_iconst (show decode mX4_readLaw.2.1 10 = .ok (.iconst 0, 1) by decide +kernel) (by decide +kernel),
  fun d σ S l0 l1 => ex_bipush (show decode mX4_readLaw.2.1 11 = .ok (.bipush 60, 2) by decide +kernel) (by decide +kernel),
  fun d σ S l0 l1 => ex_iconst (show decode mX4_readLaw.2.1 13 = .ok (.iconst 0, 1) by decide +kernel) (by decide +kernel),
  fun d σ S l0 l1 => ex_bipush (show decode mX4_readLaw.2.1 14 = .ok (.bipush 99, 2) by decide +kernel) (by decide +kernel),
  fun d σ S l0 l1 => ex_iconst (show decode mX4_readLaw.2.1 16 = .ok (.iconst (-1), 1) by decide +kernel) (by decide +kernel),
  fun d σ l0 l1 x0 x1 x2 x3 x4 => ex_iv (hs := [465, 467, 13, 468, 96]) (show decode mX4_readLaw.2.1 17 = .ok (.invokevirtual 48, 3) by decide +kernel) lkV_4_48 ⟨rfl, Nat.le_of_ble_eq_true rfl, Nat.le_of_ble_eq_true rfl, fun _ => rfl⟩ rfl rfl,
  fun d σ S l0 l1 x => ex_zne (show decode mX4_readLaw.2.1 20 = .ok (.ifCond .ne 5, 3) by decide +kernel) (by decide),
  fun d σ S l0 l1 => ex_iconst (show decode mX4_readLaw.2.1 23 = .ok (.iconst 0, 1) by decide +kernel) (by decide +kernel),
  fun d σ l0 l1 x => ex_zret (show decode mX4_readLaw.2.1 24 = .ok (.ireturn, 1) by decide +kernel) rfl,
  fun d σ S l0 k => ex_aload_n (show decode mX4_readLaw.2.1 25 = .ok (.aload_n 1, 1) by decide +kernel) rfl,
  fun d σ S l1 k => ex_aload_n (show decode mX4_readLaw.2.1 26 = .ok (.aload_n 0, 1) by decide +kernel) rfl,
  fun d σ S l0 l1 => ex_get (idx := 52) (ci := 4) (ff := 6) (n := 9) (hh := 152) (by decide +kernel),
  fun d σ S l0 l1 x => ex_put (idx := 55) (ci := 5) (ff := 1) (n := 17) (hh := 186) (by decide +kernel),
  fun d σ S l0 k => ex_aload_n (show decode mX4_readLaw.2.1 33 = .ok (.aload_n 1, 1) by decide +kernel) rfl,
  fun d σ S l1 k => ex_aload_n (show decode mX4_readLaw.2.1 34 = .ok (.aload_n 0, 1) by decide +kernel) rfl,
  fun d σ S l0 l1 => ex_get (idx := 58) (ci := 4) (ff := 7) (n := 9) (hh := 153) (by decide +kernel),
  fun d σ S l0 l1 x => ex_put (idx := 61) (ci := 5) (ff := 2) (n := 17) (hh := 191) (by decide +kernel),
  fun d σ S l0 k => ex_aload_n (show decode mX4_readLaw.2.1 41 = .ok (.aload_n 1, 1) by decide +kernel) rfl,
  fun d σ S l1 k => ex_aload_n (show decode mX4_readLaw.2.1 42 = .ok (.aload_n 0, 1) by decide +kernel) rfl,
  fun d σ S l0 l1 => ex_get (idx := 64) (ci := 4) (ff := 8) (n := 9) (hh := 154) (by decide +kernel),
  fun d σ S l0 l1 x => ex_put (idx := 67) (ci := 5) (ff := 3) (n := 17) (hh := 196) (by decide +kernel),
  fun d σ S l0 l1 => ex_iconst (show decode mX4_readLaw.2.1 49 = .ok (.iconst 1, 1) by decide +kernel) (by decide +kernel),
  fun d σ l0 l1 x => ex_zret (show decode mX4_readLaw.2.1 50 = .ok (.ireturn, 1) by decide +kernel) rfl⟩
theorem aX4_readLaw_6_35 : ∀ (d : Nat)  (σ : Sg), cal (d + 1) mX4_readLaw [.ref 6, .ref 35] σ = exec d mX4_readLaw 0 [.ref 6, .ref 35] [] σ := fun _ _ => rfl
theorem kX4_readOne_0 : (∀ (d : Nat) (σ : Sg) (S : List Value) (l1 l2 l3 : Value) (k : Nat), exec d mX4_readOne 0 [.ref k, l1, l2, l3] S σ = exec d mX4_readOne 1 [.ref k, l1, l2, l3] (.ref k :: S) σ) ∧
  (∀ (d : Nat) (σ : Sg) (S : List Value) (l1 l2 l3 : Value) (k : Nat), exec d mX4_readOne 1 [.ref k, l1, l2, l3] S σ = exec d mX4_readOne 2 [.ref k, l1, l2, l3] (.ref k :: S) σ) ∧
  (∀ (d : Nat) (σ : Sg) (S : List Value) (l0 l1 l2 l3 : Value), exec d mX4_readOne 2 [l0, l1, l2, l3] (.ref 6 :: S) σ = exec d mX4_readOne 5 [l0, l1, l2, l3] (.int (σ 6 2) :: S) σ) ∧
  (∀ (d : Nat) (σ : Sg) (l0 l1 l2 l3 : Value) (x0 : Int32), exec d mX4_readOne 5 [l0, l1, l2, l3] [.int x0, .ref 6] σ = kb (cal d mX4_letterAt [.ref 6, .int x0] σ) (fun rs σ2 => exec d mX4_readOne 8 [l0, l1, l2, l3] (rs ++ []) σ2)) ∧
  (∀ (d : Nat) (σ : Sg) (S : List Value) (l0 l2 l3 : Value) (k : Nat) (x : Int32), exec d mX4_readOne 8 [l0, .ref k, l2, l3] (.int x :: S) σ = exec d mX4_readOne 9 [l0, .ref k, .int x, l3] S σ) ∧
  (∀ (d : Nat) (σ : Sg) (S : List Value) (l0 l1 l3 : Value) (x : Int32), exec d mX4_readOne 9 [l0, l1, .int x, l3] S σ = exec d mX4_readOne 10 [l0, l1, .int x, l3] (.int x :: S) σ) ∧
  (∀ (d : Nat) (σ : Sg) (l0 l1 l2 l3 : Value) (x0 : Int32), exec d mX4_readOne 10 [l0, l1, l2, l3] [.int x0] σ = kb (cal d mX4_kindOf [.int x0] σ) (fun rs σ2 => exec d mX4_readOne 13 [l0, l1, l2, l3] (rs ++ []) σ2)) ∧
  (∀ (d : Nat) (σ : Sg) (S : List Value) (l0 l1 l3 : Value) (x y : Int32), exec d mX4_readOne 13 [l0, l1, .int y, l3] (.int x :: S) σ = exec d mX4_readOne 14 [l0, l1, .int y, .int x] S σ) ∧
  (∀ (d : Nat) (σ : Sg) (S : List Value) (l0 l1 l2 : Value) (x : Int32), exec d mX4_readOne 14 [l0, l1, l2, .int x] S σ = exec d mX4_readOne 15 [l0, l1, l2, .int x] (.int x :: S) σ) ∧
  (∀ (d : Nat) (σ : Sg) (S : List Value) (l0 l1 l2 l3 : Value) (x : Int32), exec d mX4_readOne 15 [l0, l1, l2, l3] (.int x :: S) σ = if x = nI 0 then exec d mX4_readOne 49 [l0, l1, l2, l3] S σ else exec d mX4_readOne 18 [l0, l1, l2, l3] S σ) ∧
  (∀ (d : Nat) (σ : Sg) (S : List Value) (l0 l2 l3 : Value) (k : Nat), exec d mX4_readOne 18 [l0, .ref k, l2, l3] S σ = exec d mX4_readOne 19 [l0, .ref k, l2, l3] (.ref k :: S) σ) ∧
  (∀ (d : Nat) (σ : Sg) (S : List Value) (l0 l1 l2 l3 : Value), exec d mX4_readOne 19 [l0, l1, l2, l3] (.ref 35 :: S) σ = exec d mX4_readOne 22 [l0, l1, l2, l3] (.int (σ 35 5) :: S) σ) ∧
  (∀ (d : Nat) (σ : Sg) (S : List Value) (l0 l1 l2 l3 : Value) (x : Int32), exec d mX4_readOne 22 [l0, l1, l2, l3] (.int x :: S) σ = if x = nI 0 then exec d mX4_readOne 25 [l0, l1, l2, l3] S σ else exec d mX4_readOne 49 [l0, l1, l2, l3] S σ) ∧
  (∀ (d : Nat) (σ : Sg) (S : List Value) (l0 l2 l3 : Value) (k : Nat), exec d mX4_readOne 25 [l0, .ref k, l2, l3] S σ = exec d mX4_readOne 26 [l0, .ref k, l2, l3] (.ref k :: S) σ) ∧
  (∀ (d : Nat) (σ : Sg) (S : List Value) (l0 l1 l2 l3 : Value), exec d mX4_readOne 26 [l0, l1, l2, l3] (.ref 35 :: S) σ = exec d mX4_readOne 29 [l0, l1, l2, l3] (.int (σ 35 4) :: S) σ) ∧
  (∀ (d : Nat) (σ : Sg) (S : List Value) (l0 l1 l2 l3 : Value), exec d mX4_readOne 29 [l0, l1, l2, l3] S σ = exec d mX4_readOne 31 [l0, l1, l2, l3] (.int (nI 7) :: S) σ) ∧
  (∀ (d : Nat) (σ : Sg) (S : List Value) (l0 l1 l2 l3 : Value) (x y : Int32), exec d mX4_readOne 31 [l0, l1, l2, l3] (.int y :: .int x :: S) σ = if y ≤ x then exec d mX4_readOne 43 [l0, l1, l2, l3] S σ else exec d mX4_readOne 34 [l0, l1, l2, l3] S σ) ∧
  (∀ (d : Nat) (σ : Sg) (S : List Value) (l1 l2 l3 : Value) (k : Nat), exec d mX4_readOne 34 [.ref k, l1, l2, l3] S σ = exec d mX4_readOne 35 [.ref k, l1, l2, l3] (.ref k :: S) σ) ∧
  (∀ (d : Nat) (σ : Sg) (S : List Value) (l0 l2 l3 : Value) (k : Nat), exec d mX4_readOne 35 [l0, .ref k, l2, l3] S σ = exec d mX4_readOne 36 [l0, .ref k, l2, l3] (.ref k :: S) σ) ∧
  (∀ (d : Nat) (σ : Sg) (S : List Value) (l0 l1 l2 : Value) (x : Int32), exec d mX4_readOne 36 [l0, l1, l2, .int x] S σ = exec d mX4_readOne 37 [l0, l1, l2, .int x] (.int x :: S) σ) ∧
  (∀ (d : Nat) (σ : Sg) (l0 l1 l2 l3 : Value) (x0 : Int32), exec d mX4_readOne 37 [l0, l1, l2, l3] [.int x0, .ref 35, .ref 6] σ = kb (cal d mX4_readPart [.ref 6, .ref 35, .int x0] σ) (fun rs σ2 => exec d mX4_readOne 40 [l0, l1, l2, l3] (rs ++ []) σ2)) ∧
  (∀ (d : Nat) (σ : Sg) (S : List Value) (l0 l1 l2 l3 : Value), exec d mX4_readOne 40 [l0, l1, l2, l3] S σ = exec d mX4_readOne 48 [l0, l1, l2, l3] S σ) ∧
  (∀ (d : Nat) (σ : Sg) (S : List Value) (l1 l2 l3 : Value) (k : Nat), exec d mX4_readOne 43 [.ref k, l1, l2, l3] S σ = exec d mX4_readOne 44 [.ref k, l1, l2, l3] (.ref k :: S) σ) ∧
  (∀ (d : Nat) (σ : Sg) (S : List Value) (l0 l1 l2 l3 : Value), exec d mX4_readOne 44 [l0, l1, l2, l3] S σ = exec d mX4_readOne 45 [l0, l1, l2, l3] (.int (nI 3) :: S) σ) ∧
  (∀ (d : Nat) (σ : Sg) (l0 l1 l2 l3 : Value) (x0 : Int32), exec d mX4_readOne 45 [l0, l1, l2, l3] [.int x0, .ref 6] σ = kb (cal d mX4_fail [.ref 6, .int x0] σ) (fun rs σ2 => exec d mX4_readOne 48 [l0, l1, l2, l3] (rs ++ []) σ2)) ∧
  (∀ (d : Nat) (σ : Sg) (l0 l1 l2 l3 : Value) (x : Int32), exec d mX4_readOne 48 [l0, l1, l2, l3] [.int x] σ = if b01 x = true then some (some (.int x), σ) else none) ∧
  (∀ (d : Nat) (σ : Sg) (S : List Value) (l0 l1 l3 : Value) (x : Int32), exec d mX4_readOne 49 [l0, l1, .int x, l3] S σ = exec d mX4_readOne 50 [l0, l1, .int x, l3] (.int x :: S) σ) ∧
  (∀ (d : Nat) (σ : Sg) (S : List Value) (l0 l1 l2 l3 : Value), exec d mX4_readOne 50 [l0, l1, l2, l3] S σ = exec d mX4_readOne 52 [l0, l1, l2, l3] (.int (nI 101) :: S) σ) ∧
  (∀ (d : Nat) (σ : Sg) (S : List Value) (l0 l1 l2 l3 : Value) (x y : Int32), exec d mX4_readOne 52 [l0, l1, l2, l3] (.int y :: .int x :: S) σ = if x = y then exec d mX4_readOne 55 [l0, l1, l2, l3] S σ else exec d mX4_readOne 84 [l0, l1, l2, l3] S σ) ∧
  (∀ (d : Nat) (σ : Sg) (S : List Value) (l0 l2 l3 : Value) (k : Nat), exec d mX4_readOne 55 [l0, .ref k, l2, l3] S σ = exec d mX4_readOne 56 [l0, .ref k, l2, l3] (.ref k :: S) σ) ∧
  (∀ (d : Nat) (σ : Sg) (S : List Value) (l0 l1 l2 l3 : Value), exec d mX4_readOne 56 [l0, l1, l2, l3] (.ref 35 :: S) σ = exec d mX4_readOne 59 [l0, l1, l2, l3] (.int (σ 35 4) :: S) σ) ∧
  (∀ (d : Nat) (σ : Sg) (S : List Value) (l0 l1 l2 l3 : Value) (x : Int32), exec d mX4_readOne 59 [l0, l1, l2, l3] (.int x :: S) σ = if x ≤ nI 0 then exec d mX4_readOne 84 [l0, l1, l2, l3] S σ else exec d mX4_readOne 62 [l0, l1, l2, l3] S σ) ∧
  (∀ (d : Nat) (σ : Sg) (S : List Value) (l0 l2 l3 : Value) (k : Nat), exec d mX4_readOne 62 [l0, .ref k, l2, l3] S σ = exec d mX4_readOne 63 [l0, .ref k, l2, l3] (.ref k :: S) σ) ∧
  (∀ (d : Nat) (σ : Sg) (S : List Value) (l0 l1 l2 l3 : Value), exec d mX4_readOne 63 [l0, l1, l2, l3] (.ref 35 :: S) σ = exec d mX4_readOne 66 [l0, l1, l2, l3] (.int (σ 35 5) :: S) σ) ∧
  (∀ (d : Nat) (σ : Sg) (S : List Value) (l0 l1 l2 l3 : Value), exec d mX4_readOne 66 [l0, l1, l2, l3] S σ = exec d mX4_readOne 67 [l0, l1, l2, l3] (.int (nI 5) :: S) σ) ∧
  (∀ (d : Nat) (σ : Sg) (S : List Value) (l0 l1 l2 l3 : Value) (x y : Int32), exec d mX4_readOne 67 [l0, l1, l2, l3] (.int y :: .int x :: S) σ = if y ≤ x then exec d mX4_readOne 78 [l0, l1, l2, l3] S σ else exec d mX4_readOne 70 [l0, l1, l2, l3] S σ) ∧
  (∀ (d : Nat) (σ : Sg) (S : List Value) (l1 l2 l3 : Value) (k : Nat), exec d mX4_readOne 70 [.ref k, l1, l2, l3] S σ = exec d mX4_readOne 71 [.ref k, l1, l2, l3] (.ref k :: S) σ) ∧
  (∀ (d : Nat) (σ : Sg) (S : List Value) (l0 l2 l3 : Value) (k : Nat), exec d mX4_readOne 71 [l0, .ref k, l2, l3] S σ = exec d mX4_readOne 72 [l0, .ref k, l2, l3] (.ref k :: S) σ) ∧
  (∀ (d : Nat) (σ : Sg) (l0 l1 l2 l3 : Value), exec d mX4_readOne 72 [l0, l1, l2, l3] [.ref 35, .ref 6] σ = kb (cal d mX4_readElder [.ref 6, .ref 35] σ) (fun rs σ2 => exec d mX4_readOne 75 [l0, l1, l2, l3] (rs ++ []) σ2)) ∧
  (∀ (d : Nat) (σ : Sg) (S : List Value) (l0 l1 l2 l3 : Value), exec d mX4_readOne 75 [l0, l1, l2, l3] S σ = exec d mX4_readOne 83 [l0, l1, l2, l3] S σ) :=
  ⟨fun d σ S l1 l2 l3 k => ex_aload_n (show decode mX4_readOne.2.1 0 = .ok (.aload_n 0, 1) by decide +kernel) rfl,
  fun d σ S l1 l2 l3 k => ex_aload_n (show decode mX4_readOne.2.1 1 = .ok (.aload_n 0, 1) by decide +kernel) rfl,
  fun d σ S l0 l1 l2 l3 => ex_get (idx := 24) (ci := 4) (ff := 2) (n := 9) (hh := 146) (by decide +kernel),
  fun d σ l0 l1 l2 l3 x0 => ex_iv (hs := [457, 459, 11, 460, 96]) (show decode mX4_readOne.2.1 5 = .ok (.invokevirtual 70, 3) by decide +kernel) lkV_4_70 ⟨rfl, Nat.le_of_ble_eq_true rfl, Nat.le_of_ble_eq_true rfl, fun _ => rfl⟩ rfl rfl,
  fun d σ S l0 l2 l3 k x => ex_istore_n (show decode mX4_readOne.2.1 8 = .ok (.istore_n 2, 1) by decide +kernel) (Nat.le_of_ble_eq_true rfl) rfl,
  fun d σ S l0 l1 l3 x => ex_iload_n (show decode mX4_readOne.2.1 9 = .ok (.iload_n 2, 1) by decide +kernel) rfl,
  fun d σ l0 l1 l2 l3 x0 => ex_is (hs := [480, 481, 482, 96]) (show decode mX4_readOne.2.1 10 = .ok (.invokestatic 74, 3) by decide +kernel) lkS_4_74 ⟨rfl, Nat.le_of_ble_eq_true rfl, Nat.le_of_ble_eq_true rfl, fun q => nomatch q⟩ rfl rfl,
  fun d σ S l0 l1 l3 x y => ex_istore_n (show decode mX4_readOne.2.1 13 = .ok (.istore_n 3, 1) by decide +kernel) (Nat.le_of_ble_eq_true rfl) rfl,
  fun d σ S l0 l1 l2 x => ex_iload_n (show decode mX4_readOne.2.1 14 = .ok (.iload_n 3, 1) by decide +kernel) rfl,
  fun d σ S l0 l1 l2 l3 x => ex_zeq (show decode mX4_readOne.2.1 15 = .ok (.ifCond .eq 34, 3) by decide +kernel) (by decide),
  fun d σ S l0 l2 l3 k => ex_aload_n (show decode mX4_readOne.2.1 18 = .ok (.aload_n 1, 1) by decide +kernel) rfl,
  fun d σ S l0 l1 l2 l3 => ex_get (idx := 77) (ci := 5) (ff := 5) (n := 17) (hh := 203) (by decide +kernel),
  fun d σ S l0 l1 l2 l3 x => ex_zne (show decode mX4_readOne.2.1 22 = .ok (.ifCond .ne 27, 3) by decide +kernel) (by decide),
  fun d σ S l0 l2 l3 k => ex_aload_n (show decode mX4_readOne.2.1 25 = .ok (.aload_n 1, 1) by decide +kernel) rfl,
  fun d σ S l0 l1 l2 l3 => ex_get (idx := 34) (ci := 5) (ff := 4) (n := 17) (hh := 200) (by decide +kernel),
  fun d σ S l0 l1 l2 l3 => ex_bipush (show decode mX4_readOne.2.1 29 = .ok (.bipush 7, 2) by decide +kernel) (by decide +kernel),
  fun d σ S l0 l1 l2 l3 x y => ex_cge (show decode mX4_readOne.2.1 31 = .ok (.if_icmp .ge 12, 3) by decide +kernel) (by decide),
  fun d σ S l1 l2 l3 k => ex_aload_n (show decode mX4_readOne.2.1 34 = .ok (.aload_n 0, 1) by decide +kernel) rfl,
  fun d σ S l0 l2 l3 k => ex_aload_n (show decode mX4_readOne.2.1 35 = .ok (.aload_n 1, 1) by decide +kernel) rfl,
  fun d σ S l0 l1 l2 x => ex_iload_n (show decode mX4_readOne.2.1 36 = .ok (.iload_n 3, 1) by decide +kernel) rfl,
  fun d σ l0 l1 l2 l3 x0 => ex_iv (hs := [483, 485, 16, 486, 96]) (show decode mX4_readOne.2.1 37 = .ok (.invokevirtual 80, 3) by decide +kernel) lkV_4_80 ⟨rfl, Nat.le_of_ble_eq_true rfl, Nat.le_of_ble_eq_true rfl, fun _ => rfl⟩ rfl rfl,
  fun d σ S l0 l1 l2 l3 => ex_goto (show decode mX4_readOne.2.1 40 = .ok (.goto 8, 3) by decide +kernel) (by decide),
  fun d σ S l1 l2 l3 k => ex_aload_n (show decode mX4_readOne.2.1 43 = .ok (.aload_n 0, 1) by decide +kernel) rfl,
  fun d σ S l0 l1 l2 l3 => ex_iconst (show decode mX4_readOne.2.1 44 = .ok (.iconst 3, 1) by decide +kernel) (by decide +kernel),
  fun d σ l0 l1 l2 l3 x0 => ex_iv (hs := [461, 463, 12, 464, 96]) (show decode mX4_readOne.2.1 45 = .ok (.invokevirtual 37, 3) by decide +kernel) lkV_4_37 ⟨rfl, Nat.le_of_ble_eq_true rfl, Nat.le_of_ble_eq_true rfl, fun _ => rfl⟩ rfl rfl,
  fun d σ l0 l1 l2 l3 x => ex_zret (show decode mX4_readOne.2.1 48 = .ok (.ireturn, 1) by decide +kernel) rfl,
  fun d σ S l0 l1 l3 x => ex_iload_n (show decode mX4_readOne.2.1 49 = .ok (.iload_n 2, 1) by decide +kernel) rfl,
  fun d σ S l0 l1 l2 l3 => ex_bipush (show decode mX4_readOne.2.1 50 = .ok (.bipush 101, 2) by decide +kernel) (by decide +kernel),
  fun d σ S l0 l1 l2 l3 x y => ex_cne (show decode mX4_readOne.2.1 52 = .ok (.if_icmp .ne 32, 3) by decide +kernel) (by decide),
  fun d σ S l0 l2 l3 k => ex_aload_n (show decode mX4_readOne.2.1 55 = .ok (.aload_n 1, 1) by decide +kernel) rfl,
  fun d σ S l0 l1 l2 l3 => ex_get (idx := 34) (ci := 5) (ff := 4) (n := 17) (hh := 200) (by decide +kernel),
  fun d σ S l0 l1 l2 l3 x => ex_zle (show decode mX4_readOne.2.1 59 = .ok (.ifCond .le 25, 3) by decide +kernel) (by decide),
  fun d σ S l0 l2 l3 k => ex_aload_n (show decode mX4_readOne.2.1 62 = .ok (.aload_n 1, 1) by decide +kernel) rfl,
  fun d σ S l0 l1 l2 l3 => ex_get (idx := 77) (ci := 5) (ff := 5) (n := 17) (hh := 203) (by decide +kernel),
  fun d σ S l0 l1 l2 l3 => ex_iconst (show decode mX4_readOne.2.1 66 = .ok (.iconst 5, 1) by decide +kernel) (by decide +kernel),
  fun d σ S l0 l1 l2 l3 x y => ex_cge (show decode mX4_readOne.2.1 67 = .ok (.if_icmp .ge 11, 3) by decide +kernel) (by decide),
  fun d σ S l1 l2 l3 k => ex_aload_n (show decode mX4_readOne.2.1 70 = .ok (.aload_n 0, 1) by decide +kernel) rfl,
  fun d σ S l0 l2 l3 k => ex_aload_n (show decode mX4_readOne.2.1 71 = .ok (.aload_n 1, 1) by decide +kernel) rfl,
  fun d σ l0 l1 l2 l3 => ex_iv (hs := [491, 493, 18, 494, 96]) (show decode mX4_readOne.2.1 72 = .ok (.invokevirtual 84, 3) by decide +kernel) lkV_4_84 ⟨rfl, Nat.le_of_ble_eq_true rfl, Nat.le_of_ble_eq_true rfl, fun _ => rfl⟩ rfl rfl,
  fun d σ S l0 l1 l2 l3 => ex_goto (show decode mX4_readOne.2.1 75 = .ok (.goto 8, 3) by decide +kernel) (by decide)⟩
theorem kX4_readOne_1 : (∀ (d : Nat) (σ : Sg) (S : List Value) (l1 l2 l3 : Value) (k : Nat), exec d mX4_readOne 78 [.ref k, l1, l2, l3] S σ = exec d mX4_readOne 79 [.ref k, l1, l2, l3] (.ref k :: S) σ) ∧
  (∀ (d : Nat) (σ : Sg) (S : List Value) (l0 l1 l2 l3 : Value), exec d mX4_readOne 79 [l0, l1, l2, l3] S σ = exec d mX4_readOne 80 [l0, l1, l2, l3] (.int (nI 3) :: S) σ) ∧
  (∀ (d : Nat) (σ : Sg) (l0 l1 l2 l3 : Value) (x0 : Int32), exec d mX4_readOne 80 [l0, l1, l2, l3] [.int x0, .ref 6] σ = kb (cal d mX4_fail [.ref 6, .int x0] σ) (fun rs σ2 => exec d mX4_readOne 83 [l0, l1, l2, l3] (rs ++ []) σ2)) ∧
  (∀ (d : Nat) (σ : Sg) (l0 l1 l2 l3 : Value) (x : Int32), exec d mX4_readOne 83 [l0, l1, l2, l3] [.int x] σ = if b01 x = true then some (some (.int x), σ) else none) ∧
  (∀ (d : Nat) (σ : Sg) (S : List Value) (l1 l2 l3 : Value) (k : Nat), exec d mX4_readOne 84 [.ref k, l1, l2, l3] S σ = exec d mX4_readOne 85 [.ref k, l1, l2, l3] (.ref k :: S) σ) ∧
  (∀ (d : Nat) (σ : Sg) (S : List Value) (l0 l1 l2 l3 : Value), exec d mX4_readOne 85 [l0, l1, l2, l3] S σ = exec d mX4_readOne 86 [l0, l1, l2, l3] (.int (nI 1) :: S) σ) ∧
  (∀ (d : Nat) (σ : Sg) (l0 l1 l2 l3 : Value) (x0 : Int32), exec d mX4_readOne 86 [l0, l1, l2, l3] [.int x0, .ref 6] σ = kb (cal d mX4_fail [.ref 6, .int x0] σ) (fun rs σ2 => exec d mX4_readOne 89 [l0, l1, l2, l3] (rs ++ []) σ2)) ∧
  (∀ (d : Nat) (σ : Sg) (l0 l1 l2 l3 : Value) (x : Int32), exec d mX4_readOne 89 [l0, l1, l2, l3] [.int x] σ = if b01 x = true then some (some (.int x), σ) else none) :=
  ⟨fun d σ S l1 l2 l3 k => ex_aload_n (show decode mX4_readOne.2.1 78 = .ok (.aload_n 0, 1) by decide +kernel) rfl,
  fun d σ S l0 l1 l2 l3 => ex_iconst (show decode mX4_readOne.2.1 79 = .ok (.iconst 3, 1) by decide +kernel) (by decide +kernel),
  fun d σ l0 l1 l2 l3 x0 => ex_iv (hs := [461, 463, 12, 464, 96]) (show decode mX4_readOne.2.1 80 = .ok (.invokevirtual 37, 3) by decide +kernel) lkV_4_37 ⟨rfl, Nat.le_of_ble_eq_true rfl, Nat.le_of_ble_eq_true rfl, fun _ => rfl⟩ rfl rfl,
  fun d σ l0 l1 l2 l3 x => ex_zret (show decode mX4_readOne.2.1 83 = .ok (.ireturn, 1) by decide +kernel) rfl,
  fun d σ S l1 l2 l3 k => ex_aload_n (show decode mX4_readOne.2.1 84 = .ok (.aload_n 0, 1) by decide +kernel) rfl,
  fun d σ S l0 l1 l2 l3 => ex_iconst (show decode mX4_readOne.2.1 85 = .ok (.iconst 1, 1) by decide +kernel) (by decide +kernel),
  fun d σ l0 l1 l2 l3 x0 => ex_iv (hs := [461, 463, 12, 464, 96]) (show decode mX4_readOne.2.1 86 = .ok (.invokevirtual 37, 3) by decide +kernel) lkV_4_37 ⟨rfl, Nat.le_of_ble_eq_true rfl, Nat.le_of_ble_eq_true rfl, fun _ => rfl⟩ rfl rfl,
  fun d σ l0 l1 l2 l3 x => ex_zret (show decode mX4_readOne.2.1 89 = .ok (.ireturn, 1) by decide +kernel) rfl⟩
theorem aX4_readOne_6_35 : ∀ (d : Nat)  (σ : Sg), cal (d + 1) mX4_readOne [.ref 6, .ref 35] σ = exec d mX4_readOne 0 [.ref 6, .ref 35, uu, uu] [] σ := fun _ _ => rfl
theorem kX4_readPart : (∀ (d : Nat) (σ : Sg) (S : List Value) (l1 l2 : Value) (k : Nat), exec d mX4_readPart 0 [.ref k, l1, l2] S σ = exec d mX4_readPart 1 [.ref k, l1, l2] (.ref k :: S) σ) ∧
  (∀ (d : Nat) (σ : Sg) (S : List Value) (l0 l1 l2 : Value) (k : Nat), exec d mX4_readPart 1 [l0, l1, l2] (.ref k :: S) σ = exec d mX4_readPart 2 [l0, l1, l2] (.ref k :: .ref k :: S) σ) ∧
  (∀ (d : Nat) (σ : Sg) (S : List Value) (l0 l1 l2 : Value), exec d mX4_readPart 2 [l0, l1, l2] (.ref 6 :: S) σ = exec d mX4_readPart 5 [l0, l1, l2] (.int (σ 6 2) :: S) σ) ∧
  (∀ (d : Nat) (σ : Sg) (S : List Value) (l0 l1 l2 : Value), exec d mX4_readPart 5 [l0, l1, l2] S σ = exec d mX4_readPart 6 [l0, l1, l2] (.int (nI 1) :: S) σ) ∧
  (∀ (d : Nat) (σ : Sg) (S : List Value) (l0 l1 l2 : Value) (x y : Int32), exec d mX4_readPart 6 [l0, l1, l2] (.int y :: .int x :: S) σ = exec d mX4_readPart 7 [l0, l1, l2] (.int (x + y) :: S) σ) ∧
  (∀ (d : Nat) (σ : Sg) (S : List Value) (l0 l1 l2 : Value) (x : Int32), exec d mX4_readPart 7 [l0, l1, l2] (.int x :: .ref 6 :: S) σ = exec d mX4_readPart 10 [l0, l1, l2] S (up σ 6 2 x)) ∧
  (∀ (d : Nat) (σ : Sg) (S : List Value) (l1 l2 : Value) (k : Nat), exec d mX4_readPart 10 [.ref k, l1, l2] S σ = exec d mX4_readPart 11 [.ref k, l1, l2] (.ref k :: S) σ) ∧
  (∀ (d : Nat) (σ : Sg) (S : List Value) (l0 l1 l2 : Value), exec d mX4_readPart 11 [l0, l1, l2] S σ = exec d mX4_readPart 12 [l0, l1, l2] (.int (nI 1) :: S) σ) ∧
  (∀ (d : Nat) (σ : Sg) (S : List Value) (l0 l1 l2 : Value), exec d mX4_readPart 12 [l0, l1, l2] S σ = exec d mX4_readPart 14 [l0, l1, l2] (.int (nI 20) :: S) σ) ∧
  (∀ (d : Nat) (σ : Sg) (S : List Value) (l0 l1 l2 : Value), exec d mX4_readPart 14 [l0, l1, l2] S σ = exec d mX4_readPart 15 [l0, l1, l2] (.int (nI 0) :: S) σ) ∧
  (∀ (d : Nat) (σ : Sg) (S : List Value) (l0 l2 : Value) (k : Nat), exec d mX4_readPart 15 [l0, .ref k, l2] S σ = exec d mX4_readPart 16 [l0, .ref k, l2] (.ref k :: S) σ) ∧
  (∀ (d : Nat) (σ : Sg) (S : List Value) (l0 l1 l2 : Value), exec d mX4_readPart 16 [l0, l1, l2] (.ref 35 :: S) σ = exec d mX4_readPart 19 [l0, l1, l2] (.int (σ 35 4) :: S) σ) ∧
  (∀ (d : Nat) (σ : Sg) (S : List Value) (l0 l1 l2 : Value), exec d mX4_readPart 19 [l0, l1, l2] S σ = exec d mX4_readPart 20 [l0, l1, l2] (.int (nI 1) :: S) σ) ∧
  (∀ (d : Nat) (σ : Sg) (S : List Value) (l0 l1 l2 : Value) (x y : Int32), exec d mX4_readPart 20 [l0, l1, l2] (.int y :: .int x :: S) σ = exec d mX4_readPart 21 [l0, l1, l2] (.int (x - y) :: S) σ) ∧
  (∀ (d : Nat) (σ : Sg) (S : List Value) (l0 l1 l2 : Value), exec d mX4_readPart 21 [l0, l1, l2] S σ = exec d mX4_readPart 23 [l0, l1, l2] (.int (nI 7) :: S) σ) ∧
  (∀ (d : Nat) (σ : Sg) (l0 l1 l2 : Value) (x0 x1 x2 x3 x4 : Int32), exec d mX4_readPart 23 [l0, l1, l2] [.int x0, .int x1, .int x2, .int x3, .int x4, .ref 6] σ = kb (cal d mX4_readThree [.ref 6, .int x4, .int x3, .int x2, .int x1, .int x0] σ) (fun rs σ2 => exec d mX4_readPart 26 [l0, l1, l2] (rs ++ []) σ2)) ∧
  (∀ (d : Nat) (σ : Sg) (S : List Value) (l0 l1 l2 : Value) (x : Int32), exec d mX4_readPart 26 [l0, l1, l2] (.int x :: S) σ = if x = nI 0 then exec d mX4_readPart 29 [l0, l1, l2] S σ else exec d mX4_readPart 31 [l0, l1, l2] S σ) ∧
  (∀ (d : Nat) (σ : Sg) (S : List Value) (l0 l1 l2 : Value), exec d mX4_readPart 29 [l0, l1, l2] S σ = exec d mX4_readPart 30 [l0, l1, l2] (.int (nI 0) :: S) σ) ∧
  (∀ (d : Nat) (σ : Sg) (l0 l1 l2 : Value) (x : Int32), exec d mX4_readPart 30 [l0, l1, l2] [.int x] σ = if b01 x = true then some (some (.int x), σ) else none) ∧
  (∀ (d : Nat) (σ : Sg) (S : List Value) (l0 l2 : Value) (k : Nat), exec d mX4_readPart 31 [l0, .ref k, l2] S σ = exec d mX4_readPart 32 [l0, .ref k, l2] (.ref k :: S) σ) ∧
  (∀ (d : Nat) (σ : Sg) (S : List Value) (l0 l1 : Value) (x : Int32), exec d mX4_readPart 32 [l0, l1, .int x] S σ = exec d mX4_readPart 33 [l0, l1, .int x] (.int x :: S) σ) ∧
  (∀ (d : Nat) (σ : Sg) (S : List Value) (l1 l2 : Value) (k : Nat), exec d mX4_readPart 33 [.ref k, l1, l2] S σ = exec d mX4_readPart 34 [.ref k, l1, l2] (.ref k :: S) σ) ∧
  (∀ (d : Nat) (σ : Sg) (S : List Value) (l0 l1 l2 : Value), exec d mX4_readPart 34 [l0, l1, l2] (.ref 6 :: S) σ = exec d mX4_readPart 37 [l0, l1, l2] (.int (σ 6 6) :: S) σ) ∧
  (∀ (d : Nat) (σ : Sg) (S : List Value) (l1 l2 : Value) (k : Nat), exec d mX4_readPart 37 [.ref k, l1, l2] S σ = exec d mX4_readPart 38 [.ref k, l1, l2] (.ref k :: S) σ) ∧
  (∀ (d : Nat) (σ : Sg) (S : List Value) (l0 l1 l2 : Value), exec d mX4_readPart 38 [l0, l1, l2] (.ref 6 :: S) σ = exec d mX4_readPart 41 [l0, l1, l2] (.int (σ 6 7) :: S) σ) ∧
  (∀ (d : Nat) (σ : Sg) (S : List Value) (l1 l2 : Value) (k : Nat), exec d mX4_readPart 41 [.ref k, l1, l2] S σ = exec d mX4_readPart 42 [.ref k, l1, l2] (.ref k :: S) σ) ∧
  (∀ (d : Nat) (σ : Sg) (S : List Value) (l0 l1 l2 : Value), exec d mX4_readPart 42 [l0, l1, l2] (.ref 6 :: S) σ = exec d mX4_readPart 45 [l0, l1, l2] (.int (σ 6 8) :: S) σ) ∧
  (∀ (d : Nat) (σ : Sg) (l0 l1 l2 : Value) (x0 x1 x2 x3 : Int32), exec d mX4_readPart 45 [l0, l1, l2] [.int x0, .int x1, .int x2, .int x3, .ref 35] σ = kb (cal d mX5_addPart [.ref 35, .int x3, .int x2, .int x1, .int x0] σ) (fun rs σ2 => exec d mX4_readPart 48 [l0, l1, l2] (rs ++ []) σ2)) ∧
  (∀ (d : Nat) (σ : Sg) (S : List Value) (l0 l1 l2 : Value), exec d mX4_readPart 48 [l0, l1, l2] S σ = exec d mX4_readPart 49 [l0, l1, l2] (.int (nI 1) :: S) σ) ∧
  (∀ (d : Nat) (σ : Sg) (l0 l1 l2 : Value) (x : Int32), exec d mX4_readPart 49 [l0, l1, l2] [.int x] σ = if b01 x = true then some (some (.int x), σ) else none) :=
  ⟨fun d σ S l1 l2 k => ex_aload_n (show decode mX4_readPart.2.1 0 = .ok (.aload_n 0, 1) by decide +kernel) rfl,
  fun d σ S l0 l1 l2 k => ex_dup (show decode mX4_readPart.2.1 1 = .ok (.dup, 1) by decide +kernel) rfl,
  fun d σ S l0 l1 l2 => ex_get (idx := 24) (ci := 4) (ff := 2) (n := 9) (hh := 146) (by decide +kernel),
  fun d σ S l0 l1 l2 => ex_iconst (show decode mX4_readPart.2.1 5 = .ok (.iconst 1, 1) by decide +kernel) (by decide +kernel),
  fun d σ S l0 l1 l2 x y => ex_iadd (show decode mX4_readPart.2.1 6 = .ok (.iadd, 1) by decide +kernel),
  fun d σ S l0 l1 l2 x => ex_put (idx := 24) (ci := 4) (ff := 2) (n := 9) (hh := 146) (by decide +kernel),
  fun d σ S l1 l2 k => ex_aload_n (show decode mX4_readPart.2.1 10 = .ok (.aload_n 0, 1) by decide +kernel) rfl,
  fun d σ S l0 l1 l2 => ex_iconst (show decode mX4_readPart.2.1 11 = .ok (.iconst 1, 1) by decide +kernel) (by decide +kernel),
  fun d σ S l0 l1 l2 => ex_bipush (show decode mX4_readPart.2.1 12 = .ok (.bipush 20, 2) by decide +kernel) (by decide +kernel),
  fun d σ S l0 l1 l2 => ex_iconst (show decode mX4_readPart.2.1 14 = .ok (.iconst 0, 1) by decide +kernel) (by decide +kernel),
  fun d σ S l0 l2 k => ex_aload_n (show decode mX4_readPart.2.1 15 = .ok (.aload_n 1, 1) by decide +kernel) rfl,
  fun d σ S l0 l1 l2 => ex_get (idx := 34) (ci := 5) (ff := 4) (n := 17) (hh := 200) (by decide +kernel),
  fun d σ S l0 l1 l2 => ex_iconst (show decode mX4_readPart.2.1 19 = .ok (.iconst 1, 1) by decide +kernel) (by decide +kernel),
  fun d σ S l0 l1 l2 x y => ex_isub (show decode mX4_readPart.2.1 20 = .ok (.isub, 1) by decide +kernel),
  fun d σ S l0 l1 l2 => ex_bipush (show decode mX4_readPart.2.1 21 = .ok (.bipush 7, 2) by decide +kernel) (by decide +kernel),
  fun d σ l0 l1 l2 x0 x1 x2 x3 x4 => ex_iv (hs := [465, 467, 13, 468, 96]) (show decode mX4_readPart.2.1 23 = .ok (.invokevirtual 48, 3) by decide +kernel) lkV_4_48 ⟨rfl, Nat.le_of_ble_eq_true rfl, Nat.le_of_ble_eq_true rfl, fun _ => rfl⟩ rfl rfl,
  fun d σ S l0 l1 l2 x => ex_zne (show decode mX4_readPart.2.1 26 = .ok (.ifCond .ne 5, 3) by decide +kernel) (by decide),
  fun d σ S l0 l1 l2 => ex_iconst (show decode mX4_readPart.2.1 29 = .ok (.iconst 0, 1) by decide +kernel) (by decide +kernel),
  fun d σ l0 l1 l2 x => ex_zret (show decode mX4_readPart.2.1 30 = .ok (.ireturn, 1) by decide +kernel) rfl,
  fun d σ S l0 l2 k => ex_aload_n (show decode mX4_readPart.2.1 31 = .ok (.aload_n 1, 1) by decide +kernel) rfl,
  fun d σ S l0 l1 x => ex_iload_n (show decode mX4_readPart.2.1 32 = .ok (.iload_n 2, 1) by decide +kernel) rfl,
  fun d σ S l1 l2 k => ex_aload_n (show decode mX4_readPart.2.1 33 = .ok (.aload_n 0, 1) by decide +kernel) rfl,
  fun d σ S l0 l1 l2 => ex_get (idx := 52) (ci := 4) (ff := 6) (n := 9) (hh := 152) (by decide +kernel),
  fun d σ S l1 l2 k => ex_aload_n (show decode mX4_readPart.2.1 37 = .ok (.aload_n 0, 1) by decide +kernel) rfl,
  fun d σ S l0 l1 l2 => ex_get (idx := 58) (ci := 4) (ff := 7) (n := 9) (hh := 153) (by decide +kernel),
  fun d σ S l1 l2 k => ex_aload_n (show decode mX4_readPart.2.1 41 = .ok (.aload_n 0, 1) by decide +kernel) rfl,
  fun d σ S l0 l1 l2 => ex_get (idx := 64) (ci := 4) (ff := 8) (n := 9) (hh := 154) (by decide +kernel),
  fun d σ l0 l1 l2 x0 x1 x2 x3 => ex_iv (hs := [487, 489, 17, 490, 97]) (show decode mX4_readPart.2.1 45 = .ok (.invokevirtual 87, 3) by decide +kernel) lkV_4_87 ⟨rfl, Nat.le_of_ble_eq_true rfl, Nat.le_of_ble_eq_true rfl, fun _ => rfl⟩ rfl rfl,
  fun d σ S l0 l1 l2 => ex_iconst (show decode mX4_readPart.2.1 48 = .ok (.iconst 1, 1) by decide +kernel) (by decide +kernel),
  fun d σ l0 l1 l2 x => ex_zret (show decode mX4_readPart.2.1 49 = .ok (.ireturn, 1) by decide +kernel) rfl⟩
theorem aX4_readPart_6_35 : ∀ (d : Nat) (a2 : Int32) (σ : Sg), cal (d + 1) mX4_readPart [.ref 6, .ref 35, .int a2] σ = exec d mX4_readPart 0 [.ref 6, .ref 35, .int a2] [] σ := fun _ _ _ => rfl
theorem kX4_readElder : (∀ (d : Nat) (σ : Sg) (S : List Value) (l1 : Value) (k : Nat), exec d mX4_readElder 0 [.ref k, l1] S σ = exec d mX4_readElder 1 [.ref k, l1] (.ref k :: S) σ) ∧
  (∀ (d : Nat) (σ : Sg) (S : List Value) (l0 l1 : Value) (k : Nat), exec d mX4_readElder 1 [l0, l1] (.ref k :: S) σ = exec d mX4_readElder 2 [l0, l1] (.ref k :: .ref k :: S) σ) ∧
  (∀ (d : Nat) (σ : Sg) (S : List Value) (l0 l1 : Value), exec d mX4_readElder 2 [l0, l1] (.ref 6 :: S) σ = exec d mX4_readElder 5 [l0, l1] (.int (σ 6 2) :: S) σ) ∧
  (∀ (d : Nat) (σ : Sg) (S : List Value) (l0 l1 : Value), exec d mX4_readElder 5 [l0, l1] S σ = exec d mX4_readElder 6 [l0, l1] (.int (nI 1) :: S) σ) ∧
  (∀ (d : Nat) (σ : Sg) (S : List Value) (l0 l1 : Value) (x y : Int32), exec d mX4_readElder 6 [l0, l1] (.int y :: .int x :: S) σ = exec d mX4_readElder 7 [l0, l1] (.int (x + y) :: S) σ) ∧
  (∀ (d : Nat) (σ : Sg) (S : List Value) (l0 l1 : Value) (x : Int32), exec d mX4_readElder 7 [l0, l1] (.int x :: .ref 6 :: S) σ = exec d mX4_readElder 10 [l0, l1] S (up σ 6 2 x)) ∧
  (∀ (d : Nat) (σ : Sg) (S : List Value) (l1 : Value) (k : Nat), exec d mX4_readElder 10 [.ref k, l1] S σ = exec d mX4_readElder 11 [.ref k, l1] (.ref k :: S) σ) ∧
  (∀ (d : Nat) (σ : Sg) (S : List Value) (l0 l1 : Value), exec d mX4_readElder 11 [l0, l1] S σ = exec d mX4_readElder 12 [l0, l1] (.int (nI 0) :: S) σ) ∧
  (∀ (d : Nat) (σ : Sg) (S : List Value) (l0 l1 : Value), exec d mX4_readElder 12 [l0, l1] S σ = exec d mX4_readElder 14 [l0, l1] (.int (nI 7) :: S) σ) ∧
  (∀ (d : Nat) (σ : Sg) (S : List Value) (l0 l1 : Value), exec d mX4_readElder 14 [l0, l1] S σ = exec d mX4_readElder 15 [l0, l1] (.int (nI 1) :: S) σ) ∧
  (∀ (d : Nat) (σ : Sg) (S : List Value) (l0 l1 : Value), exec d mX4_readElder 15 [l0, l1] S σ = exec d mX4_readElder 17 [l0, l1] (.int (nI 50) :: S) σ) ∧
  (∀ (d : Nat) (σ : Sg) (S : List Value) (l0 l1 : Value), exec d mX4_readElder 17 [l0, l1] S σ = exec d mX4_readElder 18 [l0, l1] (.int ((-1)) :: S) σ) ∧
  (∀ (d : Nat) (σ : Sg) (l0 l1 : Value) (x0 x1 x2 x3 x4 : Int32), exec d mX4_readElder 18 [l0, l1] [.int x0, .int x1, .int x2, .int x3, .int x4, .ref 6] σ = kb (cal d mX4_readThree [.ref 6, .int x4, .int x3, .int x2, .int x1, .int x0] σ) (fun rs σ2 => exec d mX4_readElder 21 [l0, l1] (rs ++ []) σ2)) ∧
  (∀ (d : Nat) (σ : Sg) (S : List Value) (l0 l1 : Value) (x : Int32), exec d mX4_readElder 21 [l0, l1] (.int x :: S) σ = if x = nI 0 then exec d mX4_readElder 24 [l0, l1] S σ else exec d mX4_readElder 26 [l0, l1] S σ) ∧
  (∀ (d : Nat) (σ : Sg) (S : List Value) (l0 l1 : Value), exec d mX4_readElder 24 [l0, l1] S σ = exec d mX4_readElder 25 [l0, l1] (.int (nI 0) :: S) σ) ∧
  (∀ (d : Nat) (σ : Sg) (l0 l1 : Value) (x : Int32), exec d mX4_readElder 25 [l0, l1] [.int x] σ = if b01 x = true then some (some (.int x), σ) else none) ∧
  (∀ (d : Nat) (σ : Sg) (S : List Value) (l0 : Value) (k : Nat), exec d mX4_readElder 26 [l0, .ref k] S σ = exec d mX4_readElder 27 [l0, .ref k] (.ref k :: S) σ) ∧
  (∀ (d : Nat) (σ : Sg) (S : List Value) (l1 : Value) (k : Nat), exec d mX4_readElder 27 [.ref k, l1] S σ = exec d mX4_readElder 28 [.ref k, l1] (.ref k :: S) σ) ∧
  (∀ (d : Nat) (σ : Sg) (S : List Value) (l0 l1 : Value), exec d mX4_readElder 28 [l0, l1] (.ref 6 :: S) σ = exec d mX4_readElder 31 [l0, l1] (.int (σ 6 6) :: S) σ) ∧
  (∀ (d : Nat) (σ : Sg) (S : List Value) (l1 : Value) (k : Nat), exec d mX4_readElder 31 [.ref k, l1] S σ = exec d mX4_readElder 32 [.ref k, l1] (.ref k :: S) σ) ∧
  (∀ (d : Nat) (σ : Sg) (S : List Value) (l0 l1 : Value), exec d mX4_readElder 32 [l0, l1] (.ref 6 :: S) σ = exec d mX4_readElder 35 [l0, l1] (.int (σ 6 7) :: S) σ) ∧
  (∀ (d : Nat) (σ : Sg) (S : List Value) (l1 : Value) (k : Nat), exec d mX4_readElder 35 [.ref k, l1] S σ = exec d mX4_readElder 36 [.ref k, l1] (.ref k :: S) σ) ∧
  (∀ (d : Nat) (σ : Sg) (S : List Value) (l0 l1 : Value), exec d mX4_readElder 36 [l0, l1] (.ref 6 :: S) σ = exec d mX4_readElder 39 [l0, l1] (.int (σ 6 8) :: S) σ) ∧
  (∀ (d : Nat) (σ : Sg) (l0 l1 : Value) (x0 x1 x2 : Int32), exec d mX4_readElder 39 [l0, l1] [.int x0, .int x1, .int x2, .ref 35] σ = kb (cal d mX5_addElder [.ref 35, .int x2, .int x1, .int x0] σ) (fun rs σ2 => exec d mX4_readElder 42 [l0, l1] (rs ++ []) σ2)) ∧
  (∀ (d : Nat) (σ : Sg) (S : List Value) (l0 l1 : Value), exec d mX4_readElder 42 [l0, l1] S σ = exec d mX4_readElder 43 [l0, l1] (.int (nI 1) :: S) σ) ∧
  (∀ (d : Nat) (σ : Sg) (l0 l1 : Value) (x : Int32), exec d mX4_readElder 43 [l0, l1] [.int x] σ = if b01 x = true then some (some (.int x), σ) else none) :=
  ⟨fun d σ S l1 k => ex_aload_n (show decode mX4_readElder.2.1 0 = .ok (.aload_n 0, 1) by decide +kernel) rfl,
  fun d σ S l0 l1 k => ex_dup (show decode mX4_readElder.2.1 1 = .ok (.dup, 1) by decide +kernel) rfl,
  fun d σ S l0 l1 => ex_get (idx := 24) (ci := 4) (ff := 2) (n := 9) (hh := 146) (by decide +kernel),
  fun d σ S l0 l1 => ex_iconst (show decode mX4_readElder.2.1 5 = .ok (.iconst 1, 1) by decide +kernel) (by decide +kernel),
  fun d σ S l0 l1 x y => ex_iadd (show decode mX4_readElder.2.1 6 = .ok (.iadd, 1) by decide +kernel),
  fun d σ S l0 l1 x => ex_put (idx := 24) (ci := 4) (ff := 2) (n := 9) (hh := 146) (by decide +kernel),
  fun d σ S l1 k => ex_aload_n (show decode mX4_readElder.2.1 10 = .ok (.aload_n 0, 1) by decide +kernel) rfl,
  fun d σ S l0 l1 => ex_iconst (show decode mX4_readElder.2.1 11 = .ok (.iconst 0, 1) by decide +kernel) (by decide +kernel),
  fun d σ S l0 l1 => ex_bipush (show decode mX4_readElder.2.1 12 = .ok (.bipush 7, 2) by decide +kernel) (by decide +kernel),
  fun d σ S l0 l1 => ex_iconst (show decode mX4_readElder.2.1 14 = .ok (.iconst 1, 1) by decide +kernel) (by decide +kernel),
  fun d σ S l0 l1 => ex_bipush (show decode mX4_readElder.2.1 15 = .ok (.bipush 50, 2) by decide +kernel) (by decide +kernel),
  fun d σ S l0 l1 => ex_iconst (show decode mX4_readElder.2.1 17 = .ok (.iconst (-1), 1) by decide +kernel) (by decide +kernel),
  fun d σ l0 l1 x0 x1 x2 x3 x4 => ex_iv (hs := [465, 467, 13, 468, 96]) (show decode mX4_readElder.2.1 18 = .ok (.invokevirtual 48, 3) by decide +kernel) lkV_4_48 ⟨rfl, Nat.le_of_ble_eq_true rfl, Nat.le_of_ble_eq_true rfl, fun _ => rfl⟩ rfl rfl,
  fun d σ S l0 l1 x => ex_zne (show decode mX4_readElder.2.1 21 = .ok (.ifCond .ne 5, 3) by decide +kernel) (by decide),
  fun d σ S l0 l1 => ex_iconst (show decode mX4_readElder.2.1 24 = .ok (.iconst 0, 1) by decide +kernel) (by decide +kernel),
  fun d σ l0 l1 x => ex_zret (show decode mX4_readElder.2.1 25 = .ok (.ireturn, 1) by decide +kernel) rfl,
  fun d σ S l0 k => ex_aload_n (show decode mX4_readElder.2.1 26 = .ok (.aload_n 1, 1) by decide +kernel) rfl,
  fun d σ S l1 k => ex_aload_n (show decode mX4_readElder.2.1 27 = .ok (.aload_n 0, 1) by decide +kernel) rfl,
  fun d σ S l0 l1 => ex_get (idx := 52) (ci := 4) (ff := 6) (n := 9) (hh := 152) (by decide +kernel),
  fun d σ S l1 k => ex_aload_n (show decode mX4_readElder.2.1 31 = .ok (.aload_n 0, 1) by decide +kernel) rfl,
  fun d σ S l0 l1 => ex_get (idx := 58) (ci := 4) (ff := 7) (n := 9) (hh := 153) (by decide +kernel),
  fun d σ S l1 k => ex_aload_n (show decode mX4_readElder.2.1 35 = .ok (.aload_n 0, 1) by decide +kernel) rfl,
  fun d σ S l0 l1 => ex_get (idx := 64) (ci := 4) (ff := 8) (n := 9) (hh := 154) (by decide +kernel),
  fun d σ l0 l1 x0 x1 x2 => ex_iv (hs := [495, 497, 19, 498, 97]) (show decode mX4_readElder.2.1 39 = .ok (.invokevirtual 91, 3) by decide +kernel) lkV_4_91 ⟨rfl, Nat.le_of_ble_eq_true rfl, Nat.le_of_ble_eq_true rfl, fun _ => rfl⟩ rfl rfl,
  fun d σ S l0 l1 => ex_iconst (show decode mX4_readElder.2.1 42 = .ok (.iconst 1, 1) by decide +kernel) (by decide +kernel),
  fun d σ l0 l1 x => ex_zret (show decode mX4_readElder.2.1 43 = .ok (.ireturn, 1) by decide +kernel) rfl⟩
theorem aX4_readElder_6_35 : ∀ (d : Nat)  (σ : Sg), cal (d + 1) mX4_readElder [.ref 6, .ref 35] σ = exec d mX4_readElder 0 [.ref 6, .ref 35] [] σ := fun _ _ => rfl
theorem kX4_readThree_0 : (∀ (d : Nat) (σ : Sg) (S : List Value) (l1 l2 l3 l4 l5 : Value) (k : Nat), exec d mX4_readThree 0 [.ref k, l1, l2, l3, l4, l5] S σ = exec d mX4_readThree 1 [.ref k, l1, l2, l3, l4, l5] (.ref k :: S) σ) ∧
  (∀ (d : Nat) (σ : Sg) (S : List Value) (l0 l1 l2 l3 l4 l5 : Value), exec d mX4_readThree 1 [l0, l1, l2, l3, l4, l5] S σ = exec d mX4_readThree 2 [l0, l1, l2, l3, l4, l5] (.int (nI 0) :: S) σ) ∧
  (∀ (d : Nat) (σ : Sg) (S : List Value) (l0 l1 l2 l3 l4 l5 : Value), exec d mX4_readThree 2 [l0, l1, l2, l3, l4, l5] S σ = exec d mX4_readThree 4 [l0, l1, l2, l3, l4, l5] (.int (nI 20) :: S) σ) ∧
  (∀ (d : Nat) (σ : Sg) (S : List Value) (l0 l1 l2 l3 l4 l5 : Value), exec d mX4_readThree 4 [l0, l1, l2, l3, l4, l5] S σ = exec d mX4_readThree 5 [l0, l1, l2, l3, l4, l5] (.int ((-1)) :: S) σ) ∧
  (∀ (d : Nat) (σ : Sg) (l0 l1 l2 l3 l4 l5 : Value) (x0 x1 x2 : Int32), exec d mX4_readThree 5 [l0, l1, l2, l3, l4, l5] [.int x0, .int x1, .int x2, .ref 6] σ = kb (cal d mX4_readNumber [.ref 6, .int x2, .int x1, .int x0] σ) (fun rs σ2 => exec d mX4_readThree 8 [l0, l1, l2, l3, l4, l5] (rs ++ []) σ2)) ∧
  (∀ (d : Nat) (σ : Sg) (S : List Value) (l0 l1 l2 l3 l4 l5 : Value) (x : Int32), exec d mX4_readThree 8 [l0, l1, l2, l3, l4, l5] (.int x :: S) σ = if x = nI 0 then exec d mX4_readThree 20 [l0, l1, l2, l3, l4, l5] S σ else exec d mX4_readThree 11 [l0, l1, l2, l3, l4, l5] S σ) ∧
  (∀ (d : Nat) (σ : Sg) (S : List Value) (l1 l2 l3 l4 l5 : Value) (k : Nat), exec d mX4_readThree 11 [.ref k, l1, l2, l3, l4, l5] S σ = exec d mX4_readThree 12 [.ref k, l1, l2, l3, l4, l5] (.ref k :: S) σ) ∧
  (∀ (d : Nat) (σ : Sg) (S : List Value) (l0 l1 l2 l3 l4 l5 : Value), exec d mX4_readThree 12 [l0, l1, l2, l3, l4, l5] S σ = exec d mX4_readThree 14 [l0, l1, l2, l3, l4, l5] (.int (nI 44) :: S) σ) ∧
  (∀ (d : Nat) (σ : Sg) (l0 l1 l2 l3 l4 l5 : Value) (x0 : Int32), exec d mX4_readThree 14 [l0, l1, l2, l3, l4, l5] [.int x0, .ref 6] σ = kb (cal d mX4_readLetter [.ref 6, .int x0] σ) (fun rs σ2 => exec d mX4_readThree 17 [l0, l1, l2, l3, l4, l5] (rs ++ []) σ2)) ∧
  (∀ (d : Nat) (σ : Sg) (S : List Value) (l0 l1 l2 l3 l4 l5 : Value) (x : Int32), exec d mX4_readThree 17 [l0, l1, l2, l3, l4, l5] (.int x :: S) σ = if x = nI 0 then exec d mX4_readThree 20 [l0, l1, l2, l3, l4, l5] S σ else exec d mX4_readThree 22 [l0, l1, l2, l3, l4, l5] S σ) ∧
  (∀ (d : Nat) (σ : Sg) (S : List Value) (l0 l1 l2 l3 l4 l5 : Value), exec d mX4_readThree 20 [l0, l1, l2, l3, l4, l5] S σ = exec d mX4_readThree 21 [l0, l1, l2, l3, l4, l5] (.int (nI 0) :: S) σ) ∧
  (∀ (d : Nat) (σ : Sg) (l0 l1 l2 l3 l4 l5 : Value) (x : Int32), exec d mX4_readThree 21 [l0, l1, l2, l3, l4, l5] [.int x] σ = if b01 x = true then some (some (.int x), σ) else none) ∧
  (∀ (d : Nat) (σ : Sg) (S : List Value) (l1 l2 l3 l4 l5 : Value) (k : Nat), exec d mX4_readThree 22 [.ref k, l1, l2, l3, l4, l5] S σ = exec d mX4_readThree 23 [.ref k, l1, l2, l3, l4, l5] (.ref k :: S) σ) ∧
  (∀ (d : Nat) (σ : Sg) (S : List Value) (l1 l2 l3 l4 l5 : Value) (k : Nat), exec d mX4_readThree 23 [.ref k, l1, l2, l3, l4, l5] S σ = exec d mX4_readThree 24 [.ref k, l1, l2, l3, l4, l5] (.ref k :: S) σ) ∧
  (∀ (d : Nat) (σ : Sg) (S : List Value) (l0 l1 l2 l3 l4 l5 : Value), exec d mX4_readThree 24 [l0, l1, l2, l3, l4, l5] (.ref 6 :: S) σ = exec d mX4_readThree 27 [l0, l1, l2, l3, l4, l5] (.int (σ 6 5) :: S) σ) ∧
  (∀ (d : Nat) (σ : Sg) (S : List Value) (l0 l1 l2 l3 l4 l5 : Value) (x : Int32), exec d mX4_readThree 27 [l0, l1, l2, l3, l4, l5] (.int x :: .ref 6 :: S) σ = exec d mX4_readThree 30 [l0, l1, l2, l3, l4, l5] S (up σ 6 6 x)) ∧
  (∀ (d : Nat) (σ : Sg) (S : List Value) (l1 l2 l3 l4 l5 : Value) (k : Nat), exec d mX4_readThree 30 [.ref k, l1, l2, l3, l4, l5] S σ = exec d mX4_readThree 31 [.ref k, l1, l2, l3, l4, l5] (.ref k :: S) σ) ∧
  (∀ (d : Nat) (σ : Sg) (S : List Value) (l0 l2 l3 l4 l5 : Value) (x : Int32), exec d mX4_readThree 31 [l0, .int x, l2, l3, l4, l5] S σ = exec d mX4_readThree 32 [l0, .int x, l2, l3, l4, l5] (.int x :: S) σ) ∧
  (∀ (d : Nat) (σ : Sg) (S : List Value) (l0 l1 l3 l4 l5 : Value) (x : Int32), exec d mX4_readThree 32 [l0, l1, .int x, l3, l4, l5] S σ = exec d mX4_readThree 33 [l0, l1, .int x, l3, l4, l5] (.int x :: S) σ) ∧
  (∀ (d : Nat) (σ : Sg) (S : List Value) (l0 l1 l2 l3 l4 l5 : Value), exec d mX4_readThree 33 [l0, l1, l2, l3, l4, l5] S σ = exec d mX4_readThree 34 [l0, l1, l2, l3, l4, l5] (.int ((-1)) :: S) σ) ∧
  (∀ (d : Nat) (σ : Sg) (l0 l1 l2 l3 l4 l5 : Value) (x0 x1 x2 : Int32), exec d mX4_readThree 34 [l0, l1, l2, l3, l4, l5] [.int x0, .int x1, .int x2, .ref 6] σ = kb (cal d mX4_readNumber [.ref 6, .int x2, .int x1, .int x0] σ) (fun rs σ2 => exec d mX4_readThree 37 [l0, l1, l2, l3, l4, l5] (rs ++ []) σ2)) ∧
  (∀ (d : Nat) (σ : Sg) (S : List Value) (l0 l1 l2 l3 l4 l5 : Value) (x : Int32), exec d mX4_readThree 37 [l0, l1, l2, l3, l4, l5] (.int x :: S) σ = if x = nI 0 then exec d mX4_readThree 49 [l0, l1, l2, l3, l4, l5] S σ else exec d mX4_readThree 40 [l0, l1, l2, l3, l4, l5] S σ) ∧
  (∀ (d : Nat) (σ : Sg) (S : List Value) (l1 l2 l3 l4 l5 : Value) (k : Nat), exec d mX4_readThree 40 [.ref k, l1, l2, l3, l4, l5] S σ = exec d mX4_readThree 41 [.ref k, l1, l2, l3, l4, l5] (.ref k :: S) σ) ∧
  (∀ (d : Nat) (σ : Sg) (S : List Value) (l0 l1 l2 l3 l4 l5 : Value), exec d mX4_readThree 41 [l0, l1, l2, l3, l4, l5] S σ = exec d mX4_readThree 43 [l0, l1, l2, l3, l4, l5] (.int (nI 44) :: S) σ) ∧
  (∀ (d : Nat) (σ : Sg) (l0 l1 l2 l3 l4 l5 : Value) (x0 : Int32), exec d mX4_readThree 43 [l0, l1, l2, l3, l4, l5] [.int x0, .ref 6] σ = kb (cal d mX4_readLetter [.ref 6, .int x0] σ) (fun rs σ2 => exec d mX4_readThree 46 [l0, l1, l2, l3, l4, l5] (rs ++ []) σ2)) ∧
  (∀ (d : Nat) (σ : Sg) (S : List Value) (l0 l1 l2 l3 l4 l5 : Value) (x : Int32), exec d mX4_readThree 46 [l0, l1, l2, l3, l4, l5] (.int x :: S) σ = if x = nI 0 then exec d mX4_readThree 49 [l0, l1, l2, l3, l4, l5] S σ else exec d mX4_readThree 51 [l0, l1, l2, l3, l4, l5] S σ) ∧
  (∀ (d : Nat) (σ : Sg) (S : List Value) (l0 l1 l2 l3 l4 l5 : Value), exec d mX4_readThree 49 [l0, l1, l2, l3, l4, l5] S σ = exec d mX4_readThree 50 [l0, l1, l2, l3, l4, l5] (.int (nI 0) :: S) σ) ∧
  (∀ (d : Nat) (σ : Sg) (l0 l1 l2 l3 l4 l5 : Value) (x : Int32), exec d mX4_readThree 50 [l0, l1, l2, l3, l4, l5] [.int x] σ = if b01 x = true then some (some (.int x), σ) else none) ∧
  (∀ (d : Nat) (σ : Sg) (S : List Value) (l1 l2 l3 l4 l5 : Value) (k : Nat), exec d mX4_readThree 51 [.ref k, l1, l2, l3, l4, l5] S σ = exec d mX4_readThree 52 [.ref k, l1, l2, l3, l4, l5] (.ref k :: S) σ) ∧
  (∀ (d : Nat) (σ : Sg) (S : List Value) (l1 l2 l3 l4 l5 : Value) (k : Nat), exec d mX4_readThree 52 [.ref k, l1, l2, l3, l4, l5] S σ = exec d mX4_readThree 53 [.ref k, l1, l2, l3, l4, l5] (.ref k :: S) σ) ∧
  (∀ (d : Nat) (σ : Sg) (S : List Value) (l0 l1 l2 l3 l4 l5 : Value), exec d mX4_readThree 53 [l0, l1, l2, l3, l4, l5] (.ref 6 :: S) σ = exec d mX4_readThree 56 [l0, l1, l2, l3, l4, l5] (.int (σ 6 5) :: S) σ) ∧
  (∀ (d : Nat) (σ : Sg) (S : List Value) (l0 l1 l2 l3 l4 l5 : Value) (x : Int32), exec d mX4_readThree 56 [l0, l1, l2, l3, l4, l5] (.int x :: .ref 6 :: S) σ = exec d mX4_readThree 59 [l0, l1, l2, l3, l4, l5] S (up σ 6 7 x)) ∧
  (∀ (d : Nat) (σ : Sg) (S : List Value) (l1 l2 l3 l4 l5 : Value) (k : Nat), exec d mX4_readThree 59 [.ref k, l1, l2, l3, l4, l5] S σ = exec d mX4_readThree 60 [.ref k, l1, l2, l3, l4, l5] (.ref k :: S) σ) ∧
  (∀ (d : Nat) (σ : Sg) (S : List Value) (l0 l1 l2 l4 l5 : Value) (x : Int32), exec d mX4_readThree 60 [l0, l1, l2, .int x, l4, l5] S σ = exec d mX4_readThree 61 [l0, l1, l2, .int x, l4, l5] (.int x :: S) σ) ∧
  (∀ (d : Nat) (σ : Sg) (S : List Value) (l0 l1 l2 l3 l5 : Value) (x : Int32), exec d mX4_readThree 61 [l0, l1, l2, l3, .int x, l5] S σ = exec d mX4_readThree 63 [l0, l1, l2, l3, .int x, l5] (.int x :: S) σ) ∧
  (∀ (d : Nat) (σ : Sg) (S : List Value) (l0 l1 l2 l3 l4 : Value) (x : Int32), exec d mX4_readThree 63 [l0, l1, l2, l3, l4, .int x] S σ = exec d mX4_readThree 65 [l0, l1, l2, l3, l4, .int x] (.int x :: S) σ) ∧
  (∀ (d : Nat) (σ : Sg) (l0 l1 l2 l3 l4 l5 : Value) (x0 x1 x2 : Int32), exec d mX4_readThree 65 [l0, l1, l2, l3, l4, l5] [.int x0, .int x1, .int x2, .ref 6] σ = kb (cal d mX4_readNumber [.ref 6, .int x2, .int x1, .int x0] σ) (fun rs σ2 => exec d mX4_readThree 68 [l0, l1, l2, l3, l4, l5] (rs ++ []) σ2)) ∧
  (∀ (d : Nat) (σ : Sg) (S : List Value) (l0 l1 l2 l3 l4 l5 : Value) (x : Int32), exec d mX4_readThree 68 [l0, l1, l2, l3, l4, l5] (.int x :: S) σ = if x = nI 0 then exec d mX4_readThree 80 [l0, l1, l2, l3, l4, l5] S σ else exec d mX4_readThree 71 [l0, l1, l2, l3, l4, l5] S σ) ∧
  (∀ (d : Nat) (σ : Sg) (S : List Value) (l1 l2 l3 l4 l5 : Value) (k : Nat), exec d mX4_readThree 71 [.ref k, l1, l2, l3, l4, l5] S σ = exec d mX4_readThree 72 [.ref k, l1, l2, l3, l4, l5] (.ref k :: S) σ) ∧
  (∀ (d : Nat) (σ : Sg) (S : List Value) (l0 l1 l2 l3 l4 l5 : Value), exec d mX4_readThree 72 [l0, l1, l2, l3, l4, l5] S σ = exec d mX4_readThree 74 [l0, l1, l2, l3, l4, l5] (.int (nI 59) :: S) σ) :=
  ⟨fun d σ S l1 l2 l3 l4 l5 k => ex_aload_n (show decode mX4_readThree.2.1 0 = .ok (.aload_n 0, 1) by decide +kernel) rfl,
  fun d σ S l0 l1 l2 l3 l4 l5 => ex_iconst (show decode mX4_readThree.2.1 1 = .ok (.iconst 0, 1) by decide +kernel) (by decide +kernel),
  fun d σ S l0 l1 l2 l3 l4 l5 => ex_bipush (show decode mX4_readThree.2.1 2 = .ok (.bipush 20, 2) by decide +kernel) (by decide +kernel),
  fun d σ S l0 l1 l2 l3 l4 l5 => ex_iconst (show decode mX4_readThree.2.1 4 = .ok (.iconst (-1), 1) by decide +kernel) (by decide +kernel),
  fun d σ l0 l1 l2 l3 l4 l5 x0 x1 x2 => ex_iv (hs := [469, 471, 14, 472, 96]) (show decode mX4_readThree.2.1 5 = .ok (.invokevirtual 95, 3) by decide +kernel) lkV_4_95 ⟨rfl, Nat.le_of_ble_eq_true rfl, Nat.le_of_ble_eq_true rfl, fun _ => rfl⟩ rfl rfl,
  fun d σ S l0 l1 l2 l3 l4 l5 x => ex_zeq (show decode mX4_readThree.2.1 8 = .ok (.ifCond .eq 12, 3) by decide +kernel) (by decide),
  fun d σ S l1 l2 l3 l4 l5 k => ex_aload_n (show decode mX4_readThree.2.1 11 = .ok (.aload_n 0, 1) by decide +kernel) rfl,
  fun d σ S l0 l1 l2 l3 l4 l5 => ex_bipush (show decode mX4_readThree.2.1 12 = .ok (.bipush 44, 2) by decide +kernel) (by decide +kernel),
  fun d σ l0 l1 l2 l3 l4 l5 x0 => ex_iv (hs := [453, 455, 10, 456, 96]) (show decode mX4_readThree.2.1 14 = .ok (.invokevirtual 45, 3) by decide +kernel) lkV_4_45 ⟨rfl, Nat.le_of_ble_eq_true rfl, Nat.le_of_ble_eq_true rfl, fun _ => rfl⟩ rfl rfl,
  fun d σ S l0 l1 l2 l3 l4 l5 x => ex_zne (show decode mX4_readThree.2.1 17 = .ok (.ifCond .ne 5, 3) by decide +kernel) (by decide),
  fun d σ S l0 l1 l2 l3 l4 l5 => ex_iconst (show decode mX4_readThree.2.1 20 = .ok (.iconst 0, 1) by decide +kernel) (by decide +kernel),
  fun d σ l0 l1 l2 l3 l4 l5 x => ex_zret (show decode mX4_readThree.2.1 21 = .ok (.ireturn, 1) by decide +kernel) rfl,
  fun d σ S l1 l2 l3 l4 l5 k => ex_aload_n (show decode mX4_readThree.2.1 22 = .ok (.aload_n 0, 1) by decide +kernel) rfl,
  fun d σ S l1 l2 l3 l4 l5 k => ex_aload_n (show decode mX4_readThree.2.1 23 = .ok (.aload_n 0, 1) by decide +kernel) rfl,
  fun d σ S l0 l1 l2 l3 l4 l5 => ex_get (idx := 99) (ci := 4) (ff := 5) (n := 9) (hh := 151) (by decide +kernel),
  fun d σ S l0 l1 l2 l3 l4 l5 x => ex_put (idx := 52) (ci := 4) (ff := 6) (n := 9) (hh := 152) (by decide +kernel),
  fun d σ S l1 l2 l3 l4 l5 k => ex_aload_n (show decode mX4_readThree.2.1 30 = .ok (.aload_n 0, 1) by decide +kernel) rfl,
  fun d σ S l0 l2 l3 l4 l5 x => ex_iload_n (show decode mX4_readThree.2.1 31 = .ok (.iload_n 1, 1) by decide +kernel) rfl,
  fun d σ S l0 l1 l3 l4 l5 x => ex_iload_n (show decode mX4_readThree.2.1 32 = .ok (.iload_n 2, 1) by decide +kernel) rfl,
  fun d σ S l0 l1 l2 l3 l4 l5 => ex_iconst (show decode mX4_readThree.2.1 33 = .ok (.iconst (-1), 1) by decide +kernel) (by decide +kernel),
  fun d σ l0 l1 l2 l3 l4 l5 x0 x1 x2 => ex_iv (hs := [469, 471, 14, 472, 96]) (show decode mX4_readThree.2.1 34 = .ok (.invokevirtual 95, 3) by decide +kernel) lkV_4_95 ⟨rfl, Nat.le_of_ble_eq_true rfl, Nat.le_of_ble_eq_true rfl, fun _ => rfl⟩ rfl rfl,
  fun d σ S l0 l1 l2 l3 l4 l5 x => ex_zeq (show decode mX4_readThree.2.1 37 = .ok (.ifCond .eq 12, 3) by decide +kernel) (by decide),
  fun d σ S l1 l2 l3 l4 l5 k => ex_aload_n (show decode mX4_readThree.2.1 40 = .ok (.aload_n 0, 1) by decide +kernel) rfl,
  fun d σ S l0 l1 l2 l3 l4 l5 => ex_bipush (show decode mX4_readThree.2.1 41 = .ok (.bipush 44, 2) by decide +kernel) (by decide +kernel),
  fun d σ l0 l1 l2 l3 l4 l5 x0 => ex_iv (hs := [453, 455, 10, 456, 96]) (show decode mX4_readThree.2.1 43 = .ok (.invokevirtual 45, 3) by decide +kernel) lkV_4_45 ⟨rfl, Nat.le_of_ble_eq_true rfl, Nat.le_of_ble_eq_true rfl, fun _ => rfl⟩ rfl rfl,
  fun d σ S l0 l1 l2 l3 l4 l5 x => ex_zne (show decode mX4_readThree.2.1 46 = .ok (.ifCond .ne 5, 3) by decide +kernel) (by decide),
  fun d σ S l0 l1 l2 l3 l4 l5 => ex_iconst (show decode mX4_readThree.2.1 49 = .ok (.iconst 0, 1) by decide +kernel) (by decide +kernel),
  fun d σ l0 l1 l2 l3 l4 l5 x => ex_zret (show decode mX4_readThree.2.1 50 = .ok (.ireturn, 1) by decide +kernel) rfl,
  fun d σ S l1 l2 l3 l4 l5 k => ex_aload_n (show decode mX4_readThree.2.1 51 = .ok (.aload_n 0, 1) by decide +kernel) rfl,
  fun d σ S l1 l2 l3 l4 l5 k => ex_aload_n (show decode mX4_readThree.2.1 52 = .ok (.aload_n 0, 1) by decide +kernel) rfl,
  fun d σ S l0 l1 l2 l3 l4 l5 => ex_get (idx := 99) (ci := 4) (ff := 5) (n := 9) (hh := 151) (by decide +kernel),
  fun d σ S l0 l1 l2 l3 l4 l5 x => ex_put (idx := 58) (ci := 4) (ff := 7) (n := 9) (hh := 153) (by decide +kernel),
  fun d σ S l1 l2 l3 l4 l5 k => ex_aload_n (show decode mX4_readThree.2.1 59 = .ok (.aload_n 0, 1) by decide +kernel) rfl,
  fun d σ S l0 l1 l2 l4 l5 x => ex_iload_n (show decode mX4_readThree.2.1 60 = .ok (.iload_n 3, 1) by decide +kernel) rfl,
  fun d σ S l0 l1 l2 l3 l5 x => ex_iload (show decode mX4_readThree.2.1 61 = .ok (.iload 4, 2) by decide +kernel) rfl,
  fun d σ S l0 l1 l2 l3 l4 x => ex_iload (show decode mX4_readThree.2.1 63 = .ok (.iload 5, 2) by decide +kernel) rfl,
  fun d σ l0 l1 l2 l3 l4 l5 x0 x1 x2 => ex_iv (hs := [469, 471, 14, 472, 96]) (show decode mX4_readThree.2.1 65 = .ok (.invokevirtual 95, 3) by decide +kernel) lkV_4_95 ⟨rfl, Nat.le_of_ble_eq_true rfl, Nat.le_of_ble_eq_true rfl, fun _ => rfl⟩ rfl rfl,
  fun d σ S l0 l1 l2 l3 l4 l5 x => ex_zeq (show decode mX4_readThree.2.1 68 = .ok (.ifCond .eq 12, 3) by decide +kernel) (by decide),
  fun d σ S l1 l2 l3 l4 l5 k => ex_aload_n (show decode mX4_readThree.2.1 71 = .ok (.aload_n 0, 1) by decide +kernel) rfl,
  fun d σ S l0 l1 l2 l3 l4 l5 => ex_bipush (show decode mX4_readThree.2.1 72 = .ok (.bipush 59, 2) by decide +kernel) (by decide +kernel)⟩
theorem kX4_readThree_1 : (∀ (d : Nat) (σ : Sg) (l0 l1 l2 l3 l4 l5 : Value) (x0 : Int32), exec d mX4_readThree 74 [l0, l1, l2, l3, l4, l5] [.int x0, .ref 6] σ = kb (cal d mX4_readLetter [.ref 6, .int x0] σ) (fun rs σ2 => exec d mX4_readThree 77 [l0, l1, l2, l3, l4, l5] (rs ++ []) σ2)) ∧
  (∀ (d : Nat) (σ : Sg) (S : List Value) (l0 l1 l2 l3 l4 l5 : Value) (x : Int32), exec d mX4_readThree 77 [l0, l1, l2, l3, l4, l5] (.int x :: S) σ = if x = nI 0 then exec d mX4_readThree 80 [l0, l1, l2, l3, l4, l5] S σ else exec d mX4_readThree 82 [l0, l1, l2, l3, l4, l5] S σ) ∧
  (∀ (d : Nat) (σ : Sg) (S : List Value) (l0 l1 l2 l3 l4 l5 : Value), exec d mX4_readThree 80 [l0, l1, l2, l3, l4, l5] S σ = exec d mX4_readThree 81 [l0, l1, l2, l3, l4, l5] (.int (nI 0) :: S) σ) ∧
  (∀ (d : Nat) (σ : Sg) (l0 l1 l2 l3 l4 l5 : Value) (x : Int32), exec d mX4_readThree 81 [l0, l1, l2, l3, l4, l5] [.int x] σ = if b01 x = true then some (some (.int x), σ) else none) ∧
  (∀ (d : Nat) (σ : Sg) (S : List Value) (l1 l2 l3 l4 l5 : Value) (k : Nat), exec d mX4_readThree 82 [.ref k, l1, l2, l3, l4, l5] S σ = exec d mX4_readThree 83 [.ref k, l1, l2, l3, l4, l5] (.ref k :: S) σ) ∧
  (∀ (d : Nat) (σ : Sg) (S : List Value) (l1 l2 l3 l4 l5 : Value) (k : Nat), exec d mX4_readThree 83 [.ref k, l1, l2, l3, l4, l5] S σ = exec d mX4_readThree 84 [.ref k, l1, l2, l3, l4, l5] (.ref k :: S) σ) ∧
  (∀ (d : Nat) (σ : Sg) (S : List Value) (l0 l1 l2 l3 l4 l5 : Value), exec d mX4_readThree 84 [l0, l1, l2, l3, l4, l5] (.ref 6 :: S) σ = exec d mX4_readThree 87 [l0, l1, l2, l3, l4, l5] (.int (σ 6 5) :: S) σ) ∧
  (∀ (d : Nat) (σ : Sg) (S : List Value) (l0 l1 l2 l3 l4 l5 : Value) (x : Int32), exec d mX4_readThree 87 [l0, l1, l2, l3, l4, l5] (.int x :: .ref 6 :: S) σ = exec d mX4_readThree 90 [l0, l1, l2, l3, l4, l5] S (up σ 6 8 x)) ∧
  (∀ (d : Nat) (σ : Sg) (S : List Value) (l0 l1 l2 l3 l4 l5 : Value), exec d mX4_readThree 90 [l0, l1, l2, l3, l4, l5] S σ = exec d mX4_readThree 91 [l0, l1, l2, l3, l4, l5] (.int (nI 1) :: S) σ) ∧
  (∀ (d : Nat) (σ : Sg) (l0 l1 l2 l3 l4 l5 : Value) (x : Int32), exec d mX4_readThree 91 [l0, l1, l2, l3, l4, l5] [.int x] σ = if b01 x = true then some (some (.int x), σ) else none) :=
  ⟨fun d σ l0 l1 l2 l3 l4 l5 x0 => ex_iv (hs := [453, 455, 10, 456, 96]) (show decode mX4_readThree.2.1 74 = .ok (.invokevirtual 45, 3) by decide +kernel) lkV_4_45 ⟨rfl, Nat.le_of_ble_eq_true rfl, Nat.le_of_ble_eq_true rfl, fun _ => rfl⟩ rfl rfl,
  fun d σ S l0 l1 l2 l3 l4 l5 x => ex_zne (show decode mX4_readThree.2.1 77 = .ok (.ifCond .ne 5, 3) by decide +kernel) (by decide),
  fun d σ S l0 l1 l2 l3 l4 l5 => ex_iconst (show decode mX4_readThree.2.1 80 = .ok (.iconst 0, 1) by decide +kernel) (by decide +kernel),
  fun d σ l0 l1 l2 l3 l4 l5 x => ex_zret (show decode mX4_readThree.2.1 81 = .ok (.ireturn, 1) by decide +kernel) rfl,
  fun d σ S l1 l2 l3 l4 l5 k => ex_aload_n (show decode mX4_readThree.2.1 82 = .ok (.aload_n 0, 1) by decide +kernel) rfl,
  fun d σ S l1 l2 l3 l4 l5 k => ex_aload_n (show decode mX4_readThree.2.1 83 = .ok (.aload_n 0, 1) by decide +kernel) rfl,
  fun d σ S l0 l1 l2 l3 l4 l5 => ex_get (idx := 99) (ci := 4) (ff := 5) (n := 9) (hh := 151) (by decide +kernel),
  fun d σ S l0 l1 l2 l3 l4 l5 x => ex_put (idx := 64) (ci := 4) (ff := 8) (n := 9) (hh := 154) (by decide +kernel),
  fun d σ S l0 l1 l2 l3 l4 l5 => ex_iconst (show decode mX4_readThree.2.1 90 = .ok (.iconst 1, 1) by decide +kernel) (by decide +kernel),
  fun d σ l0 l1 l2 l3 l4 l5 x => ex_zret (show decode mX4_readThree.2.1 91 = .ok (.ireturn, 1) by decide +kernel) rfl⟩
theorem aX4_readThree_6 : ∀ (d : Nat) (a1 : Int32) (a2 : Int32) (a3 : Int32) (a4 : Int32) (a5 : Int32) (σ : Sg), cal (d + 1) mX4_readThree [.ref 6, .int a1, .int a2, .int a3, .int a4, .int a5] σ = exec d mX4_readThree 0 [.ref 6, .int a1, .int a2, .int a3, .int a4, .int a5] [] σ := fun _ _ _ _ _ _ _ => rfl
theorem kX4_readLetter : (∀ (d : Nat) (σ : Sg) (S : List Value) (l1 : Value) (k : Nat), exec d mX4_readLetter 0 [.ref k, l1] S σ = exec d mX4_readLetter 1 [.ref k, l1] (.ref k :: S) σ) ∧
  (∀ (d : Nat) (σ : Sg) (S : List Value) (l1 : Value) (k : Nat), exec d mX4_readLetter 1 [.ref k, l1] S σ = exec d mX4_readLetter 2 [.ref k, l1] (.ref k :: S) σ) ∧
  (∀ (d : Nat) (σ : Sg) (S : List Value) (l0 l1 : Value), exec d mX4_readLetter 2 [l0, l1] (.ref 6 :: S) σ = exec d mX4_readLetter 5 [l0, l1] (.int (σ 6 2) :: S) σ) ∧
  (∀ (d : Nat) (σ : Sg) (l0 l1 : Value) (x0 : Int32), exec d mX4_readLetter 5 [l0, l1] [.int x0, .ref 6] σ = kb (cal d mX4_letterAt [.ref 6, .int x0] σ) (fun rs σ2 => exec d mX4_readLetter 8 [l0, l1] (rs ++ []) σ2)) ∧
  (∀ (d : Nat) (σ : Sg) (S : List Value) (l0 : Value) (x : Int32), exec d mX4_readLetter 8 [l0, .int x] S σ = exec d mX4_readLetter 9 [l0, .int x] (.int x :: S) σ) ∧
  (∀ (d : Nat) (σ : Sg) (S : List Value) (l0 l1 : Value) (x y : Int32), exec d mX4_readLetter 9 [l0, l1] (.int y :: .int x :: S) σ = if x = y then exec d mX4_readLetter 18 [l0, l1] S σ else exec d mX4_readLetter 12 [l0, l1] S σ) ∧
  (∀ (d : Nat) (σ : Sg) (S : List Value) (l1 : Value) (k : Nat), exec d mX4_readLetter 12 [.ref k, l1] S σ = exec d mX4_readLetter 13 [.ref k, l1] (.ref k :: S) σ) ∧
  (∀ (d : Nat) (σ : Sg) (S : List Value) (l0 l1 : Value), exec d mX4_readLetter 13 [l0, l1] S σ = exec d mX4_readLetter 14 [l0, l1] (.int (nI 1) :: S) σ) ∧
  (∀ (d : Nat) (σ : Sg) (l0 l1 : Value) (x0 : Int32), exec d mX4_readLetter 14 [l0, l1] [.int x0, .ref 6] σ = kb (cal d mX4_fail [.ref 6, .int x0] σ) (fun rs σ2 => exec d mX4_readLetter 17 [l0, l1] (rs ++ []) σ2)) ∧
  (∀ (d : Nat) (σ : Sg) (l0 l1 : Value) (x : Int32), exec d mX4_readLetter 17 [l0, l1] [.int x] σ = if b01 x = true then some (some (.int x), σ) else none) ∧
  (∀ (d : Nat) (σ : Sg) (S : List Value) (l1 : Value) (k : Nat), exec d mX4_readLetter 18 [.ref k, l1] S σ = exec d mX4_readLetter 19 [.ref k, l1] (.ref k :: S) σ) ∧
  (∀ (d : Nat) (σ : Sg) (S : List Value) (l0 l1 : Value) (k : Nat), exec d mX4_readLetter 19 [l0, l1] (.ref k :: S) σ = exec d mX4_readLetter 20 [l0, l1] (.ref k :: .ref k :: S) σ) ∧
  (∀ (d : Nat) (σ : Sg) (S : List Value) (l0 l1 : Value), exec d mX4_readLetter 20 [l0, l1] (.ref 6 :: S) σ = exec d mX4_readLetter 23 [l0, l1] (.int (σ 6 2) :: S) σ) ∧
  (∀ (d : Nat) (σ : Sg) (S : List Value) (l0 l1 : Value), exec d mX4_readLetter 23 [l0, l1] S σ = exec d mX4_readLetter 24 [l0, l1] (.int (nI 1) :: S) σ) ∧
  (∀ (d : Nat) (σ : Sg) (S : List Value) (l0 l1 : Value) (x y : Int32), exec d mX4_readLetter 24 [l0, l1] (.int y :: .int x :: S) σ = exec d mX4_readLetter 25 [l0, l1] (.int (x + y) :: S) σ) ∧
  (∀ (d : Nat) (σ : Sg) (S : List Value) (l0 l1 : Value) (x : Int32), exec d mX4_readLetter 25 [l0, l1] (.int x :: .ref 6 :: S) σ = exec d mX4_readLetter 28 [l0, l1] S (up σ 6 2 x)) ∧
  (∀ (d : Nat) (σ : Sg) (S : List Value) (l0 l1 : Value), exec d mX4_readLetter 28 [l0, l1] S σ = exec d mX4_readLetter 29 [l0, l1] (.int (nI 1) :: S) σ) ∧
  (∀ (d : Nat) (σ : Sg) (l0 l1 : Value) (x : Int32), exec d mX4_readLetter 29 [l0, l1] [.int x] σ = if b01 x = true then some (some (.int x), σ) else none) :=
  ⟨fun d σ S l1 k => ex_aload_n (show decode mX4_readLetter.2.1 0 = .ok (.aload_n 0, 1) by decide +kernel) rfl,
  fun d σ S l1 k => ex_aload_n (show decode mX4_readLetter.2.1 1 = .ok (.aload_n 0, 1) by decide +kernel) rfl,
  fun d σ S l0 l1 => ex_get (idx := 24) (ci := 4) (ff := 2) (n := 9) (hh := 146) (by decide +kernel),
  fun d σ l0 l1 x0 => ex_iv (hs := [457, 459, 11, 460, 96]) (show decode mX4_readLetter.2.1 5 = .ok (.invokevirtual 70, 3) by decide +kernel) lkV_4_70 ⟨rfl, Nat.le_of_ble_eq_true rfl, Nat.le_of_ble_eq_true rfl, fun _ => rfl⟩ rfl rfl,
  fun d σ S l0 x => ex_iload_n (show decode mX4_readLetter.2.1 8 = .ok (.iload_n 1, 1) by decide +kernel) rfl,
  fun d σ S l0 l1 x y => ex_ceq (show decode mX4_readLetter.2.1 9 = .ok (.if_icmp .eq 9, 3) by decide +kernel) (by decide),
  fun d σ S l1 k => ex_aload_n (show decode mX4_readLetter.2.1 12 = .ok (.aload_n 0, 1) by decide +kernel) rfl,
  fun d σ S l0 l1 => ex_iconst (show decode mX4_readLetter.2.1 13 = .ok (.iconst 1, 1) by decide +kernel) (by decide +kernel),
  fun d σ l0 l1 x0 => ex_iv (hs := [461, 463, 12, 464, 96]) (show decode mX4_readLetter.2.1 14 = .ok (.invokevirtual 37, 3) by decide +kernel) lkV_4_37 ⟨rfl, Nat.le_of_ble_eq_true rfl, Nat.le_of_ble_eq_true rfl, fun _ => rfl⟩ rfl rfl,
  fun d σ l0 l1 x => ex_zret (show decode mX4_readLetter.2.1 17 = .ok (.ireturn, 1) by decide +kernel) rfl,
  fun d σ S l1 k => ex_aload_n (show decode mX4_readLetter.2.1 18 = .ok (.aload_n 0, 1) by decide +kernel) rfl,
  fun d σ S l0 l1 k => ex_dup (show decode mX4_readLetter.2.1 19 = .ok (.dup, 1) by decide +kernel) rfl,
  fun d σ S l0 l1 => ex_get (idx := 24) (ci := 4) (ff := 2) (n := 9) (hh := 146) (by decide +kernel),
  fun d σ S l0 l1 => ex_iconst (show decode mX4_readLetter.2.1 23 = .ok (.iconst 1, 1) by decide +kernel) (by decide +kernel),
  fun d σ S l0 l1 x y => ex_iadd (show decode mX4_readLetter.2.1 24 = .ok (.iadd, 1) by decide +kernel),
  fun d σ S l0 l1 x => ex_put (idx := 24) (ci := 4) (ff := 2) (n := 9) (hh := 146) (by decide +kernel),
  fun d σ S l0 l1 => ex_iconst (show decode mX4_readLetter.2.1 28 = .ok (.iconst 1, 1) by decide +kernel) (by decide +kernel),
  fun d σ l0 l1 x => ex_zret (show decode mX4_readLetter.2.1 29 = .ok (.ireturn, 1) by decide +kernel) rfl⟩
theorem aX4_readLetter_6 : ∀ (d : Nat) (a1 : Int32) (σ : Sg), cal (d + 1) mX4_readLetter [.ref 6, .int a1] σ = exec d mX4_readLetter 0 [.ref 6, .int a1] [] σ := fun _ _ _ => rfl
theorem kX4_readNumber_0 : (∀ (d : Nat) (σ : Sg) (S : List Value) (l0 l1 l2 l3 l4 : Value), exec d mX4_readNumber 0 [l0, l1, l2, l3, l4] S σ = exec d mX4_readNumber 1 [l0, l1, l2, l3, l4] (.int (nI 0) :: S) σ) ∧
  (∀ (d : Nat) (σ : Sg) (S : List Value) (l0 l1 l2 l4 : Value) (x y : Int32), exec d mX4_readNumber 1 [l0, l1, l2, .int y, l4] (.int x :: S) σ = exec d mX4_readNumber 3 [l0, l1, l2, .int y, .int x] S σ) ∧
  (∀ (d : Nat) (σ : Sg) (S : List Value) (l1 l2 l3 l4 : Value) (k : Nat), exec d mX4_readNumber 3 [.ref k, l1, l2, l3, l4] S σ = exec d mX4_readNumber 4 [.ref k, l1, l2, l3, l4] (.ref k :: S) σ) ∧
  (∀ (d : Nat) (σ : Sg) (S : List Value) (l0 l1 l2 l3 l4 : Value), exec d mX4_readNumber 4 [l0, l1, l2, l3, l4] S σ = exec d mX4_readNumber 5 [l0, l1, l2, l3, l4] (.int (nI 0) :: S) σ) ∧
  (∀ (d : Nat) (σ : Sg) (S : List Value) (l0 l1 l2 l3 l4 : Value) (x : Int32), exec d mX4_readNumber 5 [l0, l1, l2, l3, l4] (.int x :: .ref 6 :: S) σ = exec d mX4_readNumber 8 [l0, l1, l2, l3, l4] S (up σ 6 5 x)) ∧
  (∀ (d : Nat) (σ : Sg) (S : List Value) (l0 l1 l2 l3 l4 : Value), exec d mX4_readNumber 10 [l0, l1, l2, l3, l4] S σ = exec d mX4_readNumber 11 [l0, l1, l2, l3, l4] (.int (nI 3) :: S) σ) ∧
  (∀ (d : Nat) (σ : Sg) (S : List Value) (l0 l1 l2 l3 l4 : Value) (x y : Int32), exec d mX4_readNumber 11 [l0, l1, l2, l3, l4] (.int y :: .int x :: S) σ = if y ≤ x then exec d mX4_readNumber 63 [l0, l1, l2, l3, l4] S σ else exec d mX4_readNumber 14 [l0, l1, l2, l3, l4] S σ) ∧
  (∀ (d : Nat) (σ : Sg) (S : List Value) (l1 l2 l3 l4 : Value) (k : Nat), exec d mX4_readNumber 14 [.ref k, l1, l2, l3, l4] S σ = exec d mX4_readNumber 15 [.ref k, l1, l2, l3, l4] (.ref k :: S) σ) ∧
  (∀ (d : Nat) (σ : Sg) (S : List Value) (l1 l2 l3 l4 : Value) (k : Nat), exec d mX4_readNumber 15 [.ref k, l1, l2, l3, l4] S σ = exec d mX4_readNumber 16 [.ref k, l1, l2, l3, l4] (.ref k :: S) σ) ∧
  (∀ (d : Nat) (σ : Sg) (S : List Value) (l0 l1 l2 l3 l4 : Value), exec d mX4_readNumber 16 [l0, l1, l2, l3, l4] (.ref 6 :: S) σ = exec d mX4_readNumber 19 [l0, l1, l2, l3, l4] (.int (σ 6 2) :: S) σ) ∧
  (∀ (d : Nat) (σ : Sg) (S : List Value) (l0 l1 l2 l3 : Value) (x : Int32), exec d mX4_readNumber 19 [l0, l1, l2, l3, .int x] S σ = exec d mX4_readNumber 21 [l0, l1, l2, l3, .int x] (.int x :: S) σ) ∧
  (∀ (d : Nat) (σ : Sg) (S : List Value) (l0 l1 l2 l3 l4 : Value) (x y : Int32), exec d mX4_readNumber 21 [l0, l1, l2, l3, l4] (.int y :: .int x :: S) σ = exec d mX4_readNumber 22 [l0, l1, l2, l3, l4] (.int (x + y) :: S) σ) ∧
  (∀ (d : Nat) (σ : Sg) (l0 l1 l2 l3 l4 : Value) (x0 : Int32), exec d mX4_readNumber 22 [l0, l1, l2, l3, l4] [.int x0, .ref 6] σ = kb (cal d mX4_letterAt [.ref 6, .int x0] σ) (fun rs σ2 => exec d mX4_readNumber 25 [l0, l1, l2, l3, l4] (rs ++ []) σ2)) ∧
  (∀ (d : Nat) (σ : Sg) (l0 l1 l2 l3 l4 : Value) (x0 : Int32), exec d mX4_readNumber 25 [l0, l1, l2, l3, l4] [.int x0] σ = kb (cal d mX4_isFigure [.int x0] σ) (fun rs σ2 => exec d mX4_readNumber 28 [l0, l1, l2, l3, l4] (rs ++ []) σ2)) ∧
  (∀ (d : Nat) (σ : Sg) (S : List Value) (l0 l1 l2 l3 l4 : Value) (x : Int32), exec d mX4_readNumber 28 [l0, l1, l2, l3, l4] (.int x :: S) σ = if x = nI 0 then exec d mX4_readNumber 63 [l0, l1, l2, l3, l4] S σ else exec d mX4_readNumber 31 [l0, l1, l2, l3, l4] S σ) ∧
  (∀ (d : Nat) (σ : Sg) (S : List Value) (l1 l2 l3 l4 : Value) (k : Nat), exec d mX4_readNumber 31 [.ref k, l1, l2, l3, l4] S σ = exec d mX4_readNumber 32 [.ref k, l1, l2, l3, l4] (.ref k :: S) σ) ∧
  (∀ (d : Nat) (σ : Sg) (S : List Value) (l0 l1 l2 l3 l4 : Value), exec d mX4_readNumber 32 [l0, l1, l2, l3, l4] S σ = exec d mX4_readNumber 34 [l0, l1, l2, l3, l4] (.int (nI 10) :: S) σ) ∧
  (∀ (d : Nat) (σ : Sg) (S : List Value) (l1 l2 l3 l4 : Value) (k : Nat), exec d mX4_readNumber 34 [.ref k, l1, l2, l3, l4] S σ = exec d mX4_readNumber 35 [.ref k, l1, l2, l3, l4] (.ref k :: S) σ) ∧
  (∀ (d : Nat) (σ : Sg) (S : List Value) (l0 l1 l2 l3 l4 : Value), exec d mX4_readNumber 35 [l0, l1, l2, l3, l4] (.ref 6 :: S) σ = exec d mX4_readNumber 38 [l0, l1, l2, l3, l4] (.int (σ 6 5) :: S) σ) ∧
  (∀ (d : Nat) (σ : Sg) (S : List Value) (l0 l1 l2 l3 l4 : Value) (x y : Int32), exec d mX4_readNumber 38 [l0, l1, l2, l3, l4] (.int y :: .int x :: S) σ = exec d mX4_readNumber 39 [l0, l1, l2, l3, l4] (.int (x * y) :: S) σ) ∧
  (∀ (d : Nat) (σ : Sg) (S : List Value) (l1 l2 l3 l4 : Value) (k : Nat), exec d mX4_readNumber 39 [.ref k, l1, l2, l3, l4] S σ = exec d mX4_readNumber 40 [.ref k, l1, l2, l3, l4] (.ref k :: S) σ) ∧
  (∀ (d : Nat) (σ : Sg) (S : List Value) (l1 l2 l3 l4 : Value) (k : Nat), exec d mX4_readNumber 40 [.ref k, l1, l2, l3, l4] S σ = exec d mX4_readNumber 41 [.ref k, l1, l2, l3, l4] (.ref k :: S) σ) ∧
  (∀ (d : Nat) (σ : Sg) (S : List Value) (l0 l1 l2 l3 l4 : Value), exec d mX4_readNumber 41 [l0, l1, l2, l3, l4] (.ref 6 :: S) σ = exec d mX4_readNumber 44 [l0, l1, l2, l3, l4] (.int (σ 6 2) :: S) σ) ∧
  (∀ (d : Nat) (σ : Sg) (S : List Value) (l0 l1 l2 l3 : Value) (x : Int32), exec d mX4_readNumber 44 [l0, l1, l2, l3, .int x] S σ = exec d mX4_readNumber 46 [l0, l1, l2, l3, .int x] (.int x :: S) σ) ∧
  (∀ (d : Nat) (σ : Sg) (S : List Value) (l0 l1 l2 l3 l4 : Value) (x y : Int32), exec d mX4_readNumber 46 [l0, l1, l2, l3, l4] (.int y :: .int x :: S) σ = exec d mX4_readNumber 47 [l0, l1, l2, l3, l4] (.int (x + y) :: S) σ) ∧
  (∀ (d : Nat) (σ : Sg) (l0 l1 l2 l3 l4 : Value) (x0 x2 : Int32), exec d mX4_readNumber 47 [l0, l1, l2, l3, l4] [.int x0, .ref 6, .int x2, .ref 6] σ = kb (cal d mX4_letterAt [.ref 6, .int x0] σ) (fun rs σ2 => exec d mX4_readNumber 50 [l0, l1, l2, l3, l4] (rs ++ [.int x2, .ref 6]) σ2)) ∧
  (∀ (d : Nat) (σ : Sg) (S : List Value) (l0 l1 l2 l3 l4 : Value) (x y : Int32), exec d mX4_readNumber 50 [l0, l1, l2, l3, l4] (.int y :: .int x :: S) σ = exec d mX4_readNumber 51 [l0, l1, l2, l3, l4] (.int (x + y) :: S) σ) ∧
  (∀ (d : Nat) (σ : Sg) (S : List Value) (l0 l1 l2 l3 l4 : Value), exec d mX4_readNumber 51 [l0, l1, l2, l3, l4] S σ = exec d mX4_readNumber 53 [l0, l1, l2, l3, l4] (.int (nI 48) :: S) σ) ∧
  (∀ (d : Nat) (σ : Sg) (S : List Value) (l0 l1 l2 l3 l4 : Value) (x y : Int32), exec d mX4_readNumber 53 [l0, l1, l2, l3, l4] (.int y :: .int x :: S) σ = exec d mX4_readNumber 54 [l0, l1, l2, l3, l4] (.int (x - y) :: S) σ) ∧
  (∀ (d : Nat) (σ : Sg) (S : List Value) (l0 l1 l2 l3 l4 : Value) (x : Int32), exec d mX4_readNumber 54 [l0, l1, l2, l3, l4] (.int x :: .ref 6 :: S) σ = exec d mX4_readNumber 57 [l0, l1, l2, l3, l4] S (up σ 6 5 x)) ∧
  (∀ (d : Nat) (σ : Sg) (S : List Value) (l0 l1 l2 : Value) (x y : Int32), exec d mX4_readNumber 57 [l0, l1, l2, .int y, .int x] S σ = exec d mX4_readNumber 60 [l0, l1, l2, .int y, .int (x + nI 1)] S σ) ∧
  (∀ (d : Nat) (σ : Sg) (S : List Value) (l0 l1 l2 l3 l4 : Value), exec d mX4_readNumber 60 [l0, l1, l2, l3, l4] S σ = exec d mX4_readNumber 8 [l0, l1, l2, l3, l4] S σ) ∧
  (∀ (d : Nat) (σ : Sg) (S : List Value) (l0 l1 l2 l3 : Value) (x : Int32), exec d mX4_readNumber 63 [l0, l1, l2, l3, .int x] S σ = exec d mX4_readNumber 65 [l0, l1, l2, l3, .int x] (.int x :: S) σ) ∧
  (∀ (d : Nat) (σ : Sg) (S : List Value) (l0 l1 l2 l3 l4 : Value), exec d mX4_readNumber 65 [l0, l1, l2, l3, l4] S σ = exec d mX4_readNumber 66 [l0, l1, l2, l3, l4] (.int (nI 1) :: S) σ) ∧
  (∀ (d : Nat) (σ : Sg) (S : List Value) (l0 l1 l2 l3 l4 : Value) (x y : Int32), exec d mX4_readNumber 66 [l0, l1, l2, l3, l4] (.int y :: .int x :: S) σ = if x < y then exec d mX4_readNumber 75 [l0, l1, l2, l3, l4] S σ else exec d mX4_readNumber 69 [l0, l1, l2, l3, l4] S σ) ∧
  (∀ (d : Nat) (σ : Sg) (S : List Value) (l0 l1 l2 l3 : Value) (x : Int32), exec d mX4_readNumber 69 [l0, l1, l2, l3, .int x] S σ = exec d mX4_readNumber 71 [l0, l1, l2, l3, .int x] (.int x :: S) σ) ∧
  (∀ (d : Nat) (σ : Sg) (S : List Value) (l0 l1 l2 l3 l4 : Value), exec d mX4_readNumber 71 [l0, l1, l2, l3, l4] S σ = exec d mX4_readNumber 72 [l0, l1, l2, l3, l4] (.int (nI 2) :: S) σ) ∧
  (∀ (d : Nat) (σ : Sg) (S : List Value) (l0 l1 l2 l3 l4 : Value) (x y : Int32), exec d mX4_readNumber 72 [l0, l1, l2, l3, l4] (.int y :: .int x :: S) σ = if x ≤ y then exec d mX4_readNumber 81 [l0, l1, l2, l3, l4] S σ else exec d mX4_readNumber 75 [l0, l1, l2, l3, l4] S σ) ∧
  (∀ (d : Nat) (σ : Sg) (S : List Value) (l1 l2 l3 l4 : Value) (k : Nat), exec d mX4_readNumber 75 [.ref k, l1, l2, l3, l4] S σ = exec d mX4_readNumber 76 [.ref k, l1, l2, l3, l4] (.ref k :: S) σ) ∧
  (∀ (d : Nat) (σ : Sg) (S : List Value) (l0 l1 l2 l3 l4 : Value), exec d mX4_readNumber 76 [l0, l1, l2, l3, l4] S σ = exec d mX4_readNumber 77 [l0, l1, l2, l3, l4] (.int (nI 1) :: S) σ) :=
  ⟨fun d σ S l0 l1 l2 l3 l4 => ex_iconst (show decode mX4_readNumber.2.1 0 = .ok (.iconst 0, 1) by decide +kernel) (by decide +kernel),
  fun d σ S l0 l1 l2 l4 x y => ex_istore (show decode mX4_readNumber.2.1 1 = .ok (.istore 4, 2) by decide +kernel) (Nat.le_of_ble_eq_true rfl) rfl,
  fun d σ S l1 l2 l3 l4 k => ex_aload_n (show decode mX4_readNumber.2.1 3 = .ok (.aload_n 0, 1) by decide +kernel) rfl,
  fun d σ S l0 l1 l2 l3 l4 => ex_iconst (show decode mX4_readNumber.2.1 4 = .ok (.iconst 0, 1) by decide +kernel) (by decide +kernel),
  fun d σ S l0 l1 l2 l3 l4 x => ex_put (idx := 99) (ci := 4) (ff := 5) (n := 9) (hh := 151) (by decide +kernel),
  fun d σ S l0 l1 l2 l3 l4 => ex_iconst (show decode mX4_readNumber.2.1 10 = .ok (.iconst 3, 1) by decide +kernel) (by decide +kernel),
  fun d σ S l0 l1 l2 l3 l4 x y => ex_cge (show decode mX4_readNumber.2.1 11 = .ok (.if_icmp .ge 52, 3) by decide +kernel) (by decide),
  fun d σ S l1 l2 l3 l4 k => ex_aload_n (show decode mX4_readNumber.2.1 14 = .ok (.aload_n 0, 1) by decide +kernel) rfl,
  fun d σ S l1 l2 l3 l4 k => ex_aload_n (show decode mX4_readNumber.2.1 15 = .ok (.aload_n 0, 1) by decide +kernel) rfl,
  fun d σ S l0 l1 l2 l3 l4 => ex_get (idx := 24) (ci := 4) (ff := 2) (n := 9) (hh := 146) (by decide +kernel),
  fun d σ S l0 l1 l2 l3 x => ex_iload (show decode mX4_readNumber.2.1 19 = .ok (.iload 4, 2) by decide +kernel) rfl,
  fun d σ S l0 l1 l2 l3 l4 x y => ex_iadd (show decode mX4_readNumber.2.1 21 = .ok (.iadd, 1) by decide +kernel),
  fun d σ l0 l1 l2 l3 l4 x0 => ex_iv (hs := [457, 459, 11, 460, 96]) (show decode mX4_readNumber.2.1 22 = .ok (.invokevirtual 70, 3) by decide +kernel) lkV_4_70 ⟨rfl, Nat.le_of_ble_eq_true rfl, Nat.le_of_ble_eq_true rfl, fun _ => rfl⟩ rfl rfl,
  fun d σ l0 l1 l2 l3 l4 x0 => ex_is (hs := [473, 474, 475, 96]) (show decode mX4_readNumber.2.1 25 = .ok (.invokestatic 102, 3) by decide +kernel) lkS_4_102 ⟨rfl, Nat.le_of_ble_eq_true rfl, Nat.le_of_ble_eq_true rfl, fun q => nomatch q⟩ rfl rfl,
  fun d σ S l0 l1 l2 l3 l4 x => ex_zeq (show decode mX4_readNumber.2.1 28 = .ok (.ifCond .eq 35, 3) by decide +kernel) (by decide),
  fun d σ S l1 l2 l3 l4 k => ex_aload_n (show decode mX4_readNumber.2.1 31 = .ok (.aload_n 0, 1) by decide +kernel) rfl,
  fun d σ S l0 l1 l2 l3 l4 => ex_bipush (show decode mX4_readNumber.2.1 32 = .ok (.bipush 10, 2) by decide +kernel) (by decide +kernel),
  fun d σ S l1 l2 l3 l4 k => ex_aload_n (show decode mX4_readNumber.2.1 34 = .ok (.aload_n 0, 1) by decide +kernel) rfl,
  fun d σ S l0 l1 l2 l3 l4 => ex_get (idx := 99) (ci := 4) (ff := 5) (n := 9) (hh := 151) (by decide +kernel),
  fun d σ S l0 l1 l2 l3 l4 x y => ex_imul (show decode mX4_readNumber.2.1 38 = .ok (.imul, 1) by decide +kernel),
  fun d σ S l1 l2 l3 l4 k => ex_aload_n (show decode mX4_readNumber.2.1 39 = .ok (.aload_n 0, 1) by decide +kernel) rfl,
  fun d σ S l1 l2 l3 l4 k => ex_aload_n (show decode mX4_readNumber.2.1 40 = .ok (.aload_n 0, 1) by decide +kernel) rfl,
  fun d σ S l0 l1 l2 l3 l4 => ex_get (idx := 24) (ci := 4) (ff := 2) (n := 9) (hh := 146) (by decide +kernel),
  fun d σ S l0 l1 l2 l3 x => ex_iload (show decode mX4_readNumber.2.1 44 = .ok (.iload 4, 2) by decide +kernel) rfl,
  fun d σ S l0 l1 l2 l3 l4 x y => ex_iadd (show decode mX4_readNumber.2.1 46 = .ok (.iadd, 1) by decide +kernel),
  fun d σ l0 l1 l2 l3 l4 x0 x2 => ex_iv (hs := [457, 459, 11, 460, 96]) (show decode mX4_readNumber.2.1 47 = .ok (.invokevirtual 70, 3) by decide +kernel) lkV_4_70 ⟨rfl, Nat.le_of_ble_eq_true rfl, Nat.le_of_ble_eq_true rfl, fun _ => rfl⟩ rfl rfl,
  fun d σ S l0 l1 l2 l3 l4 x y => ex_iadd (show decode mX4_readNumber.2.1 50 = .ok (.iadd, 1) by decide +kernel),
  fun d σ S l0 l1 l2 l3 l4 => ex_bipush (show decode mX4_readNumber.2.1 51 = .ok (.bipush 48, 2) by decide +kernel) (by decide +kernel),
  fun d σ S l0 l1 l2 l3 l4 x y => ex_isub (show decode mX4_readNumber.2.1 53 = .ok (.isub, 1) by decide +kernel),
  fun d σ S l0 l1 l2 l3 l4 x => ex_put (idx := 99) (ci := 4) (ff := 5) (n := 9) (hh := 151) (by decide +kernel),
  fun d σ S l0 l1 l2 x y => ex_iinc (show decode mX4_readNumber.2.1 57 = .ok (.iinc 4 1, 3) by decide +kernel) rfl (by decide +kernel) (Nat.le_of_ble_eq_true rfl) rfl,
  fun d σ S l0 l1 l2 l3 l4 => ex_goto (show decode mX4_readNumber.2.1 60 = .ok (.goto (-52), 3) by decide +kernel) (by decide),
  fun d σ S l0 l1 l2 l3 x => ex_iload (show decode mX4_readNumber.2.1 63 = .ok (.iload 4, 2) by decide +kernel) rfl,
  fun d σ S l0 l1 l2 l3 l4 => ex_iconst (show decode mX4_readNumber.2.1 65 = .ok (.iconst 1, 1) by decide +kernel) (by decide +kernel),
  fun d σ S l0 l1 l2 l3 l4 x y => ex_clt (show decode mX4_readNumber.2.1 66 = .ok (.if_icmp .lt 9, 3) by decide +kernel) (by decide),
  fun d σ S l0 l1 l2 l3 x => ex_iload (show decode mX4_readNumber.2.1 69 = .ok (.iload 4, 2) by decide +kernel) rfl,
  fun d σ S l0 l1 l2 l3 l4 => ex_iconst (show decode mX4_readNumber.2.1 71 = .ok (.iconst 2, 1) by decide +kernel) (by decide +kernel),
  fun d σ S l0 l1 l2 l3 l4 x y => ex_cle (show decode mX4_readNumber.2.1 72 = .ok (.if_icmp .le 9, 3) by decide +kernel) (by decide),
  fun d σ S l1 l2 l3 l4 k => ex_aload_n (show decode mX4_readNumber.2.1 75 = .ok (.aload_n 0, 1) by decide +kernel) rfl,
  fun d σ S l0 l1 l2 l3 l4 => ex_iconst (show decode mX4_readNumber.2.1 76 = .ok (.iconst 1, 1) by decide +kernel) (by decide +kernel)⟩
theorem kX4_readNumber_1 : (∀ (d : Nat) (σ : Sg) (l0 l1 l2 l3 l4 : Value) (x0 : Int32), exec d mX4_readNumber 77 [l0, l1, l2, l3, l4] [.int x0, .ref 6] σ = kb (cal d mX4_fail [.ref 6, .int x0] σ) (fun rs σ2 => exec d mX4_readNumber 80 [l0, l1, l2, l3, l4] (rs ++ []) σ2)) ∧
  (∀ (d : Nat) (σ : Sg) (l0 l1 l2 l3 l4 : Value) (x : Int32), exec d mX4_readNumber 80 [l0, l1, l2, l3, l4] [.int x] σ = if b01 x = true then some (some (.int x), σ) else none) ∧
  (∀ (d : Nat) (σ : Sg) (S : List Value) (l1 l2 l3 l4 : Value) (k : Nat), exec d mX4_readNumber 81 [.ref k, l1, l2, l3, l4] S σ = exec d mX4_readNumber 82 [.ref k, l1, l2, l3, l4] (.ref k :: S) σ) ∧
  (∀ (d : Nat) (σ : Sg) (S : List Value) (l0 l1 l2 l3 l4 : Value), exec d mX4_readNumber 82 [l0, l1, l2, l3, l4] (.ref 6 :: S) σ = exec d mX4_readNumber 85 [l0, l1, l2, l3, l4] (.int (σ 6 5) :: S) σ) ∧
  (∀ (d : Nat) (σ : Sg) (S : List Value) (l0 l2 l3 l4 : Value) (x : Int32), exec d mX4_readNumber 85 [l0, .int x, l2, l3, l4] S σ = exec d mX4_readNumber 86 [l0, .int x, l2, l3, l4] (.int x :: S) σ) ∧
  (∀ (d : Nat) (σ : Sg) (S : List Value) (l0 l1 l2 l3 l4 : Value) (x y : Int32), exec d mX4_readNumber 86 [l0, l1, l2, l3, l4] (.int y :: .int x :: S) σ = if x < y then exec d mX4_readNumber 97 [l0, l1, l2, l3, l4] S σ else exec d mX4_readNumber 89 [l0, l1, l2, l3, l4] S σ) ∧
  (∀ (d : Nat) (σ : Sg) (S : List Value) (l1 l2 l3 l4 : Value) (k : Nat), exec d mX4_readNumber 89 [.ref k, l1, l2, l3, l4] S σ = exec d mX4_readNumber 90 [.ref k, l1, l2, l3, l4] (.ref k :: S) σ) ∧
  (∀ (d : Nat) (σ : Sg) (S : List Value) (l0 l1 l2 l3 l4 : Value), exec d mX4_readNumber 90 [l0, l1, l2, l3, l4] (.ref 6 :: S) σ = exec d mX4_readNumber 93 [l0, l1, l2, l3, l4] (.int (σ 6 5) :: S) σ) ∧
  (∀ (d : Nat) (σ : Sg) (S : List Value) (l0 l1 l3 l4 : Value) (x : Int32), exec d mX4_readNumber 93 [l0, l1, .int x, l3, l4] S σ = exec d mX4_readNumber 94 [l0, l1, .int x, l3, l4] (.int x :: S) σ) ∧
  (∀ (d : Nat) (σ : Sg) (S : List Value) (l0 l1 l2 l3 l4 : Value) (x y : Int32), exec d mX4_readNumber 94 [l0, l1, l2, l3, l4] (.int y :: .int x :: S) σ = if x ≤ y then exec d mX4_readNumber 111 [l0, l1, l2, l3, l4] S σ else exec d mX4_readNumber 97 [l0, l1, l2, l3, l4] S σ) ∧
  (∀ (d : Nat) (σ : Sg) (S : List Value) (l1 l2 l3 l4 : Value) (k : Nat), exec d mX4_readNumber 97 [.ref k, l1, l2, l3, l4] S σ = exec d mX4_readNumber 98 [.ref k, l1, l2, l3, l4] (.ref k :: S) σ) ∧
  (∀ (d : Nat) (σ : Sg) (S : List Value) (l0 l1 l2 l3 l4 : Value), exec d mX4_readNumber 98 [l0, l1, l2, l3, l4] (.ref 6 :: S) σ = exec d mX4_readNumber 101 [l0, l1, l2, l3, l4] (.int (σ 6 5) :: S) σ) ∧
  (∀ (d : Nat) (σ : Sg) (S : List Value) (l0 l1 l2 l4 : Value) (x : Int32), exec d mX4_readNumber 101 [l0, l1, l2, .int x, l4] S σ = exec d mX4_readNumber 102 [l0, l1, l2, .int x, l4] (.int x :: S) σ) ∧
  (∀ (d : Nat) (σ : Sg) (S : List Value) (l0 l1 l2 l3 l4 : Value) (x y : Int32), exec d mX4_readNumber 102 [l0, l1, l2, l3, l4] (.int y :: .int x :: S) σ = if x = y then exec d mX4_readNumber 111 [l0, l1, l2, l3, l4] S σ else exec d mX4_readNumber 105 [l0, l1, l2, l3, l4] S σ) ∧
  (∀ (d : Nat) (σ : Sg) (S : List Value) (l1 l2 l3 l4 : Value) (k : Nat), exec d mX4_readNumber 105 [.ref k, l1, l2, l3, l4] S σ = exec d mX4_readNumber 106 [.ref k, l1, l2, l3, l4] (.ref k :: S) σ) ∧
  (∀ (d : Nat) (σ : Sg) (S : List Value) (l0 l1 l2 l3 l4 : Value), exec d mX4_readNumber 106 [l0, l1, l2, l3, l4] S σ = exec d mX4_readNumber 107 [l0, l1, l2, l3, l4] (.int (nI 2) :: S) σ) ∧
  (∀ (d : Nat) (σ : Sg) (l0 l1 l2 l3 l4 : Value) (x0 : Int32), exec d mX4_readNumber 107 [l0, l1, l2, l3, l4] [.int x0, .ref 6] σ = kb (cal d mX4_fail [.ref 6, .int x0] σ) (fun rs σ2 => exec d mX4_readNumber 110 [l0, l1, l2, l3, l4] (rs ++ []) σ2)) ∧
  (∀ (d : Nat) (σ : Sg) (l0 l1 l2 l3 l4 : Value) (x : Int32), exec d mX4_readNumber 110 [l0, l1, l2, l3, l4] [.int x] σ = if b01 x = true then some (some (.int x), σ) else none) ∧
  (∀ (d : Nat) (σ : Sg) (S : List Value) (l1 l2 l3 l4 : Value) (k : Nat), exec d mX4_readNumber 111 [.ref k, l1, l2, l3, l4] S σ = exec d mX4_readNumber 112 [.ref k, l1, l2, l3, l4] (.ref k :: S) σ) ∧
  (∀ (d : Nat) (σ : Sg) (S : List Value) (l0 l1 l2 l3 l4 : Value) (k : Nat), exec d mX4_readNumber 112 [l0, l1, l2, l3, l4] (.ref k :: S) σ = exec d mX4_readNumber 113 [l0, l1, l2, l3, l4] (.ref k :: .ref k :: S) σ) ∧
  (∀ (d : Nat) (σ : Sg) (S : List Value) (l0 l1 l2 l3 l4 : Value), exec d mX4_readNumber 113 [l0, l1, l2, l3, l4] (.ref 6 :: S) σ = exec d mX4_readNumber 116 [l0, l1, l2, l3, l4] (.int (σ 6 2) :: S) σ) ∧
  (∀ (d : Nat) (σ : Sg) (S : List Value) (l0 l1 l2 l3 : Value) (x : Int32), exec d mX4_readNumber 116 [l0, l1, l2, l3, .int x] S σ = exec d mX4_readNumber 118 [l0, l1, l2, l3, .int x] (.int x :: S) σ) ∧
  (∀ (d : Nat) (σ : Sg) (S : List Value) (l0 l1 l2 l3 l4 : Value) (x y : Int32), exec d mX4_readNumber 118 [l0, l1, l2, l3, l4] (.int y :: .int x :: S) σ = exec d mX4_readNumber 119 [l0, l1, l2, l3, l4] (.int (x + y) :: S) σ) ∧
  (∀ (d : Nat) (σ : Sg) (S : List Value) (l0 l1 l2 l3 l4 : Value) (x : Int32), exec d mX4_readNumber 119 [l0, l1, l2, l3, l4] (.int x :: .ref 6 :: S) σ = exec d mX4_readNumber 122 [l0, l1, l2, l3, l4] S (up σ 6 2 x)) ∧
  (∀ (d : Nat) (σ : Sg) (S : List Value) (l0 l1 l2 l3 l4 : Value), exec d mX4_readNumber 122 [l0, l1, l2, l3, l4] S σ = exec d mX4_readNumber 123 [l0, l1, l2, l3, l4] (.int (nI 1) :: S) σ) ∧
  (∀ (d : Nat) (σ : Sg) (l0 l1 l2 l3 l4 : Value) (x : Int32), exec d mX4_readNumber 123 [l0, l1, l2, l3, l4] [.int x] σ = if b01 x = true then some (some (.int x), σ) else none) :=
  ⟨fun d σ l0 l1 l2 l3 l4 x0 => ex_iv (hs := [461, 463, 12, 464, 96]) (show decode mX4_readNumber.2.1 77 = .ok (.invokevirtual 37, 3) by decide +kernel) lkV_4_37 ⟨rfl, Nat.le_of_ble_eq_true rfl, Nat.le_of_ble_eq_true rfl, fun _ => rfl⟩ rfl rfl,
  fun d σ l0 l1 l2 l3 l4 x => ex_zret (show decode mX4_readNumber.2.1 80 = .ok (.ireturn, 1) by decide +kernel) rfl,
  fun d σ S l1 l2 l3 l4 k => ex_aload_n (show decode mX4_readNumber.2.1 81 = .ok (.aload_n 0, 1) by decide +kernel) rfl,
  fun d σ S l0 l1 l2 l3 l4 => ex_get (idx := 99) (ci := 4) (ff := 5) (n := 9) (hh := 151) (by decide +kernel),
  fun d σ S l0 l2 l3 l4 x => ex_iload_n (show decode mX4_readNumber.2.1 85 = .ok (.iload_n 1, 1) by decide +kernel) rfl,
  fun d σ S l0 l1 l2 l3 l4 x y => ex_clt (show decode mX4_readNumber.2.1 86 = .ok (.if_icmp .lt 11, 3) by decide +kernel) (by decide),
  fun d σ S l1 l2 l3 l4 k => ex_aload_n (show decode mX4_readNumber.2.1 89 = .ok (.aload_n 0, 1) by decide +kernel) rfl,
  fun d σ S l0 l1 l2 l3 l4 => ex_get (idx := 99) (ci := 4) (ff := 5) (n := 9) (hh := 151) (by decide +kernel),
  fun d σ S l0 l1 l3 l4 x => ex_iload_n (show decode mX4_readNumber.2.1 93 = .ok (.iload_n 2, 1) by decide +kernel) rfl,
  fun d σ S l0 l1 l2 l3 l4 x y => ex_cle (show decode mX4_readNumber.2.1 94 = .ok (.if_icmp .le 17, 3) by decide +kernel) (by decide),
  fun d σ S l1 l2 l3 l4 k => ex_aload_n (show decode mX4_readNumber.2.1 97 = .ok (.aload_n 0, 1) by decide +kernel) rfl,
  fun d σ S l0 l1 l2 l3 l4 => ex_get (idx := 99) (ci := 4) (ff := 5) (n := 9) (hh := 151) (by decide +kernel),
  fun d σ S l0 l1 l2 l4 x => ex_iload_n (show decode mX4_readNumber.2.1 101 = .ok (.iload_n 3, 1) by decide +kernel) rfl,
  fun d σ S l0 l1 l2 l3 l4 x y => ex_ceq (show decode mX4_readNumber.2.1 102 = .ok (.if_icmp .eq 9, 3) by decide +kernel) (by decide),
  fun d σ S l1 l2 l3 l4 k => ex_aload_n (show decode mX4_readNumber.2.1 105 = .ok (.aload_n 0, 1) by decide +kernel) rfl,
  fun d σ S l0 l1 l2 l3 l4 => ex_iconst (show decode mX4_readNumber.2.1 106 = .ok (.iconst 2, 1) by decide +kernel) (by decide +kernel),
  fun d σ l0 l1 l2 l3 l4 x0 => ex_iv (hs := [461, 463, 12, 464, 96]) (show decode mX4_readNumber.2.1 107 = .ok (.invokevirtual 37, 3) by decide +kernel) lkV_4_37 ⟨rfl, Nat.le_of_ble_eq_true rfl, Nat.le_of_ble_eq_true rfl, fun _ => rfl⟩ rfl rfl,
  fun d σ l0 l1 l2 l3 l4 x => ex_zret (show decode mX4_readNumber.2.1 110 = .ok (.ireturn, 1) by decide +kernel) rfl,
  fun d σ S l1 l2 l3 l4 k => ex_aload_n (show decode mX4_readNumber.2.1 111 = .ok (.aload_n 0, 1) by decide +kernel) rfl,
  fun d σ S l0 l1 l2 l3 l4 k => ex_dup (show decode mX4_readNumber.2.1 112 = .ok (.dup, 1) by decide +kernel) rfl,
  fun d σ S l0 l1 l2 l3 l4 => ex_get (idx := 24) (ci := 4) (ff := 2) (n := 9) (hh := 146) (by decide +kernel),
  fun d σ S l0 l1 l2 l3 x => ex_iload (show decode mX4_readNumber.2.1 116 = .ok (.iload 4, 2) by decide +kernel) rfl,
  fun d σ S l0 l1 l2 l3 l4 x y => ex_iadd (show decode mX4_readNumber.2.1 118 = .ok (.iadd, 1) by decide +kernel),
  fun d σ S l0 l1 l2 l3 l4 x => ex_put (idx := 24) (ci := 4) (ff := 2) (n := 9) (hh := 146) (by decide +kernel),
  fun d σ S l0 l1 l2 l3 l4 => ex_iconst (show decode mX4_readNumber.2.1 122 = .ok (.iconst 1, 1) by decide +kernel) (by decide +kernel),
  fun d σ l0 l1 l2 l3 l4 x => ex_zret (show decode mX4_readNumber.2.1 123 = .ok (.ireturn, 1) by decide +kernel) rfl⟩
theorem hX4_readNumber_8 : ∀ (d : Nat) (σ : Sg) (S : List Value) (l0 l1 l2 l3 : Value) (x : Int32), exec d mX4_readNumber 8 [l0, l1, l2, l3, .int x] S σ = exec d mX4_readNumber 10 [l0, l1, l2, l3, .int x] (.int x :: S) σ := fun d σ S l0 l1 l2 l3 x => ex_iload (show decode mX4_readNumber.2.1 8 = .ok (.iload 4, 2) by decide +kernel) rfl
theorem aX4_readNumber_6 : ∀ (d : Nat) (a1 : Int32) (a2 : Int32) (a3 : Int32) (σ : Sg), cal (d + 1) mX4_readNumber [.ref 6, .int a1, .int a2, .int a3] σ = exec d mX4_readNumber 0 [.ref 6, .int a1, .int a2, .int a3, uu] [] σ := fun _ _ _ _ _ => rfl
theorem kX4_fail : (∀ (d : Nat) (σ : Sg) (S : List Value) (l1 : Value) (k : Nat), exec d mX4_fail 0 [.ref k, l1] S σ = exec d mX4_fail 1 [.ref k, l1] (.ref k :: S) σ) ∧
  (∀ (d : Nat) (σ : Sg) (S : List Value) (l0 : Value) (x : Int32), exec d mX4_fail 1 [l0, .int x] S σ = exec d mX4_fail 2 [l0, .int x] (.int x :: S) σ) ∧
  (∀ (d : Nat) (σ : Sg) (S : List Value) (l0 l1 : Value) (x : Int32), exec d mX4_fail 2 [l0, l1] (.int x :: .ref 6 :: S) σ = exec d mX4_fail 5 [l0, l1] S (up σ 6 3 x)) ∧
  (∀ (d : Nat) (σ : Sg) (S : List Value) (l1 : Value) (k : Nat), exec d mX4_fail 5 [.ref k, l1] S σ = exec d mX4_fail 6 [.ref k, l1] (.ref k :: S) σ) ∧
  (∀ (d : Nat) (σ : Sg) (S : List Value) (l1 : Value) (k : Nat), exec d mX4_fail 6 [.ref k, l1] S σ = exec d mX4_fail 7 [.ref k, l1] (.ref k :: S) σ) ∧
  (∀ (d : Nat) (σ : Sg) (S : List Value) (l0 l1 : Value), exec d mX4_fail 7 [l0, l1] (.ref 6 :: S) σ = exec d mX4_fail 10 [l0, l1] (.int (σ 6 2) :: S) σ) ∧
  (∀ (d : Nat) (σ : Sg) (S : List Value) (l0 l1 : Value) (x : Int32), exec d mX4_fail 10 [l0, l1] (.int x :: .ref 6 :: S) σ = exec d mX4_fail 13 [l0, l1] S (up σ 6 4 x)) ∧
  (∀ (d : Nat) (σ : Sg) (S : List Value) (l0 l1 : Value), exec d mX4_fail 13 [l0, l1] S σ = exec d mX4_fail 14 [l0, l1] (.int (nI 0) :: S) σ) ∧
  (∀ (d : Nat) (σ : Sg) (l0 l1 : Value) (x : Int32), exec d mX4_fail 14 [l0, l1] [.int x] σ = if b01 x = true then some (some (.int x), σ) else none) :=
  ⟨fun d σ S l1 k => ex_aload_n (show decode mX4_fail.2.1 0 = .ok (.aload_n 0, 1) by decide +kernel) rfl,
  fun d σ S l0 x => ex_iload_n (show decode mX4_fail.2.1 1 = .ok (.iload_n 1, 1) by decide +kernel) rfl,
  fun d σ S l0 l1 x => ex_put (idx := 105) (ci := 4) (ff := 3) (n := 9) (hh := 148) (by decide +kernel),
  fun d σ S l1 k => ex_aload_n (show decode mX4_fail.2.1 5 = .ok (.aload_n 0, 1) by decide +kernel) rfl,
  fun d σ S l1 k => ex_aload_n (show decode mX4_fail.2.1 6 = .ok (.aload_n 0, 1) by decide +kernel) rfl,
  fun d σ S l0 l1 => ex_get (idx := 24) (ci := 4) (ff := 2) (n := 9) (hh := 146) (by decide +kernel),
  fun d σ S l0 l1 x => ex_put (idx := 108) (ci := 4) (ff := 4) (n := 9) (hh := 150) (by decide +kernel),
  fun d σ S l0 l1 => ex_iconst (show decode mX4_fail.2.1 13 = .ok (.iconst 0, 1) by decide +kernel) (by decide +kernel),
  fun d σ l0 l1 x => ex_zret (show decode mX4_fail.2.1 14 = .ok (.ireturn, 1) by decide +kernel) rfl⟩
theorem aX4_fail_6 : ∀ (d : Nat) (a1 : Int32) (σ : Sg), cal (d + 1) mX4_fail [.ref 6, .int a1] σ = exec d mX4_fail 0 [.ref 6, .int a1] [] σ := fun _ _ _ => rfl
theorem kX4_letterAt : (∀ (d : Nat) (σ : Sg) (S : List Value) (l0 : Value) (x : Int32), exec d mX4_letterAt 0 [l0, .int x] S σ = exec d mX4_letterAt 1 [l0, .int x] (.int x :: S) σ) ∧
  (∀ (d : Nat) (σ : Sg) (S : List Value) (l0 l1 : Value) (x : Int32), exec d mX4_letterAt 1 [l0, l1] (.int x :: S) σ = if x < nI 0 then exec d mX4_letterAt 27 [l0, l1] S σ else exec d mX4_letterAt 4 [l0, l1] S σ) ∧
  (∀ (d : Nat) (σ : Sg) (S : List Value) (l0 : Value) (x : Int32), exec d mX4_letterAt 4 [l0, .int x] S σ = exec d mX4_letterAt 5 [l0, .int x] (.int x :: S) σ) ∧
  (∀ (d : Nat) (σ : Sg) (S : List Value) (l1 : Value) (k : Nat), exec d mX4_letterAt 5 [.ref k, l1] S σ = exec d mX4_letterAt 6 [.ref k, l1] (.ref k :: S) σ) ∧
  (∀ (d : Nat) (σ : Sg) (S : List Value) (l0 l1 : Value), exec d mX4_letterAt 6 [l0, l1] (.ref 6 :: S) σ = exec d mX4_letterAt 9 [l0, l1] (.int (σ 6 1) :: S) σ) ∧
  (∀ (d : Nat) (σ : Sg) (S : List Value) (l0 l1 : Value) (x y : Int32), exec d mX4_letterAt 9 [l0, l1] (.int y :: .int x :: S) σ = if y ≤ x then exec d mX4_letterAt 27 [l0, l1] S σ else exec d mX4_letterAt 12 [l0, l1] S σ) ∧
  (∀ (d : Nat) (σ : Sg) (S : List Value) (l0 : Value) (x : Int32), exec d mX4_letterAt 12 [l0, .int x] S σ = exec d mX4_letterAt 13 [l0, .int x] (.int x :: S) σ) ∧
  (∀ (d : Nat) (σ : Sg) (S : List Value) (l0 l1 : Value), exec d mX4_letterAt 13 [l0, l1] S σ = exec d mX4_letterAt 15 [l0, l1] (.int (nI 120) :: S) σ) ∧
  (∀ (d : Nat) (σ : Sg) (S : List Value) (l0 l1 : Value) (x y : Int32), exec d mX4_letterAt 15 [l0, l1] (.int y :: .int x :: S) σ = if y ≤ x then exec d mX4_letterAt 27 [l0, l1] S σ else exec d mX4_letterAt 18 [l0, l1] S σ) ∧
  (∀ (d : Nat) (σ : Sg) (S : List Value) (l1 : Value) (k : Nat), exec d mX4_letterAt 18 [.ref k, l1] S σ = exec d mX4_letterAt 19 [.ref k, l1] (.ref k :: S) σ) ∧
  (∀ (d : Nat) (σ : Sg) (S : List Value) (l0 l1 : Value), exec d mX4_letterAt 19 [l0, l1] (.ref 6 :: S) σ = exec d mX4_letterAt 22 [l0, l1] (.ref 7 :: S) σ) ∧
  (∀ (d : Nat) (σ : Sg) (S : List Value) (l0 : Value) (x : Int32), exec d mX4_letterAt 22 [l0, .int x] S σ = exec d mX4_letterAt 23 [l0, .int x] (.int x :: S) σ) ∧
  (∀ (d : Nat) (σ : Sg) (S : List Value) (l0 l1 : Value) (x : Int32), exec d mX4_letterAt 23 [l0, l1] (.int x :: .ref 7 :: S) σ = if inb x 120 = true then exec d mX4_letterAt 24 [l0, l1] (.int (σ 7 x.toNatClampNeg) :: S) σ else none) ∧
  (∀ (d : Nat) (σ : Sg) (S : List Value) (l0 l1 : Value), exec d mX4_letterAt 24 [l0, l1] S σ = exec d mX4_letterAt 28 [l0, l1] S σ) ∧
  (∀ (d : Nat) (σ : Sg) (S : List Value) (l0 l1 : Value), exec d mX4_letterAt 27 [l0, l1] S σ = exec d mX4_letterAt 28 [l0, l1] (.int ((-1)) :: S) σ) ∧
  (∀ (d : Nat) (σ : Sg) (l0 l1 : Value) (x : Int32), exec d mX4_letterAt 28 [l0, l1] [.int x] σ = some (some (.int x), σ)) :=
  ⟨fun d σ S l0 x => ex_iload_n (show decode mX4_letterAt.2.1 0 = .ok (.iload_n 1, 1) by decide +kernel) rfl,
  fun d σ S l0 l1 x => ex_zlt (show decode mX4_letterAt.2.1 1 = .ok (.ifCond .lt 26, 3) by decide +kernel) (by decide),
  fun d σ S l0 x => ex_iload_n (show decode mX4_letterAt.2.1 4 = .ok (.iload_n 1, 1) by decide +kernel) rfl,
  fun d σ S l1 k => ex_aload_n (show decode mX4_letterAt.2.1 5 = .ok (.aload_n 0, 1) by decide +kernel) rfl,
  fun d σ S l0 l1 => ex_get (idx := 15) (ci := 4) (ff := 1) (n := 9) (hh := 144) (by decide +kernel),
  fun d σ S l0 l1 x y => ex_cge (show decode mX4_letterAt.2.1 9 = .ok (.if_icmp .ge 18, 3) by decide +kernel) (by decide),
  fun d σ S l0 x => ex_iload_n (show decode mX4_letterAt.2.1 12 = .ok (.iload_n 1, 1) by decide +kernel) rfl,
  fun d σ S l0 l1 => ex_bipush (show decode mX4_letterAt.2.1 13 = .ok (.bipush 120, 2) by decide +kernel) (by decide +kernel),
  fun d σ S l0 l1 x y => ex_cge (show decode mX4_letterAt.2.1 15 = .ok (.if_icmp .ge 12, 3) by decide +kernel) (by decide),
  fun d σ S l1 k => ex_aload_n (show decode mX4_letterAt.2.1 18 = .ok (.aload_n 0, 1) by decide +kernel) rfl,
  fun d σ S l0 l1 => ex_getr (idx := 11) (ci := 4) (ff := 0) (n := 9) (hh := 143) (by decide +kernel),
  fun d σ S l0 x => ex_iload_n (show decode mX4_letterAt.2.1 22 = .ok (.iload_n 1, 1) by decide +kernel) rfl,
  fun d σ S l0 l1 x => ex_iald (by decide +kernel),
  fun d σ S l0 l1 => ex_goto (show decode mX4_letterAt.2.1 24 = .ok (.goto 4, 3) by decide +kernel) (by decide),
  fun d σ S l0 l1 => ex_iconst (show decode mX4_letterAt.2.1 27 = .ok (.iconst (-1), 1) by decide +kernel) (by decide +kernel),
  fun d σ l0 l1 x => ex_iret (show decode mX4_letterAt.2.1 28 = .ok (.ireturn, 1) by decide +kernel) rfl⟩
theorem aX4_letterAt_6 : ∀ (d : Nat) (a1 : Int32) (σ : Sg), cal (d + 1) mX4_letterAt [.ref 6, .int a1] σ = exec d mX4_letterAt 0 [.ref 6, .int a1] [] σ := fun _ _ _ => rfl
theorem kX4_isFigure : (∀ (d : Nat) (σ : Sg) (S : List Value) (x : Int32), exec d mX4_isFigure 0 [.int x] S σ = exec d mX4_isFigure 1 [.int x] (.int x :: S) σ) ∧
  (∀ (d : Nat) (σ : Sg) (S : List Value) (l0 : Value), exec d mX4_isFigure 1 [l0] S σ = exec d mX4_isFigure 3 [l0] (.int (nI 48) :: S) σ) ∧
  (∀ (d : Nat) (σ : Sg) (S : List Value) (l0 : Value) (x y : Int32), exec d mX4_isFigure 3 [l0] (.int y :: .int x :: S) σ = if x < y then exec d mX4_isFigure 16 [l0] S σ else exec d mX4_isFigure 6 [l0] S σ) ∧
  (∀ (d : Nat) (σ : Sg) (S : List Value) (x : Int32), exec d mX4_isFigure 6 [.int x] S σ = exec d mX4_isFigure 7 [.int x] (.int x :: S) σ) ∧
  (∀ (d : Nat) (σ : Sg) (S : List Value) (l0 : Value), exec d mX4_isFigure 7 [l0] S σ = exec d mX4_isFigure 9 [l0] (.int (nI 57) :: S) σ) ∧
  (∀ (d : Nat) (σ : Sg) (S : List Value) (l0 : Value) (x y : Int32), exec d mX4_isFigure 9 [l0] (.int y :: .int x :: S) σ = if y < x then exec d mX4_isFigure 16 [l0] S σ else exec d mX4_isFigure 12 [l0] S σ) ∧
  (∀ (d : Nat) (σ : Sg) (S : List Value) (l0 : Value), exec d mX4_isFigure 12 [l0] S σ = exec d mX4_isFigure 13 [l0] (.int (nI 1) :: S) σ) ∧
  (∀ (d : Nat) (σ : Sg) (S : List Value) (l0 : Value), exec d mX4_isFigure 13 [l0] S σ = exec d mX4_isFigure 17 [l0] S σ) ∧
  (∀ (d : Nat) (σ : Sg) (S : List Value) (l0 : Value), exec d mX4_isFigure 16 [l0] S σ = exec d mX4_isFigure 17 [l0] (.int (nI 0) :: S) σ) ∧
  (∀ (d : Nat) (σ : Sg) (l0 : Value) (x : Int32), exec d mX4_isFigure 17 [l0] [.int x] σ = if b01 x = true then some (some (.int x), σ) else none) :=
  ⟨fun d σ S x => ex_iload_n (show decode mX4_isFigure.2.1 0 = .ok (.iload_n 0, 1) by decide +kernel) rfl,
  fun d σ S l0 => ex_bipush (show decode mX4_isFigure.2.1 1 = .ok (.bipush 48, 2) by decide +kernel) (by decide +kernel),
  fun d σ S l0 x y => ex_clt (show decode mX4_isFigure.2.1 3 = .ok (.if_icmp .lt 13, 3) by decide +kernel) (by decide),
  fun d σ S x => ex_iload_n (show decode mX4_isFigure.2.1 6 = .ok (.iload_n 0, 1) by decide +kernel) rfl,
  fun d σ S l0 => ex_bipush (show decode mX4_isFigure.2.1 7 = .ok (.bipush 57, 2) by decide +kernel) (by decide +kernel),
  fun d σ S l0 x y => ex_cgt (show decode mX4_isFigure.2.1 9 = .ok (.if_icmp .gt 7, 3) by decide +kernel) (by decide),
  fun d σ S l0 => ex_iconst (show decode mX4_isFigure.2.1 12 = .ok (.iconst 1, 1) by decide +kernel) (by decide +kernel),
  fun d σ S l0 => ex_goto (show decode mX4_isFigure.2.1 13 = .ok (.goto 4, 3) by decide +kernel) (by decide),
  fun d σ S l0 => ex_iconst (show decode mX4_isFigure.2.1 16 = .ok (.iconst 0, 1) by decide +kernel) (by decide +kernel),
  fun d σ l0 x => ex_zret (show decode mX4_isFigure.2.1 17 = .ok (.ireturn, 1) by decide +kernel) rfl⟩
theorem aX4_isFigure : ∀ (d : Nat) (a0 : Int32) (σ : Sg), cal (d + 1) mX4_isFigure [.int a0] σ = exec d mX4_isFigure 0 [.int a0] [] σ := fun _ _ _ => rfl
theorem lsw_X4_kindOf_1 (d : Nat) (σ : Sg) (S : List Value) (l0 : Value) (x : Int32) : exec d mX4_kindOf 1 [l0] (.int x :: S) σ = (if x = nI 98 then exec d mX4_kindOf 60 [l0] S σ else (if x = nI 99 then exec d mX4_kindOf 54 [l0] S σ else (if x = nI 104 then exec d mX4_kindOf 56 [l0] S σ else (if x = nI 106 then exec d mX4_kindOf 52 [l0] S σ else (if x = nI 119 then exec d mX4_kindOf 58 [l0] S σ else exec d mX4_kindOf 62 [l0] S σ))))) := by
  have h : decode mX4_kindOf.2.1 1 = .ok (.lookupswitch 61 #[(98, 59), (99, 53), (104, 55), (106, 51), (119, 57)], 51) := by decide +kernel
  have h1 : stp mX4_kindOf 1 [l0] (.int x :: S) σ = lsw x 1 61 #[(98, 59), (99, 53), (104, 55), (106, 51), (119, 57)] [l0] S σ := stp_of h
  unfold lsw at h1
  rw [if_pos (by decide +kernel)] at h1
  have key : ∀ n : Nat, n < 2 ^ 31 → (((n : Nat) : Int) = x.toInt ↔ x = nI n) := fun n hn => ⟨fun q => Int32.toInt_inj.mp (by rw [nI_toInt hn]; exact q.symm), fun q => by rw [q, nI_toInt hn]⟩
  by_cases q98 : x = nI 98
  · have e := (key 98 (by decide)).mpr q98
    rw [if_pos q98]
    exact exec_go (h1.trans (by
      have e2 : Op.lookupswitch.offset #[(98, 59), (99, 53), (104, 55), (106, 51), (119, 57)].toList 61 x.toInt = 59 := by rw [← e]; decide +kernel
      rw [e2]; rfl))
  rw [if_neg q98]
  by_cases q99 : x = nI 99
  · have e := (key 99 (by decide)).mpr q99
    rw [if_pos q99]
    exact exec_go (h1.trans (by
      have e2 : Op.lookupswitch.offset #[(98, 59), (99, 53), (104, 55), (106, 51), (119, 57)].toList 61 x.toInt = 53 := by rw [← e]; decide +kernel
      rw [e2]; rfl))
  rw [if_neg q99]
  by_cases q104 : x = nI 104
  · have e := (key 104 (by decide)).mpr q104
    rw [if_pos q104]
    exact exec_go (h1.trans (by
      have e2 : Op.lookupswitch.offset #[(98, 59), (99, 53), (104, 55), (106, 51), (119, 57)].toList 61 x.toInt = 55 := by rw [← e]; decide +kernel
      rw [e2]; rfl))
  rw [if_neg q104]
  by_cases q106 : x = nI 106
  · have e := (key 106 (by decide)).mpr q106
    rw [if_pos q106]
    exact exec_go (h1.trans (by
      have e2 : Op.lookupswitch.offset #[(98, 59), (99, 53), (104, 55), (106, 51), (119, 57)].toList 61 x.toInt = 51 := by rw [← e]; decide +kernel
      rw [e2]; rfl))
  rw [if_neg q106]
  by_cases q119 : x = nI 119
  · have e := (key 119 (by decide)).mpr q119
    rw [if_pos q119]
    exact exec_go (h1.trans (by
      have e2 : Op.lookupswitch.offset #[(98, 59), (99, 53), (104, 55), (106, 51), (119, 57)].toList 61 x.toInt = 57 := by rw [← e]; decide +kernel
      rw [e2]; rfl))
  rw [if_neg q119]
  exact exec_go (h1.trans (by
    have e2 : Op.lookupswitch.offset #[(98, 59), (99, 53), (104, 55), (106, 51), (119, 57)].toList 61 x.toInt = 61 := by
      simp only [Op.lookupswitch.offset]
      rw [if_neg (show ¬ (98 : Int) = x.toInt from fun z => q98 ((key 98 (by decide)).mp z))]
      rw [if_neg (show ¬ (99 : Int) = x.toInt from fun z => q99 ((key 99 (by decide)).mp z))]
      rw [if_neg (show ¬ (104 : Int) = x.toInt from fun z => q104 ((key 104 (by decide)).mp z))]
      rw [if_neg (show ¬ (106 : Int) = x.toInt from fun z => q106 ((key 106 (by decide)).mp z))]
      rw [if_neg (show ¬ (119 : Int) = x.toInt from fun z => q119 ((key 119 (by decide)).mp z))]
    rw [e2]; rfl))
theorem kX4_kindOf : (∀ (d : Nat) (σ : Sg) (S : List Value) (x : Int32), exec d mX4_kindOf 0 [.int x] S σ = exec d mX4_kindOf 1 [.int x] (.int x :: S) σ) ∧
  (∀ (d : Nat) (σ : Sg) (S : List Value) (l0 : Value) (x : Int32), exec d mX4_kindOf 1 [l0] (.int x :: S) σ = (if x = nI 98 then exec d mX4_kindOf 60 [l0] S σ else (if x = nI 99 then exec d mX4_kindOf 54 [l0] S σ else (if x = nI 104 then exec d mX4_kindOf 56 [l0] S σ else (if x = nI 106 then exec d mX4_kindOf 52 [l0] S σ else (if x = nI 119 then exec d mX4_kindOf 58 [l0] S σ else exec d mX4_kindOf 62 [l0] S σ)))))) ∧
  (∀ (d : Nat) (σ : Sg) (S : List Value) (l0 : Value), exec d mX4_kindOf 52 [l0] S σ = exec d mX4_kindOf 53 [l0] (.int (nI 1) :: S) σ) ∧
  (∀ (d : Nat) (σ : Sg) (l0 : Value) (x : Int32), exec d mX4_kindOf 53 [l0] [.int x] σ = some (some (.int x), σ)) ∧
  (∀ (d : Nat) (σ : Sg) (S : List Value) (l0 : Value), exec d mX4_kindOf 54 [l0] S σ = exec d mX4_kindOf 55 [l0] (.int (nI 2) :: S) σ) ∧
  (∀ (d : Nat) (σ : Sg) (l0 : Value) (x : Int32), exec d mX4_kindOf 55 [l0] [.int x] σ = some (some (.int x), σ)) ∧
  (∀ (d : Nat) (σ : Sg) (S : List Value) (l0 : Value), exec d mX4_kindOf 56 [l0] S σ = exec d mX4_kindOf 57 [l0] (.int (nI 3) :: S) σ) ∧
  (∀ (d : Nat) (σ : Sg) (l0 : Value) (x : Int32), exec d mX4_kindOf 57 [l0] [.int x] σ = some (some (.int x), σ)) ∧
  (∀ (d : Nat) (σ : Sg) (S : List Value) (l0 : Value), exec d mX4_kindOf 58 [l0] S σ = exec d mX4_kindOf 59 [l0] (.int (nI 4) :: S) σ) ∧
  (∀ (d : Nat) (σ : Sg) (l0 : Value) (x : Int32), exec d mX4_kindOf 59 [l0] [.int x] σ = some (some (.int x), σ)) ∧
  (∀ (d : Nat) (σ : Sg) (S : List Value) (l0 : Value), exec d mX4_kindOf 60 [l0] S σ = exec d mX4_kindOf 61 [l0] (.int (nI 5) :: S) σ) ∧
  (∀ (d : Nat) (σ : Sg) (l0 : Value) (x : Int32), exec d mX4_kindOf 61 [l0] [.int x] σ = some (some (.int x), σ)) ∧
  (∀ (d : Nat) (σ : Sg) (S : List Value) (l0 : Value), exec d mX4_kindOf 62 [l0] S σ = exec d mX4_kindOf 63 [l0] (.int (nI 0) :: S) σ) ∧
  (∀ (d : Nat) (σ : Sg) (l0 : Value) (x : Int32), exec d mX4_kindOf 63 [l0] [.int x] σ = some (some (.int x), σ)) :=
  ⟨fun d σ S x => ex_iload_n (show decode mX4_kindOf.2.1 0 = .ok (.iload_n 0, 1) by decide +kernel) rfl,
  fun d σ S l0 x => lsw_X4_kindOf_1 d σ S l0 x,
  fun d σ S l0 => ex_iconst (show decode mX4_kindOf.2.1 52 = .ok (.iconst 1, 1) by decide +kernel) (by decide +kernel),
  fun d σ l0 x => ex_iret (show decode mX4_kindOf.2.1 53 = .ok (.ireturn, 1) by decide +kernel) rfl,
  fun d σ S l0 => ex_iconst (show decode mX4_kindOf.2.1 54 = .ok (.iconst 2, 1) by decide +kernel) (by decide +kernel),
  fun d σ l0 x => ex_iret (show decode mX4_kindOf.2.1 55 = .ok (.ireturn, 1) by decide +kernel) rfl,
  fun d σ S l0 => ex_iconst (show decode mX4_kindOf.2.1 56 = .ok (.iconst 3, 1) by decide +kernel) (by decide +kernel),
  fun d σ l0 x => ex_iret (show decode mX4_kindOf.2.1 57 = .ok (.ireturn, 1) by decide +kernel) rfl,
  fun d σ S l0 => ex_iconst (show decode mX4_kindOf.2.1 58 = .ok (.iconst 4, 1) by decide +kernel) (by decide +kernel),
  fun d σ l0 x => ex_iret (show decode mX4_kindOf.2.1 59 = .ok (.ireturn, 1) by decide +kernel) rfl,
  fun d σ S l0 => ex_iconst (show decode mX4_kindOf.2.1 60 = .ok (.iconst 5, 1) by decide +kernel) (by decide +kernel),
  fun d σ l0 x => ex_iret (show decode mX4_kindOf.2.1 61 = .ok (.ireturn, 1) by decide +kernel) rfl,
  fun d σ S l0 => ex_iconst (show decode mX4_kindOf.2.1 62 = .ok (.iconst 0, 1) by decide +kernel) (by decide +kernel),
  fun d σ l0 x => ex_iret (show decode mX4_kindOf.2.1 63 = .ok (.ireturn, 1) by decide +kernel) rfl⟩
theorem aX4_kindOf : ∀ (d : Nat) (a0 : Int32) (σ : Sg), cal (d + 1) mX4_kindOf [.int a0] σ = exec d mX4_kindOf 0 [.int a0] [] σ := fun _ _ _ => rfl
