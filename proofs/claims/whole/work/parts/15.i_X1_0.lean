/-! generated: the instructions of GuildPiece$Bodies -/
theorem kX1_takeUp : (∀ (d : Nat) (σ : Sg) (S : List Value) (l1 l2 : Value) (k : Nat), exec d mX1_takeUp 0 [.ref k, l1, l2] S σ = exec d mX1_takeUp 1 [.ref k, l1, l2] (.ref k :: S) σ) ∧
  (∀ (d : Nat) (σ : Sg) (S : List Value) (l0 l1 l2 : Value), exec d mX1_takeUp 1 [l0, l1, l2] S σ = exec d mX1_takeUp 2 [l0, l1, l2] (.int (nI 0) :: S) σ) ∧
  (∀ (d : Nat) (σ : Sg) (S : List Value) (l0 l1 l2 : Value) (x : Int32), exec d mX1_takeUp 2 [l0, l1, l2] (.int x :: .ref 48 :: S) σ = exec d mX1_takeUp 5 [l0, l1, l2] S (up σ 48 1 x)) ∧
  (∀ (d : Nat) (σ : Sg) (S : List Value) (l1 l2 : Value) (k : Nat), exec d mX1_takeUp 5 [.ref k, l1, l2] S σ = exec d mX1_takeUp 6 [.ref k, l1, l2] (.ref k :: S) σ) ∧
  (∀ (d : Nat) (σ : Sg) (S : List Value) (l0 l1 : Value) (x : Int32), exec d mX1_takeUp 6 [l0, l1, .int x] S σ = exec d mX1_takeUp 7 [l0, l1, .int x] (.int x :: S) σ) ∧
  (∀ (d : Nat) (σ : Sg) (S : List Value) (l0 l1 l2 : Value) (x : Int32), exec d mX1_takeUp 7 [l0, l1, l2] (.int x :: .ref 48 :: S) σ = exec d mX1_takeUp 10 [l0, l1, l2] S (up σ 48 2 x)) ∧
  (∀ (d : Nat) (σ : Sg) (S : List Value) (l1 l2 : Value) (k : Nat), exec d mX1_takeUp 10 [.ref k, l1, l2] S σ = exec d mX1_takeUp 11 [.ref k, l1, l2] (.ref k :: S) σ) ∧
  (∀ (d : Nat) (σ : Sg) (S : List Value) (l0 l2 : Value) (k : Nat), exec d mX1_takeUp 11 [l0, .ref k, l2] S σ = exec d mX1_takeUp 12 [l0, .ref k, l2] (.ref k :: S) σ) ∧
  (∀ (d : Nat) (σ : Sg) (S : List Value) (l0 l1 l2 : Value), exec d mX1_takeUp 12 [l0, l1, l2] (.ref 8 :: S) σ = exec d mX1_takeUp 15 [l0, l1, l2] (.ref 9 :: S) σ) ∧
  (∀ (d : Nat) (σ : Sg) (S : List Value) (l0 l1 : Value) (x : Int32), exec d mX1_takeUp 15 [l0, l1, .int x] S σ = exec d mX1_takeUp 16 [l0, l1, .int x] (.int x :: S) σ) ∧
  (∀ (d : Nat) (σ : Sg) (S : List Value) (l0 l1 l2 : Value) (x : Int32), exec d mX1_takeUp 16 [l0, l1, l2] (.int x :: .ref 9 :: S) σ = if inb x 7 = true then exec d mX1_takeUp 17 [l0, l1, l2] (.int (σ 9 x.toNatClampNeg) :: S) σ else none) ∧
  (∀ (d : Nat) (σ : Sg) (S : List Value) (l0 l1 l2 : Value) (x : Int32), exec d mX1_takeUp 17 [l0, l1, l2] (.int x :: .ref 48 :: S) σ = exec d mX1_takeUp 20 [l0, l1, l2] S (up σ 48 3 x)) ∧
  (∀ (d : Nat) (σ : Sg) (S : List Value) (l1 l2 : Value) (k : Nat), exec d mX1_takeUp 20 [.ref k, l1, l2] S σ = exec d mX1_takeUp 21 [.ref k, l1, l2] (.ref k :: S) σ) ∧
  (∀ (d : Nat) (σ : Sg) (S : List Value) (l0 l2 : Value) (k : Nat), exec d mX1_takeUp 21 [l0, .ref k, l2] S σ = exec d mX1_takeUp 22 [l0, .ref k, l2] (.ref k :: S) σ) ∧
  (∀ (d : Nat) (σ : Sg) (S : List Value) (l0 l1 l2 : Value), exec d mX1_takeUp 22 [l0, l1, l2] (.ref 8 :: S) σ = exec d mX1_takeUp 25 [l0, l1, l2] (.ref 10 :: S) σ) ∧
  (∀ (d : Nat) (σ : Sg) (S : List Value) (l0 l1 : Value) (x : Int32), exec d mX1_takeUp 25 [l0, l1, .int x] S σ = exec d mX1_takeUp 26 [l0, l1, .int x] (.int x :: S) σ) ∧
  (∀ (d : Nat) (σ : Sg) (S : List Value) (l0 l1 l2 : Value) (x : Int32), exec d mX1_takeUp 26 [l0, l1, l2] (.int x :: .ref 10 :: S) σ = if inb x 7 = true then exec d mX1_takeUp 27 [l0, l1, l2] (.int (σ 10 x.toNatClampNeg) :: S) σ else none) ∧
  (∀ (d : Nat) (σ : Sg) (S : List Value) (l0 l1 l2 : Value) (x : Int32), exec d mX1_takeUp 27 [l0, l1, l2] (.int x :: .ref 48 :: S) σ = exec d mX1_takeUp 30 [l0, l1, l2] S (up σ 48 4 x)) ∧
  (∀ (d : Nat) (σ : Sg) (S : List Value) (l1 l2 : Value) (k : Nat), exec d mX1_takeUp 30 [.ref k, l1, l2] S σ = exec d mX1_takeUp 31 [.ref k, l1, l2] (.ref k :: S) σ) ∧
  (∀ (d : Nat) (σ : Sg) (S : List Value) (l0 l2 : Value) (k : Nat), exec d mX1_takeUp 31 [l0, .ref k, l2] S σ = exec d mX1_takeUp 32 [l0, .ref k, l2] (.ref k :: S) σ) ∧
  (∀ (d : Nat) (σ : Sg) (S : List Value) (l0 l1 l2 : Value), exec d mX1_takeUp 32 [l0, l1, l2] (.ref 8 :: S) σ = exec d mX1_takeUp 35 [l0, l1, l2] (.ref 11 :: S) σ) ∧
  (∀ (d : Nat) (σ : Sg) (S : List Value) (l0 l1 : Value) (x : Int32), exec d mX1_takeUp 35 [l0, l1, .int x] S σ = exec d mX1_takeUp 36 [l0, l1, .int x] (.int x :: S) σ) ∧
  (∀ (d : Nat) (σ : Sg) (S : List Value) (l0 l1 l2 : Value) (x : Int32), exec d mX1_takeUp 36 [l0, l1, l2] (.int x :: .ref 11 :: S) σ = if inb x 7 = true then exec d mX1_takeUp 37 [l0, l1, l2] (.int (σ 11 x.toNatClampNeg) :: S) σ else none) ∧
  (∀ (d : Nat) (σ : Sg) (S : List Value) (l0 l1 l2 : Value) (x : Int32), exec d mX1_takeUp 37 [l0, l1, l2] (.int x :: .ref 48 :: S) σ = exec d mX1_takeUp 40 [l0, l1, l2] S (up σ 48 5 x)) ∧
  (∀ (d : Nat) (σ : Sg) (l0 l1 l2 : Value), exec d mX1_takeUp 40 [l0, l1, l2] [] σ = some (none, σ)) :=
  ⟨fun d σ S l1 l2 k => ex_aload_n (show decode mX1_takeUp.2.1 0 = .ok (.aload_n 0, 1) by decide +kernel) rfl,
  fun d σ S l0 l1 l2 => ex_iconst (show decode mX1_takeUp.2.1 1 = .ok (.iconst 0, 1) by decide +kernel) (by decide +kernel),
  fun d σ S l0 l1 l2 x => ex_put (idx := 15) (ci := 1) (ff := 1) (n := 6) (hh := 327) (by decide +kernel),
  fun d σ S l1 l2 k => ex_aload_n (show decode mX1_takeUp.2.1 5 = .ok (.aload_n 0, 1) by decide +kernel) rfl,
  fun d σ S l0 l1 x => ex_iload_n (show decode mX1_takeUp.2.1 6 = .ok (.iload_n 2, 1) by decide +kernel) rfl,
  fun d σ S l0 l1 l2 x => ex_put (idx := 19) (ci := 1) (ff := 2) (n := 6) (hh := 329) (by decide +kernel),
  fun d σ S l1 l2 k => ex_aload_n (show decode mX1_takeUp.2.1 10 = .ok (.aload_n 0, 1) by decide +kernel) rfl,
  fun d σ S l0 l2 k => ex_aload_n (show decode mX1_takeUp.2.1 11 = .ok (.aload_n 1, 1) by decide +kernel) rfl,
  fun d σ S l0 l1 l2 => ex_getr (idx := 22) (ci := 5) (ff := 9) (n := 17) (hh := 217) (by decide +kernel),
  fun d σ S l0 l1 x => ex_iload_n (show decode mX1_takeUp.2.1 15 = .ok (.iload_n 2, 1) by decide +kernel) rfl,
  fun d σ S l0 l1 l2 x => ex_iald (by decide +kernel),
  fun d σ S l0 l1 l2 x => ex_put (idx := 27) (ci := 1) (ff := 3) (n := 6) (hh := 330) (by decide +kernel),
  fun d σ S l1 l2 k => ex_aload_n (show decode mX1_takeUp.2.1 20 = .ok (.aload_n 0, 1) by decide +kernel) rfl,
  fun d σ S l0 l2 k => ex_aload_n (show decode mX1_takeUp.2.1 21 = .ok (.aload_n 1, 1) by decide +kernel) rfl,
  fun d σ S l0 l1 l2 => ex_getr (idx := 30) (ci := 5) (ff := 10) (n := 17) (hh := 221) (by decide +kernel),
  fun d σ S l0 l1 x => ex_iload_n (show decode mX1_takeUp.2.1 25 = .ok (.iload_n 2, 1) by decide +kernel) rfl,
  fun d σ S l0 l1 l2 x => ex_iald (by decide +kernel),
  fun d σ S l0 l1 l2 x => ex_put (idx := 33) (ci := 1) (ff := 4) (n := 6) (hh := 331) (by decide +kernel),
  fun d σ S l1 l2 k => ex_aload_n (show decode mX1_takeUp.2.1 30 = .ok (.aload_n 0, 1) by decide +kernel) rfl,
  fun d σ S l0 l2 k => ex_aload_n (show decode mX1_takeUp.2.1 31 = .ok (.aload_n 1, 1) by decide +kernel) rfl,
  fun d σ S l0 l1 l2 => ex_getr (idx := 36) (ci := 5) (ff := 11) (n := 17) (hh := 225) (by decide +kernel),
  fun d σ S l0 l1 x => ex_iload_n (show decode mX1_takeUp.2.1 35 = .ok (.iload_n 2, 1) by decide +kernel) rfl,
  fun d σ S l0 l1 l2 x => ex_iald (by decide +kernel),
  fun d σ S l0 l1 l2 x => ex_put (idx := 39) (ci := 1) (ff := 5) (n := 6) (hh := 332) (by decide +kernel),
  fun d σ l0 l1 l2 => ex_vret (show decode mX1_takeUp.2.1 40 = .ok (.return_, 1) by decide +kernel) rfl⟩
theorem aX1_takeUp_48_8 : ∀ (d : Nat) (a2 : Int32) (σ : Sg), cal (d + 1) mX1_takeUp [.ref 48, .ref 8, .int a2] σ = exec d mX1_takeUp 0 [.ref 48, .ref 8, .int a2] [] σ := fun _ _ _ => rfl
theorem kX1_begin : (∀ (d : Nat) (σ : Sg) (S : List Value) (l1 : Value) (k : Nat), exec d mX1_begin 0 [.ref k, l1] S σ = exec d mX1_begin 1 [.ref k, l1] (.ref k :: S) σ) ∧
  (∀ (d : Nat) (σ : Sg) (S : List Value) (l0 l1 : Value), exec d mX1_begin 1 [l0, l1] (.ref 48 :: S) σ = exec d mX1_begin 4 [l0, l1] (.int (σ 48 1) :: S) σ) ∧
  (∀ (d : Nat) (σ : Sg) (S : List Value) (l0 l1 : Value), exec d mX1_begin 4 [l0, l1] S σ = exec d mX1_begin 6 [l0, l1] (.int (nI 16) :: S) σ) ∧
  (∀ (d : Nat) (σ : Sg) (S : List Value) (l0 l1 : Value) (x y : Int32), exec d mX1_begin 6 [l0, l1] (.int y :: .int x :: S) σ = if y ≤ x then exec d mX1_begin 29 [l0, l1] S σ else exec d mX1_begin 9 [l0, l1] S σ) ∧
  (∀ (d : Nat) (σ : Sg) (S : List Value) (l1 : Value) (k : Nat), exec d mX1_begin 9 [.ref k, l1] S σ = exec d mX1_begin 10 [.ref k, l1] (.ref k :: S) σ) ∧
  (∀ (d : Nat) (σ : Sg) (S : List Value) (l0 l1 : Value), exec d mX1_begin 10 [l0, l1] (.ref 48 :: S) σ = exec d mX1_begin 13 [l0, l1] (.ref 49 :: S) σ) ∧
  (∀ (d : Nat) (σ : Sg) (S : List Value) (l1 : Value) (k : Nat), exec d mX1_begin 13 [.ref k, l1] S σ = exec d mX1_begin 14 [.ref k, l1] (.ref k :: S) σ) ∧
  (∀ (d : Nat) (σ : Sg) (S : List Value) (l0 l1 : Value), exec d mX1_begin 14 [l0, l1] (.ref 48 :: S) σ = exec d mX1_begin 17 [l0, l1] (.int (σ 48 1) :: S) σ) ∧
  (∀ (d : Nat) (σ : Sg) (S : List Value) (l0 : Value) (x : Int32), exec d mX1_begin 17 [l0, .int x] S σ = exec d mX1_begin 18 [l0, .int x] (.int x :: S) σ) ∧
  (∀ (d : Nat) (σ : Sg) (S : List Value) (l0 l1 : Value) (x y : Int32), exec d mX1_begin 18 [l0, l1] (.int y :: .int x :: .ref 49 :: S) σ = if inb x 16 = true then exec d mX1_begin 19 [l0, l1] S (up σ 49 x.toNatClampNeg y) else none) ∧
  (∀ (d : Nat) (σ : Sg) (S : List Value) (l1 : Value) (k : Nat), exec d mX1_begin 19 [.ref k, l1] S σ = exec d mX1_begin 20 [.ref k, l1] (.ref k :: S) σ) ∧
  (∀ (d : Nat) (σ : Sg) (S : List Value) (l0 l1 : Value) (k : Nat), exec d mX1_begin 20 [l0, l1] (.ref k :: S) σ = exec d mX1_begin 21 [l0, l1] (.ref k :: .ref k :: S) σ) ∧
  (∀ (d : Nat) (σ : Sg) (S : List Value) (l0 l1 : Value), exec d mX1_begin 21 [l0, l1] (.ref 48 :: S) σ = exec d mX1_begin 24 [l0, l1] (.int (σ 48 1) :: S) σ) ∧
  (∀ (d : Nat) (σ : Sg) (S : List Value) (l0 l1 : Value), exec d mX1_begin 24 [l0, l1] S σ = exec d mX1_begin 25 [l0, l1] (.int (nI 1) :: S) σ) ∧
  (∀ (d : Nat) (σ : Sg) (S : List Value) (l0 l1 : Value) (x y : Int32), exec d mX1_begin 25 [l0, l1] (.int y :: .int x :: S) σ = exec d mX1_begin 26 [l0, l1] (.int (x + y) :: S) σ) ∧
  (∀ (d : Nat) (σ : Sg) (S : List Value) (l0 l1 : Value) (x : Int32), exec d mX1_begin 26 [l0, l1] (.int x :: .ref 48 :: S) σ = exec d mX1_begin 29 [l0, l1] S (up σ 48 1 x)) ∧
  (∀ (d : Nat) (σ : Sg) (l0 l1 : Value), exec d mX1_begin 29 [l0, l1] [] σ = some (none, σ)) :=
  ⟨fun d σ S l1 k => ex_aload_n (show decode mX1_begin.2.1 0 = .ok (.aload_n 0, 1) by decide +kernel) rfl,
  fun d σ S l0 l1 => ex_get (idx := 15) (ci := 1) (ff := 1) (n := 6) (hh := 327) (by decide +kernel),
  fun d σ S l0 l1 => ex_bipush (show decode mX1_begin.2.1 4 = .ok (.bipush 16, 2) by decide +kernel) (by decide +kernel),
  fun d σ S l0 l1 x y => ex_cge (show decode mX1_begin.2.1 6 = .ok (.if_icmp .ge 23, 3) by decide +kernel) (by decide),
  fun d σ S l1 k => ex_aload_n (show decode mX1_begin.2.1 9 = .ok (.aload_n 0, 1) by decide +kernel) rfl,
  fun d σ S l0 l1 => ex_getr (idx := 11) (ci := 1) (ff := 0) (n := 6) (hh := 325) (by decide +kernel),
  fun d σ S l1 k => ex_aload_n (show decode mX1_begin.2.1 13 = .ok (.aload_n 0, 1) by decide +kernel) rfl,
  fun d σ S l0 l1 => ex_get (idx := 15) (ci := 1) (ff := 1) (n := 6) (hh := 327) (by decide +kernel),
  fun d σ S l0 x => ex_iload_n (show decode mX1_begin.2.1 17 = .ok (.iload_n 1, 1) by decide +kernel) rfl,
  fun d σ S l0 l1 x y => ex_iast (by decide +kernel),
  fun d σ S l1 k => ex_aload_n (show decode mX1_begin.2.1 19 = .ok (.aload_n 0, 1) by decide +kernel) rfl,
  fun d σ S l0 l1 k => ex_dup (show decode mX1_begin.2.1 20 = .ok (.dup, 1) by decide +kernel) rfl,
  fun d σ S l0 l1 => ex_get (idx := 15) (ci := 1) (ff := 1) (n := 6) (hh := 327) (by decide +kernel),
  fun d σ S l0 l1 => ex_iconst (show decode mX1_begin.2.1 24 = .ok (.iconst 1, 1) by decide +kernel) (by decide +kernel),
  fun d σ S l0 l1 x y => ex_iadd (show decode mX1_begin.2.1 25 = .ok (.iadd, 1) by decide +kernel),
  fun d σ S l0 l1 x => ex_put (idx := 15) (ci := 1) (ff := 1) (n := 6) (hh := 327) (by decide +kernel),
  fun d σ l0 l1 => ex_vret (show decode mX1_begin.2.1 29 = .ok (.return_, 1) by decide +kernel) rfl⟩
theorem aX1_begin_48 : ∀ (d : Nat) (a1 : Int32) (σ : Sg), cal (d + 1) mX1_begin [.ref 48, .int a1] σ = exec d mX1_begin 0 [.ref 48, .int a1] [] σ := fun _ _ _ => rfl
theorem kX1_ofSize : (∀ (d : Nat) (σ : Sg) (S : List Value) (x : Int32), exec d mX1_ofSize 0 [.int x] S σ = exec d mX1_ofSize 1 [.int x] (.int x :: S) σ) ∧
  (∀ (d : Nat) (σ : Sg) (S : List Value) (l0 : Value) (x : Int32), exec d mX1_ofSize 1 [l0] (.int x :: S) σ = (if x = nI 1 then exec d mX1_ofSize 36 [l0] S σ else (if x = nI 2 then exec d mX1_ofSize 39 [l0] S σ else (if x = nI 3 then exec d mX1_ofSize 36 [l0] S σ else (if x = nI 4 then exec d mX1_ofSize 42 [l0] S σ else (if x = nI 5 then exec d mX1_ofSize 45 [l0] S σ else exec d mX1_ofSize 48 [l0] S σ)))))) ∧
  (∀ (d : Nat) (σ : Sg) (S : List Value) (l0 : Value), exec d mX1_ofSize 36 [l0] S σ = exec d mX1_ofSize 38 [l0] (.int (nI 11) :: S) σ) ∧
  (∀ (d : Nat) (σ : Sg) (l0 : Value) (x : Int32), exec d mX1_ofSize 38 [l0] [.int x] σ = some (some (.int x), σ)) ∧
  (∀ (d : Nat) (σ : Sg) (S : List Value) (l0 : Value), exec d mX1_ofSize 39 [l0] S σ = exec d mX1_ofSize 41 [l0] (.int (nI 12) :: S) σ) ∧
  (∀ (d : Nat) (σ : Sg) (l0 : Value) (x : Int32), exec d mX1_ofSize 41 [l0] [.int x] σ = some (some (.int x), σ)) ∧
  (∀ (d : Nat) (σ : Sg) (S : List Value) (l0 : Value), exec d mX1_ofSize 42 [l0] S σ = exec d mX1_ofSize 44 [l0] (.int (nI 13) :: S) σ) ∧
  (∀ (d : Nat) (σ : Sg) (l0 : Value) (x : Int32), exec d mX1_ofSize 44 [l0] [.int x] σ = some (some (.int x), σ)) ∧
  (∀ (d : Nat) (σ : Sg) (S : List Value) (l0 : Value), exec d mX1_ofSize 45 [l0] S σ = exec d mX1_ofSize 47 [l0] (.int (nI 14) :: S) σ) ∧
  (∀ (d : Nat) (σ : Sg) (l0 : Value) (x : Int32), exec d mX1_ofSize 47 [l0] [.int x] σ = some (some (.int x), σ)) ∧
  (∀ (d : Nat) (σ : Sg) (S : List Value) (l0 : Value), exec d mX1_ofSize 48 [l0] S σ = exec d mX1_ofSize 50 [l0] (.int (nI 10) :: S) σ) ∧
  (∀ (d : Nat) (σ : Sg) (l0 : Value) (x : Int32), exec d mX1_ofSize 50 [l0] [.int x] σ = some (some (.int x), σ)) :=
  ⟨fun d σ S x => ex_iload_n (show decode mX1_ofSize.2.1 0 = .ok (.iload_n 0, 1) by decide +kernel) rfl,
  fun d σ S l0 x => ex_tsw (lo := 1) (df := 48) (ts := [36, 39, 36, 42, 45]) (show decode mX1_ofSize.2.1 1 = .ok (.tableswitch 47 1 5 #[35, 38, 35, 41, 44], 35) by decide +kernel) (by decide) (by decide) (by decide) (by decide),
  fun d σ S l0 => ex_bipush (show decode mX1_ofSize.2.1 36 = .ok (.bipush 11, 2) by decide +kernel) (by decide +kernel),
  fun d σ l0 x => ex_iret (show decode mX1_ofSize.2.1 38 = .ok (.ireturn, 1) by decide +kernel) rfl,
  fun d σ S l0 => ex_bipush (show decode mX1_ofSize.2.1 39 = .ok (.bipush 12, 2) by decide +kernel) (by decide +kernel),
  fun d σ l0 x => ex_iret (show decode mX1_ofSize.2.1 41 = .ok (.ireturn, 1) by decide +kernel) rfl,
  fun d σ S l0 => ex_bipush (show decode mX1_ofSize.2.1 42 = .ok (.bipush 13, 2) by decide +kernel) (by decide +kernel),
  fun d σ l0 x => ex_iret (show decode mX1_ofSize.2.1 44 = .ok (.ireturn, 1) by decide +kernel) rfl,
  fun d σ S l0 => ex_bipush (show decode mX1_ofSize.2.1 45 = .ok (.bipush 14, 2) by decide +kernel) (by decide +kernel),
  fun d σ l0 x => ex_iret (show decode mX1_ofSize.2.1 47 = .ok (.ireturn, 1) by decide +kernel) rfl,
  fun d σ S l0 => ex_bipush (show decode mX1_ofSize.2.1 48 = .ok (.bipush 10, 2) by decide +kernel) (by decide +kernel),
  fun d σ l0 x => ex_iret (show decode mX1_ofSize.2.1 50 = .ok (.ireturn, 1) by decide +kernel) rfl⟩
theorem aX1_ofSize : ∀ (d : Nat) (a0 : Int32) (σ : Sg), cal (d + 1) mX1_ofSize [.int a0] σ = exec d mX1_ofSize 0 [.int a0] [] σ := fun _ _ _ => rfl
theorem kX1_ofMark : (∀ (d : Nat) (σ : Sg) (S : List Value) (x : Int32), exec d mX1_ofMark 0 [.int x] S σ = exec d mX1_ofMark 1 [.int x] (.int x :: S) σ) ∧
  (∀ (d : Nat) (σ : Sg) (S : List Value) (l0 : Value) (x : Int32), exec d mX1_ofMark 1 [l0] (.int x :: S) σ = (if x = nI 1 then exec d mX1_ofMark 36 [l0] S σ else (if x = nI 2 then exec d mX1_ofMark 45 [l0] S σ else (if x = nI 3 then exec d mX1_ofMark 39 [l0] S σ else (if x = nI 4 then exec d mX1_ofMark 42 [l0] S σ else (if x = nI 5 then exec d mX1_ofMark 42 [l0] S σ else exec d mX1_ofMark 48 [l0] S σ)))))) ∧
  (∀ (d : Nat) (σ : Sg) (S : List Value) (l0 : Value), exec d mX1_ofMark 36 [l0] S σ = exec d mX1_ofMark 38 [l0] (.int (nI 21) :: S) σ) ∧
  (∀ (d : Nat) (σ : Sg) (l0 : Value) (x : Int32), exec d mX1_ofMark 38 [l0] [.int x] σ = some (some (.int x), σ)) ∧
  (∀ (d : Nat) (σ : Sg) (S : List Value) (l0 : Value), exec d mX1_ofMark 39 [l0] S σ = exec d mX1_ofMark 41 [l0] (.int (nI 22) :: S) σ) ∧
  (∀ (d : Nat) (σ : Sg) (l0 : Value) (x : Int32), exec d mX1_ofMark 41 [l0] [.int x] σ = some (some (.int x), σ)) ∧
  (∀ (d : Nat) (σ : Sg) (S : List Value) (l0 : Value), exec d mX1_ofMark 42 [l0] S σ = exec d mX1_ofMark 44 [l0] (.int (nI 23) :: S) σ) ∧
  (∀ (d : Nat) (σ : Sg) (l0 : Value) (x : Int32), exec d mX1_ofMark 44 [l0] [.int x] σ = some (some (.int x), σ)) ∧
  (∀ (d : Nat) (σ : Sg) (S : List Value) (l0 : Value), exec d mX1_ofMark 45 [l0] S σ = exec d mX1_ofMark 47 [l0] (.int (nI 24) :: S) σ) ∧
  (∀ (d : Nat) (σ : Sg) (l0 : Value) (x : Int32), exec d mX1_ofMark 47 [l0] [.int x] σ = some (some (.int x), σ)) ∧
  (∀ (d : Nat) (σ : Sg) (S : List Value) (l0 : Value), exec d mX1_ofMark 48 [l0] S σ = exec d mX1_ofMark 50 [l0] (.int (nI 20) :: S) σ) ∧
  (∀ (d : Nat) (σ : Sg) (l0 : Value) (x : Int32), exec d mX1_ofMark 50 [l0] [.int x] σ = some (some (.int x), σ)) :=
  ⟨fun d σ S x => ex_iload_n (show decode mX1_ofMark.2.1 0 = .ok (.iload_n 0, 1) by decide +kernel) rfl,
  fun d σ S l0 x => ex_tsw (lo := 1) (df := 48) (ts := [36, 45, 39, 42, 42]) (show decode mX1_ofMark.2.1 1 = .ok (.tableswitch 47 1 5 #[35, 44, 38, 41, 41], 35) by decide +kernel) (by decide) (by decide) (by decide) (by decide),
  fun d σ S l0 => ex_bipush (show decode mX1_ofMark.2.1 36 = .ok (.bipush 21, 2) by decide +kernel) (by decide +kernel),
  fun d σ l0 x => ex_iret (show decode mX1_ofMark.2.1 38 = .ok (.ireturn, 1) by decide +kernel) rfl,
  fun d σ S l0 => ex_bipush (show decode mX1_ofMark.2.1 39 = .ok (.bipush 22, 2) by decide +kernel) (by decide +kernel),
  fun d σ l0 x => ex_iret (show decode mX1_ofMark.2.1 41 = .ok (.ireturn, 1) by decide +kernel) rfl,
  fun d σ S l0 => ex_bipush (show decode mX1_ofMark.2.1 42 = .ok (.bipush 23, 2) by decide +kernel) (by decide +kernel),
  fun d σ l0 x => ex_iret (show decode mX1_ofMark.2.1 44 = .ok (.ireturn, 1) by decide +kernel) rfl,
  fun d σ S l0 => ex_bipush (show decode mX1_ofMark.2.1 45 = .ok (.bipush 24, 2) by decide +kernel) (by decide +kernel),
  fun d σ l0 x => ex_iret (show decode mX1_ofMark.2.1 47 = .ok (.ireturn, 1) by decide +kernel) rfl,
  fun d σ S l0 => ex_bipush (show decode mX1_ofMark.2.1 48 = .ok (.bipush 20, 2) by decide +kernel) (by decide +kernel),
  fun d σ l0 x => ex_iret (show decode mX1_ofMark.2.1 50 = .ok (.ireturn, 1) by decide +kernel) rfl⟩
theorem aX1_ofMark : ∀ (d : Nat) (a0 : Int32) (σ : Sg), cal (d + 1) mX1_ofMark [.int a0] σ = exec d mX1_ofMark 0 [.int a0] [] σ := fun _ _ _ => rfl
theorem kX1_give_0 : (∀ (d : Nat) (σ : Sg) (S : List Value) (l0 l1 : Value) (x : Int32), exec d mX1_give 0 [l0, l1, .int x] S σ = exec d mX1_give 1 [l0, l1, .int x] (.int x :: S) σ) ∧
  (∀ (d : Nat) (σ : Sg) (S : List Value) (l0 l1 l2 : Value), exec d mX1_give 1 [l0, l1, l2] S σ = exec d mX1_give 3 [l0, l1, l2] (.int (nI 8) :: S) σ) ∧
  (∀ (d : Nat) (σ : Sg) (S : List Value) (l0 l1 l2 : Value) (x y : Int32), exec d mX1_give 3 [l0, l1, l2] (.int y :: .int x :: S) σ = if x ≤ y then exec d mX1_give 9 [l0, l1, l2] S σ else exec d mX1_give 6 [l0, l1, l2] S σ) ∧
  (∀ (d : Nat) (σ : Sg) (S : List Value) (l0 l1 l2 : Value), exec d mX1_give 6 [l0, l1, l2] S σ = exec d mX1_give 8 [l0, l1, l2] (.int ((-1000000)) :: S) σ) ∧
  (∀ (d : Nat) (σ : Sg) (l0 l1 l2 : Value) (x : Int32), exec d mX1_give 8 [l0, l1, l2] [.int x] σ = some (some (.int x), σ)) ∧
  (∀ (d : Nat) (σ : Sg) (S : List Value) (l1 l2 : Value) (k : Nat), exec d mX1_give 9 [.ref k, l1, l2] S σ = exec d mX1_give 10 [.ref k, l1, l2] (.ref k :: S) σ) ∧
  (∀ (d : Nat) (σ : Sg) (S : List Value) (l0 l2 : Value) (x : Int32), exec d mX1_give 10 [l0, .int x, l2] S σ = exec d mX1_give 11 [l0, .int x, l2] (.int x :: S) σ) ∧
  (∀ (d : Nat) (σ : Sg) (l0 l1 l2 : Value) (x0 : Int32), exec d mX1_give 11 [l0, l1, l2] [.int x0, .ref 48] σ = kb (cal d mX1_begin [.ref 48, .int x0] σ) (fun rs σ2 => exec d mX1_give 14 [l0, l1, l2] (rs ++ []) σ2)) ∧
  (∀ (d : Nat) (σ : Sg) (S : List Value) (l0 l2 : Value) (x : Int32), exec d mX1_give 14 [l0, .int x, l2] S σ = exec d mX1_give 15 [l0, .int x, l2] (.int x :: S) σ) ∧
  (∀ (d : Nat) (σ : Sg) (S : List Value) (l0 l1 l2 : Value) (x : Int32), exec d mX1_give 15 [l0, l1, l2] (.int x :: S) σ = (if x = nI 10 then exec d mX1_give 88 [l0, l1, l2] S σ else (if x = nI 11 then exec d mX1_give 93 [l0, l1, l2] S σ else (if x = nI 12 then exec d mX1_give 118 [l0, l1, l2] S σ else (if x = nI 13 then exec d mX1_give 130 [l0, l1, l2] S σ else (if x = nI 14 then exec d mX1_give 143 [l0, l1, l2] S σ else (if x = nI 15 then exec d mX1_give 226 [l0, l1, l2] S σ else (if x = nI 16 then exec d mX1_give 226 [l0, l1, l2] S σ else (if x = nI 17 then exec d mX1_give 226 [l0, l1, l2] S σ else (if x = nI 18 then exec d mX1_give 226 [l0, l1, l2] S σ else (if x = nI 19 then exec d mX1_give 226 [l0, l1, l2] S σ else (if x = nI 20 then exec d mX1_give 155 [l0, l1, l2] S σ else (if x = nI 21 then exec d mX1_give 160 [l0, l1, l2] S σ else (if x = nI 22 then exec d mX1_give 175 [l0, l1, l2] S σ else (if x = nI 23 then exec d mX1_give 189 [l0, l1, l2] S σ else (if x = nI 24 then exec d mX1_give 214 [l0, l1, l2] S σ else exec d mX1_give 226 [l0, l1, l2] S σ)))))))))))))))) ∧
  (∀ (d : Nat) (σ : Sg) (S : List Value) (l1 l2 : Value) (k : Nat), exec d mX1_give 88 [.ref k, l1, l2] S σ = exec d mX1_give 89 [.ref k, l1, l2] (.ref k :: S) σ) ∧
  (∀ (d : Nat) (σ : Sg) (S : List Value) (l0 l1 l2 : Value), exec d mX1_give 89 [l0, l1, l2] (.ref 48 :: S) σ = exec d mX1_give 92 [l0, l1, l2] (.int (σ 48 5) :: S) σ) ∧
  (∀ (d : Nat) (σ : Sg) (l0 l1 l2 : Value) (x : Int32), exec d mX1_give 92 [l0, l1, l2] [.int x] σ = some (some (.int x), σ)) ∧
  (∀ (d : Nat) (σ : Sg) (S : List Value) (l1 l2 : Value) (k : Nat), exec d mX1_give 93 [.ref k, l1, l2] S σ = exec d mX1_give 94 [.ref k, l1, l2] (.ref k :: S) σ) ∧
  (∀ (d : Nat) (σ : Sg) (S : List Value) (l0 l1 l2 : Value), exec d mX1_give 94 [l0, l1, l2] S σ = exec d mX1_give 96 [l0, l1, l2] (.int (nI 10) :: S) σ) ∧
  (∀ (d : Nat) (σ : Sg) (S : List Value) (l0 l1 : Value) (x : Int32), exec d mX1_give 96 [l0, l1, .int x] S σ = exec d mX1_give 97 [l0, l1, .int x] (.int x :: S) σ) ∧
  (∀ (d : Nat) (σ : Sg) (S : List Value) (l0 l1 l2 : Value), exec d mX1_give 97 [l0, l1, l2] S σ = exec d mX1_give 98 [l0, l1, l2] (.int (nI 1) :: S) σ) ∧
  (∀ (d : Nat) (σ : Sg) (S : List Value) (l0 l1 l2 : Value) (x y : Int32), exec d mX1_give 98 [l0, l1, l2] (.int y :: .int x :: S) σ = exec d mX1_give 99 [l0, l1, l2] (.int (x + y) :: S) σ) ∧
  (∀ (d : Nat) (σ : Sg) (l0 l1 l2 : Value) (x0 x1 : Int32), exec d mX1_give 99 [l0, l1, l2] [.int x0, .int x1, .ref 48] σ = kb (cal d mX1_give [.ref 48, .int x1, .int x0] σ) (fun rs σ2 => exec d mX1_give 102 [l0, l1, l2] (rs ++ []) σ2)) ∧
  (∀ (d : Nat) (σ : Sg) (S : List Value) (l1 l2 : Value) (k : Nat), exec d mX1_give 102 [.ref k, l1, l2] S σ = exec d mX1_give 103 [.ref k, l1, l2] (.ref k :: S) σ) ∧
  (∀ (d : Nat) (σ : Sg) (S : List Value) (l1 l2 : Value) (k : Nat), exec d mX1_give 103 [.ref k, l1, l2] S σ = exec d mX1_give 104 [.ref k, l1, l2] (.ref k :: S) σ) ∧
  (∀ (d : Nat) (σ : Sg) (S : List Value) (l0 l1 l2 : Value), exec d mX1_give 104 [l0, l1, l2] (.ref 48 :: S) σ = exec d mX1_give 107 [l0, l1, l2] (.int (σ 48 3) :: S) σ) ∧
  (∀ (d : Nat) (σ : Sg) (l0 l1 l2 : Value) (x0 x2 : Int32), exec d mX1_give 107 [l0, l1, l2] [.int x0, .ref 48, .int x2] σ = kb (cal d mX1_ofMark [.int x0] σ) (fun rs σ2 => exec d mX1_give 110 [l0, l1, l2] (rs ++ [.ref 48, .int x2]) σ2)) ∧
  (∀ (d : Nat) (σ : Sg) (S : List Value) (l0 l1 : Value) (x : Int32), exec d mX1_give 110 [l0, l1, .int x] S σ = exec d mX1_give 111 [l0, l1, .int x] (.int x :: S) σ) ∧
  (∀ (d : Nat) (σ : Sg) (S : List Value) (l0 l1 l2 : Value), exec d mX1_give 111 [l0, l1, l2] S σ = exec d mX1_give 112 [l0, l1, l2] (.int (nI 1) :: S) σ) ∧
  (∀ (d : Nat) (σ : Sg) (S : List Value) (l0 l1 l2 : Value) (x y : Int32), exec d mX1_give 112 [l0, l1, l2] (.int y :: .int x :: S) σ = exec d mX1_give 113 [l0, l1, l2] (.int (x + y) :: S) σ) ∧
  (∀ (d : Nat) (σ : Sg) (l0 l1 l2 : Value) (x0 x1 x3 : Int32), exec d mX1_give 113 [l0, l1, l2] [.int x0, .int x1, .ref 48, .int x3] σ = kb (cal d mX1_give [.ref 48, .int x1, .int x0] σ) (fun rs σ2 => exec d mX1_give 116 [l0, l1, l2] (rs ++ [.int x3]) σ2)) ∧
  (∀ (d : Nat) (σ : Sg) (S : List Value) (l0 l1 l2 : Value) (x y : Int32), exec d mX1_give 116 [l0, l1, l2] (.int y :: .int x :: S) σ = exec d mX1_give 117 [l0, l1, l2] (.int (x + y) :: S) σ) ∧
  (∀ (d : Nat) (σ : Sg) (l0 l1 l2 : Value) (x : Int32), exec d mX1_give 117 [l0, l1, l2] [.int x] σ = some (some (.int x), σ)) ∧
  (∀ (d : Nat) (σ : Sg) (S : List Value) (l0 l1 l2 : Value), exec d mX1_give 118 [l0, l1, l2] S σ = exec d mX1_give 119 [l0, l1, l2] (.int (nI 0) :: S) σ) ∧
  (∀ (d : Nat) (σ : Sg) (S : List Value) (l1 l2 : Value) (k : Nat), exec d mX1_give 119 [.ref k, l1, l2] S σ = exec d mX1_give 120 [.ref k, l1, l2] (.ref k :: S) σ) ∧
  (∀ (d : Nat) (σ : Sg) (S : List Value) (l0 l1 l2 : Value), exec d mX1_give 120 [l0, l1, l2] S σ = exec d mX1_give 122 [l0, l1, l2] (.int (nI 11) :: S) σ) ∧
  (∀ (d : Nat) (σ : Sg) (S : List Value) (l0 l1 : Value) (x : Int32), exec d mX1_give 122 [l0, l1, .int x] S σ = exec d mX1_give 123 [l0, l1, .int x] (.int x :: S) σ) ∧
  (∀ (d : Nat) (σ : Sg) (S : List Value) (l0 l1 l2 : Value), exec d mX1_give 123 [l0, l1, l2] S σ = exec d mX1_give 124 [l0, l1, l2] (.int (nI 1) :: S) σ) ∧
  (∀ (d : Nat) (σ : Sg) (S : List Value) (l0 l1 l2 : Value) (x y : Int32), exec d mX1_give 124 [l0, l1, l2] (.int y :: .int x :: S) σ = exec d mX1_give 125 [l0, l1, l2] (.int (x + y) :: S) σ) ∧
  (∀ (d : Nat) (σ : Sg) (l0 l1 l2 : Value) (x0 x1 x3 : Int32), exec d mX1_give 125 [l0, l1, l2] [.int x0, .int x1, .ref 48, .int x3] σ = kb (cal d mX1_give [.ref 48, .int x1, .int x0] σ) (fun rs σ2 => exec d mX1_give 128 [l0, l1, l2] (rs ++ [.int x3]) σ2)) ∧
  (∀ (d : Nat) (σ : Sg) (S : List Value) (l0 l1 l2 : Value) (x y : Int32), exec d mX1_give 128 [l0, l1, l2] (.int y :: .int x :: S) σ = exec d mX1_give 129 [l0, l1, l2] (.int (x - y) :: S) σ) ∧
  (∀ (d : Nat) (σ : Sg) (l0 l1 l2 : Value) (x : Int32), exec d mX1_give 129 [l0, l1, l2] [.int x] σ = some (some (.int x), σ)) ∧
  (∀ (d : Nat) (σ : Sg) (S : List Value) (l1 l2 : Value) (k : Nat), exec d mX1_give 130 [.ref k, l1, l2] S σ = exec d mX1_give 131 [.ref k, l1, l2] (.ref k :: S) σ) ∧
  (∀ (d : Nat) (σ : Sg) (S : List Value) (l0 l1 l2 : Value), exec d mX1_give 131 [l0, l1, l2] S σ = exec d mX1_give 133 [l0, l1, l2] (.int (nI 10) :: S) σ) :=
  ⟨fun d σ S l0 l1 x => ex_iload_n (show decode mX1_give.2.1 0 = .ok (.iload_n 2, 1) by decide +kernel) rfl,
  fun d σ S l0 l1 l2 => ex_bipush (show decode mX1_give.2.1 1 = .ok (.bipush 8, 2) by decide +kernel) (by decide +kernel),
  fun d σ S l0 l1 l2 x y => ex_cle (show decode mX1_give.2.1 3 = .ok (.if_icmp .le 6, 3) by decide +kernel) (by decide),
  fun d σ S l0 l1 l2 => ex_ldc (hh := 803) (show decode mX1_give.2.1 6 = .ok (.ldc 42, 2) by decide +kernel) (by decide +kernel),
  fun d σ l0 l1 l2 x => ex_iret (show decode mX1_give.2.1 8 = .ok (.ireturn, 1) by decide +kernel) rfl,
  fun d σ S l1 l2 k => ex_aload_n (show decode mX1_give.2.1 9 = .ok (.aload_n 0, 1) by decide +kernel) rfl,
  fun d σ S l0 l2 x => ex_iload_n (show decode mX1_give.2.1 10 = .ok (.iload_n 1, 1) by decide +kernel) rfl,
  fun d σ l0 l1 l2 x0 => ex_iv (hs := [804, 806, 52, 807, 100]) (show decode mX1_give.2.1 11 = .ok (.invokevirtual 43, 3) by decide +kernel) lkV_1_43 ⟨rfl, Nat.le_of_ble_eq_true rfl, Nat.le_of_ble_eq_true rfl, fun _ => rfl⟩ rfl rfl,
  fun d σ S l0 l2 x => ex_iload_n (show decode mX1_give.2.1 14 = .ok (.iload_n 1, 1) by decide +kernel) rfl,
  fun d σ S l0 l1 l2 x => ex_tsw (lo := 10) (df := 226) (ts := [88, 93, 118, 130, 143, 226, 226, 226, 226, 226, 155, 160, 175, 189, 214]) (show decode mX1_give.2.1 15 = .ok (.tableswitch 211 10 24 #[73, 78, 103, 115, 128, 211, 211, 211, 211, 211, 140, 145, 160, 174, 199], 73) by decide +kernel) (by decide) (by decide) (by decide) (by decide),
  fun d σ S l1 l2 k => ex_aload_n (show decode mX1_give.2.1 88 = .ok (.aload_n 0, 1) by decide +kernel) rfl,
  fun d σ S l0 l1 l2 => ex_get (idx := 39) (ci := 1) (ff := 5) (n := 6) (hh := 332) (by decide +kernel),
  fun d σ l0 l1 l2 x => ex_iret (show decode mX1_give.2.1 92 = .ok (.ireturn, 1) by decide +kernel) rfl,
  fun d σ S l1 l2 k => ex_aload_n (show decode mX1_give.2.1 93 = .ok (.aload_n 0, 1) by decide +kernel) rfl,
  fun d σ S l0 l1 l2 => ex_bipush (show decode mX1_give.2.1 94 = .ok (.bipush 10, 2) by decide +kernel) (by decide +kernel),
  fun d σ S l0 l1 x => ex_iload_n (show decode mX1_give.2.1 96 = .ok (.iload_n 2, 1) by decide +kernel) rfl,
  fun d σ S l0 l1 l2 => ex_iconst (show decode mX1_give.2.1 97 = .ok (.iconst 1, 1) by decide +kernel) (by decide +kernel),
  fun d σ S l0 l1 l2 x y => ex_iadd (show decode mX1_give.2.1 98 = .ok (.iadd, 1) by decide +kernel),
  fun d σ l0 l1 l2 x0 x1 => ex_iv (hs := [808, 801, 51, 802, 100]) (show decode mX1_give.2.1 99 = .ok (.invokevirtual 47, 3) by decide +kernel) lkV_1_47 ⟨rfl, Nat.le_of_ble_eq_true rfl, Nat.le_of_ble_eq_true rfl, fun _ => rfl⟩ rfl rfl,
  fun d σ S l1 l2 k => ex_aload_n (show decode mX1_give.2.1 102 = .ok (.aload_n 0, 1) by decide +kernel) rfl,
  fun d σ S l1 l2 k => ex_aload_n (show decode mX1_give.2.1 103 = .ok (.aload_n 0, 1) by decide +kernel) rfl,
  fun d σ S l0 l1 l2 => ex_get (idx := 27) (ci := 1) (ff := 3) (n := 6) (hh := 330) (by decide +kernel),
  fun d σ l0 l1 l2 x0 x2 => ex_is (hs := [809, 797, 798, 100]) (show decode mX1_give.2.1 107 = .ok (.invokestatic 51, 3) by decide +kernel) lkS_1_51 ⟨rfl, Nat.le_of_ble_eq_true rfl, Nat.le_of_ble_eq_true rfl, fun q => nomatch q⟩ rfl rfl,
  fun d σ S l0 l1 x => ex_iload_n (show decode mX1_give.2.1 110 = .ok (.iload_n 2, 1) by decide +kernel) rfl,
  fun d σ S l0 l1 l2 => ex_iconst (show decode mX1_give.2.1 111 = .ok (.iconst 1, 1) by decide +kernel) (by decide +kernel),
  fun d σ S l0 l1 l2 x y => ex_iadd (show decode mX1_give.2.1 112 = .ok (.iadd, 1) by decide +kernel),
  fun d σ l0 l1 l2 x0 x1 x3 => ex_iv (hs := [808, 801, 51, 802, 100]) (show decode mX1_give.2.1 113 = .ok (.invokevirtual 47, 3) by decide +kernel) lkV_1_47 ⟨rfl, Nat.le_of_ble_eq_true rfl, Nat.le_of_ble_eq_true rfl, fun _ => rfl⟩ rfl rfl,
  fun d σ S l0 l1 l2 x y => ex_iadd (show decode mX1_give.2.1 116 = .ok (.iadd, 1) by decide +kernel),
  fun d σ l0 l1 l2 x => ex_iret (show decode mX1_give.2.1 117 = .ok (.ireturn, 1) by decide +kernel) rfl,
  fun d σ S l0 l1 l2 => ex_iconst (show decode mX1_give.2.1 118 = .ok (.iconst 0, 1) by decide +kernel) (by decide +kernel),
  fun d σ S l1 l2 k => ex_aload_n (show decode mX1_give.2.1 119 = .ok (.aload_n 0, 1) by decide +kernel) rfl,
  fun d σ S l0 l1 l2 => ex_bipush (show decode mX1_give.2.1 120 = .ok (.bipush 11, 2) by decide +kernel) (by decide +kernel),
  fun d σ S l0 l1 x => ex_iload_n (show decode mX1_give.2.1 122 = .ok (.iload_n 2, 1) by decide +kernel) rfl,
  fun d σ S l0 l1 l2 => ex_iconst (show decode mX1_give.2.1 123 = .ok (.iconst 1, 1) by decide +kernel) (by decide +kernel),
  fun d σ S l0 l1 l2 x y => ex_iadd (show decode mX1_give.2.1 124 = .ok (.iadd, 1) by decide +kernel),
  fun d σ l0 l1 l2 x0 x1 x3 => ex_iv (hs := [808, 801, 51, 802, 100]) (show decode mX1_give.2.1 125 = .ok (.invokevirtual 47, 3) by decide +kernel) lkV_1_47 ⟨rfl, Nat.le_of_ble_eq_true rfl, Nat.le_of_ble_eq_true rfl, fun _ => rfl⟩ rfl rfl,
  fun d σ S l0 l1 l2 x y => ex_isub (show decode mX1_give.2.1 128 = .ok (.isub, 1) by decide +kernel),
  fun d σ l0 l1 l2 x => ex_iret (show decode mX1_give.2.1 129 = .ok (.ireturn, 1) by decide +kernel) rfl,
  fun d σ S l1 l2 k => ex_aload_n (show decode mX1_give.2.1 130 = .ok (.aload_n 0, 1) by decide +kernel) rfl,
  fun d σ S l0 l1 l2 => ex_bipush (show decode mX1_give.2.1 131 = .ok (.bipush 10, 2) by decide +kernel) (by decide +kernel)⟩
theorem kX1_give_1 : (∀ (d : Nat) (σ : Sg) (S : List Value) (l0 l1 : Value) (x : Int32), exec d mX1_give 133 [l0, l1, .int x] S σ = exec d mX1_give 134 [l0, l1, .int x] (.int x :: S) σ) ∧
  (∀ (d : Nat) (σ : Sg) (S : List Value) (l0 l1 l2 : Value), exec d mX1_give 134 [l0, l1, l2] S σ = exec d mX1_give 135 [l0, l1, l2] (.int (nI 1) :: S) σ) ∧
  (∀ (d : Nat) (σ : Sg) (S : List Value) (l0 l1 l2 : Value) (x y : Int32), exec d mX1_give 135 [l0, l1, l2] (.int y :: .int x :: S) σ = exec d mX1_give 136 [l0, l1, l2] (.int (x + y) :: S) σ) ∧
  (∀ (d : Nat) (σ : Sg) (l0 l1 l2 : Value) (x0 x1 : Int32), exec d mX1_give 136 [l0, l1, l2] [.int x0, .int x1, .ref 48] σ = kb (cal d mX1_give [.ref 48, .int x1, .int x0] σ) (fun rs σ2 => exec d mX1_give 139 [l0, l1, l2] (rs ++ []) σ2)) ∧
  (∀ (d : Nat) (σ : Sg) (S : List Value) (l0 l1 l2 : Value), exec d mX1_give 139 [l0, l1, l2] S σ = exec d mX1_give 141 [l0, l1, l2] (.int (nI 100) :: S) σ) ∧
  (∀ (d : Nat) (σ : Sg) (S : List Value) (l0 l1 l2 : Value) (x y : Int32), exec d mX1_give 141 [l0, l1, l2] (.int y :: .int x :: S) σ = exec d mX1_give 142 [l0, l1, l2] (.int (x - y) :: S) σ) ∧
  (∀ (d : Nat) (σ : Sg) (l0 l1 l2 : Value) (x : Int32), exec d mX1_give 142 [l0, l1, l2] [.int x] σ = some (some (.int x), σ)) ∧
  (∀ (d : Nat) (σ : Sg) (S : List Value) (l0 l1 l2 : Value), exec d mX1_give 143 [l0, l1, l2] S σ = exec d mX1_give 144 [l0, l1, l2] (.int (nI 2) :: S) σ) ∧
  (∀ (d : Nat) (σ : Sg) (S : List Value) (l1 l2 : Value) (k : Nat), exec d mX1_give 144 [.ref k, l1, l2] S σ = exec d mX1_give 145 [.ref k, l1, l2] (.ref k :: S) σ) ∧
  (∀ (d : Nat) (σ : Sg) (S : List Value) (l0 l1 l2 : Value), exec d mX1_give 145 [l0, l1, l2] S σ = exec d mX1_give 147 [l0, l1, l2] (.int (nI 13) :: S) σ) ∧
  (∀ (d : Nat) (σ : Sg) (S : List Value) (l0 l1 : Value) (x : Int32), exec d mX1_give 147 [l0, l1, .int x] S σ = exec d mX1_give 148 [l0, l1, .int x] (.int x :: S) σ) ∧
  (∀ (d : Nat) (σ : Sg) (S : List Value) (l0 l1 l2 : Value), exec d mX1_give 148 [l0, l1, l2] S σ = exec d mX1_give 149 [l0, l1, l2] (.int (nI 1) :: S) σ) ∧
  (∀ (d : Nat) (σ : Sg) (S : List Value) (l0 l1 l2 : Value) (x y : Int32), exec d mX1_give 149 [l0, l1, l2] (.int y :: .int x :: S) σ = exec d mX1_give 150 [l0, l1, l2] (.int (x + y) :: S) σ) ∧
  (∀ (d : Nat) (σ : Sg) (l0 l1 l2 : Value) (x0 x1 x3 : Int32), exec d mX1_give 150 [l0, l1, l2] [.int x0, .int x1, .ref 48, .int x3] σ = kb (cal d mX1_give [.ref 48, .int x1, .int x0] σ) (fun rs σ2 => exec d mX1_give 153 [l0, l1, l2] (rs ++ [.int x3]) σ2)) ∧
  (∀ (d : Nat) (σ : Sg) (S : List Value) (l0 l1 l2 : Value) (x y : Int32), exec d mX1_give 153 [l0, l1, l2] (.int y :: .int x :: S) σ = exec d mX1_give 154 [l0, l1, l2] (.int (x * y) :: S) σ) ∧
  (∀ (d : Nat) (σ : Sg) (l0 l1 l2 : Value) (x : Int32), exec d mX1_give 154 [l0, l1, l2] [.int x] σ = some (some (.int x), σ)) ∧
  (∀ (d : Nat) (σ : Sg) (S : List Value) (l1 l2 : Value) (k : Nat), exec d mX1_give 155 [.ref k, l1, l2] S σ = exec d mX1_give 156 [.ref k, l1, l2] (.ref k :: S) σ) ∧
  (∀ (d : Nat) (σ : Sg) (S : List Value) (l0 l1 l2 : Value), exec d mX1_give 156 [l0, l1, l2] (.ref 48 :: S) σ = exec d mX1_give 159 [l0, l1, l2] (.int (σ 48 2) :: S) σ) ∧
  (∀ (d : Nat) (σ : Sg) (l0 l1 l2 : Value) (x : Int32), exec d mX1_give 159 [l0, l1, l2] [.int x] σ = some (some (.int x), σ)) ∧
  (∀ (d : Nat) (σ : Sg) (S : List Value) (l1 l2 : Value) (k : Nat), exec d mX1_give 160 [.ref k, l1, l2] S σ = exec d mX1_give 161 [.ref k, l1, l2] (.ref k :: S) σ) ∧
  (∀ (d : Nat) (σ : Sg) (S : List Value) (l0 l1 l2 : Value), exec d mX1_give 161 [l0, l1, l2] S σ = exec d mX1_give 163 [l0, l1, l2] (.int (nI 20) :: S) σ) ∧
  (∀ (d : Nat) (σ : Sg) (S : List Value) (l0 l1 : Value) (x : Int32), exec d mX1_give 163 [l0, l1, .int x] S σ = exec d mX1_give 164 [l0, l1, .int x] (.int x :: S) σ) ∧
  (∀ (d : Nat) (σ : Sg) (S : List Value) (l0 l1 l2 : Value), exec d mX1_give 164 [l0, l1, l2] S σ = exec d mX1_give 165 [l0, l1, l2] (.int (nI 1) :: S) σ) ∧
  (∀ (d : Nat) (σ : Sg) (S : List Value) (l0 l1 l2 : Value) (x y : Int32), exec d mX1_give 165 [l0, l1, l2] (.int y :: .int x :: S) σ = exec d mX1_give 166 [l0, l1, l2] (.int (x + y) :: S) σ) ∧
  (∀ (d : Nat) (σ : Sg) (l0 l1 l2 : Value) (x0 x1 : Int32), exec d mX1_give 166 [l0, l1, l2] [.int x0, .int x1, .ref 48] σ = kb (cal d mX1_give [.ref 48, .int x1, .int x0] σ) (fun rs σ2 => exec d mX1_give 169 [l0, l1, l2] (rs ++ []) σ2)) ∧
  (∀ (d : Nat) (σ : Sg) (S : List Value) (l1 l2 : Value) (k : Nat), exec d mX1_give 169 [.ref k, l1, l2] S σ = exec d mX1_give 170 [.ref k, l1, l2] (.ref k :: S) σ) ∧
  (∀ (d : Nat) (σ : Sg) (S : List Value) (l0 l1 l2 : Value), exec d mX1_give 170 [l0, l1, l2] (.ref 48 :: S) σ = exec d mX1_give 173 [l0, l1, l2] (.int (σ 48 4) :: S) σ) ∧
  (∀ (d : Nat) (σ : Sg) (S : List Value) (l0 l1 l2 : Value) (x y : Int32), exec d mX1_give 173 [l0, l1, l2] (.int y :: .int x :: S) σ = exec d mX1_give 174 [l0, l1, l2] (.int (x + y) :: S) σ) ∧
  (∀ (d : Nat) (σ : Sg) (l0 l1 l2 : Value) (x : Int32), exec d mX1_give 174 [l0, l1, l2] [.int x] σ = some (some (.int x), σ)) ∧
  (∀ (d : Nat) (σ : Sg) (S : List Value) (l1 l2 : Value) (k : Nat), exec d mX1_give 175 [.ref k, l1, l2] S σ = exec d mX1_give 176 [.ref k, l1, l2] (.ref k :: S) σ) ∧
  (∀ (d : Nat) (σ : Sg) (S : List Value) (l0 l1 l2 : Value), exec d mX1_give 176 [l0, l1, l2] S σ = exec d mX1_give 178 [l0, l1, l2] (.int (nI 21) :: S) σ) ∧
  (∀ (d : Nat) (σ : Sg) (S : List Value) (l0 l1 : Value) (x : Int32), exec d mX1_give 178 [l0, l1, .int x] S σ = exec d mX1_give 179 [l0, l1, .int x] (.int x :: S) σ) ∧
  (∀ (d : Nat) (σ : Sg) (S : List Value) (l0 l1 l2 : Value), exec d mX1_give 179 [l0, l1, l2] S σ = exec d mX1_give 180 [l0, l1, l2] (.int (nI 1) :: S) σ) ∧
  (∀ (d : Nat) (σ : Sg) (S : List Value) (l0 l1 l2 : Value) (x y : Int32), exec d mX1_give 180 [l0, l1, l2] (.int y :: .int x :: S) σ = exec d mX1_give 181 [l0, l1, l2] (.int (x + y) :: S) σ) ∧
  (∀ (d : Nat) (σ : Sg) (l0 l1 l2 : Value) (x0 x1 : Int32), exec d mX1_give 181 [l0, l1, l2] [.int x0, .int x1, .ref 48] σ = kb (cal d mX1_give [.ref 48, .int x1, .int x0] σ) (fun rs σ2 => exec d mX1_give 184 [l0, l1, l2] (rs ++ []) σ2)) ∧
  (∀ (d : Nat) (σ : Sg) (S : List Value) (l0 l1 l2 : Value), exec d mX1_give 184 [l0, l1, l2] S σ = exec d mX1_give 187 [l0, l1, l2] (.int (nI 1000) :: S) σ) ∧
  (∀ (d : Nat) (σ : Sg) (S : List Value) (l0 l1 l2 : Value) (x y : Int32), exec d mX1_give 187 [l0, l1, l2] (.int y :: .int x :: S) σ = exec d mX1_give 188 [l0, l1, l2] (.int (x - y) :: S) σ) ∧
  (∀ (d : Nat) (σ : Sg) (l0 l1 l2 : Value) (x : Int32), exec d mX1_give 188 [l0, l1, l2] [.int x] σ = some (some (.int x), σ)) ∧
  (∀ (d : Nat) (σ : Sg) (S : List Value) (l1 l2 : Value) (k : Nat), exec d mX1_give 189 [.ref k, l1, l2] S σ = exec d mX1_give 190 [.ref k, l1, l2] (.ref k :: S) σ) ∧
  (∀ (d : Nat) (σ : Sg) (S : List Value) (l0 l1 l2 : Value), exec d mX1_give 190 [l0, l1, l2] S σ = exec d mX1_give 192 [l0, l1, l2] (.int (nI 20) :: S) σ) :=
  ⟨fun d σ S l0 l1 x => ex_iload_n (show decode mX1_give.2.1 133 = .ok (.iload_n 2, 1) by decide +kernel) rfl,
  fun d σ S l0 l1 l2 => ex_iconst (show decode mX1_give.2.1 134 = .ok (.iconst 1, 1) by decide +kernel) (by decide +kernel),
  fun d σ S l0 l1 l2 x y => ex_iadd (show decode mX1_give.2.1 135 = .ok (.iadd, 1) by decide +kernel),
  fun d σ l0 l1 l2 x0 x1 => ex_iv (hs := [808, 801, 51, 802, 100]) (show decode mX1_give.2.1 136 = .ok (.invokevirtual 47, 3) by decide +kernel) lkV_1_47 ⟨rfl, Nat.le_of_ble_eq_true rfl, Nat.le_of_ble_eq_true rfl, fun _ => rfl⟩ rfl rfl,
  fun d σ S l0 l1 l2 => ex_bipush (show decode mX1_give.2.1 139 = .ok (.bipush 100, 2) by decide +kernel) (by decide +kernel),
  fun d σ S l0 l1 l2 x y => ex_isub (show decode mX1_give.2.1 141 = .ok (.isub, 1) by decide +kernel),
  fun d σ l0 l1 l2 x => ex_iret (show decode mX1_give.2.1 142 = .ok (.ireturn, 1) by decide +kernel) rfl,
  fun d σ S l0 l1 l2 => ex_iconst (show decode mX1_give.2.1 143 = .ok (.iconst 2, 1) by decide +kernel) (by decide +kernel),
  fun d σ S l1 l2 k => ex_aload_n (show decode mX1_give.2.1 144 = .ok (.aload_n 0, 1) by decide +kernel) rfl,
  fun d σ S l0 l1 l2 => ex_bipush (show decode mX1_give.2.1 145 = .ok (.bipush 13, 2) by decide +kernel) (by decide +kernel),
  fun d σ S l0 l1 x => ex_iload_n (show decode mX1_give.2.1 147 = .ok (.iload_n 2, 1) by decide +kernel) rfl,
  fun d σ S l0 l1 l2 => ex_iconst (show decode mX1_give.2.1 148 = .ok (.iconst 1, 1) by decide +kernel) (by decide +kernel),
  fun d σ S l0 l1 l2 x y => ex_iadd (show decode mX1_give.2.1 149 = .ok (.iadd, 1) by decide +kernel),
  fun d σ l0 l1 l2 x0 x1 x3 => ex_iv (hs := [808, 801, 51, 802, 100]) (show decode mX1_give.2.1 150 = .ok (.invokevirtual 47, 3) by decide +kernel) lkV_1_47 ⟨rfl, Nat.le_of_ble_eq_true rfl, Nat.le_of_ble_eq_true rfl, fun _ => rfl⟩ rfl rfl,
  fun d σ S l0 l1 l2 x y => ex_imul (show decode mX1_give.2.1 153 = .ok (.imul, 1) by decide +kernel),
  fun d σ l0 l1 l2 x => ex_iret (show decode mX1_give.2.1 154 = .ok (.ireturn, 1) by decide +kernel) rfl,
  fun d σ S l1 l2 k => ex_aload_n (show decode mX1_give.2.1 155 = .ok (.aload_n 0, 1) by decide +kernel) rfl,
  fun d σ S l0 l1 l2 => ex_get (idx := 19) (ci := 1) (ff := 2) (n := 6) (hh := 329) (by decide +kernel),
  fun d σ l0 l1 l2 x => ex_iret (show decode mX1_give.2.1 159 = .ok (.ireturn, 1) by decide +kernel) rfl,
  fun d σ S l1 l2 k => ex_aload_n (show decode mX1_give.2.1 160 = .ok (.aload_n 0, 1) by decide +kernel) rfl,
  fun d σ S l0 l1 l2 => ex_bipush (show decode mX1_give.2.1 161 = .ok (.bipush 20, 2) by decide +kernel) (by decide +kernel),
  fun d σ S l0 l1 x => ex_iload_n (show decode mX1_give.2.1 163 = .ok (.iload_n 2, 1) by decide +kernel) rfl,
  fun d σ S l0 l1 l2 => ex_iconst (show decode mX1_give.2.1 164 = .ok (.iconst 1, 1) by decide +kernel) (by decide +kernel),
  fun d σ S l0 l1 l2 x y => ex_iadd (show decode mX1_give.2.1 165 = .ok (.iadd, 1) by decide +kernel),
  fun d σ l0 l1 l2 x0 x1 => ex_iv (hs := [808, 801, 51, 802, 100]) (show decode mX1_give.2.1 166 = .ok (.invokevirtual 47, 3) by decide +kernel) lkV_1_47 ⟨rfl, Nat.le_of_ble_eq_true rfl, Nat.le_of_ble_eq_true rfl, fun _ => rfl⟩ rfl rfl,
  fun d σ S l1 l2 k => ex_aload_n (show decode mX1_give.2.1 169 = .ok (.aload_n 0, 1) by decide +kernel) rfl,
  fun d σ S l0 l1 l2 => ex_get (idx := 33) (ci := 1) (ff := 4) (n := 6) (hh := 331) (by decide +kernel),
  fun d σ S l0 l1 l2 x y => ex_iadd (show decode mX1_give.2.1 173 = .ok (.iadd, 1) by decide +kernel),
  fun d σ l0 l1 l2 x => ex_iret (show decode mX1_give.2.1 174 = .ok (.ireturn, 1) by decide +kernel) rfl,
  fun d σ S l1 l2 k => ex_aload_n (show decode mX1_give.2.1 175 = .ok (.aload_n 0, 1) by decide +kernel) rfl,
  fun d σ S l0 l1 l2 => ex_bipush (show decode mX1_give.2.1 176 = .ok (.bipush 21, 2) by decide +kernel) (by decide +kernel),
  fun d σ S l0 l1 x => ex_iload_n (show decode mX1_give.2.1 178 = .ok (.iload_n 2, 1) by decide +kernel) rfl,
  fun d σ S l0 l1 l2 => ex_iconst (show decode mX1_give.2.1 179 = .ok (.iconst 1, 1) by decide +kernel) (by decide +kernel),
  fun d σ S l0 l1 l2 x y => ex_iadd (show decode mX1_give.2.1 180 = .ok (.iadd, 1) by decide +kernel),
  fun d σ l0 l1 l2 x0 x1 => ex_iv (hs := [808, 801, 51, 802, 100]) (show decode mX1_give.2.1 181 = .ok (.invokevirtual 47, 3) by decide +kernel) lkV_1_47 ⟨rfl, Nat.le_of_ble_eq_true rfl, Nat.le_of_ble_eq_true rfl, fun _ => rfl⟩ rfl rfl,
  fun d σ S l0 l1 l2 => ex_sipush (show decode mX1_give.2.1 184 = .ok (.sipush 1000, 3) by decide +kernel) (by decide +kernel),
  fun d σ S l0 l1 l2 x y => ex_isub (show decode mX1_give.2.1 187 = .ok (.isub, 1) by decide +kernel),
  fun d σ l0 l1 l2 x => ex_iret (show decode mX1_give.2.1 188 = .ok (.ireturn, 1) by decide +kernel) rfl,
  fun d σ S l1 l2 k => ex_aload_n (show decode mX1_give.2.1 189 = .ok (.aload_n 0, 1) by decide +kernel) rfl,
  fun d σ S l0 l1 l2 => ex_bipush (show decode mX1_give.2.1 190 = .ok (.bipush 20, 2) by decide +kernel) (by decide +kernel)⟩
theorem kX1_give_2 : (∀ (d : Nat) (σ : Sg) (S : List Value) (l0 l1 : Value) (x : Int32), exec d mX1_give 192 [l0, l1, .int x] S σ = exec d mX1_give 193 [l0, l1, .int x] (.int x :: S) σ) ∧
  (∀ (d : Nat) (σ : Sg) (S : List Value) (l0 l1 l2 : Value), exec d mX1_give 193 [l0, l1, l2] S σ = exec d mX1_give 194 [l0, l1, l2] (.int (nI 1) :: S) σ) ∧
  (∀ (d : Nat) (σ : Sg) (S : List Value) (l0 l1 l2 : Value) (x y : Int32), exec d mX1_give 194 [l0, l1, l2] (.int y :: .int x :: S) σ = exec d mX1_give 195 [l0, l1, l2] (.int (x + y) :: S) σ) ∧
  (∀ (d : Nat) (σ : Sg) (l0 l1 l2 : Value) (x0 x1 : Int32), exec d mX1_give 195 [l0, l1, l2] [.int x0, .int x1, .ref 48] σ = kb (cal d mX1_give [.ref 48, .int x1, .int x0] σ) (fun rs σ2 => exec d mX1_give 198 [l0, l1, l2] (rs ++ []) σ2)) ∧
  (∀ (d : Nat) (σ : Sg) (S : List Value) (l1 l2 : Value) (k : Nat), exec d mX1_give 198 [.ref k, l1, l2] S σ = exec d mX1_give 199 [.ref k, l1, l2] (.ref k :: S) σ) ∧
  (∀ (d : Nat) (σ : Sg) (S : List Value) (l1 l2 : Value) (k : Nat), exec d mX1_give 199 [.ref k, l1, l2] S σ = exec d mX1_give 200 [.ref k, l1, l2] (.ref k :: S) σ) ∧
  (∀ (d : Nat) (σ : Sg) (S : List Value) (l0 l1 l2 : Value), exec d mX1_give 200 [l0, l1, l2] (.ref 48 :: S) σ = exec d mX1_give 203 [l0, l1, l2] (.int (σ 48 3) :: S) σ) ∧
  (∀ (d : Nat) (σ : Sg) (l0 l1 l2 : Value) (x0 x2 : Int32), exec d mX1_give 203 [l0, l1, l2] [.int x0, .ref 48, .int x2] σ = kb (cal d mX1_ofSize [.int x0] σ) (fun rs σ2 => exec d mX1_give 206 [l0, l1, l2] (rs ++ [.ref 48, .int x2]) σ2)) ∧
  (∀ (d : Nat) (σ : Sg) (S : List Value) (l0 l1 : Value) (x : Int32), exec d mX1_give 206 [l0, l1, .int x] S σ = exec d mX1_give 207 [l0, l1, .int x] (.int x :: S) σ) ∧
  (∀ (d : Nat) (σ : Sg) (S : List Value) (l0 l1 l2 : Value), exec d mX1_give 207 [l0, l1, l2] S σ = exec d mX1_give 208 [l0, l1, l2] (.int (nI 1) :: S) σ) ∧
  (∀ (d : Nat) (σ : Sg) (S : List Value) (l0 l1 l2 : Value) (x y : Int32), exec d mX1_give 208 [l0, l1, l2] (.int y :: .int x :: S) σ = exec d mX1_give 209 [l0, l1, l2] (.int (x + y) :: S) σ) ∧
  (∀ (d : Nat) (σ : Sg) (l0 l1 l2 : Value) (x0 x1 x3 : Int32), exec d mX1_give 209 [l0, l1, l2] [.int x0, .int x1, .ref 48, .int x3] σ = kb (cal d mX1_give [.ref 48, .int x1, .int x0] σ) (fun rs σ2 => exec d mX1_give 212 [l0, l1, l2] (rs ++ [.int x3]) σ2)) ∧
  (∀ (d : Nat) (σ : Sg) (S : List Value) (l0 l1 l2 : Value) (x y : Int32), exec d mX1_give 212 [l0, l1, l2] (.int y :: .int x :: S) σ = exec d mX1_give 213 [l0, l1, l2] (.int (x - y) :: S) σ) ∧
  (∀ (d : Nat) (σ : Sg) (l0 l1 l2 : Value) (x : Int32), exec d mX1_give 213 [l0, l1, l2] [.int x] σ = some (some (.int x), σ)) ∧
  (∀ (d : Nat) (σ : Sg) (S : List Value) (l0 l1 l2 : Value), exec d mX1_give 214 [l0, l1, l2] S σ = exec d mX1_give 215 [l0, l1, l2] (.int (nI 2) :: S) σ) ∧
  (∀ (d : Nat) (σ : Sg) (S : List Value) (l1 l2 : Value) (k : Nat), exec d mX1_give 215 [.ref k, l1, l2] S σ = exec d mX1_give 216 [.ref k, l1, l2] (.ref k :: S) σ) ∧
  (∀ (d : Nat) (σ : Sg) (S : List Value) (l0 l1 l2 : Value), exec d mX1_give 216 [l0, l1, l2] S σ = exec d mX1_give 218 [l0, l1, l2] (.int (nI 21) :: S) σ) ∧
  (∀ (d : Nat) (σ : Sg) (S : List Value) (l0 l1 : Value) (x : Int32), exec d mX1_give 218 [l0, l1, .int x] S σ = exec d mX1_give 219 [l0, l1, .int x] (.int x :: S) σ) ∧
  (∀ (d : Nat) (σ : Sg) (S : List Value) (l0 l1 l2 : Value), exec d mX1_give 219 [l0, l1, l2] S σ = exec d mX1_give 220 [l0, l1, l2] (.int (nI 1) :: S) σ) ∧
  (∀ (d : Nat) (σ : Sg) (S : List Value) (l0 l1 l2 : Value) (x y : Int32), exec d mX1_give 220 [l0, l1, l2] (.int y :: .int x :: S) σ = exec d mX1_give 221 [l0, l1, l2] (.int (x + y) :: S) σ) ∧
  (∀ (d : Nat) (σ : Sg) (l0 l1 l2 : Value) (x0 x1 x3 : Int32), exec d mX1_give 221 [l0, l1, l2] [.int x0, .int x1, .ref 48, .int x3] σ = kb (cal d mX1_give [.ref 48, .int x1, .int x0] σ) (fun rs σ2 => exec d mX1_give 224 [l0, l1, l2] (rs ++ [.int x3]) σ2)) ∧
  (∀ (d : Nat) (σ : Sg) (S : List Value) (l0 l1 l2 : Value) (x y : Int32), exec d mX1_give 224 [l0, l1, l2] (.int y :: .int x :: S) σ = exec d mX1_give 225 [l0, l1, l2] (.int (x * y) :: S) σ) ∧
  (∀ (d : Nat) (σ : Sg) (l0 l1 l2 : Value) (x : Int32), exec d mX1_give 225 [l0, l1, l2] [.int x] σ = some (some (.int x), σ)) ∧
  (∀ (d : Nat) (σ : Sg) (S : List Value) (l0 l1 l2 : Value), exec d mX1_give 226 [l0, l1, l2] S σ = exec d mX1_give 228 [l0, l1, l2] (.int ((-1000000)) :: S) σ) ∧
  (∀ (d : Nat) (σ : Sg) (l0 l1 l2 : Value) (x : Int32), exec d mX1_give 228 [l0, l1, l2] [.int x] σ = some (some (.int x), σ)) :=
  ⟨fun d σ S l0 l1 x => ex_iload_n (show decode mX1_give.2.1 192 = .ok (.iload_n 2, 1) by decide +kernel) rfl,
  fun d σ S l0 l1 l2 => ex_iconst (show decode mX1_give.2.1 193 = .ok (.iconst 1, 1) by decide +kernel) (by decide +kernel),
  fun d σ S l0 l1 l2 x y => ex_iadd (show decode mX1_give.2.1 194 = .ok (.iadd, 1) by decide +kernel),
  fun d σ l0 l1 l2 x0 x1 => ex_iv (hs := [808, 801, 51, 802, 100]) (show decode mX1_give.2.1 195 = .ok (.invokevirtual 47, 3) by decide +kernel) lkV_1_47 ⟨rfl, Nat.le_of_ble_eq_true rfl, Nat.le_of_ble_eq_true rfl, fun _ => rfl⟩ rfl rfl,
  fun d σ S l1 l2 k => ex_aload_n (show decode mX1_give.2.1 198 = .ok (.aload_n 0, 1) by decide +kernel) rfl,
  fun d σ S l1 l2 k => ex_aload_n (show decode mX1_give.2.1 199 = .ok (.aload_n 0, 1) by decide +kernel) rfl,
  fun d σ S l0 l1 l2 => ex_get (idx := 27) (ci := 1) (ff := 3) (n := 6) (hh := 330) (by decide +kernel),
  fun d σ l0 l1 l2 x0 x2 => ex_is (hs := [810, 794, 795, 100]) (show decode mX1_give.2.1 203 = .ok (.invokestatic 55, 3) by decide +kernel) lkS_1_55 ⟨rfl, Nat.le_of_ble_eq_true rfl, Nat.le_of_ble_eq_true rfl, fun q => nomatch q⟩ rfl rfl,
  fun d σ S l0 l1 x => ex_iload_n (show decode mX1_give.2.1 206 = .ok (.iload_n 2, 1) by decide +kernel) rfl,
  fun d σ S l0 l1 l2 => ex_iconst (show decode mX1_give.2.1 207 = .ok (.iconst 1, 1) by decide +kernel) (by decide +kernel),
  fun d σ S l0 l1 l2 x y => ex_iadd (show decode mX1_give.2.1 208 = .ok (.iadd, 1) by decide +kernel),
  fun d σ l0 l1 l2 x0 x1 x3 => ex_iv (hs := [808, 801, 51, 802, 100]) (show decode mX1_give.2.1 209 = .ok (.invokevirtual 47, 3) by decide +kernel) lkV_1_47 ⟨rfl, Nat.le_of_ble_eq_true rfl, Nat.le_of_ble_eq_true rfl, fun _ => rfl⟩ rfl rfl,
  fun d σ S l0 l1 l2 x y => ex_isub (show decode mX1_give.2.1 212 = .ok (.isub, 1) by decide +kernel),
  fun d σ l0 l1 l2 x => ex_iret (show decode mX1_give.2.1 213 = .ok (.ireturn, 1) by decide +kernel) rfl,
  fun d σ S l0 l1 l2 => ex_iconst (show decode mX1_give.2.1 214 = .ok (.iconst 2, 1) by decide +kernel) (by decide +kernel),
  fun d σ S l1 l2 k => ex_aload_n (show decode mX1_give.2.1 215 = .ok (.aload_n 0, 1) by decide +kernel) rfl,
  fun d σ S l0 l1 l2 => ex_bipush (show decode mX1_give.2.1 216 = .ok (.bipush 21, 2) by decide +kernel) (by decide +kernel),
  fun d σ S l0 l1 x => ex_iload_n (show decode mX1_give.2.1 218 = .ok (.iload_n 2, 1) by decide +kernel) rfl,
  fun d σ S l0 l1 l2 => ex_iconst (show decode mX1_give.2.1 219 = .ok (.iconst 1, 1) by decide +kernel) (by decide +kernel),
  fun d σ S l0 l1 l2 x y => ex_iadd (show decode mX1_give.2.1 220 = .ok (.iadd, 1) by decide +kernel),
  fun d σ l0 l1 l2 x0 x1 x3 => ex_iv (hs := [808, 801, 51, 802, 100]) (show decode mX1_give.2.1 221 = .ok (.invokevirtual 47, 3) by decide +kernel) lkV_1_47 ⟨rfl, Nat.le_of_ble_eq_true rfl, Nat.le_of_ble_eq_true rfl, fun _ => rfl⟩ rfl rfl,
  fun d σ S l0 l1 l2 x y => ex_imul (show decode mX1_give.2.1 224 = .ok (.imul, 1) by decide +kernel),
  fun d σ l0 l1 l2 x => ex_iret (show decode mX1_give.2.1 225 = .ok (.ireturn, 1) by decide +kernel) rfl,
  fun d σ S l0 l1 l2 => ex_ldc (hh := 803) (show decode mX1_give.2.1 226 = .ok (.ldc 42, 2) by decide +kernel) (by decide +kernel),
  fun d σ l0 l1 l2 x => ex_iret (show decode mX1_give.2.1 228 = .ok (.ireturn, 1) by decide +kernel) rfl⟩
theorem aX1_give_48 : ∀ (d : Nat) (a1 : Int32) (a2 : Int32) (σ : Sg), cal (d + 1) mX1_give [.ref 48, .int a1, .int a2] σ = exec d mX1_give 0 [.ref 48, .int a1, .int a2] [] σ := fun _ _ _ _ => rfl
