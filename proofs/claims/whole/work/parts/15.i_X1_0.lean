/-! generated: the instructions of GuildPiece$Bodies -/
theorem kX1_takeUp : (∀ (d : Nat) (σ : Sg) (S : List Value) (l1 l2 : Value) (k : Nat), exec d mX1_takeUp 0 [.ref k, l1, l2] S σ = exec d mX1_takeUp 1 [.ref k, l1, l2] (.ref k :: S) σ) ∧
  (∀ (d : Nat) (σ : Sg) (S : List Value) (l0 l1 l2 : Value), exec d mX1_takeUp 1 [l0, l1, l2] S σ = exec d mX1_takeUp 2 [l0, l1, l2] (.int (nI 0) :: S) σ) ∧
  (∀ (d : Nat) (σ : Sg) (S : List Value) (l0 l1 l2 : Value) (x : Int32), exec d mX1_takeUp 2 [l0, l1, l2] (.int x :: .ref 48 :: S) σ = exec d mX1_takeUp 5 [l0, l1, l2] S (up σ 48 1 x)) ∧
  (∀ (d : Nat) (σ : Sg) (S : List Value) (l1 l2 : Value) (k : Nat), exec d mX1_takeUp 5 [.ref k, l1, l2] S σ = exec d mX1_takeUp 6 [.ref k, l1, l2] (.ref k :: S) σ) ∧
  (∀ (d : Nat) (σ : Sg) (S : List Value) (l0 l1 : Value) (x : Int32), exec d mX1_takeUp 6 [l0, l1, .int x] S σ = exec d mX1_takeUp 7 [l0, l1, .int x] (.int x :: S) σ) ∧
  (∀ (d : Nat) (σ : Sg) (S : List Value) (l0 l1 l2 : Value) (x : Int32), exec d mX1_takeUp 7 [l0, l1, l2] (.int x :: .ref 48 :: S) σ = exec d mX1_takeUp 10 [l0, l1, l2] S (up σ 48 2 x)) ∧
  (∀ (d : Nat) (σ : Sg) (S : List Value) (l1 l2 : Value) (k : Nat), exec d mX1_takeUp 10 [.ref k, l1, l2] S σ = exec d mX1_takeUp 11 [.ref k, l1, l2] (.ref k :: S) σ) ∧
  (∀ (d : Nat) (σ : Sg) (S : List Value) (l0 l2 : Value) (k : Nat), exec d mX1_takeUp 11 [l0, .ref k, l2] S σ = exec d mX1_takeUp 12 [l0, .ref k, l2] (.ref k :: S) σ) ∧
  (∀ (d : Nat) (σ : Sg) (S : List Value) (l0 l1 l2 : Value), exec d mX1_takeUp 12 [l0, l1, l2] (.ref 8 :: S) σ = exec d mX1_takeUp 15 [l0, l1, l2] (.ref 9 :: S) σ) ∧
  (∀ (d : Nat) (σ : Sg) (S : List Value) (l0 l1 : Value) (x : Int32), exec d mX1_takeUp 15 [l0, l1, .int x] S σ = exec d mX1_takeUp 16 [l0, l1, .int x] (.int x :: S) σ) ∧
  (∀ (d : Nat) (σ : Sg) (S : List Value) (l0 l1 l2 : Value) (x : Int32), exec d mX1_takeUp 16 [l0, l1, l2] (.int x :: .ref 9 :: S) σ = if inb x 7 = true then exec d mX1_takeUp 17 [l0, l1, l2] (.int (σ 9 x.toNatClampNeg) :: S) σ else none) ∧
  (∀ (d : Nat) (σ : Sg) (S : List Value) (l0 l1 l2 : Value) (x : Int32), exec d mX1_takeUp 17 [l0, l1, l2] (.int x :: .ref 48 :: S) σ = exec d mX1_takeUp 20 [l0, l1, l2] S (up σ 48 3 x)) ∧
  (∀ (d : Nat) (σ : Sg) (S : List Value) (l1 l2 : Value) (k : Nat), exec d mX1_takeUp 20 [.ref k, l1, l2] S σ = exec d mX1_takeUp 21 [.ref k, l1, l2] (.ref k :: S) σ) ∧
  (∀ (d : Nat) (σ : Sg) (S : List Value) (l0 l2 : Value) (k : Nat), exec d mX1_takeUp 21 [l0, .ref k, l2] S σ = exec d mX1_takeUp 22 [l0, .ref k, l2] (.ref k :: S) σ) ∧
  (∀ (d : Nat) (σ : Sg) (S : List Value) (l0 l1 l2 : Value), exec d mX1_takeUp 22 [l0, l1, l2] (.ref 8 :: S) σ = exec d mX1_takeUp 25 [l0, l1, l2] (.ref 10 :: S) σ) ∧
  (∀ (d : Nat) (σ : Sg) (S : List Value) (l0 l1 : Value) (x : Int32), exec d mX1_takeUp 25 [l0, l1, .int x] S σ = exec d mX1_takeUp 26 [l0, l1, .int x] (.int x :: S) σ) ∧
  (∀ (d : Nat) (σ : Sg) (S : List Value) (l0 l1 l2 : Value) (x : Int32), exec d mX1_takeUp 26 [l0, l1, l2] (.int x :: .ref 10 :: S) σ = if inb x 7 = true then exec d mX1_takeUp 27 [l0, l1, l2] (.int (σ 10 x.toNatClampNeg) :: S) σ else none) ∧
  (∀ (d : Nat) (σ : Sg) (S : List Value) (l0 l1 l2 : Value) (x : Int32), exec d mX1_takeUp 27 [l0, l1, l2] (.int x :: .ref 48 :: S) σ = exec d mX1_takeUp 30 [l0, l1, l2] S (up σ 48 4 x)) ∧
  (∀ (d : Nat) (σ : Sg) (S : List Value) (l1 l2 : Value) (k : Nat), exec d mX1_takeUp 30 [.ref k, l1, l2] S σ = exec d mX1_takeUp 31 [.ref k, l1, l2] (.ref k :: S) σ) ∧
  (∀ (d : Nat) (σ : Sg) (S : List Value) (l0 l2 : Value) (k : Nat), exec d mX1_takeUp 31 [l0, .ref k, l2] S σ = exec d mX1_takeUp 32 [l0, .ref k, l2] (.ref k :: S) σ) ∧
  (∀ (d : Nat) (σ : Sg) (S : List Value) (l0 l1 l2 : Value), exec d mX1_takeUp 32 [l0, l1, l2] (.ref 8 :: S) σ = exec d mX1_takeUp 35 [l0, l1, l2] (.ref 11 :: S) σ) ∧
  (∀ (d : Nat) (σ : Sg) (S : List Value) (l0 l1 : Value) (x : Int32), exec d mX1_takeUp 35 [l0, l1, .int x] S σ = exec d mX1_takeUp 36 [l0, l1, .int x] (.int x :: S) σ) ∧
  (∀ (d : Nat) (σ : Sg) (S : List Value) (l0 l1 l2 : Value) (x : Int32), exec d mX1_takeUp 36 [l0, l1, l2] (.int x :: .ref 11 :: S) σ = if inb x 7 = true then exec d mX1_takeUp 37 [l0, l1, l2] (.int (σ 11 x.toNatClampNeg) :: S) σ else none) ∧
  (∀ (d : Nat) (σ : Sg) (S : List Value) (l0 l1 l2 : Value) (x : Int32), exec d mX1_takeUp 37 [l0, l1, l2] (.int x :: .ref 48 :: S) σ = exec d mX1_takeUp 40 [l0, l1, l2] S (up σ 48 5 x)) ∧
  (∀ (d : Nat) (σ : Sg) (l0 l1 l2 : Value), exec d mX1_takeUp 40 [l0, l1, l2] [] σ = some (none, σ)) :=
  ⟨fun d σ S l1 l2 k => ex_aload_n (show decode mX1_takeUp.2.1 0 = .ok (.aload_n 0, 1) by decide +kernel) rfl,
  fun d σ S l0 l1 l2 => ex_iconst (show decode mX1_takeUp.2.1 1 = .ok (.iconst 0, 1) by decide +kernel) (by decide +kernel),
  fun d σ S l0 l1 l2 x => ex_put (idx := 15) (ci := 1) (ff := 1) (n := 6) (hh := 341) (by decide +kernel),
  fun d σ S l1 l2 k => ex_aload_n (show decode mX1_takeUp.2.1 5 = .ok (.aload_n 0, 1) by decide +kernel) rfl,
  fun d σ S l0 l1 x => ex_iload_n (show decode mX1_takeUp.2.1 6 = .ok (.iload_n 2, 1) by decide +kernel) rfl,
  fun d σ S l0 l1 l2 x => ex_put (idx := 19) (ci := 1) (ff := 2) (n := 6) (hh := 343) (by decide +kernel),
  fun d σ S l1 l2 k => ex_aload_n (show decode mX1_takeUp.2.1 10 = .ok (.aload_n 0, 1) by decide +kernel) rfl,
  fun d σ S l0 l2 k => ex_aload_n (show decode mX1_takeUp.2.1 11 = .ok (.aload_n 1, 1) by decide +kernel) rfl,
  fun d σ S l0 l1 l2 => ex_getr (idx := 22) (ci := 5) (ff := 9) (n := 17) (hh := 231) (by decide +kernel),
  fun d σ S l0 l1 x => ex_iload_n (show decode mX1_takeUp.2.1 15 = .ok (.iload_n 2, 1) by decide +kernel) rfl,
  fun d σ S l0 l1 l2 x => ex_iald (by decide +kernel),
  fun d σ S l0 l1 l2 x => ex_put (idx := 27) (ci := 1) (ff := 3) (n := 6) (hh := 344) (by decide +kernel),
  fun d σ S l1 l2 k => ex_aload_n (show decode mX1_takeUp.2.1 20 = .ok (.aload_n 0, 1) by decide +kernel) rfl,
  fun d σ S l0 l2 k => ex_aload_n (show decode mX1_takeUp.2.1 21 = .ok (.aload_n 1, 1) by decide +kernel) rfl,
  fun d σ S l0 l1 l2 => ex_getr (idx := 30) (ci := 5) (ff := 10) (n := 17) (hh := 235) (by decide +kernel),
  fun d σ S l0 l1 x => ex_iload_n (show decode mX1_takeUp.2.1 25 = .ok (.iload_n 2, 1) by decide +kernel) rfl,
  fun d σ S l0 l1 l2 x => ex_iald (by decide +kernel),
  fun d σ S l0 l1 l2 x => ex_put (idx := 33) (ci := 1) (ff := 4) (n := 6) (hh := 345) (by decide +kernel),
  fun d σ S l1 l2 k => ex_aload_n (show decode mX1_takeUp.2.1 30 = .ok (.aload_n 0, 1) by decide +kernel) rfl,
  fun d σ S l0 l2 k => ex_aload_n (show decode mX1_takeUp.2.1 31 = .ok (.aload_n 1, 1) by decide +kernel) rfl,
  fun d σ S l0 l1 l2 => ex_getr (idx := 36) (ci := 5) (ff := 11) (n := 17) (hh := 239) (by decide +kernel),
  fun d σ S l0 l1 x => ex_iload_n (show decode mX1_takeUp.2.1 35 = .ok (.iload_n 2, 1) by decide +kernel) rfl,
  fun d σ S l0 l1 l2 x => ex_iald (by decide +kernel),
  fun d σ S l0 l1 l2 x => ex_put (idx := 39) (ci := 1) (ff := 5) (n := 6) (hh := 346) (by decide +kernel),
  fun d σ l0 l1 l2 => ex_vret (show decode mX1_takeUp.2.1 40 = .ok (.return_, 1) by decide +kernel) rfl⟩
theorem aX1_takeUp_48_8 : ∀ (d : Nat) (a2 : Int32) (σ : Sg), cal (d + 1) mX1_takeUp [.ref 48, .ref 8, .int a2] σ = exec d mX1_takeUp 0 [.ref 48, .ref 8, .int a2] [] σ := fun _ _ _ => rfl
theorem kX1_begin : (∀ (d : Nat) (σ : Sg) (S : List Value) (l1 : Value) (k : Nat), exec d mX1_begin 0 [.ref k, l1] S σ = exec d mX1_begin 1 [.ref k, l1] (.ref k :: S) σ) ∧
  (∀ (d : Nat) (σ : Sg) (S : List Value) (l0 l1 : Value), exec d mX1_begin 1 [l0, l1] (.ref 48 :: S) σ = exec d mX1_begin 4 [l0, l1] (.int (σ 48 1) :: S) σ) ∧
  (∀ (d : Nat) (σ : Sg) (S : List Value) (l0 l1 : Value), exec d mX1_begin 4 [l0, l1] S σ = exec d mX1_begin 6 [l0, l1] (.int (nI 16) :: S) σ) ∧
  (∀ (d : Nat) (σ : Sg) (S : List Value) (l0 l1 : Value) (x y : Int32), exec d mX1_begin 6 [l0, l1] (.int y :: .int x :: S) σ = if y ≤ x then exec d mX1_begin 29 [l0, l1] S σ else exec d mX1_begin 9 [l0, l1] S σ) ∧
  (∀ (d : Nat) (σ : Sg) (S : List Value) (l1 : Value) (k : Nat), exec d mX1_begin 9 [.ref k, l1] S σ = exec d mX1_begin 10 [.ref k, l1] (.ref k :: S) σ) ∧
  (∀ (d : Nat) (σ : Sg) (S : List Value) (l0 l1 : Value), exec d mX1_begin 10 [l0, l1] (.ref 48 :: S) σ = exec d mX1_begin 13 [l0, l1] (.ref 49 :: S) σ) ∧
  (∀ (d : Nat) (σ : Sg) (S : List Value) (l1 : Value) (k : Nat), exec d mX1_begin 13 [.ref k, l1] S σ = exec d mX1_begin 14 [.ref k, l1] (.ref k :: S) σ) ∧
  (∀ (d : Nat) (σ : Sg) (S : List Value) (l0 l1 : Value), exec d mX1_begin 14 [l0, l1] (.ref 48 :: S) σ = exec d mX1_begin 17 [l0, l1] (.int (σ 48 1) :: S) σ) ∧
  (∀ (d : Nat) (σ : Sg) (S : List Value) (l0 : Value) (x : Int32), exec d mX1_begin 17 [l0, .int x] S σ = exec d mX1_begin 18 [l0, .int x] (.int x :: S) σ) ∧
  (∀ (d : Nat) (σ : Sg) (S : List Value) (l0 l1 : Value) (x y : Int32), exec d mX1_begin 18 [l0, l1] (.int y :: .int x :: .ref 49 :: S) σ = if inb x 16 = true then exec d mX1_begin 19 [l0, l1] S (up σ 49 x.toNatClampNeg y) else none) ∧
  (∀ (d : Nat) (σ : Sg) (S : List Value) (l1 : Value) (k : Nat), exec d mX1_begin 19 [.ref k, l1] S σ = exec d mX1_begin 20 [.ref k, l1] (.ref k :: S) σ) ∧
  (∀ (d : Nat) (σ : Sg) (S : List Value) (l0 l1 : Value) (k : Nat), exec d mX1_begin 20 [l0, l1] (.ref k :: S) σ = exec d mX1_begin 21 [l0, l1] (.ref k :: .ref k :: S) σ) ∧
  (∀ (d : Nat) (σ : Sg) (S : List Value) (l0 l1 : Value), exec d mX1_begin 21 [l0, l1] (.ref 48 :: S) σ = exec d mX1_begin 24 [l0, l1] (.int (σ 48 1) :: S) σ) ∧
  (∀ (d : Nat) (σ : Sg) (S : List Value) (l0 l1 : Value), exec d mX1_begin 24 [l0, l1] S σ = exec d mX1_begin 25 [l0, l1] (.int (nI 1) :: S) σ) ∧
  (∀ (d : Nat) (σ : Sg) (S : List Value) (l0 l1 : Value) (x y : Int32), exec d mX1_begin 25 [l0, l1] (.int y :: .int x :: S) σ = exec d mX1_begin 26 [l0, l1] (.int (x + y) :: S) σ) ∧
  (∀ (d : Nat) (σ : Sg) (S : List Value) (l0 l1 : Value) (x : Int32), exec d mX1_begin 26 [l0, l1] (.int x :: .ref 48 :: S) σ = exec d mX1_begin 29 [l0, l1] S (up σ 48 1 x)) ∧
  (∀ (d : Nat) (σ : Sg) (l0 l1 : Value), exec d mX1_begin 29 [l0, l1] [] σ = some (none, σ)) :=
  ⟨fun d σ S l1 k => ex_aload_n (show decode mX1_begin.2.1 0 = .ok (.aload_n 0, 1) by decide +kernel) rfl,
  fun d σ S l0 l1 => ex_get (idx := 15) (ci := 1) (ff := 1) (n := 6) (hh := 341) (by decide +kernel),
  fun d σ S l0 l1 => ex_bipush (show decode mX1_begin.2.1 4 = .ok (.bipush 16, 2) by decide +kernel) (by decide +kernel),
  fun d σ S l0 l1 x y => ex_cge (show decode mX1_begin.2.1 6 = .ok (.if_icmp .ge 23, 3) by decide +kernel) (by decide),
  fun d σ S l1 k => ex_aload_n (show decode mX1_begin.2.1 9 = .ok (.aload_n 0, 1) by decide +kernel) rfl,
  fun d σ S l0 l1 => ex_getr (idx := 11) (ci := 1) (ff := 0) (n := 6) (hh := 339) (by decide +kernel),
  fun d σ S l1 k => ex_aload_n (show decode mX1_begin.2.1 13 = .ok (.aload_n 0, 1) by decide +kernel) rfl,
  fun d σ S l0 l1 => ex_get (idx := 15) (ci := 1) (ff := 1) (n := 6) (hh := 341) (by decide +kernel),
  fun d σ S l0 x => ex_iload_n (show decode mX1_begin.2.1 17 = .ok (.iload_n 1, 1) by decide +kernel) rfl,
  fun d σ S l0 l1 x y => ex_iast (by decide +kernel),
  fun d σ S l1 k => ex_aload_n (show decode mX1_begin.2.1 19 = .ok (.aload_n 0, 1) by decide +kernel) rfl,
  fun d σ S l0 l1 k => ex_dup (show decode mX1_begin.2.1 20 = .ok (.dup, 1) by decide +kernel) rfl,
  fun d σ S l0 l1 => ex_get (idx := 15) (ci := 1) (ff := 1) (n := 6) (hh := 341) (by decide +kernel),
  fun d σ S l0 l1 => ex_iconst (show decode mX1_begin.2.1 24 = .ok (.iconst 1, 1) by decide +kernel) (by decide +kernel),
  fun d σ S l0 l1 x y => ex_iadd (show decode mX1_begin.2.1 25 = .ok (.iadd, 1) by decide +kernel),
  fun d σ S l0 l1 x => ex_put (idx := 15) (ci := 1) (ff := 1) (n := 6) (hh := 341) (by decide +kernel),
  fun d σ l0 l1 => ex_vret (show decode mX1_begin.2.1 29 = .ok (.return_, 1) by decide +kernel) rfl⟩
theorem aX1_begin_48 : ∀ (d : Nat) (a1 : Int32) (σ : Sg), cal (d + 1) mX1_begin [.ref 48, .int a1] σ = exec d mX1_begin 0 [.ref 48, .int a1] [] σ := fun _ _ _ => rfl
theorem kX1_askSize : (∀ (d : Nat) (σ : Sg) (S : List Value) (l0 : Value) (x : Int32), exec d mX1_askSize 0 [l0, .int x] S σ = exec d mX1_askSize 1 [l0, .int x] (.int x :: S) σ) ∧
  (∀ (d : Nat) (σ : Sg) (S : List Value) (l0 l1 : Value), exec d mX1_askSize 1 [l0, l1] S σ = exec d mX1_askSize 3 [l0, l1] (.int (nI 8) :: S) σ) ∧
  (∀ (d : Nat) (σ : Sg) (S : List Value) (l0 l1 : Value) (x y : Int32), exec d mX1_askSize 3 [l0, l1] (.int y :: .int x :: S) σ = if x ≤ y then exec d mX1_askSize 9 [l0, l1] S σ else exec d mX1_askSize 6 [l0, l1] S σ) ∧
  (∀ (d : Nat) (σ : Sg) (S : List Value) (l0 l1 : Value), exec d mX1_askSize 6 [l0, l1] S σ = exec d mX1_askSize 8 [l0, l1] (.int ((-1000000)) :: S) σ) ∧
  (∀ (d : Nat) (σ : Sg) (l0 l1 : Value) (x : Int32), exec d mX1_askSize 8 [l0, l1] [.int x] σ = some (some (.int x), σ)) ∧
  (∀ (d : Nat) (σ : Sg) (S : List Value) (l1 : Value) (k : Nat), exec d mX1_askSize 9 [.ref k, l1] S σ = exec d mX1_askSize 10 [.ref k, l1] (.ref k :: S) σ) ∧
  (∀ (d : Nat) (σ : Sg) (S : List Value) (l0 l1 : Value), exec d mX1_askSize 10 [l0, l1] (.ref 48 :: S) σ = exec d mX1_askSize 13 [l0, l1] (.int (σ 48 3) :: S) σ) ∧
  (∀ (d : Nat) (σ : Sg) (S : List Value) (l0 l1 : Value) (x : Int32), exec d mX1_askSize 13 [l0, l1] (.int x :: S) σ = (if x = nI 1 then exec d mX1_askSize 48 [l0, l1] S σ else (if x = nI 2 then exec d mX1_askSize 54 [l0, l1] S σ else (if x = nI 3 then exec d mX1_askSize 48 [l0, l1] S σ else (if x = nI 4 then exec d mX1_askSize 60 [l0, l1] S σ else (if x = nI 5 then exec d mX1_askSize 65 [l0, l1] S σ else exec d mX1_askSize 70 [l0, l1] S σ)))))) ∧
  (∀ (d : Nat) (σ : Sg) (S : List Value) (l1 : Value) (k : Nat), exec d mX1_askSize 48 [.ref k, l1] S σ = exec d mX1_askSize 49 [.ref k, l1] (.ref k :: S) σ) ∧
  (∀ (d : Nat) (σ : Sg) (S : List Value) (l0 : Value) (x : Int32), exec d mX1_askSize 49 [l0, .int x] S σ = exec d mX1_askSize 50 [l0, .int x] (.int x :: S) σ) ∧
  (∀ (d : Nat) (σ : Sg) (l0 l1 : Value) (x0 : Int32), exec d mX1_askSize 50 [l0, l1] [.int x0, .ref 48] σ = kb (cal d mX1_sizeOfJoint [.ref 48, .int x0] σ) (fun rs σ2 => exec d mX1_askSize 53 [l0, l1] (rs ++ []) σ2)) ∧
  (∀ (d : Nat) (σ : Sg) (l0 l1 : Value) (x : Int32), exec d mX1_askSize 53 [l0, l1] [.int x] σ = some (some (.int x), σ)) ∧
  (∀ (d : Nat) (σ : Sg) (S : List Value) (l1 : Value) (k : Nat), exec d mX1_askSize 54 [.ref k, l1] S σ = exec d mX1_askSize 55 [.ref k, l1] (.ref k :: S) σ) ∧
  (∀ (d : Nat) (σ : Sg) (S : List Value) (l0 : Value) (x : Int32), exec d mX1_askSize 55 [l0, .int x] S σ = exec d mX1_askSize 56 [l0, .int x] (.int x :: S) σ) ∧
  (∀ (d : Nat) (σ : Sg) (l0 l1 : Value) (x0 : Int32), exec d mX1_askSize 56 [l0, l1] [.int x0, .ref 48] σ = kb (cal d mX1_sizeOfCarved [.ref 48, .int x0] σ) (fun rs σ2 => exec d mX1_askSize 59 [l0, l1] (rs ++ []) σ2)) ∧
  (∀ (d : Nat) (σ : Sg) (l0 l1 : Value) (x : Int32), exec d mX1_askSize 59 [l0, l1] [.int x] σ = some (some (.int x), σ)) ∧
  (∀ (d : Nat) (σ : Sg) (S : List Value) (l1 : Value) (k : Nat), exec d mX1_askSize 60 [.ref k, l1] S σ = exec d mX1_askSize 61 [.ref k, l1] (.ref k :: S) σ) ∧
  (∀ (d : Nat) (σ : Sg) (l0 l1 : Value), exec d mX1_askSize 61 [l0, l1] [.ref 48] σ = kb (cal d mX1_sizeOfWax [.ref 48] σ) (fun rs σ2 => exec d mX1_askSize 64 [l0, l1] (rs ++ []) σ2)) ∧
  (∀ (d : Nat) (σ : Sg) (l0 l1 : Value) (x : Int32), exec d mX1_askSize 64 [l0, l1] [.int x] σ = some (some (.int x), σ)) ∧
  (∀ (d : Nat) (σ : Sg) (S : List Value) (l1 : Value) (k : Nat), exec d mX1_askSize 65 [.ref k, l1] S σ = exec d mX1_askSize 66 [.ref k, l1] (.ref k :: S) σ) ∧
  (∀ (d : Nat) (σ : Sg) (l0 l1 : Value), exec d mX1_askSize 66 [l0, l1] [.ref 48] σ = kb (cal d mX1_sizeOfBought [.ref 48] σ) (fun rs σ2 => exec d mX1_askSize 69 [l0, l1] (rs ++ []) σ2)) ∧
  (∀ (d : Nat) (σ : Sg) (l0 l1 : Value) (x : Int32), exec d mX1_askSize 69 [l0, l1] [.int x] σ = some (some (.int x), σ)) ∧
  (∀ (d : Nat) (σ : Sg) (S : List Value) (l1 : Value) (k : Nat), exec d mX1_askSize 70 [.ref k, l1] S σ = exec d mX1_askSize 71 [.ref k, l1] (.ref k :: S) σ) ∧
  (∀ (d : Nat) (σ : Sg) (l0 l1 : Value), exec d mX1_askSize 71 [l0, l1] [.ref 48] σ = kb (cal d mX1_sizeLent [.ref 48] σ) (fun rs σ2 => exec d mX1_askSize 74 [l0, l1] (rs ++ []) σ2)) ∧
  (∀ (d : Nat) (σ : Sg) (l0 l1 : Value) (x : Int32), exec d mX1_askSize 74 [l0, l1] [.int x] σ = some (some (.int x), σ)) :=
  ⟨fun d σ S l0 x => ex_iload_n (show decode mX1_askSize.2.1 0 = .ok (.iload_n 1, 1) by decide +kernel) rfl,
  fun d σ S l0 l1 => ex_bipush (show decode mX1_askSize.2.1 1 = .ok (.bipush 8, 2) by decide +kernel) (by decide +kernel),
  fun d σ S l0 l1 x y => ex_cle (show decode mX1_askSize.2.1 3 = .ok (.if_icmp .le 6, 3) by decide +kernel) (by decide),
  fun d σ S l0 l1 => ex_ldc (hh := 820) (show decode mX1_askSize.2.1 6 = .ok (.ldc 42, 2) by decide +kernel) (by decide +kernel),
  fun d σ l0 l1 x => ex_iret (show decode mX1_askSize.2.1 8 = .ok (.ireturn, 1) by decide +kernel) rfl,
  fun d σ S l1 k => ex_aload_n (show decode mX1_askSize.2.1 9 = .ok (.aload_n 0, 1) by decide +kernel) rfl,
  fun d σ S l0 l1 => ex_get (idx := 27) (ci := 1) (ff := 3) (n := 6) (hh := 344) (by decide +kernel),
  fun d σ S l0 l1 x => ex_tsw (lo := 1) (df := 70) (ts := [48, 54, 48, 60, 65]) (show decode mX1_askSize.2.1 13 = .ok (.tableswitch 57 1 5 #[35, 41, 35, 47, 52], 35) by decide +kernel) (by decide) (by decide) (by decide) (by decide),
  fun d σ S l1 k => ex_aload_n (show decode mX1_askSize.2.1 48 = .ok (.aload_n 0, 1) by decide +kernel) rfl,
  fun d σ S l0 x => ex_iload_n (show decode mX1_askSize.2.1 49 = .ok (.iload_n 1, 1) by decide +kernel) rfl,
  fun d σ l0 l1 x0 => ex_iv (hs := [821, 823, 55, 824, 114]) (show decode mX1_askSize.2.1 50 = .ok (.invokevirtual 43, 3) by decide +kernel) lkV_1_43 ⟨rfl, Nat.le_of_ble_eq_true rfl, Nat.le_of_ble_eq_true rfl, fun _ => rfl⟩ rfl rfl,
  fun d σ l0 l1 x => ex_iret (show decode mX1_askSize.2.1 53 = .ok (.ireturn, 1) by decide +kernel) rfl,
  fun d σ S l1 k => ex_aload_n (show decode mX1_askSize.2.1 54 = .ok (.aload_n 0, 1) by decide +kernel) rfl,
  fun d σ S l0 x => ex_iload_n (show decode mX1_askSize.2.1 55 = .ok (.iload_n 1, 1) by decide +kernel) rfl,
  fun d σ l0 l1 x0 => ex_iv (hs := [858, 860, 64, 861, 114]) (show decode mX1_askSize.2.1 56 = .ok (.invokevirtual 47, 3) by decide +kernel) lkV_1_47 ⟨rfl, Nat.le_of_ble_eq_true rfl, Nat.le_of_ble_eq_true rfl, fun _ => rfl⟩ rfl rfl,
  fun d σ l0 l1 x => ex_iret (show decode mX1_askSize.2.1 59 = .ok (.ireturn, 1) by decide +kernel) rfl,
  fun d σ S l1 k => ex_aload_n (show decode mX1_askSize.2.1 60 = .ok (.aload_n 0, 1) by decide +kernel) rfl,
  fun d σ l0 l1 => ex_iv (hs := [862, 864, 65, 865, 114]) (show decode mX1_askSize.2.1 61 = .ok (.invokevirtual 50, 3) by decide +kernel) lkV_1_50 ⟨rfl, Nat.le_of_ble_eq_true rfl, Nat.le_of_ble_eq_true rfl, fun _ => rfl⟩ rfl rfl,
  fun d σ l0 l1 x => ex_iret (show decode mX1_askSize.2.1 64 = .ok (.ireturn, 1) by decide +kernel) rfl,
  fun d σ S l1 k => ex_aload_n (show decode mX1_askSize.2.1 65 = .ok (.aload_n 0, 1) by decide +kernel) rfl,
  fun d σ l0 l1 => ex_iv (hs := [866, 868, 66, 869, 114]) (show decode mX1_askSize.2.1 66 = .ok (.invokevirtual 54, 3) by decide +kernel) lkV_1_54 ⟨rfl, Nat.le_of_ble_eq_true rfl, Nat.le_of_ble_eq_true rfl, fun _ => rfl⟩ rfl rfl,
  fun d σ l0 l1 x => ex_iret (show decode mX1_askSize.2.1 69 = .ok (.ireturn, 1) by decide +kernel) rfl,
  fun d σ S l1 k => ex_aload_n (show decode mX1_askSize.2.1 70 = .ok (.aload_n 0, 1) by decide +kernel) rfl,
  fun d σ l0 l1 => ex_iv (hs := [829, 831, 57, 832, 114]) (show decode mX1_askSize.2.1 71 = .ok (.invokevirtual 57, 3) by decide +kernel) lkV_1_57 ⟨rfl, Nat.le_of_ble_eq_true rfl, Nat.le_of_ble_eq_true rfl, fun _ => rfl⟩ rfl rfl,
  fun d σ l0 l1 x => ex_iret (show decode mX1_askSize.2.1 74 = .ok (.ireturn, 1) by decide +kernel) rfl⟩
theorem aX1_askSize_48 : ∀ (d : Nat) (a1 : Int32) (σ : Sg), cal (d + 1) mX1_askSize [.ref 48, .int a1] σ = exec d mX1_askSize 0 [.ref 48, .int a1] [] σ := fun _ _ _ => rfl
theorem kX1_askMark : (∀ (d : Nat) (σ : Sg) (S : List Value) (l0 : Value) (x : Int32), exec d mX1_askMark 0 [l0, .int x] S σ = exec d mX1_askMark 1 [l0, .int x] (.int x :: S) σ) ∧
  (∀ (d : Nat) (σ : Sg) (S : List Value) (l0 l1 : Value), exec d mX1_askMark 1 [l0, l1] S σ = exec d mX1_askMark 3 [l0, l1] (.int (nI 8) :: S) σ) ∧
  (∀ (d : Nat) (σ : Sg) (S : List Value) (l0 l1 : Value) (x y : Int32), exec d mX1_askMark 3 [l0, l1] (.int y :: .int x :: S) σ = if x ≤ y then exec d mX1_askMark 9 [l0, l1] S σ else exec d mX1_askMark 6 [l0, l1] S σ) ∧
  (∀ (d : Nat) (σ : Sg) (S : List Value) (l0 l1 : Value), exec d mX1_askMark 6 [l0, l1] S σ = exec d mX1_askMark 8 [l0, l1] (.int ((-1000000)) :: S) σ) ∧
  (∀ (d : Nat) (σ : Sg) (l0 l1 : Value) (x : Int32), exec d mX1_askMark 8 [l0, l1] [.int x] σ = some (some (.int x), σ)) ∧
  (∀ (d : Nat) (σ : Sg) (S : List Value) (l1 : Value) (k : Nat), exec d mX1_askMark 9 [.ref k, l1] S σ = exec d mX1_askMark 10 [.ref k, l1] (.ref k :: S) σ) ∧
  (∀ (d : Nat) (σ : Sg) (S : List Value) (l0 l1 : Value), exec d mX1_askMark 10 [l0, l1] (.ref 48 :: S) σ = exec d mX1_askMark 13 [l0, l1] (.int (σ 48 3) :: S) σ) ∧
  (∀ (d : Nat) (σ : Sg) (S : List Value) (l0 l1 : Value) (x : Int32), exec d mX1_askMark 13 [l0, l1] (.int x :: S) σ = (if x = nI 1 then exec d mX1_askMark 48 [l0, l1] S σ else (if x = nI 2 then exec d mX1_askMark 53 [l0, l1] S σ else (if x = nI 3 then exec d mX1_askMark 58 [l0, l1] S σ else (if x = nI 4 then exec d mX1_askMark 63 [l0, l1] S σ else (if x = nI 5 then exec d mX1_askMark 63 [l0, l1] S σ else exec d mX1_askMark 69 [l0, l1] S σ)))))) ∧
  (∀ (d : Nat) (σ : Sg) (S : List Value) (l1 : Value) (k : Nat), exec d mX1_askMark 48 [.ref k, l1] S σ = exec d mX1_askMark 49 [.ref k, l1] (.ref k :: S) σ) ∧
  (∀ (d : Nat) (σ : Sg) (l0 l1 : Value), exec d mX1_askMark 49 [l0, l1] [.ref 48] σ = kb (cal d mX1_markOfJoint [.ref 48] σ) (fun rs σ2 => exec d mX1_askMark 52 [l0, l1] (rs ++ []) σ2)) ∧
  (∀ (d : Nat) (σ : Sg) (l0 l1 : Value) (x : Int32), exec d mX1_askMark 52 [l0, l1] [.int x] σ = some (some (.int x), σ)) ∧
  (∀ (d : Nat) (σ : Sg) (S : List Value) (l1 : Value) (k : Nat), exec d mX1_askMark 53 [.ref k, l1] S σ = exec d mX1_askMark 54 [.ref k, l1] (.ref k :: S) σ) ∧
  (∀ (d : Nat) (σ : Sg) (l0 l1 : Value), exec d mX1_askMark 54 [l0, l1] [.ref 48] σ = kb (cal d mX1_markOfCarved [.ref 48] σ) (fun rs σ2 => exec d mX1_askMark 57 [l0, l1] (rs ++ []) σ2)) ∧
  (∀ (d : Nat) (σ : Sg) (l0 l1 : Value) (x : Int32), exec d mX1_askMark 57 [l0, l1] [.int x] σ = some (some (.int x), σ)) ∧
  (∀ (d : Nat) (σ : Sg) (S : List Value) (l1 : Value) (k : Nat), exec d mX1_askMark 58 [.ref k, l1] S σ = exec d mX1_askMark 59 [.ref k, l1] (.ref k :: S) σ) ∧
  (∀ (d : Nat) (σ : Sg) (l0 l1 : Value), exec d mX1_askMark 59 [l0, l1] [.ref 48] σ = kb (cal d mX1_markOfHidden [.ref 48] σ) (fun rs σ2 => exec d mX1_askMark 62 [l0, l1] (rs ++ []) σ2)) ∧
  (∀ (d : Nat) (σ : Sg) (l0 l1 : Value) (x : Int32), exec d mX1_askMark 62 [l0, l1] [.int x] σ = some (some (.int x), σ)) ∧
  (∀ (d : Nat) (σ : Sg) (S : List Value) (l1 : Value) (k : Nat), exec d mX1_askMark 63 [.ref k, l1] S σ = exec d mX1_askMark 64 [.ref k, l1] (.ref k :: S) σ) ∧
  (∀ (d : Nat) (σ : Sg) (S : List Value) (l0 : Value) (x : Int32), exec d mX1_askMark 64 [l0, .int x] S σ = exec d mX1_askMark 65 [l0, .int x] (.int x :: S) σ) ∧
  (∀ (d : Nat) (σ : Sg) (l0 l1 : Value) (x0 : Int32), exec d mX1_askMark 65 [l0, l1] [.int x0, .ref 48] σ = kb (cal d mX1_markOfWax [.ref 48, .int x0] σ) (fun rs σ2 => exec d mX1_askMark 68 [l0, l1] (rs ++ []) σ2)) ∧
  (∀ (d : Nat) (σ : Sg) (l0 l1 : Value) (x : Int32), exec d mX1_askMark 68 [l0, l1] [.int x] σ = some (some (.int x), σ)) ∧
  (∀ (d : Nat) (σ : Sg) (S : List Value) (l1 : Value) (k : Nat), exec d mX1_askMark 69 [.ref k, l1] S σ = exec d mX1_askMark 70 [.ref k, l1] (.ref k :: S) σ) ∧
  (∀ (d : Nat) (σ : Sg) (l0 l1 : Value), exec d mX1_askMark 70 [l0, l1] [.ref 48] σ = kb (cal d mX1_markLent [.ref 48] σ) (fun rs σ2 => exec d mX1_askMark 73 [l0, l1] (rs ++ []) σ2)) ∧
  (∀ (d : Nat) (σ : Sg) (l0 l1 : Value) (x : Int32), exec d mX1_askMark 73 [l0, l1] [.int x] σ = some (some (.int x), σ)) :=
  ⟨fun d σ S l0 x => ex_iload_n (show decode mX1_askMark.2.1 0 = .ok (.iload_n 1, 1) by decide +kernel) rfl,
  fun d σ S l0 l1 => ex_bipush (show decode mX1_askMark.2.1 1 = .ok (.bipush 8, 2) by decide +kernel) (by decide +kernel),
  fun d σ S l0 l1 x y => ex_cle (show decode mX1_askMark.2.1 3 = .ok (.if_icmp .le 6, 3) by decide +kernel) (by decide),
  fun d σ S l0 l1 => ex_ldc (hh := 820) (show decode mX1_askMark.2.1 6 = .ok (.ldc 42, 2) by decide +kernel) (by decide +kernel),
  fun d σ l0 l1 x => ex_iret (show decode mX1_askMark.2.1 8 = .ok (.ireturn, 1) by decide +kernel) rfl,
  fun d σ S l1 k => ex_aload_n (show decode mX1_askMark.2.1 9 = .ok (.aload_n 0, 1) by decide +kernel) rfl,
  fun d σ S l0 l1 => ex_get (idx := 27) (ci := 1) (ff := 3) (n := 6) (hh := 344) (by decide +kernel),
  fun d σ S l0 l1 x => ex_tsw (lo := 1) (df := 69) (ts := [48, 53, 58, 63, 63]) (show decode mX1_askMark.2.1 13 = .ok (.tableswitch 56 1 5 #[35, 40, 45, 50, 50], 35) by decide +kernel) (by decide) (by decide) (by decide) (by decide),
  fun d σ S l1 k => ex_aload_n (show decode mX1_askMark.2.1 48 = .ok (.aload_n 0, 1) by decide +kernel) rfl,
  fun d σ l0 l1 => ex_iv (hs := [837, 839, 59, 840, 114]) (show decode mX1_askMark.2.1 49 = .ok (.invokevirtual 60, 3) by decide +kernel) lkV_1_60 ⟨rfl, Nat.le_of_ble_eq_true rfl, Nat.le_of_ble_eq_true rfl, fun _ => rfl⟩ rfl rfl,
  fun d σ l0 l1 x => ex_iret (show decode mX1_askMark.2.1 52 = .ok (.ireturn, 1) by decide +kernel) rfl,
  fun d σ S l1 k => ex_aload_n (show decode mX1_askMark.2.1 53 = .ok (.aload_n 0, 1) by decide +kernel) rfl,
  fun d σ l0 l1 => ex_iv (hs := [845, 847, 61, 848, 114]) (show decode mX1_askMark.2.1 54 = .ok (.invokevirtual 63, 3) by decide +kernel) lkV_1_63 ⟨rfl, Nat.le_of_ble_eq_true rfl, Nat.le_of_ble_eq_true rfl, fun _ => rfl⟩ rfl rfl,
  fun d σ l0 l1 x => ex_iret (show decode mX1_askMark.2.1 57 = .ok (.ireturn, 1) by decide +kernel) rfl,
  fun d σ S l1 k => ex_aload_n (show decode mX1_askMark.2.1 58 = .ok (.aload_n 0, 1) by decide +kernel) rfl,
  fun d σ l0 l1 => ex_iv (hs := [849, 851, 62, 852, 114]) (show decode mX1_askMark.2.1 59 = .ok (.invokevirtual 66, 3) by decide +kernel) lkV_1_66 ⟨rfl, Nat.le_of_ble_eq_true rfl, Nat.le_of_ble_eq_true rfl, fun _ => rfl⟩ rfl rfl,
  fun d σ l0 l1 x => ex_iret (show decode mX1_askMark.2.1 62 = .ok (.ireturn, 1) by decide +kernel) rfl,
  fun d σ S l1 k => ex_aload_n (show decode mX1_askMark.2.1 63 = .ok (.aload_n 0, 1) by decide +kernel) rfl,
  fun d σ S l0 x => ex_iload_n (show decode mX1_askMark.2.1 64 = .ok (.iload_n 1, 1) by decide +kernel) rfl,
  fun d σ l0 l1 x0 => ex_iv (hs := [853, 855, 63, 856, 114]) (show decode mX1_askMark.2.1 65 = .ok (.invokevirtual 69, 3) by decide +kernel) lkV_1_69 ⟨rfl, Nat.le_of_ble_eq_true rfl, Nat.le_of_ble_eq_true rfl, fun _ => rfl⟩ rfl rfl,
  fun d σ l0 l1 x => ex_iret (show decode mX1_askMark.2.1 68 = .ok (.ireturn, 1) by decide +kernel) rfl,
  fun d σ S l1 k => ex_aload_n (show decode mX1_askMark.2.1 69 = .ok (.aload_n 0, 1) by decide +kernel) rfl,
  fun d σ l0 l1 => ex_iv (hs := [841, 843, 60, 844, 114]) (show decode mX1_askMark.2.1 70 = .ok (.invokevirtual 72, 3) by decide +kernel) lkV_1_72 ⟨rfl, Nat.le_of_ble_eq_true rfl, Nat.le_of_ble_eq_true rfl, fun _ => rfl⟩ rfl rfl,
  fun d σ l0 l1 x => ex_iret (show decode mX1_askMark.2.1 73 = .ok (.ireturn, 1) by decide +kernel) rfl⟩
theorem aX1_askMark_48 : ∀ (d : Nat) (a1 : Int32) (σ : Sg), cal (d + 1) mX1_askMark [.ref 48, .int a1] σ = exec d mX1_askMark 0 [.ref 48, .int a1] [] σ := fun _ _ _ => rfl
theorem kX1_sizeLent : (∀ (d : Nat) (σ : Sg) (S : List Value) (k : Nat), exec d mX1_sizeLent 0 [.ref k] S σ = exec d mX1_sizeLent 1 [.ref k] (.ref k :: S) σ) ∧
  (∀ (d : Nat) (σ : Sg) (S : List Value) (l0 : Value), exec d mX1_sizeLent 1 [l0] S σ = exec d mX1_sizeLent 3 [l0] (.int (nI 10) :: S) σ) ∧
  (∀ (d : Nat) (σ : Sg) (l0 : Value) (x0 : Int32), exec d mX1_sizeLent 3 [l0] [.int x0, .ref 48] σ = kb (cal d mX1_begin [.ref 48, .int x0] σ) (fun rs σ2 => exec d mX1_sizeLent 6 [l0] (rs ++ []) σ2)) ∧
  (∀ (d : Nat) (σ : Sg) (S : List Value) (k : Nat), exec d mX1_sizeLent 6 [.ref k] S σ = exec d mX1_sizeLent 7 [.ref k] (.ref k :: S) σ) ∧
  (∀ (d : Nat) (σ : Sg) (S : List Value) (l0 : Value), exec d mX1_sizeLent 7 [l0] (.ref 48 :: S) σ = exec d mX1_sizeLent 10 [l0] (.int (σ 48 5) :: S) σ) ∧
  (∀ (d : Nat) (σ : Sg) (l0 : Value) (x : Int32), exec d mX1_sizeLent 10 [l0] [.int x] σ = some (some (.int x), σ)) :=
  ⟨fun d σ S k => ex_aload_n (show decode mX1_sizeLent.2.1 0 = .ok (.aload_n 0, 1) by decide +kernel) rfl,
  fun d σ S l0 => ex_bipush (show decode mX1_sizeLent.2.1 1 = .ok (.bipush 10, 2) by decide +kernel) (by decide +kernel),
  fun d σ l0 x0 => ex_iv (hs := [825, 827, 56, 828, 114]) (show decode mX1_sizeLent.2.1 3 = .ok (.invokevirtual 75, 3) by decide +kernel) lkV_1_75 ⟨rfl, Nat.le_of_ble_eq_true rfl, Nat.le_of_ble_eq_true rfl, fun _ => rfl⟩ rfl rfl,
  fun d σ S k => ex_aload_n (show decode mX1_sizeLent.2.1 6 = .ok (.aload_n 0, 1) by decide +kernel) rfl,
  fun d σ S l0 => ex_get (idx := 39) (ci := 1) (ff := 5) (n := 6) (hh := 346) (by decide +kernel),
  fun d σ l0 x => ex_iret (show decode mX1_sizeLent.2.1 10 = .ok (.ireturn, 1) by decide +kernel) rfl⟩
theorem aX1_sizeLent_48 : ∀ (d : Nat)  (σ : Sg), cal (d + 1) mX1_sizeLent [.ref 48] σ = exec d mX1_sizeLent 0 [.ref 48] [] σ := fun _ _ => rfl
theorem kX1_sizeOfJoint : (∀ (d : Nat) (σ : Sg) (S : List Value) (l1 l2 : Value) (k : Nat), exec d mX1_sizeOfJoint 0 [.ref k, l1, l2] S σ = exec d mX1_sizeOfJoint 1 [.ref k, l1, l2] (.ref k :: S) σ) ∧
  (∀ (d : Nat) (σ : Sg) (S : List Value) (l0 l1 l2 : Value), exec d mX1_sizeOfJoint 1 [l0, l1, l2] S σ = exec d mX1_sizeOfJoint 3 [l0, l1, l2] (.int (nI 11) :: S) σ) ∧
  (∀ (d : Nat) (σ : Sg) (l0 l1 l2 : Value) (x0 : Int32), exec d mX1_sizeOfJoint 3 [l0, l1, l2] [.int x0, .ref 48] σ = kb (cal d mX1_begin [.ref 48, .int x0] σ) (fun rs σ2 => exec d mX1_sizeOfJoint 6 [l0, l1, l2] (rs ++ []) σ2)) ∧
  (∀ (d : Nat) (σ : Sg) (S : List Value) (l1 l2 : Value) (k : Nat), exec d mX1_sizeOfJoint 6 [.ref k, l1, l2] S σ = exec d mX1_sizeOfJoint 7 [.ref k, l1, l2] (.ref k :: S) σ) ∧
  (∀ (d : Nat) (σ : Sg) (l0 l1 l2 : Value), exec d mX1_sizeOfJoint 7 [l0, l1, l2] [.ref 48] σ = kb (cal d mX1_sizeLent [.ref 48] σ) (fun rs σ2 => exec d mX1_sizeOfJoint 10 [l0, l1, l2] (rs ++ []) σ2)) ∧
  (∀ (d : Nat) (σ : Sg) (S : List Value) (l0 l2 : Value) (x y : Int32), exec d mX1_sizeOfJoint 10 [l0, .int y, l2] (.int x :: S) σ = exec d mX1_sizeOfJoint 11 [l0, .int y, .int x] S σ) ∧
  (∀ (d : Nat) (σ : Sg) (S : List Value) (l0 l1 : Value) (x : Int32), exec d mX1_sizeOfJoint 11 [l0, l1, .int x] S σ = exec d mX1_sizeOfJoint 12 [l0, l1, .int x] (.int x :: S) σ) ∧
  (∀ (d : Nat) (σ : Sg) (S : List Value) (l1 l2 : Value) (k : Nat), exec d mX1_sizeOfJoint 12 [.ref k, l1, l2] S σ = exec d mX1_sizeOfJoint 13 [.ref k, l1, l2] (.ref k :: S) σ) ∧
  (∀ (d : Nat) (σ : Sg) (S : List Value) (l0 l2 : Value) (x : Int32), exec d mX1_sizeOfJoint 13 [l0, .int x, l2] S σ = exec d mX1_sizeOfJoint 14 [l0, .int x, l2] (.int x :: S) σ) ∧
  (∀ (d : Nat) (σ : Sg) (S : List Value) (l0 l1 l2 : Value), exec d mX1_sizeOfJoint 14 [l0, l1, l2] S σ = exec d mX1_sizeOfJoint 15 [l0, l1, l2] (.int (nI 1) :: S) σ) ∧
  (∀ (d : Nat) (σ : Sg) (S : List Value) (l0 l1 l2 : Value) (x y : Int32), exec d mX1_sizeOfJoint 15 [l0, l1, l2] (.int y :: .int x :: S) σ = exec d mX1_sizeOfJoint 16 [l0, l1, l2] (.int (x + y) :: S) σ) ∧
  (∀ (d : Nat) (σ : Sg) (l0 l1 l2 : Value) (x0 x2 : Int32), exec d mX1_sizeOfJoint 16 [l0, l1, l2] [.int x0, .ref 48, .int x2] σ = kb (cal d mX1_askMark [.ref 48, .int x0] σ) (fun rs σ2 => exec d mX1_sizeOfJoint 19 [l0, l1, l2] (rs ++ [.int x2]) σ2)) ∧
  (∀ (d : Nat) (σ : Sg) (S : List Value) (l0 l1 l2 : Value) (x y : Int32), exec d mX1_sizeOfJoint 19 [l0, l1, l2] (.int y :: .int x :: S) σ = exec d mX1_sizeOfJoint 20 [l0, l1, l2] (.int (x + y) :: S) σ) ∧
  (∀ (d : Nat) (σ : Sg) (l0 l1 l2 : Value) (x : Int32), exec d mX1_sizeOfJoint 20 [l0, l1, l2] [.int x] σ = some (some (.int x), σ)) :=
  ⟨fun d σ S l1 l2 k => ex_aload_n (show decode mX1_sizeOfJoint.2.1 0 = .ok (.aload_n 0, 1) by decide +kernel) rfl,
  fun d σ S l0 l1 l2 => ex_bipush (show decode mX1_sizeOfJoint.2.1 1 = .ok (.bipush 11, 2) by decide +kernel) (by decide +kernel),
  fun d σ l0 l1 l2 x0 => ex_iv (hs := [825, 827, 56, 828, 114]) (show decode mX1_sizeOfJoint.2.1 3 = .ok (.invokevirtual 75, 3) by decide +kernel) lkV_1_75 ⟨rfl, Nat.le_of_ble_eq_true rfl, Nat.le_of_ble_eq_true rfl, fun _ => rfl⟩ rfl rfl,
  fun d σ S l1 l2 k => ex_aload_n (show decode mX1_sizeOfJoint.2.1 6 = .ok (.aload_n 0, 1) by decide +kernel) rfl,
  fun d σ l0 l1 l2 => ex_iv (hs := [829, 831, 57, 832, 114]) (show decode mX1_sizeOfJoint.2.1 7 = .ok (.invokevirtual 57, 3) by decide +kernel) lkV_1_57 ⟨rfl, Nat.le_of_ble_eq_true rfl, Nat.le_of_ble_eq_true rfl, fun _ => rfl⟩ rfl rfl,
  fun d σ S l0 l2 x y => ex_istore_n (show decode mX1_sizeOfJoint.2.1 10 = .ok (.istore_n 2, 1) by decide +kernel) (Nat.le_of_ble_eq_true rfl) rfl,
  fun d σ S l0 l1 x => ex_iload_n (show decode mX1_sizeOfJoint.2.1 11 = .ok (.iload_n 2, 1) by decide +kernel) rfl,
  fun d σ S l1 l2 k => ex_aload_n (show decode mX1_sizeOfJoint.2.1 12 = .ok (.aload_n 0, 1) by decide +kernel) rfl,
  fun d σ S l0 l2 x => ex_iload_n (show decode mX1_sizeOfJoint.2.1 13 = .ok (.iload_n 1, 1) by decide +kernel) rfl,
  fun d σ S l0 l1 l2 => ex_iconst (show decode mX1_sizeOfJoint.2.1 14 = .ok (.iconst 1, 1) by decide +kernel) (by decide +kernel),
  fun d σ S l0 l1 l2 x y => ex_iadd (show decode mX1_sizeOfJoint.2.1 15 = .ok (.iadd, 1) by decide +kernel),
  fun d σ l0 l1 l2 x0 x2 => ex_iv (hs := [833, 835, 58, 836, 114]) (show decode mX1_sizeOfJoint.2.1 16 = .ok (.invokevirtual 79, 3) by decide +kernel) lkV_1_79 ⟨rfl, Nat.le_of_ble_eq_true rfl, Nat.le_of_ble_eq_true rfl, fun _ => rfl⟩ rfl rfl,
  fun d σ S l0 l1 l2 x y => ex_iadd (show decode mX1_sizeOfJoint.2.1 19 = .ok (.iadd, 1) by decide +kernel),
  fun d σ l0 l1 l2 x => ex_iret (show decode mX1_sizeOfJoint.2.1 20 = .ok (.ireturn, 1) by decide +kernel) rfl⟩
theorem aX1_sizeOfJoint_48 : ∀ (d : Nat) (a1 : Int32) (σ : Sg), cal (d + 1) mX1_sizeOfJoint [.ref 48, .int a1] σ = exec d mX1_sizeOfJoint 0 [.ref 48, .int a1, uu] [] σ := fun _ _ _ => rfl
theorem kX1_sizeOfCarved : (∀ (d : Nat) (σ : Sg) (S : List Value) (l1 : Value) (k : Nat), exec d mX1_sizeOfCarved 0 [.ref k, l1] S σ = exec d mX1_sizeOfCarved 1 [.ref k, l1] (.ref k :: S) σ) ∧
  (∀ (d : Nat) (σ : Sg) (S : List Value) (l0 l1 : Value), exec d mX1_sizeOfCarved 1 [l0, l1] S σ = exec d mX1_sizeOfCarved 3 [l0, l1] (.int (nI 12) :: S) σ) ∧
  (∀ (d : Nat) (σ : Sg) (l0 l1 : Value) (x0 : Int32), exec d mX1_sizeOfCarved 3 [l0, l1] [.int x0, .ref 48] σ = kb (cal d mX1_begin [.ref 48, .int x0] σ) (fun rs σ2 => exec d mX1_sizeOfCarved 6 [l0, l1] (rs ++ []) σ2)) ∧
  (∀ (d : Nat) (σ : Sg) (S : List Value) (l0 l1 : Value), exec d mX1_sizeOfCarved 6 [l0, l1] S σ = exec d mX1_sizeOfCarved 7 [l0, l1] (.int (nI 0) :: S) σ) ∧
  (∀ (d : Nat) (σ : Sg) (S : List Value) (l1 : Value) (k : Nat), exec d mX1_sizeOfCarved 7 [.ref k, l1] S σ = exec d mX1_sizeOfCarved 8 [.ref k, l1] (.ref k :: S) σ) ∧
  (∀ (d : Nat) (σ : Sg) (S : List Value) (l0 : Value) (x : Int32), exec d mX1_sizeOfCarved 8 [l0, .int x] S σ = exec d mX1_sizeOfCarved 9 [l0, .int x] (.int x :: S) σ) ∧
  (∀ (d : Nat) (σ : Sg) (l0 l1 : Value) (x0 x2 : Int32), exec d mX1_sizeOfCarved 9 [l0, l1] [.int x0, .ref 48, .int x2] σ = kb (cal d mX1_sizeOfJoint [.ref 48, .int x0] σ) (fun rs σ2 => exec d mX1_sizeOfCarved 12 [l0, l1] (rs ++ [.int x2]) σ2)) ∧
  (∀ (d : Nat) (σ : Sg) (S : List Value) (l0 l1 : Value) (x y : Int32), exec d mX1_sizeOfCarved 12 [l0, l1] (.int y :: .int x :: S) σ = exec d mX1_sizeOfCarved 13 [l0, l1] (.int (x - y) :: S) σ) ∧
  (∀ (d : Nat) (σ : Sg) (l0 l1 : Value) (x : Int32), exec d mX1_sizeOfCarved 13 [l0, l1] [.int x] σ = some (some (.int x), σ)) :=
  ⟨fun d σ S l1 k => ex_aload_n (show decode mX1_sizeOfCarved.2.1 0 = .ok (.aload_n 0, 1) by decide +kernel) rfl,
  fun d σ S l0 l1 => ex_bipush (show decode mX1_sizeOfCarved.2.1 1 = .ok (.bipush 12, 2) by decide +kernel) (by decide +kernel),
  fun d σ l0 l1 x0 => ex_iv (hs := [825, 827, 56, 828, 114]) (show decode mX1_sizeOfCarved.2.1 3 = .ok (.invokevirtual 75, 3) by decide +kernel) lkV_1_75 ⟨rfl, Nat.le_of_ble_eq_true rfl, Nat.le_of_ble_eq_true rfl, fun _ => rfl⟩ rfl rfl,
  fun d σ S l0 l1 => ex_iconst (show decode mX1_sizeOfCarved.2.1 6 = .ok (.iconst 0, 1) by decide +kernel) (by decide +kernel),
  fun d σ S l1 k => ex_aload_n (show decode mX1_sizeOfCarved.2.1 7 = .ok (.aload_n 0, 1) by decide +kernel) rfl,
  fun d σ S l0 x => ex_iload_n (show decode mX1_sizeOfCarved.2.1 8 = .ok (.iload_n 1, 1) by decide +kernel) rfl,
  fun d σ l0 l1 x0 x2 => ex_iv (hs := [821, 823, 55, 824, 114]) (show decode mX1_sizeOfCarved.2.1 9 = .ok (.invokevirtual 43, 3) by decide +kernel) lkV_1_43 ⟨rfl, Nat.le_of_ble_eq_true rfl, Nat.le_of_ble_eq_true rfl, fun _ => rfl⟩ rfl rfl,
  fun d σ S l0 l1 x y => ex_isub (show decode mX1_sizeOfCarved.2.1 12 = .ok (.isub, 1) by decide +kernel),
  fun d σ l0 l1 x => ex_iret (show decode mX1_sizeOfCarved.2.1 13 = .ok (.ireturn, 1) by decide +kernel) rfl⟩
theorem aX1_sizeOfCarved_48 : ∀ (d : Nat) (a1 : Int32) (σ : Sg), cal (d + 1) mX1_sizeOfCarved [.ref 48, .int a1] σ = exec d mX1_sizeOfCarved 0 [.ref 48, .int a1] [] σ := fun _ _ _ => rfl
theorem kX1_sizeOfWax : (∀ (d : Nat) (σ : Sg) (S : List Value) (k : Nat), exec d mX1_sizeOfWax 0 [.ref k] S σ = exec d mX1_sizeOfWax 1 [.ref k] (.ref k :: S) σ) ∧
  (∀ (d : Nat) (σ : Sg) (S : List Value) (l0 : Value), exec d mX1_sizeOfWax 1 [l0] S σ = exec d mX1_sizeOfWax 3 [l0] (.int (nI 13) :: S) σ) ∧
  (∀ (d : Nat) (σ : Sg) (l0 : Value) (x0 : Int32), exec d mX1_sizeOfWax 3 [l0] [.int x0, .ref 48] σ = kb (cal d mX1_begin [.ref 48, .int x0] σ) (fun rs σ2 => exec d mX1_sizeOfWax 6 [l0] (rs ++ []) σ2)) ∧
  (∀ (d : Nat) (σ : Sg) (S : List Value) (k : Nat), exec d mX1_sizeOfWax 6 [.ref k] S σ = exec d mX1_sizeOfWax 7 [.ref k] (.ref k :: S) σ) ∧
  (∀ (d : Nat) (σ : Sg) (l0 : Value), exec d mX1_sizeOfWax 7 [l0] [.ref 48] σ = kb (cal d mX1_sizeLent [.ref 48] σ) (fun rs σ2 => exec d mX1_sizeOfWax 10 [l0] (rs ++ []) σ2)) ∧
  (∀ (d : Nat) (σ : Sg) (S : List Value) (l0 : Value), exec d mX1_sizeOfWax 10 [l0] S σ = exec d mX1_sizeOfWax 12 [l0] (.int (nI 100) :: S) σ) ∧
  (∀ (d : Nat) (σ : Sg) (S : List Value) (l0 : Value) (x y : Int32), exec d mX1_sizeOfWax 12 [l0] (.int y :: .int x :: S) σ = exec d mX1_sizeOfWax 13 [l0] (.int (x - y) :: S) σ) ∧
  (∀ (d : Nat) (σ : Sg) (l0 : Value) (x : Int32), exec d mX1_sizeOfWax 13 [l0] [.int x] σ = some (some (.int x), σ)) :=
  ⟨fun d σ S k => ex_aload_n (show decode mX1_sizeOfWax.2.1 0 = .ok (.aload_n 0, 1) by decide +kernel) rfl,
  fun d σ S l0 => ex_bipush (show decode mX1_sizeOfWax.2.1 1 = .ok (.bipush 13, 2) by decide +kernel) (by decide +kernel),
  fun d σ l0 x0 => ex_iv (hs := [825, 827, 56, 828, 114]) (show decode mX1_sizeOfWax.2.1 3 = .ok (.invokevirtual 75, 3) by decide +kernel) lkV_1_75 ⟨rfl, Nat.le_of_ble_eq_true rfl, Nat.le_of_ble_eq_true rfl, fun _ => rfl⟩ rfl rfl,
  fun d σ S k => ex_aload_n (show decode mX1_sizeOfWax.2.1 6 = .ok (.aload_n 0, 1) by decide +kernel) rfl,
  fun d σ l0 => ex_iv (hs := [829, 831, 57, 832, 114]) (show decode mX1_sizeOfWax.2.1 7 = .ok (.invokevirtual 57, 3) by decide +kernel) lkV_1_57 ⟨rfl, Nat.le_of_ble_eq_true rfl, Nat.le_of_ble_eq_true rfl, fun _ => rfl⟩ rfl rfl,
  fun d σ S l0 => ex_bipush (show decode mX1_sizeOfWax.2.1 10 = .ok (.bipush 100, 2) by decide +kernel) (by decide +kernel),
  fun d σ S l0 x y => ex_isub (show decode mX1_sizeOfWax.2.1 12 = .ok (.isub, 1) by decide +kernel),
  fun d σ l0 x => ex_iret (show decode mX1_sizeOfWax.2.1 13 = .ok (.ireturn, 1) by decide +kernel) rfl⟩
theorem aX1_sizeOfWax_48 : ∀ (d : Nat)  (σ : Sg), cal (d + 1) mX1_sizeOfWax [.ref 48] σ = exec d mX1_sizeOfWax 0 [.ref 48] [] σ := fun _ _ => rfl
theorem kX1_sizeOfBought : (∀ (d : Nat) (σ : Sg) (S : List Value) (k : Nat), exec d mX1_sizeOfBought 0 [.ref k] S σ = exec d mX1_sizeOfBought 1 [.ref k] (.ref k :: S) σ) ∧
  (∀ (d : Nat) (σ : Sg) (S : List Value) (l0 : Value), exec d mX1_sizeOfBought 1 [l0] S σ = exec d mX1_sizeOfBought 3 [l0] (.int (nI 14) :: S) σ) ∧
  (∀ (d : Nat) (σ : Sg) (l0 : Value) (x0 : Int32), exec d mX1_sizeOfBought 3 [l0] [.int x0, .ref 48] σ = kb (cal d mX1_begin [.ref 48, .int x0] σ) (fun rs σ2 => exec d mX1_sizeOfBought 6 [l0] (rs ++ []) σ2)) ∧
  (∀ (d : Nat) (σ : Sg) (S : List Value) (l0 : Value), exec d mX1_sizeOfBought 6 [l0] S σ = exec d mX1_sizeOfBought 7 [l0] (.int (nI 2) :: S) σ) ∧
  (∀ (d : Nat) (σ : Sg) (S : List Value) (k : Nat), exec d mX1_sizeOfBought 7 [.ref k] S σ = exec d mX1_sizeOfBought 8 [.ref k] (.ref k :: S) σ) ∧
  (∀ (d : Nat) (σ : Sg) (l0 : Value) (x1 : Int32), exec d mX1_sizeOfBought 8 [l0] [.ref 48, .int x1] σ = kb (cal d mX1_sizeOfWax [.ref 48] σ) (fun rs σ2 => exec d mX1_sizeOfBought 11 [l0] (rs ++ [.int x1]) σ2)) ∧
  (∀ (d : Nat) (σ : Sg) (S : List Value) (l0 : Value) (x y : Int32), exec d mX1_sizeOfBought 11 [l0] (.int y :: .int x :: S) σ = exec d mX1_sizeOfBought 12 [l0] (.int (x * y) :: S) σ) ∧
  (∀ (d : Nat) (σ : Sg) (l0 : Value) (x : Int32), exec d mX1_sizeOfBought 12 [l0] [.int x] σ = some (some (.int x), σ)) :=
  ⟨fun d σ S k => ex_aload_n (show decode mX1_sizeOfBought.2.1 0 = .ok (.aload_n 0, 1) by decide +kernel) rfl,
  fun d σ S l0 => ex_bipush (show decode mX1_sizeOfBought.2.1 1 = .ok (.bipush 14, 2) by decide +kernel) (by decide +kernel),
  fun d σ l0 x0 => ex_iv (hs := [825, 827, 56, 828, 114]) (show decode mX1_sizeOfBought.2.1 3 = .ok (.invokevirtual 75, 3) by decide +kernel) lkV_1_75 ⟨rfl, Nat.le_of_ble_eq_true rfl, Nat.le_of_ble_eq_true rfl, fun _ => rfl⟩ rfl rfl,
  fun d σ S l0 => ex_iconst (show decode mX1_sizeOfBought.2.1 6 = .ok (.iconst 2, 1) by decide +kernel) (by decide +kernel),
  fun d σ S k => ex_aload_n (show decode mX1_sizeOfBought.2.1 7 = .ok (.aload_n 0, 1) by decide +kernel) rfl,
  fun d σ l0 x1 => ex_iv (hs := [862, 864, 65, 865, 114]) (show decode mX1_sizeOfBought.2.1 8 = .ok (.invokevirtual 50, 3) by decide +kernel) lkV_1_50 ⟨rfl, Nat.le_of_ble_eq_true rfl, Nat.le_of_ble_eq_true rfl, fun _ => rfl⟩ rfl rfl,
  fun d σ S l0 x y => ex_imul (show decode mX1_sizeOfBought.2.1 11 = .ok (.imul, 1) by decide +kernel),
  fun d σ l0 x => ex_iret (show decode mX1_sizeOfBought.2.1 12 = .ok (.ireturn, 1) by decide +kernel) rfl⟩
theorem aX1_sizeOfBought_48 : ∀ (d : Nat)  (σ : Sg), cal (d + 1) mX1_sizeOfBought [.ref 48] σ = exec d mX1_sizeOfBought 0 [.ref 48] [] σ := fun _ _ => rfl
theorem kX1_markLent : (∀ (d : Nat) (σ : Sg) (S : List Value) (k : Nat), exec d mX1_markLent 0 [.ref k] S σ = exec d mX1_markLent 1 [.ref k] (.ref k :: S) σ) ∧
  (∀ (d : Nat) (σ : Sg) (S : List Value) (l0 : Value), exec d mX1_markLent 1 [l0] S σ = exec d mX1_markLent 3 [l0] (.int (nI 20) :: S) σ) ∧
  (∀ (d : Nat) (σ : Sg) (l0 : Value) (x0 : Int32), exec d mX1_markLent 3 [l0] [.int x0, .ref 48] σ = kb (cal d mX1_begin [.ref 48, .int x0] σ) (fun rs σ2 => exec d mX1_markLent 6 [l0] (rs ++ []) σ2)) ∧
  (∀ (d : Nat) (σ : Sg) (S : List Value) (k : Nat), exec d mX1_markLent 6 [.ref k] S σ = exec d mX1_markLent 7 [.ref k] (.ref k :: S) σ) ∧
  (∀ (d : Nat) (σ : Sg) (S : List Value) (l0 : Value), exec d mX1_markLent 7 [l0] (.ref 48 :: S) σ = exec d mX1_markLent 10 [l0] (.int (σ 48 2) :: S) σ) ∧
  (∀ (d : Nat) (σ : Sg) (l0 : Value) (x : Int32), exec d mX1_markLent 10 [l0] [.int x] σ = some (some (.int x), σ)) :=
  ⟨fun d σ S k => ex_aload_n (show decode mX1_markLent.2.1 0 = .ok (.aload_n 0, 1) by decide +kernel) rfl,
  fun d σ S l0 => ex_bipush (show decode mX1_markLent.2.1 1 = .ok (.bipush 20, 2) by decide +kernel) (by decide +kernel),
  fun d σ l0 x0 => ex_iv (hs := [825, 827, 56, 828, 114]) (show decode mX1_markLent.2.1 3 = .ok (.invokevirtual 75, 3) by decide +kernel) lkV_1_75 ⟨rfl, Nat.le_of_ble_eq_true rfl, Nat.le_of_ble_eq_true rfl, fun _ => rfl⟩ rfl rfl,
  fun d σ S k => ex_aload_n (show decode mX1_markLent.2.1 6 = .ok (.aload_n 0, 1) by decide +kernel) rfl,
  fun d σ S l0 => ex_get (idx := 19) (ci := 1) (ff := 2) (n := 6) (hh := 343) (by decide +kernel),
  fun d σ l0 x => ex_iret (show decode mX1_markLent.2.1 10 = .ok (.ireturn, 1) by decide +kernel) rfl⟩
theorem aX1_markLent_48 : ∀ (d : Nat)  (σ : Sg), cal (d + 1) mX1_markLent [.ref 48] σ = exec d mX1_markLent 0 [.ref 48] [] σ := fun _ _ => rfl
theorem kX1_markOfJoint : (∀ (d : Nat) (σ : Sg) (S : List Value) (k : Nat), exec d mX1_markOfJoint 0 [.ref k] S σ = exec d mX1_markOfJoint 1 [.ref k] (.ref k :: S) σ) ∧
  (∀ (d : Nat) (σ : Sg) (S : List Value) (l0 : Value), exec d mX1_markOfJoint 1 [l0] S σ = exec d mX1_markOfJoint 3 [l0] (.int (nI 21) :: S) σ) ∧
  (∀ (d : Nat) (σ : Sg) (l0 : Value) (x0 : Int32), exec d mX1_markOfJoint 3 [l0] [.int x0, .ref 48] σ = kb (cal d mX1_begin [.ref 48, .int x0] σ) (fun rs σ2 => exec d mX1_markOfJoint 6 [l0] (rs ++ []) σ2)) ∧
  (∀ (d : Nat) (σ : Sg) (S : List Value) (k : Nat), exec d mX1_markOfJoint 6 [.ref k] S σ = exec d mX1_markOfJoint 7 [.ref k] (.ref k :: S) σ) ∧
  (∀ (d : Nat) (σ : Sg) (l0 : Value), exec d mX1_markOfJoint 7 [l0] [.ref 48] σ = kb (cal d mX1_markLent [.ref 48] σ) (fun rs σ2 => exec d mX1_markOfJoint 10 [l0] (rs ++ []) σ2)) ∧
  (∀ (d : Nat) (σ : Sg) (S : List Value) (k : Nat), exec d mX1_markOfJoint 10 [.ref k] S σ = exec d mX1_markOfJoint 11 [.ref k] (.ref k :: S) σ) ∧
  (∀ (d : Nat) (σ : Sg) (S : List Value) (l0 : Value), exec d mX1_markOfJoint 11 [l0] (.ref 48 :: S) σ = exec d mX1_markOfJoint 14 [l0] (.int (σ 48 4) :: S) σ) ∧
  (∀ (d : Nat) (σ : Sg) (S : List Value) (l0 : Value) (x y : Int32), exec d mX1_markOfJoint 14 [l0] (.int y :: .int x :: S) σ = exec d mX1_markOfJoint 15 [l0] (.int (x + y) :: S) σ) ∧
  (∀ (d : Nat) (σ : Sg) (l0 : Value) (x : Int32), exec d mX1_markOfJoint 15 [l0] [.int x] σ = some (some (.int x), σ)) :=
  ⟨fun d σ S k => ex_aload_n (show decode mX1_markOfJoint.2.1 0 = .ok (.aload_n 0, 1) by decide +kernel) rfl,
  fun d σ S l0 => ex_bipush (show decode mX1_markOfJoint.2.1 1 = .ok (.bipush 21, 2) by decide +kernel) (by decide +kernel),
  fun d σ l0 x0 => ex_iv (hs := [825, 827, 56, 828, 114]) (show decode mX1_markOfJoint.2.1 3 = .ok (.invokevirtual 75, 3) by decide +kernel) lkV_1_75 ⟨rfl, Nat.le_of_ble_eq_true rfl, Nat.le_of_ble_eq_true rfl, fun _ => rfl⟩ rfl rfl,
  fun d σ S k => ex_aload_n (show decode mX1_markOfJoint.2.1 6 = .ok (.aload_n 0, 1) by decide +kernel) rfl,
  fun d σ l0 => ex_iv (hs := [841, 843, 60, 844, 114]) (show decode mX1_markOfJoint.2.1 7 = .ok (.invokevirtual 72, 3) by decide +kernel) lkV_1_72 ⟨rfl, Nat.le_of_ble_eq_true rfl, Nat.le_of_ble_eq_true rfl, fun _ => rfl⟩ rfl rfl,
  fun d σ S k => ex_aload_n (show decode mX1_markOfJoint.2.1 10 = .ok (.aload_n 0, 1) by decide +kernel) rfl,
  fun d σ S l0 => ex_get (idx := 33) (ci := 1) (ff := 4) (n := 6) (hh := 345) (by decide +kernel),
  fun d σ S l0 x y => ex_iadd (show decode mX1_markOfJoint.2.1 14 = .ok (.iadd, 1) by decide +kernel),
  fun d σ l0 x => ex_iret (show decode mX1_markOfJoint.2.1 15 = .ok (.ireturn, 1) by decide +kernel) rfl⟩
theorem aX1_markOfJoint_48 : ∀ (d : Nat)  (σ : Sg), cal (d + 1) mX1_markOfJoint [.ref 48] σ = exec d mX1_markOfJoint 0 [.ref 48] [] σ := fun _ _ => rfl
theorem kX1_markOfHidden : (∀ (d : Nat) (σ : Sg) (S : List Value) (k : Nat), exec d mX1_markOfHidden 0 [.ref k] S σ = exec d mX1_markOfHidden 1 [.ref k] (.ref k :: S) σ) ∧
  (∀ (d : Nat) (σ : Sg) (S : List Value) (l0 : Value), exec d mX1_markOfHidden 1 [l0] S σ = exec d mX1_markOfHidden 3 [l0] (.int (nI 22) :: S) σ) ∧
  (∀ (d : Nat) (σ : Sg) (l0 : Value) (x0 : Int32), exec d mX1_markOfHidden 3 [l0] [.int x0, .ref 48] σ = kb (cal d mX1_begin [.ref 48, .int x0] σ) (fun rs σ2 => exec d mX1_markOfHidden 6 [l0] (rs ++ []) σ2)) ∧
  (∀ (d : Nat) (σ : Sg) (S : List Value) (k : Nat), exec d mX1_markOfHidden 6 [.ref k] S σ = exec d mX1_markOfHidden 7 [.ref k] (.ref k :: S) σ) ∧
  (∀ (d : Nat) (σ : Sg) (l0 : Value), exec d mX1_markOfHidden 7 [l0] [.ref 48] σ = kb (cal d mX1_markOfJoint [.ref 48] σ) (fun rs σ2 => exec d mX1_markOfHidden 10 [l0] (rs ++ []) σ2)) ∧
  (∀ (d : Nat) (σ : Sg) (S : List Value) (l0 : Value), exec d mX1_markOfHidden 10 [l0] S σ = exec d mX1_markOfHidden 13 [l0] (.int (nI 1000) :: S) σ) ∧
  (∀ (d : Nat) (σ : Sg) (S : List Value) (l0 : Value) (x y : Int32), exec d mX1_markOfHidden 13 [l0] (.int y :: .int x :: S) σ = exec d mX1_markOfHidden 14 [l0] (.int (x - y) :: S) σ) ∧
  (∀ (d : Nat) (σ : Sg) (l0 : Value) (x : Int32), exec d mX1_markOfHidden 14 [l0] [.int x] σ = some (some (.int x), σ)) :=
  ⟨fun d σ S k => ex_aload_n (show decode mX1_markOfHidden.2.1 0 = .ok (.aload_n 0, 1) by decide +kernel) rfl,
  fun d σ S l0 => ex_bipush (show decode mX1_markOfHidden.2.1 1 = .ok (.bipush 22, 2) by decide +kernel) (by decide +kernel),
  fun d σ l0 x0 => ex_iv (hs := [825, 827, 56, 828, 114]) (show decode mX1_markOfHidden.2.1 3 = .ok (.invokevirtual 75, 3) by decide +kernel) lkV_1_75 ⟨rfl, Nat.le_of_ble_eq_true rfl, Nat.le_of_ble_eq_true rfl, fun _ => rfl⟩ rfl rfl,
  fun d σ S k => ex_aload_n (show decode mX1_markOfHidden.2.1 6 = .ok (.aload_n 0, 1) by decide +kernel) rfl,
  fun d σ l0 => ex_iv (hs := [837, 839, 59, 840, 114]) (show decode mX1_markOfHidden.2.1 7 = .ok (.invokevirtual 60, 3) by decide +kernel) lkV_1_60 ⟨rfl, Nat.le_of_ble_eq_true rfl, Nat.le_of_ble_eq_true rfl, fun _ => rfl⟩ rfl rfl,
  fun d σ S l0 => ex_sipush (show decode mX1_markOfHidden.2.1 10 = .ok (.sipush 1000, 3) by decide +kernel) (by decide +kernel),
  fun d σ S l0 x y => ex_isub (show decode mX1_markOfHidden.2.1 13 = .ok (.isub, 1) by decide +kernel),
  fun d σ l0 x => ex_iret (show decode mX1_markOfHidden.2.1 14 = .ok (.ireturn, 1) by decide +kernel) rfl⟩
theorem aX1_markOfHidden_48 : ∀ (d : Nat)  (σ : Sg), cal (d + 1) mX1_markOfHidden [.ref 48] σ = exec d mX1_markOfHidden 0 [.ref 48] [] σ := fun _ _ => rfl
theorem kX1_markOfWax : (∀ (d : Nat) (σ : Sg) (S : List Value) (l1 l2 : Value) (k : Nat), exec d mX1_markOfWax 0 [.ref k, l1, l2] S σ = exec d mX1_markOfWax 1 [.ref k, l1, l2] (.ref k :: S) σ) ∧
  (∀ (d : Nat) (σ : Sg) (S : List Value) (l0 l1 l2 : Value), exec d mX1_markOfWax 1 [l0, l1, l2] S σ = exec d mX1_markOfWax 3 [l0, l1, l2] (.int (nI 23) :: S) σ) ∧
  (∀ (d : Nat) (σ : Sg) (l0 l1 l2 : Value) (x0 : Int32), exec d mX1_markOfWax 3 [l0, l1, l2] [.int x0, .ref 48] σ = kb (cal d mX1_begin [.ref 48, .int x0] σ) (fun rs σ2 => exec d mX1_markOfWax 6 [l0, l1, l2] (rs ++ []) σ2)) ∧
  (∀ (d : Nat) (σ : Sg) (S : List Value) (l1 l2 : Value) (k : Nat), exec d mX1_markOfWax 6 [.ref k, l1, l2] S σ = exec d mX1_markOfWax 7 [.ref k, l1, l2] (.ref k :: S) σ) ∧
  (∀ (d : Nat) (σ : Sg) (l0 l1 l2 : Value), exec d mX1_markOfWax 7 [l0, l1, l2] [.ref 48] σ = kb (cal d mX1_markLent [.ref 48] σ) (fun rs σ2 => exec d mX1_markOfWax 10 [l0, l1, l2] (rs ++ []) σ2)) ∧
  (∀ (d : Nat) (σ : Sg) (S : List Value) (l0 l2 : Value) (x y : Int32), exec d mX1_markOfWax 10 [l0, .int y, l2] (.int x :: S) σ = exec d mX1_markOfWax 11 [l0, .int y, .int x] S σ) ∧
  (∀ (d : Nat) (σ : Sg) (S : List Value) (l0 l1 : Value) (x : Int32), exec d mX1_markOfWax 11 [l0, l1, .int x] S σ = exec d mX1_markOfWax 12 [l0, l1, .int x] (.int x :: S) σ) ∧
  (∀ (d : Nat) (σ : Sg) (S : List Value) (l1 l2 : Value) (k : Nat), exec d mX1_markOfWax 12 [.ref k, l1, l2] S σ = exec d mX1_markOfWax 13 [.ref k, l1, l2] (.ref k :: S) σ) ∧
  (∀ (d : Nat) (σ : Sg) (S : List Value) (l0 l2 : Value) (x : Int32), exec d mX1_markOfWax 13 [l0, .int x, l2] S σ = exec d mX1_markOfWax 14 [l0, .int x, l2] (.int x :: S) σ) ∧
  (∀ (d : Nat) (σ : Sg) (S : List Value) (l0 l1 l2 : Value), exec d mX1_markOfWax 14 [l0, l1, l2] S σ = exec d mX1_markOfWax 15 [l0, l1, l2] (.int (nI 1) :: S) σ) ∧
  (∀ (d : Nat) (σ : Sg) (S : List Value) (l0 l1 l2 : Value) (x y : Int32), exec d mX1_markOfWax 15 [l0, l1, l2] (.int y :: .int x :: S) σ = exec d mX1_markOfWax 16 [l0, l1, l2] (.int (x + y) :: S) σ) ∧
  (∀ (d : Nat) (σ : Sg) (l0 l1 l2 : Value) (x0 x2 : Int32), exec d mX1_markOfWax 16 [l0, l1, l2] [.int x0, .ref 48, .int x2] σ = kb (cal d mX1_askSize [.ref 48, .int x0] σ) (fun rs σ2 => exec d mX1_markOfWax 19 [l0, l1, l2] (rs ++ [.int x2]) σ2)) ∧
  (∀ (d : Nat) (σ : Sg) (S : List Value) (l0 l1 l2 : Value) (x y : Int32), exec d mX1_markOfWax 19 [l0, l1, l2] (.int y :: .int x :: S) σ = exec d mX1_markOfWax 20 [l0, l1, l2] (.int (x - y) :: S) σ) ∧
  (∀ (d : Nat) (σ : Sg) (l0 l1 l2 : Value) (x : Int32), exec d mX1_markOfWax 20 [l0, l1, l2] [.int x] σ = some (some (.int x), σ)) :=
  ⟨fun d σ S l1 l2 k => ex_aload_n (show decode mX1_markOfWax.2.1 0 = .ok (.aload_n 0, 1) by decide +kernel) rfl,
  fun d σ S l0 l1 l2 => ex_bipush (show decode mX1_markOfWax.2.1 1 = .ok (.bipush 23, 2) by decide +kernel) (by decide +kernel),
  fun d σ l0 l1 l2 x0 => ex_iv (hs := [825, 827, 56, 828, 114]) (show decode mX1_markOfWax.2.1 3 = .ok (.invokevirtual 75, 3) by decide +kernel) lkV_1_75 ⟨rfl, Nat.le_of_ble_eq_true rfl, Nat.le_of_ble_eq_true rfl, fun _ => rfl⟩ rfl rfl,
  fun d σ S l1 l2 k => ex_aload_n (show decode mX1_markOfWax.2.1 6 = .ok (.aload_n 0, 1) by decide +kernel) rfl,
  fun d σ l0 l1 l2 => ex_iv (hs := [841, 843, 60, 844, 114]) (show decode mX1_markOfWax.2.1 7 = .ok (.invokevirtual 72, 3) by decide +kernel) lkV_1_72 ⟨rfl, Nat.le_of_ble_eq_true rfl, Nat.le_of_ble_eq_true rfl, fun _ => rfl⟩ rfl rfl,
  fun d σ S l0 l2 x y => ex_istore_n (show decode mX1_markOfWax.2.1 10 = .ok (.istore_n 2, 1) by decide +kernel) (Nat.le_of_ble_eq_true rfl) rfl,
  fun d σ S l0 l1 x => ex_iload_n (show decode mX1_markOfWax.2.1 11 = .ok (.iload_n 2, 1) by decide +kernel) rfl,
  fun d σ S l1 l2 k => ex_aload_n (show decode mX1_markOfWax.2.1 12 = .ok (.aload_n 0, 1) by decide +kernel) rfl,
  fun d σ S l0 l2 x => ex_iload_n (show decode mX1_markOfWax.2.1 13 = .ok (.iload_n 1, 1) by decide +kernel) rfl,
  fun d σ S l0 l1 l2 => ex_iconst (show decode mX1_markOfWax.2.1 14 = .ok (.iconst 1, 1) by decide +kernel) (by decide +kernel),
  fun d σ S l0 l1 l2 x y => ex_iadd (show decode mX1_markOfWax.2.1 15 = .ok (.iadd, 1) by decide +kernel),
  fun d σ l0 l1 l2 x0 x2 => ex_iv (hs := [857, 818, 54, 819, 114]) (show decode mX1_markOfWax.2.1 16 = .ok (.invokevirtual 82, 3) by decide +kernel) lkV_1_82 ⟨rfl, Nat.le_of_ble_eq_true rfl, Nat.le_of_ble_eq_true rfl, fun _ => rfl⟩ rfl rfl,
  fun d σ S l0 l1 l2 x y => ex_isub (show decode mX1_markOfWax.2.1 19 = .ok (.isub, 1) by decide +kernel),
  fun d σ l0 l1 l2 x => ex_iret (show decode mX1_markOfWax.2.1 20 = .ok (.ireturn, 1) by decide +kernel) rfl⟩
theorem aX1_markOfWax_48 : ∀ (d : Nat) (a1 : Int32) (σ : Sg), cal (d + 1) mX1_markOfWax [.ref 48, .int a1] σ = exec d mX1_markOfWax 0 [.ref 48, .int a1, uu] [] σ := fun _ _ _ => rfl
theorem kX1_markOfCarved : (∀ (d : Nat) (σ : Sg) (S : List Value) (k : Nat), exec d mX1_markOfCarved 0 [.ref k] S σ = exec d mX1_markOfCarved 1 [.ref k] (.ref k :: S) σ) ∧
  (∀ (d : Nat) (σ : Sg) (S : List Value) (l0 : Value), exec d mX1_markOfCarved 1 [l0] S σ = exec d mX1_markOfCarved 3 [l0] (.int (nI 24) :: S) σ) ∧
  (∀ (d : Nat) (σ : Sg) (l0 : Value) (x0 : Int32), exec d mX1_markOfCarved 3 [l0] [.int x0, .ref 48] σ = kb (cal d mX1_begin [.ref 48, .int x0] σ) (fun rs σ2 => exec d mX1_markOfCarved 6 [l0] (rs ++ []) σ2)) ∧
  (∀ (d : Nat) (σ : Sg) (S : List Value) (l0 : Value), exec d mX1_markOfCarved 6 [l0] S σ = exec d mX1_markOfCarved 7 [l0] (.int (nI 2) :: S) σ) ∧
  (∀ (d : Nat) (σ : Sg) (S : List Value) (k : Nat), exec d mX1_markOfCarved 7 [.ref k] S σ = exec d mX1_markOfCarved 8 [.ref k] (.ref k :: S) σ) ∧
  (∀ (d : Nat) (σ : Sg) (l0 : Value) (x1 : Int32), exec d mX1_markOfCarved 8 [l0] [.ref 48, .int x1] σ = kb (cal d mX1_markOfJoint [.ref 48] σ) (fun rs σ2 => exec d mX1_markOfCarved 11 [l0] (rs ++ [.int x1]) σ2)) ∧
  (∀ (d : Nat) (σ : Sg) (S : List Value) (l0 : Value) (x y : Int32), exec d mX1_markOfCarved 11 [l0] (.int y :: .int x :: S) σ = exec d mX1_markOfCarved 12 [l0] (.int (x * y) :: S) σ) ∧
  (∀ (d : Nat) (σ : Sg) (l0 : Value) (x : Int32), exec d mX1_markOfCarved 12 [l0] [.int x] σ = some (some (.int x), σ)) :=
  ⟨fun d σ S k => ex_aload_n (show decode mX1_markOfCarved.2.1 0 = .ok (.aload_n 0, 1) by decide +kernel) rfl,
  fun d σ S l0 => ex_bipush (show decode mX1_markOfCarved.2.1 1 = .ok (.bipush 24, 2) by decide +kernel) (by decide +kernel),
  fun d σ l0 x0 => ex_iv (hs := [825, 827, 56, 828, 114]) (show decode mX1_markOfCarved.2.1 3 = .ok (.invokevirtual 75, 3) by decide +kernel) lkV_1_75 ⟨rfl, Nat.le_of_ble_eq_true rfl, Nat.le_of_ble_eq_true rfl, fun _ => rfl⟩ rfl rfl,
  fun d σ S l0 => ex_iconst (show decode mX1_markOfCarved.2.1 6 = .ok (.iconst 2, 1) by decide +kernel) (by decide +kernel),
  fun d σ S k => ex_aload_n (show decode mX1_markOfCarved.2.1 7 = .ok (.aload_n 0, 1) by decide +kernel) rfl,
  fun d σ l0 x1 => ex_iv (hs := [837, 839, 59, 840, 114]) (show decode mX1_markOfCarved.2.1 8 = .ok (.invokevirtual 60, 3) by decide +kernel) lkV_1_60 ⟨rfl, Nat.le_of_ble_eq_true rfl, Nat.le_of_ble_eq_true rfl, fun _ => rfl⟩ rfl rfl,
  fun d σ S l0 x y => ex_imul (show decode mX1_markOfCarved.2.1 11 = .ok (.imul, 1) by decide +kernel),
  fun d σ l0 x => ex_iret (show decode mX1_markOfCarved.2.1 12 = .ok (.ireturn, 1) by decide +kernel) rfl⟩
theorem aX1_markOfCarved_48 : ∀ (d : Nat)  (σ : Sg), cal (d + 1) mX1_markOfCarved [.ref 48] σ = exec d mX1_markOfCarved 0 [.ref 48] [] σ := fun _ _ => rfl
