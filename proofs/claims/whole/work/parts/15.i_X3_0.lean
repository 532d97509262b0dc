/-! generated: the instructions of GuildPiece$Rows -/
theorem kX3_lay : (∀ (d : Nat) (σ : Sg) (S : List Value) (l1 l2 l3 l4 : Value) (k : Nat), exec d mX3_lay 0 [.ref k, l1, l2, l3, l4] S σ = exec d mX3_lay 1 [.ref k, l1, l2, l3, l4] (.ref k :: S) σ) ∧
  (∀ (d : Nat) (σ : Sg) (S : List Value) (l0 l1 l2 l3 l4 : Value), exec d mX3_lay 1 [l0, l1, l2, l3, l4] (.ref 1 :: S) σ = exec d mX3_lay 4 [l0, l1, l2, l3, l4] (.ref 2 :: S) σ) ∧
  (∀ (d : Nat) (σ : Sg) (S : List Value) (l0 l2 l3 l4 : Value) (x : Int32), exec d mX3_lay 4 [l0, .int x, l2, l3, l4] S σ = exec d mX3_lay 5 [l0, .int x, l2, l3, l4] (.int x :: S) σ) ∧
  (∀ (d : Nat) (σ : Sg) (S : List Value) (l0 l1 l2 l3 l4 : Value), exec d mX3_lay 5 [l0, l1, l2, l3, l4] S σ = exec d mX3_lay 6 [l0, l1, l2, l3, l4] (.int (nI 1) :: S) σ) ∧
  (∀ (d : Nat) (σ : Sg) (S : List Value) (l0 l1 l2 l3 l4 : Value) (x y : Int32), exec d mX3_lay 6 [l0, l1, l2, l3, l4] (.int y :: .int x :: .ref 2 :: S) σ = if inb x 8 = true ∧ b01 y = true then exec d mX3_lay 7 [l0, l1, l2, l3, l4] S (up σ 2 x.toNatClampNeg y) else none) ∧
  (∀ (d : Nat) (σ : Sg) (S : List Value) (l1 l2 l3 l4 : Value) (k : Nat), exec d mX3_lay 7 [.ref k, l1, l2, l3, l4] S σ = exec d mX3_lay 8 [.ref k, l1, l2, l3, l4] (.ref k :: S) σ) ∧
  (∀ (d : Nat) (σ : Sg) (S : List Value) (l0 l1 l2 l3 l4 : Value), exec d mX3_lay 8 [l0, l1, l2, l3, l4] (.ref 1 :: S) σ = exec d mX3_lay 11 [l0, l1, l2, l3, l4] (.ref 3 :: S) σ) ∧
  (∀ (d : Nat) (σ : Sg) (S : List Value) (l0 l2 l3 l4 : Value) (x : Int32), exec d mX3_lay 11 [l0, .int x, l2, l3, l4] S σ = exec d mX3_lay 12 [l0, .int x, l2, l3, l4] (.int x :: S) σ) ∧
  (∀ (d : Nat) (σ : Sg) (S : List Value) (l0 l1 l3 l4 : Value) (x : Int32), exec d mX3_lay 12 [l0, l1, .int x, l3, l4] S σ = exec d mX3_lay 13 [l0, l1, .int x, l3, l4] (.int x :: S) σ) ∧
  (∀ (d : Nat) (σ : Sg) (S : List Value) (l0 l1 l2 l3 l4 : Value) (x y : Int32), exec d mX3_lay 13 [l0, l1, l2, l3, l4] (.int y :: .int x :: .ref 3 :: S) σ = if inb x 8 = true then exec d mX3_lay 14 [l0, l1, l2, l3, l4] S (up σ 3 x.toNatClampNeg y) else none) ∧
  (∀ (d : Nat) (σ : Sg) (S : List Value) (l1 l2 l3 l4 : Value) (k : Nat), exec d mX3_lay 14 [.ref k, l1, l2, l3, l4] S σ = exec d mX3_lay 15 [.ref k, l1, l2, l3, l4] (.ref k :: S) σ) ∧
  (∀ (d : Nat) (σ : Sg) (S : List Value) (l0 l1 l2 l3 l4 : Value), exec d mX3_lay 15 [l0, l1, l2, l3, l4] (.ref 1 :: S) σ = exec d mX3_lay 18 [l0, l1, l2, l3, l4] (.ref 4 :: S) σ) ∧
  (∀ (d : Nat) (σ : Sg) (S : List Value) (l0 l2 l3 l4 : Value) (x : Int32), exec d mX3_lay 18 [l0, .int x, l2, l3, l4] S σ = exec d mX3_lay 19 [l0, .int x, l2, l3, l4] (.int x :: S) σ) ∧
  (∀ (d : Nat) (σ : Sg) (S : List Value) (l0 l1 l2 l4 : Value) (x : Int32), exec d mX3_lay 19 [l0, l1, l2, .int x, l4] S σ = exec d mX3_lay 20 [l0, l1, l2, .int x, l4] (.int x :: S) σ) ∧
  (∀ (d : Nat) (σ : Sg) (S : List Value) (l0 l1 l2 l3 l4 : Value) (x y : Int32), exec d mX3_lay 20 [l0, l1, l2, l3, l4] (.int y :: .int x :: .ref 4 :: S) σ = if inb x 8 = true then exec d mX3_lay 21 [l0, l1, l2, l3, l4] S (up σ 4 x.toNatClampNeg y) else none) ∧
  (∀ (d : Nat) (σ : Sg) (S : List Value) (l0 l1 l2 l3 l4 : Value), exec d mX3_lay 21 [l0, l1, l2, l3, l4] S σ = exec d mX3_lay 22 [l0, l1, l2, l3, l4] (.int (nI 0) :: S) σ) ∧
  (∀ (d : Nat) (σ : Sg) (S : List Value) (l0 l1 l2 l4 : Value) (x y : Int32), exec d mX3_lay 22 [l0, l1, l2, .int y, l4] (.int x :: S) σ = exec d mX3_lay 24 [l0, l1, l2, .int y, .int x] S σ) ∧
  (∀ (d : Nat) (σ : Sg) (S : List Value) (l0 l1 l2 l4 : Value) (x : Int32), exec d mX3_lay 26 [l0, l1, l2, .int x, l4] S σ = exec d mX3_lay 27 [l0, l1, l2, .int x, l4] (.int x :: S) σ) ∧
  (∀ (d : Nat) (σ : Sg) (S : List Value) (l0 l1 l2 l3 l4 : Value) (x y : Int32), exec d mX3_lay 27 [l0, l1, l2, l3, l4] (.int y :: .int x :: S) σ = if y ≤ x then exec d mX3_lay 49 [l0, l1, l2, l3, l4] S σ else exec d mX3_lay 30 [l0, l1, l2, l3, l4] S σ) ∧
  (∀ (d : Nat) (σ : Sg) (S : List Value) (l1 l2 l3 l4 : Value) (k : Nat), exec d mX3_lay 30 [.ref k, l1, l2, l3, l4] S σ = exec d mX3_lay 31 [.ref k, l1, l2, l3, l4] (.ref k :: S) σ) ∧
  (∀ (d : Nat) (σ : Sg) (S : List Value) (l0 l1 l2 l3 l4 : Value), exec d mX3_lay 31 [l0, l1, l2, l3, l4] (.ref 1 :: S) σ = exec d mX3_lay 34 [l0, l1, l2, l3, l4] (.ref 5 :: S) σ) ∧
  (∀ (d : Nat) (σ : Sg) (S : List Value) (l0 l2 l3 l4 : Value) (x : Int32), exec d mX3_lay 34 [l0, .int x, l2, l3, l4] S σ = exec d mX3_lay 35 [l0, .int x, l2, l3, l4] (.int x :: S) σ) ∧
  (∀ (d : Nat) (σ : Sg) (S : List Value) (l0 l1 l2 l3 l4 : Value), exec d mX3_lay 35 [l0, l1, l2, l3, l4] S σ = exec d mX3_lay 37 [l0, l1, l2, l3, l4] (.int (nI 40) :: S) σ) ∧
  (∀ (d : Nat) (σ : Sg) (S : List Value) (l0 l1 l2 l3 l4 : Value) (x y : Int32), exec d mX3_lay 37 [l0, l1, l2, l3, l4] (.int y :: .int x :: S) σ = exec d mX3_lay 38 [l0, l1, l2, l3, l4] (.int (x * y) :: S) σ) ∧
  (∀ (d : Nat) (σ : Sg) (S : List Value) (l0 l1 l2 l3 : Value) (x : Int32), exec d mX3_lay 38 [l0, l1, l2, l3, .int x] S σ = exec d mX3_lay 40 [l0, l1, l2, l3, .int x] (.int x :: S) σ) ∧
  (∀ (d : Nat) (σ : Sg) (S : List Value) (l0 l1 l2 l3 l4 : Value) (x y : Int32), exec d mX3_lay 40 [l0, l1, l2, l3, l4] (.int y :: .int x :: S) σ = exec d mX3_lay 41 [l0, l1, l2, l3, l4] (.int (x + y) :: S) σ) ∧
  (∀ (d : Nat) (σ : Sg) (S : List Value) (l0 l1 l2 l3 l4 : Value), exec d mX3_lay 41 [l0, l1, l2, l3, l4] S σ = exec d mX3_lay 42 [l0, l1, l2, l3, l4] (.int (nI 0) :: S) σ) ∧
  (∀ (d : Nat) (σ : Sg) (S : List Value) (l0 l1 l2 l3 l4 : Value) (x y : Int32), exec d mX3_lay 42 [l0, l1, l2, l3, l4] (.int y :: .int x :: .ref 5 :: S) σ = if inb x 320 = true then exec d mX3_lay 43 [l0, l1, l2, l3, l4] S (up σ 5 x.toNatClampNeg y) else none) ∧
  (∀ (d : Nat) (σ : Sg) (S : List Value) (l0 l1 l2 : Value) (x y : Int32), exec d mX3_lay 43 [l0, l1, l2, .int y, .int x] S σ = exec d mX3_lay 46 [l0, l1, l2, .int y, .int (x + nI 1)] S σ) ∧
  (∀ (d : Nat) (σ : Sg) (S : List Value) (l0 l1 l2 l3 l4 : Value), exec d mX3_lay 46 [l0, l1, l2, l3, l4] S σ = exec d mX3_lay 24 [l0, l1, l2, l3, l4] S σ) ∧
  (∀ (d : Nat) (σ : Sg) (l0 l1 l2 l3 l4 : Value), exec d mX3_lay 49 [l0, l1, l2, l3, l4] [] σ = some (none, σ)) :=
  ⟨fun d σ S l1 l2 l3 l4 k => ex_aload_n (show decode mX3_lay.2.1 0 = .ok (.aload_n 0, 1) by decide +kernel) rfl,
  fun d σ S l0 l1 l2 l3 l4 => ex_getr (idx := 9) (ci := 3) (ff := 0) (n := 4) (hh := 119) (by decide +kernel),
  fun d σ S l0 l2 l3 l4 x => ex_iload_n (show decode mX3_lay.2.1 4 = .ok (.iload_n 1, 1) by decide +kernel) rfl,
  fun d σ S l0 l1 l2 l3 l4 => ex_iconst (show decode mX3_lay.2.1 5 = .ok (.iconst 1, 1) by decide +kernel) (by decide +kernel),
  fun d σ S l0 l1 l2 l3 l4 x y => ex_bast (by decide +kernel),
  fun d σ S l1 l2 l3 l4 k => ex_aload_n (show decode mX3_lay.2.1 7 = .ok (.aload_n 0, 1) by decide +kernel) rfl,
  fun d σ S l0 l1 l2 l3 l4 => ex_getr (idx := 13) (ci := 3) (ff := 1) (n := 4) (hh := 121) (by decide +kernel),
  fun d σ S l0 l2 l3 l4 x => ex_iload_n (show decode mX3_lay.2.1 11 = .ok (.iload_n 1, 1) by decide +kernel) rfl,
  fun d σ S l0 l1 l3 l4 x => ex_iload_n (show decode mX3_lay.2.1 12 = .ok (.iload_n 2, 1) by decide +kernel) rfl,
  fun d σ S l0 l1 l2 l3 l4 x y => ex_iast (by decide +kernel),
  fun d σ S l1 l2 l3 l4 k => ex_aload_n (show decode mX3_lay.2.1 14 = .ok (.aload_n 0, 1) by decide +kernel) rfl,
  fun d σ S l0 l1 l2 l3 l4 => ex_getr (idx := 17) (ci := 3) (ff := 2) (n := 4) (hh := 123) (by decide +kernel),
  fun d σ S l0 l2 l3 l4 x => ex_iload_n (show decode mX3_lay.2.1 18 = .ok (.iload_n 1, 1) by decide +kernel) rfl,
  fun d σ S l0 l1 l2 l4 x => ex_iload_n (show decode mX3_lay.2.1 19 = .ok (.iload_n 3, 1) by decide +kernel) rfl,
  fun d σ S l0 l1 l2 l3 l4 x y => ex_iast (by decide +kernel),
  fun d σ S l0 l1 l2 l3 l4 => ex_iconst (show decode mX3_lay.2.1 21 = .ok (.iconst 0, 1) by decide +kernel) (by decide +kernel),
  fun d σ S l0 l1 l2 l4 x y => ex_istore (show decode mX3_lay.2.1 22 = .ok (.istore 4, 2) by decide +kernel) (Nat.le_of_ble_eq_true rfl) rfl,
  fun d σ S l0 l1 l2 l4 x => ex_iload_n (show decode mX3_lay.2.1 26 = .ok (.iload_n 3, 1) by decide +kernel) rfl,
  fun d σ S l0 l1 l2 l3 l4 x y => ex_cge (show decode mX3_lay.2.1 27 = .ok (.if_icmp .ge 22, 3) by decide +kernel) (by decide),
  fun d σ S l1 l2 l3 l4 k => ex_aload_n (show decode mX3_lay.2.1 30 = .ok (.aload_n 0, 1) by decide +kernel) rfl,
  fun d σ S l0 l1 l2 l3 l4 => ex_getr (idx := 20) (ci := 3) (ff := 3) (n := 4) (hh := 125) (by decide +kernel),
  fun d σ S l0 l2 l3 l4 x => ex_iload_n (show decode mX3_lay.2.1 34 = .ok (.iload_n 1, 1) by decide +kernel) rfl,
  fun d σ S l0 l1 l2 l3 l4 => ex_bipush (show decode mX3_lay.2.1 35 = .ok (.bipush 40, 2) by decide +kernel) (by decide +kernel),
  fun d σ S l0 l1 l2 l3 l4 x y => ex_imul (show decode mX3_lay.2.1 37 = .ok (.imul, 1) by decide +kernel),
  fun d σ S l0 l1 l2 l3 x => ex_iload (show decode mX3_lay.2.1 38 = .ok (.iload 4, 2) by decide +kernel) rfl,
  fun d σ S l0 l1 l2 l3 l4 x y => ex_iadd (show decode mX3_lay.2.1 40 = .ok (.iadd, 1) by decide +kernel),
  fun d σ S l0 l1 l2 l3 l4 => ex_iconst (show decode mX3_lay.2.1 41 = .ok (.iconst 0, 1) by decide +kernel) (by decide +kernel),
  fun d σ S l0 l1 l2 l3 l4 x y => ex_iast (by decide +kernel),
  fun d σ S l0 l1 l2 x y => ex_iinc (show decode mX3_lay.2.1 43 = .ok (.iinc 4 1, 3) by decide +kernel) rfl (by decide +kernel) (Nat.le_of_ble_eq_true rfl) rfl,
  fun d σ S l0 l1 l2 l3 l4 => ex_goto (show decode mX3_lay.2.1 46 = .ok (.goto (-22), 3) by decide +kernel) (by decide),
  fun d σ l0 l1 l2 l3 l4 => ex_vret (show decode mX3_lay.2.1 49 = .ok (.return_, 1) by decide +kernel) rfl⟩
theorem hX3_lay_24 : ∀ (d : Nat) (σ : Sg) (S : List Value) (l0 l1 l2 l3 : Value) (x : Int32), exec d mX3_lay 24 [l0, l1, l2, l3, .int x] S σ = exec d mX3_lay 26 [l0, l1, l2, l3, .int x] (.int x :: S) σ := fun d σ S l0 l1 l2 l3 x => ex_iload (show decode mX3_lay.2.1 24 = .ok (.iload 4, 2) by decide +kernel) rfl
theorem aX3_lay_1 : ∀ (d : Nat) (a1 : Int32) (a2 : Int32) (a3 : Int32) (σ : Sg), cal (d + 1) mX3_lay [.ref 1, .int a1, .int a2, .int a3] σ = exec d mX3_lay 0 [.ref 1, .int a1, .int a2, .int a3, uu] [] σ := fun _ _ _ _ _ => rfl
theorem kX3_holds : (∀ (d : Nat) (σ : Sg) (S : List Value) (l0 l1 l3 : Value) (x : Int32), exec d mX3_holds 0 [l0, l1, .int x, l3] S σ = exec d mX3_holds 1 [l0, l1, .int x, l3] (.int x :: S) σ) ∧
  (∀ (d : Nat) (σ : Sg) (S : List Value) (l0 l1 l2 l3 : Value) (x : Int32), exec d mX3_holds 1 [l0, l1, l2, l3] (.int x :: S) σ = if x < nI 0 then exec d mX3_holds 34 [l0, l1, l2, l3] S σ else exec d mX3_holds 4 [l0, l1, l2, l3] S σ) ∧
  (∀ (d : Nat) (σ : Sg) (S : List Value) (l0 l1 l2 : Value) (x : Int32), exec d mX3_holds 4 [l0, l1, l2, .int x] S σ = exec d mX3_holds 5 [l0, l1, l2, .int x] (.int x :: S) σ) ∧
  (∀ (d : Nat) (σ : Sg) (S : List Value) (l0 l1 l2 l3 : Value) (x : Int32), exec d mX3_holds 5 [l0, l1, l2, l3] (.int x :: S) σ = if x < nI 0 then exec d mX3_holds 34 [l0, l1, l2, l3] S σ else exec d mX3_holds 8 [l0, l1, l2, l3] S σ) ∧
  (∀ (d : Nat) (σ : Sg) (S : List Value) (l0 l1 l2 : Value) (x : Int32), exec d mX3_holds 8 [l0, l1, l2, .int x] S σ = exec d mX3_holds 9 [l0, l1, l2, .int x] (.int x :: S) σ) ∧
  (∀ (d : Nat) (σ : Sg) (S : List Value) (l1 l2 l3 : Value) (k : Nat), exec d mX3_holds 9 [.ref k, l1, l2, l3] S σ = exec d mX3_holds 10 [.ref k, l1, l2, l3] (.ref k :: S) σ) ∧
  (∀ (d : Nat) (σ : Sg) (S : List Value) (l0 l1 l2 l3 : Value), exec d mX3_holds 10 [l0, l1, l2, l3] (.ref 1 :: S) σ = exec d mX3_holds 13 [l0, l1, l2, l3] (.ref 4 :: S) σ) ∧
  (∀ (d : Nat) (σ : Sg) (S : List Value) (l0 l2 l3 : Value) (x : Int32), exec d mX3_holds 13 [l0, .int x, l2, l3] S σ = exec d mX3_holds 14 [l0, .int x, l2, l3] (.int x :: S) σ) ∧
  (∀ (d : Nat) (σ : Sg) (S : List Value) (l0 l1 l2 l3 : Value) (x : Int32), exec d mX3_holds 14 [l0, l1, l2, l3] (.int x :: .ref 4 :: S) σ = if inb x 8 = true then exec d mX3_holds 15 [l0, l1, l2, l3] (.int (σ 4 x.toNatClampNeg) :: S) σ else none) ∧
  (∀ (d : Nat) (σ : Sg) (S : List Value) (l0 l1 l2 l3 : Value) (x y : Int32), exec d mX3_holds 15 [l0, l1, l2, l3] (.int y :: .int x :: S) σ = if y < x then exec d mX3_holds 34 [l0, l1, l2, l3] S σ else exec d mX3_holds 18 [l0, l1, l2, l3] S σ) ∧
  (∀ (d : Nat) (σ : Sg) (S : List Value) (l0 l1 l3 : Value) (x : Int32), exec d mX3_holds 18 [l0, l1, .int x, l3] S σ = exec d mX3_holds 19 [l0, l1, .int x, l3] (.int x :: S) σ) ∧
  (∀ (d : Nat) (σ : Sg) (S : List Value) (l1 l2 l3 : Value) (k : Nat), exec d mX3_holds 19 [.ref k, l1, l2, l3] S σ = exec d mX3_holds 20 [.ref k, l1, l2, l3] (.ref k :: S) σ) ∧
  (∀ (d : Nat) (σ : Sg) (S : List Value) (l0 l1 l2 l3 : Value), exec d mX3_holds 20 [l0, l1, l2, l3] (.ref 1 :: S) σ = exec d mX3_holds 23 [l0, l1, l2, l3] (.ref 4 :: S) σ) ∧
  (∀ (d : Nat) (σ : Sg) (S : List Value) (l0 l2 l3 : Value) (x : Int32), exec d mX3_holds 23 [l0, .int x, l2, l3] S σ = exec d mX3_holds 24 [l0, .int x, l2, l3] (.int x :: S) σ) ∧
  (∀ (d : Nat) (σ : Sg) (S : List Value) (l0 l1 l2 l3 : Value) (x : Int32), exec d mX3_holds 24 [l0, l1, l2, l3] (.int x :: .ref 4 :: S) σ = if inb x 8 = true then exec d mX3_holds 25 [l0, l1, l2, l3] (.int (σ 4 x.toNatClampNeg) :: S) σ else none) ∧
  (∀ (d : Nat) (σ : Sg) (S : List Value) (l0 l1 l2 : Value) (x : Int32), exec d mX3_holds 25 [l0, l1, l2, .int x] S σ = exec d mX3_holds 26 [l0, l1, l2, .int x] (.int x :: S) σ) ∧
  (∀ (d : Nat) (σ : Sg) (S : List Value) (l0 l1 l2 l3 : Value) (x y : Int32), exec d mX3_holds 26 [l0, l1, l2, l3] (.int y :: .int x :: S) σ = exec d mX3_holds 27 [l0, l1, l2, l3] (.int (x - y) :: S) σ) ∧
  (∀ (d : Nat) (σ : Sg) (S : List Value) (l0 l1 l2 l3 : Value) (x y : Int32), exec d mX3_holds 27 [l0, l1, l2, l3] (.int y :: .int x :: S) σ = if y < x then exec d mX3_holds 34 [l0, l1, l2, l3] S σ else exec d mX3_holds 30 [l0, l1, l2, l3] S σ) ∧
  (∀ (d : Nat) (σ : Sg) (S : List Value) (l0 l1 l2 l3 : Value), exec d mX3_holds 30 [l0, l1, l2, l3] S σ = exec d mX3_holds 31 [l0, l1, l2, l3] (.int (nI 1) :: S) σ) ∧
  (∀ (d : Nat) (σ : Sg) (S : List Value) (l0 l1 l2 l3 : Value), exec d mX3_holds 31 [l0, l1, l2, l3] S σ = exec d mX3_holds 35 [l0, l1, l2, l3] S σ) ∧
  (∀ (d : Nat) (σ : Sg) (S : List Value) (l0 l1 l2 l3 : Value), exec d mX3_holds 34 [l0, l1, l2, l3] S σ = exec d mX3_holds 35 [l0, l1, l2, l3] (.int (nI 0) :: S) σ) ∧
  (∀ (d : Nat) (σ : Sg) (l0 l1 l2 l3 : Value) (x : Int32), exec d mX3_holds 35 [l0, l1, l2, l3] [.int x] σ = if b01 x = true then some (some (.int x), σ) else none) :=
  ⟨fun d σ S l0 l1 l3 x => ex_iload_n (show decode mX3_holds.2.1 0 = .ok (.iload_n 2, 1) by decide +kernel) rfl,
  fun d σ S l0 l1 l2 l3 x => ex_zlt (show decode mX3_holds.2.1 1 = .ok (.ifCond .lt 33, 3) by decide +kernel) (by decide),
  fun d σ S l0 l1 l2 x => ex_iload_n (show decode mX3_holds.2.1 4 = .ok (.iload_n 3, 1) by decide +kernel) rfl,
  fun d σ S l0 l1 l2 l3 x => ex_zlt (show decode mX3_holds.2.1 5 = .ok (.ifCond .lt 29, 3) by decide +kernel) (by decide),
  fun d σ S l0 l1 l2 x => ex_iload_n (show decode mX3_holds.2.1 8 = .ok (.iload_n 3, 1) by decide +kernel) rfl,
  fun d σ S l1 l2 l3 k => ex_aload_n (show decode mX3_holds.2.1 9 = .ok (.aload_n 0, 1) by decide +kernel) rfl,
  fun d σ S l0 l1 l2 l3 => ex_getr (idx := 17) (ci := 3) (ff := 2) (n := 4) (hh := 123) (by decide +kernel),
  fun d σ S l0 l2 l3 x => ex_iload_n (show decode mX3_holds.2.1 13 = .ok (.iload_n 1, 1) by decide +kernel) rfl,
  fun d σ S l0 l1 l2 l3 x => ex_iald (by decide +kernel),
  fun d σ S l0 l1 l2 l3 x y => ex_cgt (show decode mX3_holds.2.1 15 = .ok (.if_icmp .gt 19, 3) by decide +kernel) (by decide),
  fun d σ S l0 l1 l3 x => ex_iload_n (show decode mX3_holds.2.1 18 = .ok (.iload_n 2, 1) by decide +kernel) rfl,
  fun d σ S l1 l2 l3 k => ex_aload_n (show decode mX3_holds.2.1 19 = .ok (.aload_n 0, 1) by decide +kernel) rfl,
  fun d σ S l0 l1 l2 l3 => ex_getr (idx := 17) (ci := 3) (ff := 2) (n := 4) (hh := 123) (by decide +kernel),
  fun d σ S l0 l2 l3 x => ex_iload_n (show decode mX3_holds.2.1 23 = .ok (.iload_n 1, 1) by decide +kernel) rfl,
  fun d σ S l0 l1 l2 l3 x => ex_iald (by decide +kernel),
  fun d σ S l0 l1 l2 x => ex_iload_n (show decode mX3_holds.2.1 25 = .ok (.iload_n 3, 1) by decide +kernel) rfl,
  fun d σ S l0 l1 l2 l3 x y => ex_isub (show decode mX3_holds.2.1 26 = .ok (.isub, 1) by decide +kernel),
  fun d σ S l0 l1 l2 l3 x y => ex_cgt (show decode mX3_holds.2.1 27 = .ok (.if_icmp .gt 7, 3) by decide +kernel) (by decide),
  fun d σ S l0 l1 l2 l3 => ex_iconst (show decode mX3_holds.2.1 30 = .ok (.iconst 1, 1) by decide +kernel) (by decide +kernel),
  fun d σ S l0 l1 l2 l3 => ex_goto (show decode mX3_holds.2.1 31 = .ok (.goto 4, 3) by decide +kernel) (by decide),
  fun d σ S l0 l1 l2 l3 => ex_iconst (show decode mX3_holds.2.1 34 = .ok (.iconst 0, 1) by decide +kernel) (by decide +kernel),
  fun d σ l0 l1 l2 l3 x => ex_zret (show decode mX3_holds.2.1 35 = .ok (.ireturn, 1) by decide +kernel) rfl⟩
theorem aX3_holds_1 : ∀ (d : Nat) (a1 : Int32) (a2 : Int32) (a3 : Int32) (σ : Sg), cal (d + 1) mX3_holds [.ref 1, .int a1, .int a2, .int a3] σ = exec d mX3_holds 0 [.ref 1, .int a1, .int a2, .int a3] [] σ := fun _ _ _ _ _ => rfl
theorem kX3_item : (∀ (d : Nat) (σ : Sg) (S : List Value) (l1 l2 : Value) (k : Nat), exec d mX3_item 0 [.ref k, l1, l2] S σ = exec d mX3_item 1 [.ref k, l1, l2] (.ref k :: S) σ) ∧
  (∀ (d : Nat) (σ : Sg) (S : List Value) (l0 l2 : Value) (x : Int32), exec d mX3_item 1 [l0, .int x, l2] S σ = exec d mX3_item 2 [l0, .int x, l2] (.int x :: S) σ) ∧
  (∀ (d : Nat) (σ : Sg) (S : List Value) (l0 l1 : Value) (x : Int32), exec d mX3_item 2 [l0, l1, .int x] S σ = exec d mX3_item 3 [l0, l1, .int x] (.int x :: S) σ) ∧
  (∀ (d : Nat) (σ : Sg) (S : List Value) (l0 l1 l2 : Value), exec d mX3_item 3 [l0, l1, l2] S σ = exec d mX3_item 4 [l0, l1, l2] (.int (nI 1) :: S) σ) ∧
  (∀ (d : Nat) (σ : Sg) (l0 l1 l2 : Value) (x0 x1 x2 : Int32), exec d mX3_item 4 [l0, l1, l2] [.int x0, .int x1, .int x2, .ref 1] σ = kb (cal d mX3_holds [.ref 1, .int x2, .int x1, .int x0] σ) (fun rs σ2 => exec d mX3_item 7 [l0, l1, l2] (rs ++ []) σ2)) ∧
  (∀ (d : Nat) (σ : Sg) (S : List Value) (l0 l1 l2 : Value) (x : Int32), exec d mX3_item 7 [l0, l1, l2] (.int x :: S) σ = if x = nI 0 then exec d mX3_item 24 [l0, l1, l2] S σ else exec d mX3_item 10 [l0, l1, l2] S σ) ∧
  (∀ (d : Nat) (σ : Sg) (S : List Value) (l1 l2 : Value) (k : Nat), exec d mX3_item 10 [.ref k, l1, l2] S σ = exec d mX3_item 11 [.ref k, l1, l2] (.ref k :: S) σ) ∧
  (∀ (d : Nat) (σ : Sg) (S : List Value) (l0 l1 l2 : Value), exec d mX3_item 11 [l0, l1, l2] (.ref 1 :: S) σ = exec d mX3_item 14 [l0, l1, l2] (.ref 5 :: S) σ) ∧
  (∀ (d : Nat) (σ : Sg) (S : List Value) (l0 l2 : Value) (x : Int32), exec d mX3_item 14 [l0, .int x, l2] S σ = exec d mX3_item 15 [l0, .int x, l2] (.int x :: S) σ) ∧
  (∀ (d : Nat) (σ : Sg) (S : List Value) (l0 l1 l2 : Value), exec d mX3_item 15 [l0, l1, l2] S σ = exec d mX3_item 17 [l0, l1, l2] (.int (nI 40) :: S) σ) ∧
  (∀ (d : Nat) (σ : Sg) (S : List Value) (l0 l1 l2 : Value) (x y : Int32), exec d mX3_item 17 [l0, l1, l2] (.int y :: .int x :: S) σ = exec d mX3_item 18 [l0, l1, l2] (.int (x * y) :: S) σ) ∧
  (∀ (d : Nat) (σ : Sg) (S : List Value) (l0 l1 : Value) (x : Int32), exec d mX3_item 18 [l0, l1, .int x] S σ = exec d mX3_item 19 [l0, l1, .int x] (.int x :: S) σ) ∧
  (∀ (d : Nat) (σ : Sg) (S : List Value) (l0 l1 l2 : Value) (x y : Int32), exec d mX3_item 19 [l0, l1, l2] (.int y :: .int x :: S) σ = exec d mX3_item 20 [l0, l1, l2] (.int (x + y) :: S) σ) ∧
  (∀ (d : Nat) (σ : Sg) (S : List Value) (l0 l1 l2 : Value) (x : Int32), exec d mX3_item 20 [l0, l1, l2] (.int x :: .ref 5 :: S) σ = if inb x 320 = true then exec d mX3_item 21 [l0, l1, l2] (.int (σ 5 x.toNatClampNeg) :: S) σ else none) ∧
  (∀ (d : Nat) (σ : Sg) (S : List Value) (l0 l1 l2 : Value), exec d mX3_item 21 [l0, l1, l2] S σ = exec d mX3_item 25 [l0, l1, l2] S σ) ∧
  (∀ (d : Nat) (σ : Sg) (S : List Value) (l0 l1 l2 : Value), exec d mX3_item 24 [l0, l1, l2] S σ = exec d mX3_item 25 [l0, l1, l2] (.int (nI 0) :: S) σ) ∧
  (∀ (d : Nat) (σ : Sg) (l0 l1 l2 : Value) (x : Int32), exec d mX3_item 25 [l0, l1, l2] [.int x] σ = some (some (.int x), σ)) :=
  ⟨fun d σ S l1 l2 k => ex_aload_n (show decode mX3_item.2.1 0 = .ok (.aload_n 0, 1) by decide +kernel) rfl,
  fun d σ S l0 l2 x => ex_iload_n (show decode mX3_item.2.1 1 = .ok (.iload_n 1, 1) by decide +kernel) rfl,
  fun d σ S l0 l1 x => ex_iload_n (show decode mX3_item.2.1 2 = .ok (.iload_n 2, 1) by decide +kernel) rfl,
  fun d σ S l0 l1 l2 => ex_iconst (show decode mX3_item.2.1 3 = .ok (.iconst 1, 1) by decide +kernel) (by decide +kernel),
  fun d σ l0 l1 l2 x0 x1 x2 => ex_iv (hs := [711, 407, 3, 408, 95]) (show decode mX3_item.2.1 4 = .ok (.invokevirtual 23, 3) by decide +kernel) lkV_3_23 ⟨rfl, Nat.le_of_ble_eq_true rfl, Nat.le_of_ble_eq_true rfl, fun _ => rfl⟩ rfl rfl,
  fun d σ S l0 l1 l2 x => ex_zeq (show decode mX3_item.2.1 7 = .ok (.ifCond .eq 17, 3) by decide +kernel) (by decide),
  fun d σ S l1 l2 k => ex_aload_n (show decode mX3_item.2.1 10 = .ok (.aload_n 0, 1) by decide +kernel) rfl,
  fun d σ S l0 l1 l2 => ex_getr (idx := 20) (ci := 3) (ff := 3) (n := 4) (hh := 125) (by decide +kernel),
  fun d σ S l0 l2 x => ex_iload_n (show decode mX3_item.2.1 14 = .ok (.iload_n 1, 1) by decide +kernel) rfl,
  fun d σ S l0 l1 l2 => ex_bipush (show decode mX3_item.2.1 15 = .ok (.bipush 40, 2) by decide +kernel) (by decide +kernel),
  fun d σ S l0 l1 l2 x y => ex_imul (show decode mX3_item.2.1 17 = .ok (.imul, 1) by decide +kernel),
  fun d σ S l0 l1 x => ex_iload_n (show decode mX3_item.2.1 18 = .ok (.iload_n 2, 1) by decide +kernel) rfl,
  fun d σ S l0 l1 l2 x y => ex_iadd (show decode mX3_item.2.1 19 = .ok (.iadd, 1) by decide +kernel),
  fun d σ S l0 l1 l2 x => ex_iald (by decide +kernel),
  fun d σ S l0 l1 l2 => ex_goto (show decode mX3_item.2.1 21 = .ok (.goto 4, 3) by decide +kernel) (by decide),
  fun d σ S l0 l1 l2 => ex_iconst (show decode mX3_item.2.1 24 = .ok (.iconst 0, 1) by decide +kernel) (by decide +kernel),
  fun d σ l0 l1 l2 x => ex_iret (show decode mX3_item.2.1 25 = .ok (.ireturn, 1) by decide +kernel) rfl⟩
theorem aX3_item_1 : ∀ (d : Nat) (a1 : Int32) (a2 : Int32) (σ : Sg), cal (d + 1) mX3_item [.ref 1, .int a1, .int a2] σ = exec d mX3_item 0 [.ref 1, .int a1, .int a2] [] σ := fun _ _ _ _ => rfl
theorem kX3_put : (∀ (d : Nat) (σ : Sg) (S : List Value) (l1 l2 l3 l4 : Value) (k : Nat), exec d mX3_put 0 [.ref k, l1, l2, l3, l4] S σ = exec d mX3_put 1 [.ref k, l1, l2, l3, l4] (.ref k :: S) σ) ∧
  (∀ (d : Nat) (σ : Sg) (S : List Value) (l0 l1 l2 l3 l4 : Value), exec d mX3_put 1 [l0, l1, l2, l3, l4] (.ref 1 :: S) σ = exec d mX3_put 4 [l0, l1, l2, l3, l4] (.ref 3 :: S) σ) ∧
  (∀ (d : Nat) (σ : Sg) (S : List Value) (l0 l2 l3 l4 : Value) (x : Int32), exec d mX3_put 4 [l0, .int x, l2, l3, l4] S σ = exec d mX3_put 5 [l0, .int x, l2, l3, l4] (.int x :: S) σ) ∧
  (∀ (d : Nat) (σ : Sg) (S : List Value) (l0 l1 l2 l3 l4 : Value) (x : Int32), exec d mX3_put 5 [l0, l1, l2, l3, l4] (.int x :: .ref 3 :: S) σ = if inb x 8 = true then exec d mX3_put 6 [l0, l1, l2, l3, l4] (.int (σ 3 x.toNatClampNeg) :: S) σ else none) ∧
  (∀ (d : Nat) (σ : Sg) (S : List Value) (l0 l1 l2 l3 l4 : Value) (x : Int32), exec d mX3_put 6 [l0, l1, l2, l3, l4] (.int x :: S) σ = if x = nI 0 then exec d mX3_put 9 [l0, l1, l2, l3, l4] S σ else exec d mX3_put 14 [l0, l1, l2, l3, l4] S σ) ∧
  (∀ (d : Nat) (σ : Sg) (S : List Value) (l0 l1 l2 l4 : Value) (x : Int32), exec d mX3_put 9 [l0, l1, l2, .int x, l4] S σ = exec d mX3_put 10 [l0, l1, l2, .int x, l4] (.int x :: S) σ) ∧
  (∀ (d : Nat) (σ : Sg) (S : List Value) (l0 l1 l2 l3 l4 : Value) (x : Int32), exec d mX3_put 10 [l0, l1, l2, l3, l4] (.int x :: S) σ = exec d mX3_put 11 [l0, l1, l2, l3, l4] (.int (x.toInt8.toInt32) :: S) σ) ∧
  (∀ (d : Nat) (σ : Sg) (S : List Value) (l0 l1 l2 l3 l4 : Value), exec d mX3_put 11 [l0, l1, l2, l3, l4] S σ = exec d mX3_put 30 [l0, l1, l2, l3, l4] S σ) ∧
  (∀ (d : Nat) (σ : Sg) (S : List Value) (l1 l2 l3 l4 : Value) (k : Nat), exec d mX3_put 14 [.ref k, l1, l2, l3, l4] S σ = exec d mX3_put 15 [.ref k, l1, l2, l3, l4] (.ref k :: S) σ) ∧
  (∀ (d : Nat) (σ : Sg) (S : List Value) (l0 l1 l2 l3 l4 : Value), exec d mX3_put 15 [l0, l1, l2, l3, l4] (.ref 1 :: S) σ = exec d mX3_put 18 [l0, l1, l2, l3, l4] (.ref 3 :: S) σ) ∧
  (∀ (d : Nat) (σ : Sg) (S : List Value) (l0 l2 l3 l4 : Value) (x : Int32), exec d mX3_put 18 [l0, .int x, l2, l3, l4] S σ = exec d mX3_put 19 [l0, .int x, l2, l3, l4] (.int x :: S) σ) ∧
  (∀ (d : Nat) (σ : Sg) (S : List Value) (l0 l1 l2 l3 l4 : Value) (x : Int32), exec d mX3_put 19 [l0, l1, l2, l3, l4] (.int x :: .ref 3 :: S) σ = if inb x 8 = true then exec d mX3_put 20 [l0, l1, l2, l3, l4] (.int (σ 3 x.toNatClampNeg) :: S) σ else none) ∧
  (∀ (d : Nat) (σ : Sg) (S : List Value) (l0 l1 l2 l3 l4 : Value), exec d mX3_put 20 [l0, l1, l2, l3, l4] S σ = exec d mX3_put 21 [l0, l1, l2, l3, l4] (.int (nI 1) :: S) σ) ∧
  (∀ (d : Nat) (σ : Sg) (S : List Value) (l0 l1 l2 l3 l4 : Value) (x y : Int32), exec d mX3_put 21 [l0, l1, l2, l3, l4] (.int y :: .int x :: S) σ = if x = y then exec d mX3_put 24 [l0, l1, l2, l3, l4] S σ else exec d mX3_put 29 [l0, l1, l2, l3, l4] S σ) ∧
  (∀ (d : Nat) (σ : Sg) (S : List Value) (l0 l1 l2 l4 : Value) (x : Int32), exec d mX3_put 24 [l0, l1, l2, .int x, l4] S σ = exec d mX3_put 25 [l0, l1, l2, .int x, l4] (.int x :: S) σ) ∧
  (∀ (d : Nat) (σ : Sg) (S : List Value) (l0 l1 l2 l3 l4 : Value) (x : Int32), exec d mX3_put 25 [l0, l1, l2, l3, l4] (.int x :: S) σ = exec d mX3_put 26 [l0, l1, l2, l3, l4] (.int (x.toInt16.toInt32) :: S) σ) ∧
  (∀ (d : Nat) (σ : Sg) (S : List Value) (l0 l1 l2 l3 l4 : Value), exec d mX3_put 26 [l0, l1, l2, l3, l4] S σ = exec d mX3_put 30 [l0, l1, l2, l3, l4] S σ) ∧
  (∀ (d : Nat) (σ : Sg) (S : List Value) (l0 l1 l2 l4 : Value) (x : Int32), exec d mX3_put 29 [l0, l1, l2, .int x, l4] S σ = exec d mX3_put 30 [l0, l1, l2, .int x, l4] (.int x :: S) σ) ∧
  (∀ (d : Nat) (σ : Sg) (S : List Value) (l0 l1 l2 l4 : Value) (x y : Int32), exec d mX3_put 30 [l0, l1, l2, .int y, l4] (.int x :: S) σ = exec d mX3_put 32 [l0, l1, l2, .int y, .int x] S σ) ∧
  (∀ (d : Nat) (σ : Sg) (S : List Value) (l1 l2 l3 l4 : Value) (k : Nat), exec d mX3_put 32 [.ref k, l1, l2, l3, l4] S σ = exec d mX3_put 33 [.ref k, l1, l2, l3, l4] (.ref k :: S) σ) ∧
  (∀ (d : Nat) (σ : Sg) (S : List Value) (l0 l1 l2 l3 l4 : Value), exec d mX3_put 33 [l0, l1, l2, l3, l4] (.ref 1 :: S) σ = exec d mX3_put 36 [l0, l1, l2, l3, l4] (.ref 5 :: S) σ) ∧
  (∀ (d : Nat) (σ : Sg) (S : List Value) (l0 l2 l3 l4 : Value) (x : Int32), exec d mX3_put 36 [l0, .int x, l2, l3, l4] S σ = exec d mX3_put 37 [l0, .int x, l2, l3, l4] (.int x :: S) σ) ∧
  (∀ (d : Nat) (σ : Sg) (S : List Value) (l0 l1 l2 l3 l4 : Value), exec d mX3_put 37 [l0, l1, l2, l3, l4] S σ = exec d mX3_put 39 [l0, l1, l2, l3, l4] (.int (nI 40) :: S) σ) ∧
  (∀ (d : Nat) (σ : Sg) (S : List Value) (l0 l1 l2 l3 l4 : Value) (x y : Int32), exec d mX3_put 39 [l0, l1, l2, l3, l4] (.int y :: .int x :: S) σ = exec d mX3_put 40 [l0, l1, l2, l3, l4] (.int (x * y) :: S) σ) ∧
  (∀ (d : Nat) (σ : Sg) (S : List Value) (l0 l1 l3 l4 : Value) (x : Int32), exec d mX3_put 40 [l0, l1, .int x, l3, l4] S σ = exec d mX3_put 41 [l0, l1, .int x, l3, l4] (.int x :: S) σ) ∧
  (∀ (d : Nat) (σ : Sg) (S : List Value) (l0 l1 l2 l3 l4 : Value) (x y : Int32), exec d mX3_put 41 [l0, l1, l2, l3, l4] (.int y :: .int x :: S) σ = exec d mX3_put 42 [l0, l1, l2, l3, l4] (.int (x + y) :: S) σ) ∧
  (∀ (d : Nat) (σ : Sg) (S : List Value) (l0 l1 l2 l3 : Value) (x : Int32), exec d mX3_put 42 [l0, l1, l2, l3, .int x] S σ = exec d mX3_put 44 [l0, l1, l2, l3, .int x] (.int x :: S) σ) ∧
  (∀ (d : Nat) (σ : Sg) (S : List Value) (l0 l1 l2 l3 l4 : Value) (x y : Int32), exec d mX3_put 44 [l0, l1, l2, l3, l4] (.int y :: .int x :: .ref 5 :: S) σ = if inb x 320 = true then exec d mX3_put 45 [l0, l1, l2, l3, l4] S (up σ 5 x.toNatClampNeg y) else none) ∧
  (∀ (d : Nat) (σ : Sg) (S : List Value) (l0 l1 l2 l3 : Value) (x : Int32), exec d mX3_put 45 [l0, l1, l2, l3, .int x] S σ = exec d mX3_put 47 [l0, l1, l2, l3, .int x] (.int x :: S) σ) ∧
  (∀ (d : Nat) (σ : Sg) (l0 l1 l2 l3 l4 : Value) (x : Int32), exec d mX3_put 47 [l0, l1, l2, l3, l4] [.int x] σ = some (some (.int x), σ)) :=
  ⟨fun d σ S l1 l2 l3 l4 k => ex_aload_n (show decode mX3_put.2.1 0 = .ok (.aload_n 0, 1) by decide +kernel) rfl,
  fun d σ S l0 l1 l2 l3 l4 => ex_getr (idx := 13) (ci := 3) (ff := 1) (n := 4) (hh := 121) (by decide +kernel),
  fun d σ S l0 l2 l3 l4 x => ex_iload_n (show decode mX3_put.2.1 4 = .ok (.iload_n 1, 1) by decide +kernel) rfl,
  fun d σ S l0 l1 l2 l3 l4 x => ex_iald (by decide +kernel),
  fun d σ S l0 l1 l2 l3 l4 x => ex_zne (show decode mX3_put.2.1 6 = .ok (.ifCond .ne 8, 3) by decide +kernel) (by decide),
  fun d σ S l0 l1 l2 l4 x => ex_iload_n (show decode mX3_put.2.1 9 = .ok (.iload_n 3, 1) by decide +kernel) rfl,
  fun d σ S l0 l1 l2 l3 l4 x => ex_i2b (show decode mX3_put.2.1 10 = .ok (.i2b, 1) by decide +kernel),
  fun d σ S l0 l1 l2 l3 l4 => ex_goto (show decode mX3_put.2.1 11 = .ok (.goto 19, 3) by decide +kernel) (by decide),
  fun d σ S l1 l2 l3 l4 k => ex_aload_n (show decode mX3_put.2.1 14 = .ok (.aload_n 0, 1) by decide +kernel) rfl,
  fun d σ S l0 l1 l2 l3 l4 => ex_getr (idx := 13) (ci := 3) (ff := 1) (n := 4) (hh := 121) (by decide +kernel),
  fun d σ S l0 l2 l3 l4 x => ex_iload_n (show decode mX3_put.2.1 18 = .ok (.iload_n 1, 1) by decide +kernel) rfl,
  fun d σ S l0 l1 l2 l3 l4 x => ex_iald (by decide +kernel),
  fun d σ S l0 l1 l2 l3 l4 => ex_iconst (show decode mX3_put.2.1 20 = .ok (.iconst 1, 1) by decide +kernel) (by decide +kernel),
  fun d σ S l0 l1 l2 l3 l4 x y => ex_cne (show decode mX3_put.2.1 21 = .ok (.if_icmp .ne 8, 3) by decide +kernel) (by decide),
  fun d σ S l0 l1 l2 l4 x => ex_iload_n (show decode mX3_put.2.1 24 = .ok (.iload_n 3, 1) by decide +kernel) rfl,
  fun d σ S l0 l1 l2 l3 l4 x => ex_i2s (show decode mX3_put.2.1 25 = .ok (.i2s, 1) by decide +kernel),
  fun d σ S l0 l1 l2 l3 l4 => ex_goto (show decode mX3_put.2.1 26 = .ok (.goto 4, 3) by decide +kernel) (by decide),
  fun d σ S l0 l1 l2 l4 x => ex_iload_n (show decode mX3_put.2.1 29 = .ok (.iload_n 3, 1) by decide +kernel) rfl,
  fun d σ S l0 l1 l2 l4 x y => ex_istore (show decode mX3_put.2.1 30 = .ok (.istore 4, 2) by decide +kernel) (Nat.le_of_ble_eq_true rfl) rfl,
  fun d σ S l1 l2 l3 l4 k => ex_aload_n (show decode mX3_put.2.1 32 = .ok (.aload_n 0, 1) by decide +kernel) rfl,
  fun d σ S l0 l1 l2 l3 l4 => ex_getr (idx := 20) (ci := 3) (ff := 3) (n := 4) (hh := 125) (by decide +kernel),
  fun d σ S l0 l2 l3 l4 x => ex_iload_n (show decode mX3_put.2.1 36 = .ok (.iload_n 1, 1) by decide +kernel) rfl,
  fun d σ S l0 l1 l2 l3 l4 => ex_bipush (show decode mX3_put.2.1 37 = .ok (.bipush 40, 2) by decide +kernel) (by decide +kernel),
  fun d σ S l0 l1 l2 l3 l4 x y => ex_imul (show decode mX3_put.2.1 39 = .ok (.imul, 1) by decide +kernel),
  fun d σ S l0 l1 l3 l4 x => ex_iload_n (show decode mX3_put.2.1 40 = .ok (.iload_n 2, 1) by decide +kernel) rfl,
  fun d σ S l0 l1 l2 l3 l4 x y => ex_iadd (show decode mX3_put.2.1 41 = .ok (.iadd, 1) by decide +kernel),
  fun d σ S l0 l1 l2 l3 x => ex_iload (show decode mX3_put.2.1 42 = .ok (.iload 4, 2) by decide +kernel) rfl,
  fun d σ S l0 l1 l2 l3 l4 x y => ex_iast (by decide +kernel),
  fun d σ S l0 l1 l2 l3 x => ex_iload (show decode mX3_put.2.1 45 = .ok (.iload 4, 2) by decide +kernel) rfl,
  fun d σ l0 l1 l2 l3 l4 x => ex_iret (show decode mX3_put.2.1 47 = .ok (.ireturn, 1) by decide +kernel) rfl⟩
theorem aX3_put_1 : ∀ (d : Nat) (a1 : Int32) (a2 : Int32) (a3 : Int32) (σ : Sg), cal (d + 1) mX3_put [.ref 1, .int a1, .int a2, .int a3] σ = exec d mX3_put 0 [.ref 1, .int a1, .int a2, .int a3, uu] [] σ := fun _ _ _ _ _ => rfl
theorem kX3_carry : (∀ (d : Nat) (σ : Sg) (S : List Value) (l1 l2 l3 l4 l5 : Value) (k : Nat), exec d mX3_carry 0 [.ref k, l1, l2, l3, l4, l5] S σ = exec d mX3_carry 1 [.ref k, l1, l2, l3, l4, l5] (.ref k :: S) σ) ∧
  (∀ (d : Nat) (σ : Sg) (S : List Value) (l0 l1 l2 l3 l4 l5 : Value), exec d mX3_carry 1 [l0, l1, l2, l3, l4, l5] (.ref 1 :: S) σ = exec d mX3_carry 4 [l0, l1, l2, l3, l4, l5] (.ref 5 :: S) σ) ∧
  (∀ (d : Nat) (σ : Sg) (S : List Value) (l0 l2 l3 l4 l5 : Value) (x : Int32), exec d mX3_carry 4 [l0, .int x, l2, l3, l4, l5] S σ = exec d mX3_carry 5 [l0, .int x, l2, l3, l4, l5] (.int x :: S) σ) ∧
  (∀ (d : Nat) (σ : Sg) (S : List Value) (l0 l1 l2 l3 l4 l5 : Value), exec d mX3_carry 5 [l0, l1, l2, l3, l4, l5] S σ = exec d mX3_carry 7 [l0, l1, l2, l3, l4, l5] (.int (nI 40) :: S) σ) ∧
  (∀ (d : Nat) (σ : Sg) (S : List Value) (l0 l1 l2 l3 l4 l5 : Value) (x y : Int32), exec d mX3_carry 7 [l0, l1, l2, l3, l4, l5] (.int y :: .int x :: S) σ = exec d mX3_carry 8 [l0, l1, l2, l3, l4, l5] (.int (x * y) :: S) σ) ∧
  (∀ (d : Nat) (σ : Sg) (S : List Value) (l0 l1 l3 l4 l5 : Value) (x : Int32), exec d mX3_carry 8 [l0, l1, .int x, l3, l4, l5] S σ = exec d mX3_carry 9 [l0, l1, .int x, l3, l4, l5] (.int x :: S) σ) ∧
  (∀ (d : Nat) (σ : Sg) (S : List Value) (l0 l1 l2 l3 l4 l5 : Value) (x y : Int32), exec d mX3_carry 9 [l0, l1, l2, l3, l4, l5] (.int y :: .int x :: S) σ = exec d mX3_carry 10 [l0, l1, l2, l3, l4, l5] (.int (x + y) :: S) σ) ∧
  (∀ (d : Nat) (σ : Sg) (S : List Value) (l1 l2 l3 l4 l5 : Value) (k : Nat), exec d mX3_carry 10 [.ref k, l1, l2, l3, l4, l5] S σ = exec d mX3_carry 11 [.ref k, l1, l2, l3, l4, l5] (.ref k :: S) σ) ∧
  (∀ (d : Nat) (σ : Sg) (S : List Value) (l0 l1 l2 l3 l4 l5 : Value), exec d mX3_carry 11 [l0, l1, l2, l3, l4, l5] (.ref 1 :: S) σ = exec d mX3_carry 14 [l0, l1, l2, l3, l4, l5] (.ref 5 :: S) σ) ∧
  (∀ (d : Nat) (σ : Sg) (S : List Value) (l0 l1 l2 l4 l5 : Value) (x : Int32), exec d mX3_carry 14 [l0, l1, l2, .int x, l4, l5] S σ = exec d mX3_carry 15 [l0, l1, l2, .int x, l4, l5] (.int x :: S) σ) ∧
  (∀ (d : Nat) (σ : Sg) (S : List Value) (l0 l1 l2 l3 l4 l5 : Value), exec d mX3_carry 15 [l0, l1, l2, l3, l4, l5] S σ = exec d mX3_carry 17 [l0, l1, l2, l3, l4, l5] (.int (nI 40) :: S) σ) ∧
  (∀ (d : Nat) (σ : Sg) (S : List Value) (l0 l1 l2 l3 l4 l5 : Value) (x y : Int32), exec d mX3_carry 17 [l0, l1, l2, l3, l4, l5] (.int y :: .int x :: S) σ = exec d mX3_carry 18 [l0, l1, l2, l3, l4, l5] (.int (x * y) :: S) σ) ∧
  (∀ (d : Nat) (σ : Sg) (S : List Value) (l0 l1 l2 l3 l5 : Value) (x : Int32), exec d mX3_carry 18 [l0, l1, l2, l3, .int x, l5] S σ = exec d mX3_carry 20 [l0, l1, l2, l3, .int x, l5] (.int x :: S) σ) ∧
  (∀ (d : Nat) (σ : Sg) (S : List Value) (l0 l1 l2 l3 l4 l5 : Value) (x y : Int32), exec d mX3_carry 20 [l0, l1, l2, l3, l4, l5] (.int y :: .int x :: S) σ = exec d mX3_carry 21 [l0, l1, l2, l3, l4, l5] (.int (x + y) :: S) σ) ∧
  (∀ (d : Nat) (σ : Sg) (S : List Value) (l0 l1 l2 l3 l4 : Value) (x : Int32), exec d mX3_carry 21 [l0, l1, l2, l3, l4, .int x] S σ = exec d mX3_carry 23 [l0, l1, l2, l3, l4, .int x] (.int x :: S) σ) ∧
  (∀ (d : Nat) (σ : Sg) (l0 l1 l2 l3 l4 l5 : Value) (n p q : Int32), exec d mX3_carry 23 [l0, l1, l2, l3, l4, l5] [.int n, .int p, .ref 5, .int q, .ref 5] σ = if ¬ q < 0 ∧ ¬ p < 0 ∧ ¬ n < 0 ∧ q.toNatClampNeg + n.toNatClampNeg ≤ 320 ∧ p.toNatClampNeg + n.toNatClampNeg ≤ 320 then exec d mX3_carry 26 [l0, l1, l2, l3, l4, l5] [] (cpA σ 5 5 q.toNatClampNeg p.toNatClampNeg n.toNatClampNeg) else none) ∧
  (∀ (d : Nat) (σ : Sg) (l0 l1 l2 l3 l4 l5 : Value), exec d mX3_carry 26 [l0, l1, l2, l3, l4, l5] [] σ = some (none, σ)) :=
  ⟨fun d σ S l1 l2 l3 l4 l5 k => ex_aload_n (show decode mX3_carry.2.1 0 = .ok (.aload_n 0, 1) by decide +kernel) rfl,
  fun d σ S l0 l1 l2 l3 l4 l5 => ex_getr (idx := 20) (ci := 3) (ff := 3) (n := 4) (hh := 125) (by decide +kernel),
  fun d σ S l0 l2 l3 l4 l5 x => ex_iload_n (show decode mX3_carry.2.1 4 = .ok (.iload_n 1, 1) by decide +kernel) rfl,
  fun d σ S l0 l1 l2 l3 l4 l5 => ex_bipush (show decode mX3_carry.2.1 5 = .ok (.bipush 40, 2) by decide +kernel) (by decide +kernel),
  fun d σ S l0 l1 l2 l3 l4 l5 x y => ex_imul (show decode mX3_carry.2.1 7 = .ok (.imul, 1) by decide +kernel),
  fun d σ S l0 l1 l3 l4 l5 x => ex_iload_n (show decode mX3_carry.2.1 8 = .ok (.iload_n 2, 1) by decide +kernel) rfl,
  fun d σ S l0 l1 l2 l3 l4 l5 x y => ex_iadd (show decode mX3_carry.2.1 9 = .ok (.iadd, 1) by decide +kernel),
  fun d σ S l1 l2 l3 l4 l5 k => ex_aload_n (show decode mX3_carry.2.1 10 = .ok (.aload_n 0, 1) by decide +kernel) rfl,
  fun d σ S l0 l1 l2 l3 l4 l5 => ex_getr (idx := 20) (ci := 3) (ff := 3) (n := 4) (hh := 125) (by decide +kernel),
  fun d σ S l0 l1 l2 l4 l5 x => ex_iload_n (show decode mX3_carry.2.1 14 = .ok (.iload_n 3, 1) by decide +kernel) rfl,
  fun d σ S l0 l1 l2 l3 l4 l5 => ex_bipush (show decode mX3_carry.2.1 15 = .ok (.bipush 40, 2) by decide +kernel) (by decide +kernel),
  fun d σ S l0 l1 l2 l3 l4 l5 x y => ex_imul (show decode mX3_carry.2.1 17 = .ok (.imul, 1) by decide +kernel),
  fun d σ S l0 l1 l2 l3 l5 x => ex_iload (show decode mX3_carry.2.1 18 = .ok (.iload 4, 2) by decide +kernel) rfl,
  fun d σ S l0 l1 l2 l3 l4 l5 x y => ex_iadd (show decode mX3_carry.2.1 20 = .ok (.iadd, 1) by decide +kernel),
  fun d σ S l0 l1 l2 l3 l4 x => ex_iload (show decode mX3_carry.2.1 21 = .ok (.iload 5, 2) by decide +kernel) rfl,
  fun d σ l0 l1 l2 l3 l4 l5 n p q => ex_acp (hh := 421) (show decode mX3_carry.2.1 23 = .ok (.invokestatic 27, 3) by decide +kernel) (by decide +kernel) (by decide +kernel) (by decide +kernel) (by decide +kernel) (Nat.le_of_ble_eq_true rfl),
  fun d σ l0 l1 l2 l3 l4 l5 => ex_vret (show decode mX3_carry.2.1 26 = .ok (.return_, 1) by decide +kernel) rfl⟩
theorem aX3_carry_1 : ∀ (d : Nat) (a1 : Int32) (a2 : Int32) (a3 : Int32) (a4 : Int32) (a5 : Int32) (σ : Sg), cal (d + 1) mX3_carry [.ref 1, .int a1, .int a2, .int a3, .int a4, .int a5] σ = exec d mX3_carry 0 [.ref 1, .int a1, .int a2, .int a3, .int a4, .int a5] [] σ := fun _ _ _ _ _ _ _ => rfl
theorem kX3_howMany : (∀ (d : Nat) (σ : Sg) (S : List Value) (l0 l1 l2 : Value), exec d mX3_howMany 0 [l0, l1, l2] S σ = exec d mX3_howMany 1 [l0, l1, l2] (.int (nI 0) :: S) σ) ∧
  (∀ (d : Nat) (σ : Sg) (S : List Value) (l1 l2 : Value) (k : Nat) (x : Int32), exec d mX3_howMany 1 [.ref k, l1, l2] (.int x :: S) σ = exec d mX3_howMany 2 [.ref k, .int x, l2] S σ) ∧
  (∀ (d : Nat) (σ : Sg) (S : List Value) (l0 l1 l2 : Value), exec d mX3_howMany 2 [l0, l1, l2] S σ = exec d mX3_howMany 3 [l0, l1, l2] (.int (nI 0) :: S) σ) ∧
  (∀ (d : Nat) (σ : Sg) (S : List Value) (l0 l2 : Value) (x y : Int32), exec d mX3_howMany 3 [l0, .int y, l2] (.int x :: S) σ = exec d mX3_howMany 4 [l0, .int y, .int x] S σ) ∧
  (∀ (d : Nat) (σ : Sg) (S : List Value) (l0 l1 l2 : Value), exec d mX3_howMany 5 [l0, l1, l2] S σ = exec d mX3_howMany 7 [l0, l1, l2] (.int (nI 8) :: S) σ) ∧
  (∀ (d : Nat) (σ : Sg) (S : List Value) (l0 l1 l2 : Value) (x y : Int32), exec d mX3_howMany 7 [l0, l1, l2] (.int y :: .int x :: S) σ = if y ≤ x then exec d mX3_howMany 33 [l0, l1, l2] S σ else exec d mX3_howMany 10 [l0, l1, l2] S σ) ∧
  (∀ (d : Nat) (σ : Sg) (S : List Value) (l0 l2 : Value) (x : Int32), exec d mX3_howMany 10 [l0, .int x, l2] S σ = exec d mX3_howMany 11 [l0, .int x, l2] (.int x :: S) σ) ∧
  (∀ (d : Nat) (σ : Sg) (S : List Value) (l1 l2 : Value) (k : Nat), exec d mX3_howMany 11 [.ref k, l1, l2] S σ = exec d mX3_howMany 12 [.ref k, l1, l2] (.ref k :: S) σ) ∧
  (∀ (d : Nat) (σ : Sg) (S : List Value) (l0 l1 l2 : Value), exec d mX3_howMany 12 [l0, l1, l2] (.ref 1 :: S) σ = exec d mX3_howMany 15 [l0, l1, l2] (.ref 2 :: S) σ) ∧
  (∀ (d : Nat) (σ : Sg) (S : List Value) (l0 l1 : Value) (x : Int32), exec d mX3_howMany 15 [l0, l1, .int x] S σ = exec d mX3_howMany 16 [l0, l1, .int x] (.int x :: S) σ) ∧
  (∀ (d : Nat) (σ : Sg) (S : List Value) (l0 l1 l2 : Value) (x : Int32), exec d mX3_howMany 16 [l0, l1, l2] (.int x :: .ref 2 :: S) σ = if inb x 8 = true then exec d mX3_howMany 17 [l0, l1, l2] (.int (σ 2 x.toNatClampNeg) :: S) σ else none) ∧
  (∀ (d : Nat) (σ : Sg) (S : List Value) (l0 l1 l2 : Value) (x : Int32), exec d mX3_howMany 17 [l0, l1, l2] (.int x :: S) σ = if x = nI 0 then exec d mX3_howMany 24 [l0, l1, l2] S σ else exec d mX3_howMany 20 [l0, l1, l2] S σ) ∧
  (∀ (d : Nat) (σ : Sg) (S : List Value) (l0 l1 l2 : Value), exec d mX3_howMany 20 [l0, l1, l2] S σ = exec d mX3_howMany 21 [l0, l1, l2] (.int (nI 1) :: S) σ) ∧
  (∀ (d : Nat) (σ : Sg) (S : List Value) (l0 l1 l2 : Value), exec d mX3_howMany 21 [l0, l1, l2] S σ = exec d mX3_howMany 25 [l0, l1, l2] S σ) ∧
  (∀ (d : Nat) (σ : Sg) (S : List Value) (l0 l1 l2 : Value), exec d mX3_howMany 24 [l0, l1, l2] S σ = exec d mX3_howMany 25 [l0, l1, l2] (.int (nI 0) :: S) σ) ∧
  (∀ (d : Nat) (σ : Sg) (S : List Value) (l0 l1 l2 : Value) (x y : Int32), exec d mX3_howMany 25 [l0, l1, l2] (.int y :: .int x :: S) σ = exec d mX3_howMany 26 [l0, l1, l2] (.int (x + y) :: S) σ) ∧
  (∀ (d : Nat) (σ : Sg) (S : List Value) (l1 l2 : Value) (k : Nat) (x : Int32), exec d mX3_howMany 26 [.ref k, l1, l2] (.int x :: S) σ = exec d mX3_howMany 27 [.ref k, .int x, l2] S σ) ∧
  (∀ (d : Nat) (σ : Sg) (S : List Value) (l0 : Value) (x y : Int32), exec d mX3_howMany 27 [l0, .int y, .int x] S σ = exec d mX3_howMany 30 [l0, .int y, .int (x + nI 1)] S σ) ∧
  (∀ (d : Nat) (σ : Sg) (S : List Value) (l0 l1 l2 : Value), exec d mX3_howMany 30 [l0, l1, l2] S σ = exec d mX3_howMany 4 [l0, l1, l2] S σ) ∧
  (∀ (d : Nat) (σ : Sg) (S : List Value) (l0 l2 : Value) (x : Int32), exec d mX3_howMany 33 [l0, .int x, l2] S σ = exec d mX3_howMany 34 [l0, .int x, l2] (.int x :: S) σ) ∧
  (∀ (d : Nat) (σ : Sg) (l0 l1 l2 : Value) (x : Int32), exec d mX3_howMany 34 [l0, l1, l2] [.int x] σ = some (some (.int x), σ)) :=
  ⟨fun d σ S l0 l1 l2 => ex_iconst (show decode mX3_howMany.2.1 0 = .ok (.iconst 0, 1) by decide +kernel) (by decide +kernel),
  fun d σ S l1 l2 k x => ex_istore_n (show decode mX3_howMany.2.1 1 = .ok (.istore_n 1, 1) by decide +kernel) (Nat.le_of_ble_eq_true rfl) rfl,
  fun d σ S l0 l1 l2 => ex_iconst (show decode mX3_howMany.2.1 2 = .ok (.iconst 0, 1) by decide +kernel) (by decide +kernel),
  fun d σ S l0 l2 x y => ex_istore_n (show decode mX3_howMany.2.1 3 = .ok (.istore_n 2, 1) by decide +kernel) (Nat.le_of_ble_eq_true rfl) rfl,
  fun d σ S l0 l1 l2 => ex_bipush (show decode mX3_howMany.2.1 5 = .ok (.bipush 8, 2) by decide +kernel) (by decide +kernel),
  fun d σ S l0 l1 l2 x y => ex_cge (show decode mX3_howMany.2.1 7 = .ok (.if_icmp .ge 26, 3) by decide +kernel) (by decide),
  fun d σ S l0 l2 x => ex_iload_n (show decode mX3_howMany.2.1 10 = .ok (.iload_n 1, 1) by decide +kernel) rfl,
  fun d σ S l1 l2 k => ex_aload_n (show decode mX3_howMany.2.1 11 = .ok (.aload_n 0, 1) by decide +kernel) rfl,
  fun d σ S l0 l1 l2 => ex_getr (idx := 9) (ci := 3) (ff := 0) (n := 4) (hh := 119) (by decide +kernel),
  fun d σ S l0 l1 x => ex_iload_n (show decode mX3_howMany.2.1 15 = .ok (.iload_n 2, 1) by decide +kernel) rfl,
  fun d σ S l0 l1 l2 x => ex_bald (by decide +kernel),
  fun d σ S l0 l1 l2 x => ex_zeq (show decode mX3_howMany.2.1 17 = .ok (.ifCond .eq 7, 3) by decide +kernel) (by decide),
  fun d σ S l0 l1 l2 => ex_iconst (show decode mX3_howMany.2.1 20 = .ok (.iconst 1, 1) by decide +kernel) (by decide +kernel),
  fun d σ S l0 l1 l2 => ex_goto (show decode mX3_howMany.2.1 21 = .ok (.goto 4, 3) by decide +kernel) (by decide),
  fun d σ S l0 l1 l2 => ex_iconst (show decode mX3_howMany.2.1 24 = .ok (.iconst 0, 1) by decide +kernel) (by decide +kernel),
  fun d σ S l0 l1 l2 x y => ex_iadd (show decode mX3_howMany.2.1 25 = .ok (.iadd, 1) by decide +kernel),
  fun d σ S l1 l2 k x => ex_istore_n (show decode mX3_howMany.2.1 26 = .ok (.istore_n 1, 1) by decide +kernel) (Nat.le_of_ble_eq_true rfl) rfl,
  fun d σ S l0 x y => ex_iinc (show decode mX3_howMany.2.1 27 = .ok (.iinc 2 1, 3) by decide +kernel) rfl (by decide +kernel) (Nat.le_of_ble_eq_true rfl) rfl,
  fun d σ S l0 l1 l2 => ex_goto (show decode mX3_howMany.2.1 30 = .ok (.goto (-26), 3) by decide +kernel) (by decide),
  fun d σ S l0 l2 x => ex_iload_n (show decode mX3_howMany.2.1 33 = .ok (.iload_n 1, 1) by decide +kernel) rfl,
  fun d σ l0 l1 l2 x => ex_iret (show decode mX3_howMany.2.1 34 = .ok (.ireturn, 1) by decide +kernel) rfl⟩
theorem hX3_howMany_4 : ∀ (d : Nat) (σ : Sg) (S : List Value) (l0 l1 : Value) (x : Int32), exec d mX3_howMany 4 [l0, l1, .int x] S σ = exec d mX3_howMany 5 [l0, l1, .int x] (.int x :: S) σ := fun d σ S l0 l1 x => ex_iload_n (show decode mX3_howMany.2.1 4 = .ok (.iload_n 2, 1) by decide +kernel) rfl
theorem aX3_howMany_1 : ∀ (d : Nat)  (σ : Sg), cal (d + 1) mX3_howMany [.ref 1] σ = exec d mX3_howMany 0 [.ref 1, uu, uu] [] σ := fun _ _ => rfl
