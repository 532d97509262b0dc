/-! generated: the instructions of GuildPieceModel -/
theorem kX7_in : (∀ (d : Nat) (σ : Sg) (S : List Value) (l1 l2 l3 l4 l5 : Value) (x : Int64), exec d mX7_in 0 [.long x, l1, l2, l3, l4, l5] S σ = exec d mX7_in 1 [.long x, l1, l2, l3, l4, l5] (.long x :: S) σ) ∧
  (∀ (d : Nat) (σ : Sg) (S : List Value) (l0 l1 l3 l4 l5 : Value) (x : Int64), exec d mX7_in 1 [l0, l1, .long x, l3, l4, l5] S σ = exec d mX7_in 2 [l0, l1, .long x, l3, l4, l5] (.long x :: S) σ) ∧
  (∀ (d : Nat) (σ : Sg) (S : List Value) (l0 l1 l2 l3 l4 l5 : Value) (x y : Int64), exec d mX7_in 2 [l0, l1, l2, l3, l4, l5] (.long y :: .long x :: S) σ = exec d mX7_in 3 [l0, l1, l2, l3, l4, l5] (.int (lg_cmp x y) :: S) σ) ∧
  (∀ (d : Nat) (σ : Sg) (S : List Value) (l0 l1 l2 l3 l4 l5 : Value) (x : Int32), exec d mX7_in 3 [l0, l1, l2, l3, l4, l5] (.int x :: S) σ = if x < nI 0 then exec d mX7_in 17 [l0, l1, l2, l3, l4, l5] S σ else exec d mX7_in 6 [l0, l1, l2, l3, l4, l5] S σ) ∧
  (∀ (d : Nat) (σ : Sg) (S : List Value) (l1 l2 l3 l4 l5 : Value) (x : Int64), exec d mX7_in 6 [.long x, l1, l2, l3, l4, l5] S σ = exec d mX7_in 7 [.long x, l1, l2, l3, l4, l5] (.long x :: S) σ) ∧
  (∀ (d : Nat) (σ : Sg) (S : List Value) (l0 l1 l2 l3 l5 : Value) (x : Int64), exec d mX7_in 7 [l0, l1, l2, l3, .long x, l5] S σ = exec d mX7_in 9 [l0, l1, l2, l3, .long x, l5] (.long x :: S) σ) ∧
  (∀ (d : Nat) (σ : Sg) (S : List Value) (l0 l1 l2 l3 l4 l5 : Value) (x y : Int64), exec d mX7_in 9 [l0, l1, l2, l3, l4, l5] (.long y :: .long x :: S) σ = exec d mX7_in 10 [l0, l1, l2, l3, l4, l5] (.int (lg_cmp x y) :: S) σ) ∧
  (∀ (d : Nat) (σ : Sg) (S : List Value) (l0 l1 l2 l3 l4 l5 : Value) (x : Int32), exec d mX7_in 10 [l0, l1, l2, l3, l4, l5] (.int x :: S) σ = if nI 0 < x then exec d mX7_in 17 [l0, l1, l2, l3, l4, l5] S σ else exec d mX7_in 13 [l0, l1, l2, l3, l4, l5] S σ) ∧
  (∀ (d : Nat) (σ : Sg) (S : List Value) (l0 l1 l2 l3 l4 l5 : Value), exec d mX7_in 13 [l0, l1, l2, l3, l4, l5] S σ = exec d mX7_in 14 [l0, l1, l2, l3, l4, l5] (.int (nI 1) :: S) σ) ∧
  (∀ (d : Nat) (σ : Sg) (S : List Value) (l0 l1 l2 l3 l4 l5 : Value), exec d mX7_in 14 [l0, l1, l2, l3, l4, l5] S σ = exec d mX7_in 18 [l0, l1, l2, l3, l4, l5] S σ) ∧
  (∀ (d : Nat) (σ : Sg) (S : List Value) (l0 l1 l2 l3 l4 l5 : Value), exec d mX7_in 17 [l0, l1, l2, l3, l4, l5] S σ = exec d mX7_in 18 [l0, l1, l2, l3, l4, l5] (.int (nI 0) :: S) σ) ∧
  (∀ (d : Nat) (σ : Sg) (l0 l1 l2 l3 l4 l5 : Value) (x : Int32), exec d mX7_in 18 [l0, l1, l2, l3, l4, l5] [.int x] σ = if b01 x = true then some (some (.int x), σ) else none) :=
  ⟨fun d σ S l1 l2 l3 l4 l5 x => ex_lload_n (show decode mX7_in.2.1 0 = .ok (.lload_n 0, 1) by decide +kernel) rfl,
  fun d σ S l0 l1 l3 l4 l5 x => ex_lload_n (show decode mX7_in.2.1 1 = .ok (.lload_n 2, 1) by decide +kernel) rfl,
  fun d σ S l0 l1 l2 l3 l4 l5 x y => ex_lcmp (show decode mX7_in.2.1 2 = .ok (.lcmp, 1) by decide +kernel),
  fun d σ S l0 l1 l2 l3 l4 l5 x => ex_zlt (show decode mX7_in.2.1 3 = .ok (.ifCond .lt 14, 3) by decide +kernel) (by decide),
  fun d σ S l1 l2 l3 l4 l5 x => ex_lload_n (show decode mX7_in.2.1 6 = .ok (.lload_n 0, 1) by decide +kernel) rfl,
  fun d σ S l0 l1 l2 l3 l5 x => ex_lload (show decode mX7_in.2.1 7 = .ok (.lload 4, 2) by decide +kernel) rfl,
  fun d σ S l0 l1 l2 l3 l4 l5 x y => ex_lcmp (show decode mX7_in.2.1 9 = .ok (.lcmp, 1) by decide +kernel),
  fun d σ S l0 l1 l2 l3 l4 l5 x => ex_zgt (show decode mX7_in.2.1 10 = .ok (.ifCond .gt 7, 3) by decide +kernel) (by decide),
  fun d σ S l0 l1 l2 l3 l4 l5 => ex_iconst (show decode mX7_in.2.1 13 = .ok (.iconst 1, 1) by decide +kernel) (by decide +kernel),
  fun d σ S l0 l1 l2 l3 l4 l5 => ex_goto (show decode mX7_in.2.1 14 = .ok (.goto 4, 3) by decide +kernel) (by decide),
  fun d σ S l0 l1 l2 l3 l4 l5 => ex_iconst (show decode mX7_in.2.1 17 = .ok (.iconst 0, 1) by decide +kernel) (by decide +kernel),
  fun d σ l0 l1 l2 l3 l4 l5 x => ex_zret (show decode mX7_in.2.1 18 = .ok (.ireturn, 1) by decide +kernel) rfl⟩
theorem aX7_in : ∀ (d : Nat) (a0 : Int64) (a1 : Int64) (a2 : Int64) (σ : Sg), cal (d + 1) mX7_in [.long a0, .long a1, .long a2] σ = exec d mX7_in 0 [.long a0, uu, .long a1, uu, .long a2, uu] [] σ := fun _ _ _ _ _ => rfl
theorem kX7_has : (∀ (d : Nat) (σ : Sg) (S : List Value) (l1 : Value) (x : Int32), exec d mX7_has 0 [.int x, l1] S σ = exec d mX7_has 1 [.int x, l1] (.int x :: S) σ) ∧
  (∀ (d : Nat) (σ : Sg) (S : List Value) (l0 : Value) (x : Int32), exec d mX7_has 1 [l0, .int x] S σ = exec d mX7_has 2 [l0, .int x] (.int x :: S) σ) ∧
  (∀ (d : Nat) (σ : Sg) (S : List Value) (l0 l1 : Value) (x y : Int32), exec d mX7_has 2 [l0, l1] (.int y :: .int x :: S) σ = exec d mX7_has 3 [l0, l1] (.int (x >>> (y &&& 31)) :: S) σ) ∧
  (∀ (d : Nat) (σ : Sg) (S : List Value) (l0 l1 : Value), exec d mX7_has 3 [l0, l1] S σ = exec d mX7_has 4 [l0, l1] (.int (nI 1) :: S) σ) ∧
  (∀ (d : Nat) (σ : Sg) (S : List Value) (l0 l1 : Value) (x y : Int32), exec d mX7_has 4 [l0, l1] (.int y :: .int x :: S) σ = exec d mX7_has 5 [l0, l1] (.int (x &&& y) :: S) σ) ∧
  (∀ (d : Nat) (σ : Sg) (S : List Value) (l0 l1 : Value), exec d mX7_has 5 [l0, l1] S σ = exec d mX7_has 6 [l0, l1] (.int (nI 1) :: S) σ) ∧
  (∀ (d : Nat) (σ : Sg) (S : List Value) (l0 l1 : Value) (x y : Int32), exec d mX7_has 6 [l0, l1] (.int y :: .int x :: S) σ = if x = y then exec d mX7_has 9 [l0, l1] S σ else exec d mX7_has 13 [l0, l1] S σ) ∧
  (∀ (d : Nat) (σ : Sg) (S : List Value) (l0 l1 : Value), exec d mX7_has 9 [l0, l1] S σ = exec d mX7_has 10 [l0, l1] (.int (nI 1) :: S) σ) ∧
  (∀ (d : Nat) (σ : Sg) (S : List Value) (l0 l1 : Value), exec d mX7_has 10 [l0, l1] S σ = exec d mX7_has 14 [l0, l1] S σ) ∧
  (∀ (d : Nat) (σ : Sg) (S : List Value) (l0 l1 : Value), exec d mX7_has 13 [l0, l1] S σ = exec d mX7_has 14 [l0, l1] (.int (nI 0) :: S) σ) ∧
  (∀ (d : Nat) (σ : Sg) (l0 l1 : Value) (x : Int32), exec d mX7_has 14 [l0, l1] [.int x] σ = if b01 x = true then some (some (.int x), σ) else none) :=
  ⟨fun d σ S l1 x => ex_iload_n (show decode mX7_has.2.1 0 = .ok (.iload_n 0, 1) by decide +kernel) rfl,
  fun d σ S l0 x => ex_iload_n (show decode mX7_has.2.1 1 = .ok (.iload_n 1, 1) by decide +kernel) rfl,
  fun d σ S l0 l1 x y => ex_ishr (show decode mX7_has.2.1 2 = .ok (.ishr, 1) by decide +kernel),
  fun d σ S l0 l1 => ex_iconst (show decode mX7_has.2.1 3 = .ok (.iconst 1, 1) by decide +kernel) (by decide +kernel),
  fun d σ S l0 l1 x y => ex_iand (show decode mX7_has.2.1 4 = .ok (.iand, 1) by decide +kernel),
  fun d σ S l0 l1 => ex_iconst (show decode mX7_has.2.1 5 = .ok (.iconst 1, 1) by decide +kernel) (by decide +kernel),
  fun d σ S l0 l1 x y => ex_cne (show decode mX7_has.2.1 6 = .ok (.if_icmp .ne 7, 3) by decide +kernel) (by decide),
  fun d σ S l0 l1 => ex_iconst (show decode mX7_has.2.1 9 = .ok (.iconst 1, 1) by decide +kernel) (by decide +kernel),
  fun d σ S l0 l1 => ex_goto (show decode mX7_has.2.1 10 = .ok (.goto 4, 3) by decide +kernel) (by decide),
  fun d σ S l0 l1 => ex_iconst (show decode mX7_has.2.1 13 = .ok (.iconst 0, 1) by decide +kernel) (by decide +kernel),
  fun d σ l0 l1 x => ex_zret (show decode mX7_has.2.1 14 = .ok (.ireturn, 1) by decide +kernel) rfl⟩
theorem aX7_has : ∀ (d : Nat) (a0 : Int32) (a1 : Int32) (σ : Sg), cal (d + 1) mX7_has [.int a0, .int a1] σ = exec d mX7_has 0 [.int a0, .int a1] [] σ := fun _ _ _ _ => rfl
theorem kX7_ones : (∀ (d : Nat) (σ : Sg) (S : List Value) (l0 l1 l2 : Value), exec d mX7_ones 0 [l0, l1, l2] S σ = exec d mX7_ones 1 [l0, l1, l2] (.int (nI 0) :: S) σ) ∧
  (∀ (d : Nat) (σ : Sg) (S : List Value) (l1 l2 : Value) (x y : Int32), exec d mX7_ones 1 [.int y, l1, l2] (.int x :: S) σ = exec d mX7_ones 2 [.int y, .int x, l2] S σ) ∧
  (∀ (d : Nat) (σ : Sg) (S : List Value) (l0 l1 l2 : Value), exec d mX7_ones 2 [l0, l1, l2] S σ = exec d mX7_ones 3 [l0, l1, l2] (.int (nI 0) :: S) σ) ∧
  (∀ (d : Nat) (σ : Sg) (S : List Value) (l0 l2 : Value) (x y : Int32), exec d mX7_ones 3 [l0, .int y, l2] (.int x :: S) σ = exec d mX7_ones 4 [l0, .int y, .int x] S σ) ∧
  (∀ (d : Nat) (σ : Sg) (S : List Value) (l0 l1 l2 : Value), exec d mX7_ones 5 [l0, l1, l2] S σ = exec d mX7_ones 7 [l0, l1, l2] (.int (nI 7) :: S) σ) ∧
  (∀ (d : Nat) (σ : Sg) (S : List Value) (l0 l1 l2 : Value) (x y : Int32), exec d mX7_ones 7 [l0, l1, l2] (.int y :: .int x :: S) σ = if y ≤ x then exec d mX7_ones 24 [l0, l1, l2] S σ else exec d mX7_ones 10 [l0, l1, l2] S σ) ∧
  (∀ (d : Nat) (σ : Sg) (S : List Value) (l0 l2 : Value) (x : Int32), exec d mX7_ones 10 [l0, .int x, l2] S σ = exec d mX7_ones 11 [l0, .int x, l2] (.int x :: S) σ) ∧
  (∀ (d : Nat) (σ : Sg) (S : List Value) (l1 l2 : Value) (x : Int32), exec d mX7_ones 11 [.int x, l1, l2] S σ = exec d mX7_ones 12 [.int x, l1, l2] (.int x :: S) σ) ∧
  (∀ (d : Nat) (σ : Sg) (S : List Value) (l0 l1 : Value) (x : Int32), exec d mX7_ones 12 [l0, l1, .int x] S σ = exec d mX7_ones 13 [l0, l1, .int x] (.int x :: S) σ) ∧
  (∀ (d : Nat) (σ : Sg) (S : List Value) (l0 l1 l2 : Value) (x y : Int32), exec d mX7_ones 13 [l0, l1, l2] (.int y :: .int x :: S) σ = exec d mX7_ones 14 [l0, l1, l2] (.int (x >>> (y &&& 31)) :: S) σ) ∧
  (∀ (d : Nat) (σ : Sg) (S : List Value) (l0 l1 l2 : Value), exec d mX7_ones 14 [l0, l1, l2] S σ = exec d mX7_ones 15 [l0, l1, l2] (.int (nI 1) :: S) σ) ∧
  (∀ (d : Nat) (σ : Sg) (S : List Value) (l0 l1 l2 : Value) (x y : Int32), exec d mX7_ones 15 [l0, l1, l2] (.int y :: .int x :: S) σ = exec d mX7_ones 16 [l0, l1, l2] (.int (x &&& y) :: S) σ) ∧
  (∀ (d : Nat) (σ : Sg) (S : List Value) (l0 l1 l2 : Value) (x y : Int32), exec d mX7_ones 16 [l0, l1, l2] (.int y :: .int x :: S) σ = exec d mX7_ones 17 [l0, l1, l2] (.int (x + y) :: S) σ) ∧
  (∀ (d : Nat) (σ : Sg) (S : List Value) (l1 l2 : Value) (x y : Int32), exec d mX7_ones 17 [.int y, l1, l2] (.int x :: S) σ = exec d mX7_ones 18 [.int y, .int x, l2] S σ) ∧
  (∀ (d : Nat) (σ : Sg) (S : List Value) (l0 : Value) (x y : Int32), exec d mX7_ones 18 [l0, .int y, .int x] S σ = exec d mX7_ones 21 [l0, .int y, .int (x + nI 1)] S σ) ∧
  (∀ (d : Nat) (σ : Sg) (S : List Value) (l0 l1 l2 : Value), exec d mX7_ones 21 [l0, l1, l2] S σ = exec d mX7_ones 4 [l0, l1, l2] S σ) ∧
  (∀ (d : Nat) (σ : Sg) (S : List Value) (l0 l2 : Value) (x : Int32), exec d mX7_ones 24 [l0, .int x, l2] S σ = exec d mX7_ones 25 [l0, .int x, l2] (.int x :: S) σ) ∧
  (∀ (d : Nat) (σ : Sg) (l0 l1 l2 : Value) (x : Int32), exec d mX7_ones 25 [l0, l1, l2] [.int x] σ = some (some (.int x), σ)) :=
  ⟨fun d σ S l0 l1 l2 => ex_iconst (show decode mX7_ones.2.1 0 = .ok (.iconst 0, 1) by decide +kernel) (by decide +kernel),
  fun d σ S l1 l2 x y => ex_istore_n (show decode mX7_ones.2.1 1 = .ok (.istore_n 1, 1) by decide +kernel) (Nat.le_of_ble_eq_true rfl) rfl,
  fun d σ S l0 l1 l2 => ex_iconst (show decode mX7_ones.2.1 2 = .ok (.iconst 0, 1) by decide +kernel) (by decide +kernel),
  fun d σ S l0 l2 x y => ex_istore_n (show decode mX7_ones.2.1 3 = .ok (.istore_n 2, 1) by decide +kernel) (Nat.le_of_ble_eq_true rfl) rfl,
  fun d σ S l0 l1 l2 => ex_bipush (show decode mX7_ones.2.1 5 = .ok (.bipush 7, 2) by decide +kernel) (by decide +kernel),
  fun d σ S l0 l1 l2 x y => ex_cge (show decode mX7_ones.2.1 7 = .ok (.if_icmp .ge 17, 3) by decide +kernel) (by decide),
  fun d σ S l0 l2 x => ex_iload_n (show decode mX7_ones.2.1 10 = .ok (.iload_n 1, 1) by decide +kernel) rfl,
  fun d σ S l1 l2 x => ex_iload_n (show decode mX7_ones.2.1 11 = .ok (.iload_n 0, 1) by decide +kernel) rfl,
  fun d σ S l0 l1 x => ex_iload_n (show decode mX7_ones.2.1 12 = .ok (.iload_n 2, 1) by decide +kernel) rfl,
  fun d σ S l0 l1 l2 x y => ex_ishr (show decode mX7_ones.2.1 13 = .ok (.ishr, 1) by decide +kernel),
  fun d σ S l0 l1 l2 => ex_iconst (show decode mX7_ones.2.1 14 = .ok (.iconst 1, 1) by decide +kernel) (by decide +kernel),
  fun d σ S l0 l1 l2 x y => ex_iand (show decode mX7_ones.2.1 15 = .ok (.iand, 1) by decide +kernel),
  fun d σ S l0 l1 l2 x y => ex_iadd (show decode mX7_ones.2.1 16 = .ok (.iadd, 1) by decide +kernel),
  fun d σ S l1 l2 x y => ex_istore_n (show decode mX7_ones.2.1 17 = .ok (.istore_n 1, 1) by decide +kernel) (Nat.le_of_ble_eq_true rfl) rfl,
  fun d σ S l0 x y => ex_iinc (show decode mX7_ones.2.1 18 = .ok (.iinc 2 1, 3) by decide +kernel) rfl (by decide +kernel) (Nat.le_of_ble_eq_true rfl) rfl,
  fun d σ S l0 l1 l2 => ex_goto (show decode mX7_ones.2.1 21 = .ok (.goto (-17), 3) by decide +kernel) (by decide),
  fun d σ S l0 l2 x => ex_iload_n (show decode mX7_ones.2.1 24 = .ok (.iload_n 1, 1) by decide +kernel) rfl,
  fun d σ l0 l1 l2 x => ex_iret (show decode mX7_ones.2.1 25 = .ok (.ireturn, 1) by decide +kernel) rfl⟩
theorem hX7_ones_4 : ∀ (d : Nat) (σ : Sg) (S : List Value) (l0 l1 : Value) (x : Int32), exec d mX7_ones 4 [l0, l1, .int x] S σ = exec d mX7_ones 5 [l0, l1, .int x] (.int x :: S) σ := fun d σ S l0 l1 x => ex_iload_n (show decode mX7_ones.2.1 4 = .ok (.iload_n 2, 1) by decide +kernel) rfl
theorem aX7_ones : ∀ (d : Nat) (a0 : Int32) (σ : Sg), cal (d + 1) mX7_ones [.int a0] σ = exec d mX7_ones 0 [.int a0, uu, uu] [] σ := fun _ _ _ => rfl
theorem kX7_found : (∀ (d : Nat) (σ : Sg) (S : List Value) (l1 : Value) (k : Nat), exec d mX7_found 0 [.ref k, l1] S σ = exec d mX7_found 1 [.ref k, l1] (.ref k :: S) σ) ∧
  (∀ (d : Nat) (σ : Sg) (S : List Value) (l0 : Value) (x : Int32), exec d mX7_found 1 [l0, .int x] S σ = exec d mX7_found 2 [l0, .int x] (.int x :: S) σ) ∧
  (∀ (d : Nat) (σ : Sg) (S : List Value) (l0 l1 : Value) (x : Int32), exec d mX7_found 2 [l0, l1] (.int x :: .ref 50 :: S) σ = exec d mX7_found 5 [l0, l1] S (up σ 50 7 x)) ∧
  (∀ (d : Nat) (σ : Sg) (S : List Value) (l0 l1 : Value), exec d mX7_found 5 [l0, l1] S σ = exec d mX7_found 7 [l0, l1] (.int ((-1000010)) :: S) σ) ∧
  (∀ (d : Nat) (σ : Sg) (S : List Value) (l0 : Value) (x : Int32), exec d mX7_found 7 [l0, .int x] S σ = exec d mX7_found 8 [l0, .int x] (.int x :: S) σ) ∧
  (∀ (d : Nat) (σ : Sg) (S : List Value) (l0 l1 : Value) (x y : Int32), exec d mX7_found 8 [l0, l1] (.int y :: .int x :: S) σ = exec d mX7_found 9 [l0, l1] (.int (x - y) :: S) σ) ∧
  (∀ (d : Nat) (σ : Sg) (l0 l1 : Value) (x : Int32), exec d mX7_found 9 [l0, l1] [.int x] σ = some (some (.int x), σ)) :=
  ⟨fun d σ S l1 k => ex_aload_n (show decode mX7_found.2.1 0 = .ok (.aload_n 0, 1) by decide +kernel) rfl,
  fun d σ S l0 x => ex_iload_n (show decode mX7_found.2.1 1 = .ok (.iload_n 1, 1) by decide +kernel) rfl,
  fun d σ S l0 l1 x => ex_put (idx := 56) (ci := 7) (ff := 7) (n := 26) (hh := 840) (by decide +kernel),
  fun d σ S l0 l1 => ex_ldc (hh := 929) (show decode mX7_found.2.1 5 = .ok (.ldc 60, 2) by decide +kernel) (by decide +kernel),
  fun d σ S l0 x => ex_iload_n (show decode mX7_found.2.1 7 = .ok (.iload_n 1, 1) by decide +kernel) rfl,
  fun d σ S l0 l1 x y => ex_isub (show decode mX7_found.2.1 8 = .ok (.isub, 1) by decide +kernel),
  fun d σ l0 l1 x => ex_iret (show decode mX7_found.2.1 9 = .ok (.ireturn, 1) by decide +kernel) rfl⟩
theorem aX7_found_50 : ∀ (d : Nat) (a1 : Int32) (σ : Sg), cal (d + 1) mX7_found [.ref 50, .int a1] σ = exec d mX7_found 0 [.ref 50, .int a1] [] σ := fun _ _ _ => rfl
theorem kX7_good : (∀ (d : Nat) (σ : Sg) (S : List Value) (l1 : Value) (k : Nat), exec d mX7_good 0 [.ref k, l1] S σ = exec d mX7_good 1 [.ref k, l1] (.ref k :: S) σ) ∧
  (∀ (d : Nat) (σ : Sg) (S : List Value) (l0 l1 : Value), exec d mX7_good 1 [l0, l1] S σ = exec d mX7_good 2 [l0, l1] (.int (nI 0) :: S) σ) ∧
  (∀ (d : Nat) (σ : Sg) (S : List Value) (l0 l1 : Value) (x : Int32), exec d mX7_good 2 [l0, l1] (.int x :: .ref 50 :: S) σ = exec d mX7_good 5 [l0, l1] S (up σ 50 7 x)) ∧
  (∀ (d : Nat) (σ : Sg) (S : List Value) (l0 : Value) (x : Int32), exec d mX7_good 5 [l0, .int x] S σ = exec d mX7_good 6 [l0, .int x] (.int x :: S) σ) ∧
  (∀ (d : Nat) (σ : Sg) (l0 l1 : Value) (x : Int32), exec d mX7_good 6 [l0, l1] [.int x] σ = some (some (.int x), σ)) :=
  ⟨fun d σ S l1 k => ex_aload_n (show decode mX7_good.2.1 0 = .ok (.aload_n 0, 1) by decide +kernel) rfl,
  fun d σ S l0 l1 => ex_iconst (show decode mX7_good.2.1 1 = .ok (.iconst 0, 1) by decide +kernel) (by decide +kernel),
  fun d σ S l0 l1 x => ex_put (idx := 56) (ci := 7) (ff := 7) (n := 26) (hh := 840) (by decide +kernel),
  fun d σ S l0 x => ex_iload_n (show decode mX7_good.2.1 5 = .ok (.iload_n 1, 1) by decide +kernel) rfl,
  fun d σ l0 l1 x => ex_iret (show decode mX7_good.2.1 6 = .ok (.ireturn, 1) by decide +kernel) rfl⟩
theorem aX7_good_50 : ∀ (d : Nat) (a1 : Int32) (σ : Sg), cal (d + 1) mX7_good [.ref 50, .int a1] σ = exec d mX7_good 0 [.ref 50, .int a1] [] σ := fun _ _ _ => rfl
theorem kX7_isRow : (∀ (d : Nat) (σ : Sg) (S : List Value) (x : Int32), exec d mX7_isRow 0 [.int x] S σ = exec d mX7_isRow 1 [.int x] (.int x :: S) σ) ∧
  (∀ (d : Nat) (σ : Sg) (S : List Value) (l0 : Value) (x : Int32), exec d mX7_isRow 1 [l0] (.int x :: S) σ = exec d mX7_isRow 2 [l0] (.long x.toInt64 :: S) σ) ∧
  (∀ (d : Nat) (σ : Sg) (S : List Value) (l0 : Value), exec d mX7_isRow 2 [l0] S σ = exec d mX7_isRow 3 [l0] (.long (lN 0) :: S) σ) ∧
  (∀ (d : Nat) (σ : Sg) (S : List Value) (l0 : Value), exec d mX7_isRow 3 [l0] S σ = exec d mX7_isRow 6 [l0] (.long (lN 7) :: S) σ) ∧
  (∀ (d : Nat) (σ : Sg) (l0 : Value) (x0 x1 x2 : Int64), exec d mX7_isRow 6 [l0] [.long x0, .long x1, .long x2] σ = kb (cal d mX7_in [.long x2, .long x1, .long x0] σ) (fun rs σ2 => exec d mX7_isRow 9 [l0] (rs ++ []) σ2)) ∧
  (∀ (d : Nat) (σ : Sg) (l0 : Value) (x : Int32), exec d mX7_isRow 9 [l0] [.int x] σ = if b01 x = true then some (some (.int x), σ) else none) :=
  ⟨fun d σ S x => ex_iload_n (show decode mX7_isRow.2.1 0 = .ok (.iload_n 0, 1) by decide +kernel) rfl,
  fun d σ S l0 x => ex_i2l (show decode mX7_isRow.2.1 1 = .ok (.i2l, 1) by decide +kernel),
  fun d σ S l0 => ex_lconst (show decode mX7_isRow.2.1 2 = .ok (.lconst 0, 1) by decide +kernel) (by decide +kernel),
  fun d σ S l0 => ex_ldc2 (hh := 919) (show decode mX7_isRow.2.1 3 = .ok (.ldc2_w 61, 3) by decide +kernel) (by decide +kernel),
  fun d σ l0 x0 x1 x2 => ex_is (hs := [920, 921, 922, 101]) (show decode mX7_isRow.2.1 6 = .ok (.invokestatic 63, 3) by decide +kernel) lkS_7_63 ⟨rfl, Nat.le_of_ble_eq_true rfl, Nat.le_of_ble_eq_true rfl, fun q => nomatch q⟩ rfl rfl,
  fun d σ l0 x => ex_zret (show decode mX7_isRow.2.1 9 = .ok (.ireturn, 1) by decide +kernel) rfl⟩
theorem aX7_isRow : ∀ (d : Nat) (a0 : Int32) (σ : Sg), cal (d + 1) mX7_isRow [.int a0] σ = exec d mX7_isRow 0 [.int a0] [] σ := fun _ _ _ => rfl
theorem kX7_row_0 : (∀ (d : Nat) (σ : Sg) (S : List Value) (l0 l2 l3 l4 : Value) (x : Int32), exec d mX7_row 0 [l0, .int x, l2, l3, l4] S σ = exec d mX7_row 1 [l0, .int x, l2, l3, l4] (.int x :: S) σ) ∧
  (∀ (d : Nat) (σ : Sg) (l0 l1 l2 l3 l4 : Value) (x0 : Int32), exec d mX7_row 1 [l0, l1, l2, l3, l4] [.int x0] σ = kb (cal d mX7_isRow [.int x0] σ) (fun rs σ2 => exec d mX7_row 4 [l0, l1, l2, l3, l4] (rs ++ []) σ2)) ∧
  (∀ (d : Nat) (σ : Sg) (S : List Value) (l0 l1 l2 l3 l4 : Value) (x : Int32), exec d mX7_row 4 [l0, l1, l2, l3, l4] (.int x :: S) σ = if x = nI 0 then exec d mX7_row 25 [l0, l1, l2, l3, l4] S σ else exec d mX7_row 7 [l0, l1, l2, l3, l4] S σ) ∧
  (∀ (d : Nat) (σ : Sg) (S : List Value) (l0 l1 l3 l4 : Value) (x : Int32), exec d mX7_row 7 [l0, l1, .int x, l3, l4] S σ = exec d mX7_row 8 [l0, l1, .int x, l3, l4] (.int x :: S) σ) ∧
  (∀ (d : Nat) (σ : Sg) (S : List Value) (l0 l1 l2 l3 l4 : Value) (x : Int32), exec d mX7_row 8 [l0, l1, l2, l3, l4] (.int x :: S) σ = exec d mX7_row 9 [l0, l1, l2, l3, l4] (.long x.toInt64 :: S) σ) ∧
  (∀ (d : Nat) (σ : Sg) (S : List Value) (l0 l1 l2 l3 l4 : Value), exec d mX7_row 9 [l0, l1, l2, l3, l4] S σ = exec d mX7_row 10 [l0, l1, l2, l3, l4] (.long (lN 0) :: S) σ) ∧
  (∀ (d : Nat) (σ : Sg) (S : List Value) (l0 l1 l2 l3 l4 : Value), exec d mX7_row 10 [l0, l1, l2, l3, l4] S σ = exec d mX7_row 13 [l0, l1, l2, l3, l4] (.long (lN 2) :: S) σ) ∧
  (∀ (d : Nat) (σ : Sg) (l0 l1 l2 l3 l4 : Value) (x0 x1 x2 : Int64), exec d mX7_row 13 [l0, l1, l2, l3, l4] [.long x0, .long x1, .long x2] σ = kb (cal d mX7_in [.long x2, .long x1, .long x0] σ) (fun rs σ2 => exec d mX7_row 16 [l0, l1, l2, l3, l4] (rs ++ []) σ2)) ∧
  (∀ (d : Nat) (σ : Sg) (S : List Value) (l0 l1 l2 l3 l4 : Value) (x : Int32), exec d mX7_row 16 [l0, l1, l2, l3, l4] (.int x :: S) σ = if x = nI 0 then exec d mX7_row 25 [l0, l1, l2, l3, l4] S σ else exec d mX7_row 19 [l0, l1, l2, l3, l4] S σ) ∧
  (∀ (d : Nat) (σ : Sg) (S : List Value) (l0 l1 l2 l4 : Value) (x : Int32), exec d mX7_row 19 [l0, l1, l2, .int x, l4] S σ = exec d mX7_row 20 [l0, l1, l2, .int x, l4] (.int x :: S) σ) ∧
  (∀ (d : Nat) (σ : Sg) (S : List Value) (l0 l1 l2 l3 l4 : Value), exec d mX7_row 20 [l0, l1, l2, l3, l4] S σ = exec d mX7_row 22 [l0, l1, l2, l3, l4] (.int (nI 40) :: S) σ) ∧
  (∀ (d : Nat) (σ : Sg) (S : List Value) (l0 l1 l2 l3 l4 : Value) (x y : Int32), exec d mX7_row 22 [l0, l1, l2, l3, l4] (.int y :: .int x :: S) σ = if x ≤ y then exec d mX7_row 28 [l0, l1, l2, l3, l4] S σ else exec d mX7_row 25 [l0, l1, l2, l3, l4] S σ) ∧
  (∀ (d : Nat) (σ : Sg) (S : List Value) (l0 l1 l2 l3 l4 : Value), exec d mX7_row 25 [l0, l1, l2, l3, l4] S σ = exec d mX7_row 27 [l0, l1, l2, l3, l4] (.int ((-1000001)) :: S) σ) ∧
  (∀ (d : Nat) (σ : Sg) (l0 l1 l2 l3 l4 : Value) (x : Int32), exec d mX7_row 27 [l0, l1, l2, l3, l4] [.int x] σ = some (some (.int x), σ)) ∧
  (∀ (d : Nat) (σ : Sg) (S : List Value) (l0 l1 l2 l4 : Value) (x : Int32), exec d mX7_row 28 [l0, l1, l2, .int x, l4] S σ = exec d mX7_row 29 [l0, l1, l2, .int x, l4] (.int x :: S) σ) ∧
  (∀ (d : Nat) (σ : Sg) (S : List Value) (l0 l1 l2 l3 l4 : Value) (x : Int32), exec d mX7_row 29 [l0, l1, l2, l3, l4] (.int x :: S) σ = if nI 0 ≤ x then exec d mX7_row 38 [l0, l1, l2, l3, l4] S σ else exec d mX7_row 32 [l0, l1, l2, l3, l4] S σ) ∧
  (∀ (d : Nat) (σ : Sg) (S : List Value) (l1 l2 l3 l4 : Value) (k : Nat), exec d mX7_row 32 [.ref k, l1, l2, l3, l4] S σ = exec d mX7_row 33 [.ref k, l1, l2, l3, l4] (.ref k :: S) σ) ∧
  (∀ (d : Nat) (σ : Sg) (S : List Value) (l0 l1 l2 l3 l4 : Value), exec d mX7_row 33 [l0, l1, l2, l3, l4] S σ = exec d mX7_row 34 [l0, l1, l2, l3, l4] (.int (nI 4) :: S) σ) ∧
  (∀ (d : Nat) (σ : Sg) (l0 l1 l2 l3 l4 : Value) (x0 : Int32), exec d mX7_row 34 [l0, l1, l2, l3, l4] [.int x0, .ref 50] σ = kb (cal d mX7_found [.ref 50, .int x0] σ) (fun rs σ2 => exec d mX7_row 37 [l0, l1, l2, l3, l4] (rs ++ []) σ2)) ∧
  (∀ (d : Nat) (σ : Sg) (l0 l1 l2 l3 l4 : Value) (x : Int32), exec d mX7_row 37 [l0, l1, l2, l3, l4] [.int x] σ = some (some (.int x), σ)) ∧
  (∀ (d : Nat) (σ : Sg) (S : List Value) (l1 l2 l3 l4 : Value) (k : Nat), exec d mX7_row 38 [.ref k, l1, l2, l3, l4] S σ = exec d mX7_row 39 [.ref k, l1, l2, l3, l4] (.ref k :: S) σ) ∧
  (∀ (d : Nat) (σ : Sg) (S : List Value) (l0 l1 l2 l3 l4 : Value), exec d mX7_row 39 [l0, l1, l2, l3, l4] (.ref 50 :: S) σ = exec d mX7_row 42 [l0, l1, l2, l3, l4] (.ref 55 :: S) σ) ∧
  (∀ (d : Nat) (σ : Sg) (S : List Value) (l0 l2 l3 l4 : Value) (x : Int32), exec d mX7_row 42 [l0, .int x, l2, l3, l4] S σ = exec d mX7_row 43 [l0, .int x, l2, l3, l4] (.int x :: S) σ) ∧
  (∀ (d : Nat) (σ : Sg) (S : List Value) (l0 l1 l2 l4 : Value) (x : Int32), exec d mX7_row 43 [l0, l1, l2, .int x, l4] S σ = exec d mX7_row 44 [l0, l1, l2, .int x, l4] (.int x :: S) σ) ∧
  (∀ (d : Nat) (σ : Sg) (S : List Value) (l0 l1 l2 l3 l4 : Value) (x y : Int32), exec d mX7_row 44 [l0, l1, l2, l3, l4] (.int y :: .int x :: .ref 55 :: S) σ = if inb x 8 = true then exec d mX7_row 45 [l0, l1, l2, l3, l4] S (up σ 55 x.toNatClampNeg y) else none) ∧
  (∀ (d : Nat) (σ : Sg) (S : List Value) (l1 l2 l3 l4 : Value) (k : Nat), exec d mX7_row 45 [.ref k, l1, l2, l3, l4] S σ = exec d mX7_row 46 [.ref k, l1, l2, l3, l4] (.ref k :: S) σ) ∧
  (∀ (d : Nat) (σ : Sg) (S : List Value) (l0 l1 l2 l3 l4 : Value), exec d mX7_row 46 [l0, l1, l2, l3, l4] (.ref 50 :: S) σ = exec d mX7_row 49 [l0, l1, l2, l3, l4] (.ref 56 :: S) σ) ∧
  (∀ (d : Nat) (σ : Sg) (S : List Value) (l0 l2 l3 l4 : Value) (x : Int32), exec d mX7_row 49 [l0, .int x, l2, l3, l4] S σ = exec d mX7_row 50 [l0, .int x, l2, l3, l4] (.int x :: S) σ) ∧
  (∀ (d : Nat) (σ : Sg) (S : List Value) (l0 l1 l3 l4 : Value) (x : Int32), exec d mX7_row 50 [l0, l1, .int x, l3, l4] S σ = exec d mX7_row 51 [l0, l1, .int x, l3, l4] (.int x :: S) σ) ∧
  (∀ (d : Nat) (σ : Sg) (S : List Value) (l0 l1 l2 l3 l4 : Value) (x y : Int32), exec d mX7_row 51 [l0, l1, l2, l3, l4] (.int y :: .int x :: .ref 56 :: S) σ = if inb x 8 = true then exec d mX7_row 52 [l0, l1, l2, l3, l4] S (up σ 56 x.toNatClampNeg y) else none) ∧
  (∀ (d : Nat) (σ : Sg) (S : List Value) (l0 l1 l2 l3 l4 : Value), exec d mX7_row 52 [l0, l1, l2, l3, l4] S σ = exec d mX7_row 53 [l0, l1, l2, l3, l4] (.int (nI 0) :: S) σ) ∧
  (∀ (d : Nat) (σ : Sg) (S : List Value) (l0 l1 l2 l4 : Value) (x y : Int32), exec d mX7_row 53 [l0, l1, l2, .int y, l4] (.int x :: S) σ = exec d mX7_row 55 [l0, l1, l2, .int y, .int x] S σ) ∧
  (∀ (d : Nat) (σ : Sg) (S : List Value) (l0 l1 l2 l3 l4 : Value), exec d mX7_row 57 [l0, l1, l2, l3, l4] S σ = exec d mX7_row 59 [l0, l1, l2, l3, l4] (.int (nI 40) :: S) σ) ∧
  (∀ (d : Nat) (σ : Sg) (S : List Value) (l0 l1 l2 l3 l4 : Value) (x y : Int32), exec d mX7_row 59 [l0, l1, l2, l3, l4] (.int y :: .int x :: S) σ = if y ≤ x then exec d mX7_row 81 [l0, l1, l2, l3, l4] S σ else exec d mX7_row 62 [l0, l1, l2, l3, l4] S σ) ∧
  (∀ (d : Nat) (σ : Sg) (S : List Value) (l1 l2 l3 l4 : Value) (k : Nat), exec d mX7_row 62 [.ref k, l1, l2, l3, l4] S σ = exec d mX7_row 63 [.ref k, l1, l2, l3, l4] (.ref k :: S) σ) ∧
  (∀ (d : Nat) (σ : Sg) (S : List Value) (l0 l1 l2 l3 l4 : Value), exec d mX7_row 63 [l0, l1, l2, l3, l4] (.ref 50 :: S) σ = exec d mX7_row 66 [l0, l1, l2, l3, l4] (.ref 54 :: S) σ) ∧
  (∀ (d : Nat) (σ : Sg) (S : List Value) (l0 l1 l2 l3 l4 : Value), exec d mX7_row 66 [l0, l1, l2, l3, l4] S σ = exec d mX7_row 68 [l0, l1, l2, l3, l4] (.int (nI 40) :: S) σ) ∧
  (∀ (d : Nat) (σ : Sg) (S : List Value) (l0 l2 l3 l4 : Value) (x : Int32), exec d mX7_row 68 [l0, .int x, l2, l3, l4] S σ = exec d mX7_row 69 [l0, .int x, l2, l3, l4] (.int x :: S) σ) ∧
  (∀ (d : Nat) (σ : Sg) (S : List Value) (l0 l1 l2 l3 l4 : Value) (x y : Int32), exec d mX7_row 69 [l0, l1, l2, l3, l4] (.int y :: .int x :: S) σ = exec d mX7_row 70 [l0, l1, l2, l3, l4] (.int (x * y) :: S) σ) ∧
  (∀ (d : Nat) (σ : Sg) (S : List Value) (l0 l1 l2 l3 : Value) (x : Int32), exec d mX7_row 70 [l0, l1, l2, l3, .int x] S σ = exec d mX7_row 72 [l0, l1, l2, l3, .int x] (.int x :: S) σ) :=
  ⟨fun d σ S l0 l2 l3 l4 x => ex_iload_n (show decode mX7_row.2.1 0 = .ok (.iload_n 1, 1) by decide +kernel) rfl,
  fun d σ l0 l1 l2 l3 l4 x0 => ex_is (hs := [916, 917, 918, 101]) (show decode mX7_row.2.1 1 = .ok (.invokestatic 67, 3) by decide +kernel) lkS_7_67 ⟨rfl, Nat.le_of_ble_eq_true rfl, Nat.le_of_ble_eq_true rfl, fun q => nomatch q⟩ rfl rfl,
  fun d σ S l0 l1 l2 l3 l4 x => ex_zeq (show decode mX7_row.2.1 4 = .ok (.ifCond .eq 21, 3) by decide +kernel) (by decide),
  fun d σ S l0 l1 l3 l4 x => ex_iload_n (show decode mX7_row.2.1 7 = .ok (.iload_n 2, 1) by decide +kernel) rfl,
  fun d σ S l0 l1 l2 l3 l4 x => ex_i2l (show decode mX7_row.2.1 8 = .ok (.i2l, 1) by decide +kernel),
  fun d σ S l0 l1 l2 l3 l4 => ex_lconst (show decode mX7_row.2.1 9 = .ok (.lconst 0, 1) by decide +kernel) (by decide +kernel),
  fun d σ S l0 l1 l2 l3 l4 => ex_ldc2 (hh := 923) (show decode mX7_row.2.1 10 = .ok (.ldc2_w 71, 3) by decide +kernel) (by decide +kernel),
  fun d σ l0 l1 l2 l3 l4 x0 x1 x2 => ex_is (hs := [920, 921, 922, 101]) (show decode mX7_row.2.1 13 = .ok (.invokestatic 63, 3) by decide +kernel) lkS_7_63 ⟨rfl, Nat.le_of_ble_eq_true rfl, Nat.le_of_ble_eq_true rfl, fun q => nomatch q⟩ rfl rfl,
  fun d σ S l0 l1 l2 l3 l4 x => ex_zeq (show decode mX7_row.2.1 16 = .ok (.ifCond .eq 9, 3) by decide +kernel) (by decide),
  fun d σ S l0 l1 l2 l4 x => ex_iload_n (show decode mX7_row.2.1 19 = .ok (.iload_n 3, 1) by decide +kernel) rfl,
  fun d σ S l0 l1 l2 l3 l4 => ex_bipush (show decode mX7_row.2.1 20 = .ok (.bipush 40, 2) by decide +kernel) (by decide +kernel),
  fun d σ S l0 l1 l2 l3 l4 x y => ex_cle (show decode mX7_row.2.1 22 = .ok (.if_icmp .le 6, 3) by decide +kernel) (by decide),
  fun d σ S l0 l1 l2 l3 l4 => ex_ldc (hh := 924) (show decode mX7_row.2.1 25 = .ok (.ldc 73, 2) by decide +kernel) (by decide +kernel),
  fun d σ l0 l1 l2 l3 l4 x => ex_iret (show decode mX7_row.2.1 27 = .ok (.ireturn, 1) by decide +kernel) rfl,
  fun d σ S l0 l1 l2 l4 x => ex_iload_n (show decode mX7_row.2.1 28 = .ok (.iload_n 3, 1) by decide +kernel) rfl,
  fun d σ S l0 l1 l2 l3 l4 x => ex_zge (show decode mX7_row.2.1 29 = .ok (.ifCond .ge 9, 3) by decide +kernel) (by decide),
  fun d σ S l1 l2 l3 l4 k => ex_aload_n (show decode mX7_row.2.1 32 = .ok (.aload_n 0, 1) by decide +kernel) rfl,
  fun d σ S l0 l1 l2 l3 l4 => ex_iconst (show decode mX7_row.2.1 33 = .ok (.iconst 4, 1) by decide +kernel) (by decide +kernel),
  fun d σ l0 l1 l2 l3 l4 x0 => ex_iv (hs := [925, 927, 54, 928, 101]) (show decode mX7_row.2.1 34 = .ok (.invokevirtual 74, 3) by decide +kernel) lkV_7_74 ⟨rfl, Nat.le_of_ble_eq_true rfl, Nat.le_of_ble_eq_true rfl, fun _ => rfl⟩ rfl rfl,
  fun d σ l0 l1 l2 l3 l4 x => ex_iret (show decode mX7_row.2.1 37 = .ok (.ireturn, 1) by decide +kernel) rfl,
  fun d σ S l1 l2 l3 l4 k => ex_aload_n (show decode mX7_row.2.1 38 = .ok (.aload_n 0, 1) by decide +kernel) rfl,
  fun d σ S l0 l1 l2 l3 l4 => ex_getr (idx := 23) (ci := 7) (ff := 5) (n := 26) (hh := 838) (by decide +kernel),
  fun d σ S l0 l2 l3 l4 x => ex_iload_n (show decode mX7_row.2.1 42 = .ok (.iload_n 1, 1) by decide +kernel) rfl,
  fun d σ S l0 l1 l2 l4 x => ex_iload_n (show decode mX7_row.2.1 43 = .ok (.iload_n 3, 1) by decide +kernel) rfl,
  fun d σ S l0 l1 l2 l3 l4 x y => ex_iast (by decide +kernel),
  fun d σ S l1 l2 l3 l4 k => ex_aload_n (show decode mX7_row.2.1 45 = .ok (.aload_n 0, 1) by decide +kernel) rfl,
  fun d σ S l0 l1 l2 l3 l4 => ex_getr (idx := 26) (ci := 7) (ff := 6) (n := 26) (hh := 839) (by decide +kernel),
  fun d σ S l0 l2 l3 l4 x => ex_iload_n (show decode mX7_row.2.1 49 = .ok (.iload_n 1, 1) by decide +kernel) rfl,
  fun d σ S l0 l1 l3 l4 x => ex_iload_n (show decode mX7_row.2.1 50 = .ok (.iload_n 2, 1) by decide +kernel) rfl,
  fun d σ S l0 l1 l2 l3 l4 x y => ex_iast (by decide +kernel),
  fun d σ S l0 l1 l2 l3 l4 => ex_iconst (show decode mX7_row.2.1 52 = .ok (.iconst 0, 1) by decide +kernel) (by decide +kernel),
  fun d σ S l0 l1 l2 l4 x y => ex_istore (show decode mX7_row.2.1 53 = .ok (.istore 4, 2) by decide +kernel) (Nat.le_of_ble_eq_true rfl) rfl,
  fun d σ S l0 l1 l2 l3 l4 => ex_bipush (show decode mX7_row.2.1 57 = .ok (.bipush 40, 2) by decide +kernel) (by decide +kernel),
  fun d σ S l0 l1 l2 l3 l4 x y => ex_cge (show decode mX7_row.2.1 59 = .ok (.if_icmp .ge 22, 3) by decide +kernel) (by decide),
  fun d σ S l1 l2 l3 l4 k => ex_aload_n (show decode mX7_row.2.1 62 = .ok (.aload_n 0, 1) by decide +kernel) rfl,
  fun d σ S l0 l1 l2 l3 l4 => ex_getr (idx := 20) (ci := 7) (ff := 4) (n := 26) (hh := 837) (by decide +kernel),
  fun d σ S l0 l1 l2 l3 l4 => ex_bipush (show decode mX7_row.2.1 66 = .ok (.bipush 40, 2) by decide +kernel) (by decide +kernel),
  fun d σ S l0 l2 l3 l4 x => ex_iload_n (show decode mX7_row.2.1 68 = .ok (.iload_n 1, 1) by decide +kernel) rfl,
  fun d σ S l0 l1 l2 l3 l4 x y => ex_imul (show decode mX7_row.2.1 69 = .ok (.imul, 1) by decide +kernel),
  fun d σ S l0 l1 l2 l3 x => ex_iload (show decode mX7_row.2.1 70 = .ok (.iload 4, 2) by decide +kernel) rfl⟩
theorem kX7_row_1 : (∀ (d : Nat) (σ : Sg) (S : List Value) (l0 l1 l2 l3 l4 : Value) (x y : Int32), exec d mX7_row 72 [l0, l1, l2, l3, l4] (.int y :: .int x :: S) σ = exec d mX7_row 73 [l0, l1, l2, l3, l4] (.int (x + y) :: S) σ) ∧
  (∀ (d : Nat) (σ : Sg) (S : List Value) (l0 l1 l2 l3 l4 : Value), exec d mX7_row 73 [l0, l1, l2, l3, l4] S σ = exec d mX7_row 74 [l0, l1, l2, l3, l4] (.int (nI 0) :: S) σ) ∧
  (∀ (d : Nat) (σ : Sg) (S : List Value) (l0 l1 l2 l3 l4 : Value) (x y : Int32), exec d mX7_row 74 [l0, l1, l2, l3, l4] (.int y :: .int x :: .ref 54 :: S) σ = if inb x 320 = true then exec d mX7_row 75 [l0, l1, l2, l3, l4] S (up σ 54 x.toNatClampNeg y) else none) ∧
  (∀ (d : Nat) (σ : Sg) (S : List Value) (l0 l1 l2 : Value) (x y : Int32), exec d mX7_row 75 [l0, l1, l2, .int y, .int x] S σ = exec d mX7_row 78 [l0, l1, l2, .int y, .int (x + nI 1)] S σ) ∧
  (∀ (d : Nat) (σ : Sg) (S : List Value) (l0 l1 l2 l3 l4 : Value), exec d mX7_row 78 [l0, l1, l2, l3, l4] S σ = exec d mX7_row 55 [l0, l1, l2, l3, l4] S σ) ∧
  (∀ (d : Nat) (σ : Sg) (S : List Value) (l1 l2 l3 l4 : Value) (k : Nat), exec d mX7_row 81 [.ref k, l1, l2, l3, l4] S σ = exec d mX7_row 82 [.ref k, l1, l2, l3, l4] (.ref k :: S) σ) ∧
  (∀ (d : Nat) (σ : Sg) (S : List Value) (l0 l1 l2 l4 : Value) (x : Int32), exec d mX7_row 82 [l0, l1, l2, .int x, l4] S σ = exec d mX7_row 83 [l0, l1, l2, .int x, l4] (.int x :: S) σ) ∧
  (∀ (d : Nat) (σ : Sg) (l0 l1 l2 l3 l4 : Value) (x0 : Int32), exec d mX7_row 83 [l0, l1, l2, l3, l4] [.int x0, .ref 50] σ = kb (cal d mX7_good [.ref 50, .int x0] σ) (fun rs σ2 => exec d mX7_row 86 [l0, l1, l2, l3, l4] (rs ++ []) σ2)) ∧
  (∀ (d : Nat) (σ : Sg) (l0 l1 l2 l3 l4 : Value) (x : Int32), exec d mX7_row 86 [l0, l1, l2, l3, l4] [.int x] σ = some (some (.int x), σ)) :=
  ⟨fun d σ S l0 l1 l2 l3 l4 x y => ex_iadd (show decode mX7_row.2.1 72 = .ok (.iadd, 1) by decide +kernel),
  fun d σ S l0 l1 l2 l3 l4 => ex_iconst (show decode mX7_row.2.1 73 = .ok (.iconst 0, 1) by decide +kernel) (by decide +kernel),
  fun d σ S l0 l1 l2 l3 l4 x y => ex_iast (by decide +kernel),
  fun d σ S l0 l1 l2 x y => ex_iinc (show decode mX7_row.2.1 75 = .ok (.iinc 4 1, 3) by decide +kernel) rfl (by decide +kernel) (Nat.le_of_ble_eq_true rfl) rfl,
  fun d σ S l0 l1 l2 l3 l4 => ex_goto (show decode mX7_row.2.1 78 = .ok (.goto (-23), 3) by decide +kernel) (by decide),
  fun d σ S l1 l2 l3 l4 k => ex_aload_n (show decode mX7_row.2.1 81 = .ok (.aload_n 0, 1) by decide +kernel) rfl,
  fun d σ S l0 l1 l2 l4 x => ex_iload_n (show decode mX7_row.2.1 82 = .ok (.iload_n 3, 1) by decide +kernel) rfl,
  fun d σ l0 l1 l2 l3 l4 x0 => ex_iv (hs := [930, 932, 55, 933, 101]) (show decode mX7_row.2.1 83 = .ok (.invokevirtual 78, 3) by decide +kernel) lkV_7_78 ⟨rfl, Nat.le_of_ble_eq_true rfl, Nat.le_of_ble_eq_true rfl, fun _ => rfl⟩ rfl rfl,
  fun d σ l0 l1 l2 l3 l4 x => ex_iret (show decode mX7_row.2.1 86 = .ok (.ireturn, 1) by decide +kernel) rfl⟩
theorem hX7_row_55 : ∀ (d : Nat) (σ : Sg) (S : List Value) (l0 l1 l2 l3 : Value) (x : Int32), exec d mX7_row 55 [l0, l1, l2, l3, .int x] S σ = exec d mX7_row 57 [l0, l1, l2, l3, .int x] (.int x :: S) σ := fun d σ S l0 l1 l2 l3 x => ex_iload (show decode mX7_row.2.1 55 = .ok (.iload 4, 2) by decide +kernel) rfl
theorem aX7_row_50 : ∀ (d : Nat) (a1 : Int32) (a2 : Int32) (a3 : Int32) (σ : Sg), cal (d + 1) mX7_row [.ref 50, .int a1, .int a2, .int a3] σ = exec d mX7_row 0 [.ref 50, .int a1, .int a2, .int a3, uu] [] σ := fun _ _ _ _ _ => rfl
theorem kX7_set_0 : (∀ (d : Nat) (σ : Sg) (S : List Value) (l0 l2 l3 : Value) (x : Int32), exec d mX7_set 0 [l0, .int x, l2, l3] S σ = exec d mX7_set 1 [l0, .int x, l2, l3] (.int x :: S) σ) ∧
  (∀ (d : Nat) (σ : Sg) (l0 l1 l2 l3 : Value) (x0 : Int32), exec d mX7_set 1 [l0, l1, l2, l3] [.int x0] σ = kb (cal d mX7_isRow [.int x0] σ) (fun rs σ2 => exec d mX7_set 4 [l0, l1, l2, l3] (rs ++ []) σ2)) ∧
  (∀ (d : Nat) (σ : Sg) (S : List Value) (l0 l1 l2 l3 : Value) (x : Int32), exec d mX7_set 4 [l0, l1, l2, l3] (.int x :: S) σ = if x = nI 0 then exec d mX7_set 7 [l0, l1, l2, l3] S σ else exec d mX7_set 10 [l0, l1, l2, l3] S σ) ∧
  (∀ (d : Nat) (σ : Sg) (S : List Value) (l0 l1 l2 l3 : Value), exec d mX7_set 7 [l0, l1, l2, l3] S σ = exec d mX7_set 9 [l0, l1, l2, l3] (.int ((-1000001)) :: S) σ) ∧
  (∀ (d : Nat) (σ : Sg) (l0 l1 l2 l3 : Value) (x : Int32), exec d mX7_set 9 [l0, l1, l2, l3] [.int x] σ = some (some (.int x), σ)) ∧
  (∀ (d : Nat) (σ : Sg) (S : List Value) (l1 l2 l3 : Value) (k : Nat), exec d mX7_set 10 [.ref k, l1, l2, l3] S σ = exec d mX7_set 11 [.ref k, l1, l2, l3] (.ref k :: S) σ) ∧
  (∀ (d : Nat) (σ : Sg) (S : List Value) (l0 l1 l2 l3 : Value), exec d mX7_set 11 [l0, l1, l2, l3] (.ref 50 :: S) σ = exec d mX7_set 14 [l0, l1, l2, l3] (.ref 55 :: S) σ) ∧
  (∀ (d : Nat) (σ : Sg) (S : List Value) (l0 l2 l3 : Value) (x : Int32), exec d mX7_set 14 [l0, .int x, l2, l3] S σ = exec d mX7_set 15 [l0, .int x, l2, l3] (.int x :: S) σ) ∧
  (∀ (d : Nat) (σ : Sg) (S : List Value) (l0 l1 l2 l3 : Value) (x : Int32), exec d mX7_set 15 [l0, l1, l2, l3] (.int x :: .ref 55 :: S) σ = if inb x 8 = true then exec d mX7_set 16 [l0, l1, l2, l3] (.int (σ 55 x.toNatClampNeg) :: S) σ else none) ∧
  (∀ (d : Nat) (σ : Sg) (S : List Value) (l0 l1 l2 l3 : Value) (x : Int32), exec d mX7_set 16 [l0, l1, l2, l3] (.int x :: S) σ = if nI 0 ≤ x then exec d mX7_set 25 [l0, l1, l2, l3] S σ else exec d mX7_set 19 [l0, l1, l2, l3] S σ) ∧
  (∀ (d : Nat) (σ : Sg) (S : List Value) (l1 l2 l3 : Value) (k : Nat), exec d mX7_set 19 [.ref k, l1, l2, l3] S σ = exec d mX7_set 20 [.ref k, l1, l2, l3] (.ref k :: S) σ) ∧
  (∀ (d : Nat) (σ : Sg) (S : List Value) (l0 l1 l2 l3 : Value), exec d mX7_set 20 [l0, l1, l2, l3] S σ = exec d mX7_set 21 [l0, l1, l2, l3] (.int (nI 1) :: S) σ) ∧
  (∀ (d : Nat) (σ : Sg) (l0 l1 l2 l3 : Value) (x0 : Int32), exec d mX7_set 21 [l0, l1, l2, l3] [.int x0, .ref 50] σ = kb (cal d mX7_found [.ref 50, .int x0] σ) (fun rs σ2 => exec d mX7_set 24 [l0, l1, l2, l3] (rs ++ []) σ2)) ∧
  (∀ (d : Nat) (σ : Sg) (l0 l1 l2 l3 : Value) (x : Int32), exec d mX7_set 24 [l0, l1, l2, l3] [.int x] σ = some (some (.int x), σ)) ∧
  (∀ (d : Nat) (σ : Sg) (S : List Value) (l0 l1 l3 : Value) (x : Int32), exec d mX7_set 25 [l0, l1, .int x, l3] S σ = exec d mX7_set 26 [l0, l1, .int x, l3] (.int x :: S) σ) ∧
  (∀ (d : Nat) (σ : Sg) (S : List Value) (l0 l1 l2 l3 : Value) (x : Int32), exec d mX7_set 26 [l0, l1, l2, l3] (.int x :: S) σ = exec d mX7_set 27 [l0, l1, l2, l3] (.long x.toInt64 :: S) σ) ∧
  (∀ (d : Nat) (σ : Sg) (S : List Value) (l0 l1 l2 l3 : Value), exec d mX7_set 27 [l0, l1, l2, l3] S σ = exec d mX7_set 28 [l0, l1, l2, l3] (.long (lN 0) :: S) σ) ∧
  (∀ (d : Nat) (σ : Sg) (S : List Value) (l1 l2 l3 : Value) (k : Nat), exec d mX7_set 28 [.ref k, l1, l2, l3] S σ = exec d mX7_set 29 [.ref k, l1, l2, l3] (.ref k :: S) σ) ∧
  (∀ (d : Nat) (σ : Sg) (S : List Value) (l0 l1 l2 l3 : Value), exec d mX7_set 29 [l0, l1, l2, l3] (.ref 50 :: S) σ = exec d mX7_set 32 [l0, l1, l2, l3] (.ref 55 :: S) σ) ∧
  (∀ (d : Nat) (σ : Sg) (S : List Value) (l0 l2 l3 : Value) (x : Int32), exec d mX7_set 32 [l0, .int x, l2, l3] S σ = exec d mX7_set 33 [l0, .int x, l2, l3] (.int x :: S) σ) ∧
  (∀ (d : Nat) (σ : Sg) (S : List Value) (l0 l1 l2 l3 : Value) (x : Int32), exec d mX7_set 33 [l0, l1, l2, l3] (.int x :: .ref 55 :: S) σ = if inb x 8 = true then exec d mX7_set 34 [l0, l1, l2, l3] (.int (σ 55 x.toNatClampNeg) :: S) σ else none) ∧
  (∀ (d : Nat) (σ : Sg) (S : List Value) (l0 l1 l2 l3 : Value), exec d mX7_set 34 [l0, l1, l2, l3] S σ = exec d mX7_set 35 [l0, l1, l2, l3] (.int (nI 1) :: S) σ) ∧
  (∀ (d : Nat) (σ : Sg) (S : List Value) (l0 l1 l2 l3 : Value) (x y : Int32), exec d mX7_set 35 [l0, l1, l2, l3] (.int y :: .int x :: S) σ = exec d mX7_set 36 [l0, l1, l2, l3] (.int (x - y) :: S) σ) ∧
  (∀ (d : Nat) (σ : Sg) (S : List Value) (l0 l1 l2 l3 : Value) (x : Int32), exec d mX7_set 36 [l0, l1, l2, l3] (.int x :: S) σ = exec d mX7_set 37 [l0, l1, l2, l3] (.long x.toInt64 :: S) σ) ∧
  (∀ (d : Nat) (σ : Sg) (l0 l1 l2 l3 : Value) (x0 x1 x2 : Int64), exec d mX7_set 37 [l0, l1, l2, l3] [.long x0, .long x1, .long x2] σ = kb (cal d mX7_in [.long x2, .long x1, .long x0] σ) (fun rs σ2 => exec d mX7_set 40 [l0, l1, l2, l3] (rs ++ []) σ2)) ∧
  (∀ (d : Nat) (σ : Sg) (S : List Value) (l0 l1 l2 l3 : Value) (x : Int32), exec d mX7_set 40 [l0, l1, l2, l3] (.int x :: S) σ = if x = nI 0 then exec d mX7_set 43 [l0, l1, l2, l3] S σ else exec d mX7_set 49 [l0, l1, l2, l3] S σ) ∧
  (∀ (d : Nat) (σ : Sg) (S : List Value) (l1 l2 l3 : Value) (k : Nat), exec d mX7_set 43 [.ref k, l1, l2, l3] S σ = exec d mX7_set 44 [.ref k, l1, l2, l3] (.ref k :: S) σ) ∧
  (∀ (d : Nat) (σ : Sg) (S : List Value) (l0 l1 l2 l3 : Value), exec d mX7_set 44 [l0, l1, l2, l3] S σ = exec d mX7_set 45 [l0, l1, l2, l3] (.int (nI 2) :: S) σ) ∧
  (∀ (d : Nat) (σ : Sg) (l0 l1 l2 l3 : Value) (x0 : Int32), exec d mX7_set 45 [l0, l1, l2, l3] [.int x0, .ref 50] σ = kb (cal d mX7_found [.ref 50, .int x0] σ) (fun rs σ2 => exec d mX7_set 48 [l0, l1, l2, l3] (rs ++ []) σ2)) ∧
  (∀ (d : Nat) (σ : Sg) (l0 l1 l2 l3 : Value) (x : Int32), exec d mX7_set 48 [l0, l1, l2, l3] [.int x] σ = some (some (.int x), σ)) ∧
  (∀ (d : Nat) (σ : Sg) (S : List Value) (l1 l2 l3 : Value) (k : Nat), exec d mX7_set 49 [.ref k, l1, l2, l3] S σ = exec d mX7_set 50 [.ref k, l1, l2, l3] (.ref k :: S) σ) ∧
  (∀ (d : Nat) (σ : Sg) (S : List Value) (l0 l1 l2 l3 : Value), exec d mX7_set 50 [l0, l1, l2, l3] (.ref 50 :: S) σ = exec d mX7_set 53 [l0, l1, l2, l3] (.ref 54 :: S) σ) ∧
  (∀ (d : Nat) (σ : Sg) (S : List Value) (l0 l1 l2 l3 : Value), exec d mX7_set 53 [l0, l1, l2, l3] S σ = exec d mX7_set 55 [l0, l1, l2, l3] (.int (nI 40) :: S) σ) ∧
  (∀ (d : Nat) (σ : Sg) (S : List Value) (l0 l2 l3 : Value) (x : Int32), exec d mX7_set 55 [l0, .int x, l2, l3] S σ = exec d mX7_set 56 [l0, .int x, l2, l3] (.int x :: S) σ) ∧
  (∀ (d : Nat) (σ : Sg) (S : List Value) (l0 l1 l2 l3 : Value) (x y : Int32), exec d mX7_set 56 [l0, l1, l2, l3] (.int y :: .int x :: S) σ = exec d mX7_set 57 [l0, l1, l2, l3] (.int (x * y) :: S) σ) ∧
  (∀ (d : Nat) (σ : Sg) (S : List Value) (l0 l1 l3 : Value) (x : Int32), exec d mX7_set 57 [l0, l1, .int x, l3] S σ = exec d mX7_set 58 [l0, l1, .int x, l3] (.int x :: S) σ) ∧
  (∀ (d : Nat) (σ : Sg) (S : List Value) (l0 l1 l2 l3 : Value) (x y : Int32), exec d mX7_set 58 [l0, l1, l2, l3] (.int y :: .int x :: S) σ = exec d mX7_set 59 [l0, l1, l2, l3] (.int (x + y) :: S) σ) ∧
  (∀ (d : Nat) (σ : Sg) (S : List Value) (l1 l2 l3 : Value) (k : Nat), exec d mX7_set 59 [.ref k, l1, l2, l3] S σ = exec d mX7_set 60 [.ref k, l1, l2, l3] (.ref k :: S) σ) ∧
  (∀ (d : Nat) (σ : Sg) (S : List Value) (l0 l1 l2 l3 : Value), exec d mX7_set 60 [l0, l1, l2, l3] (.ref 50 :: S) σ = exec d mX7_set 63 [l0, l1, l2, l3] (.ref 56 :: S) σ) ∧
  (∀ (d : Nat) (σ : Sg) (S : List Value) (l0 l2 l3 : Value) (x : Int32), exec d mX7_set 63 [l0, .int x, l2, l3] S σ = exec d mX7_set 64 [l0, .int x, l2, l3] (.int x :: S) σ) :=
  ⟨fun d σ S l0 l2 l3 x => ex_iload_n (show decode mX7_set.2.1 0 = .ok (.iload_n 1, 1) by decide +kernel) rfl,
  fun d σ l0 l1 l2 l3 x0 => ex_is (hs := [916, 917, 918, 101]) (show decode mX7_set.2.1 1 = .ok (.invokestatic 67, 3) by decide +kernel) lkS_7_67 ⟨rfl, Nat.le_of_ble_eq_true rfl, Nat.le_of_ble_eq_true rfl, fun q => nomatch q⟩ rfl rfl,
  fun d σ S l0 l1 l2 l3 x => ex_zne (show decode mX7_set.2.1 4 = .ok (.ifCond .ne 6, 3) by decide +kernel) (by decide),
  fun d σ S l0 l1 l2 l3 => ex_ldc (hh := 924) (show decode mX7_set.2.1 7 = .ok (.ldc 73, 2) by decide +kernel) (by decide +kernel),
  fun d σ l0 l1 l2 l3 x => ex_iret (show decode mX7_set.2.1 9 = .ok (.ireturn, 1) by decide +kernel) rfl,
  fun d σ S l1 l2 l3 k => ex_aload_n (show decode mX7_set.2.1 10 = .ok (.aload_n 0, 1) by decide +kernel) rfl,
  fun d σ S l0 l1 l2 l3 => ex_getr (idx := 23) (ci := 7) (ff := 5) (n := 26) (hh := 838) (by decide +kernel),
  fun d σ S l0 l2 l3 x => ex_iload_n (show decode mX7_set.2.1 14 = .ok (.iload_n 1, 1) by decide +kernel) rfl,
  fun d σ S l0 l1 l2 l3 x => ex_iald (by decide +kernel),
  fun d σ S l0 l1 l2 l3 x => ex_zge (show decode mX7_set.2.1 16 = .ok (.ifCond .ge 9, 3) by decide +kernel) (by decide),
  fun d σ S l1 l2 l3 k => ex_aload_n (show decode mX7_set.2.1 19 = .ok (.aload_n 0, 1) by decide +kernel) rfl,
  fun d σ S l0 l1 l2 l3 => ex_iconst (show decode mX7_set.2.1 20 = .ok (.iconst 1, 1) by decide +kernel) (by decide +kernel),
  fun d σ l0 l1 l2 l3 x0 => ex_iv (hs := [925, 927, 54, 928, 101]) (show decode mX7_set.2.1 21 = .ok (.invokevirtual 74, 3) by decide +kernel) lkV_7_74 ⟨rfl, Nat.le_of_ble_eq_true rfl, Nat.le_of_ble_eq_true rfl, fun _ => rfl⟩ rfl rfl,
  fun d σ l0 l1 l2 l3 x => ex_iret (show decode mX7_set.2.1 24 = .ok (.ireturn, 1) by decide +kernel) rfl,
  fun d σ S l0 l1 l3 x => ex_iload_n (show decode mX7_set.2.1 25 = .ok (.iload_n 2, 1) by decide +kernel) rfl,
  fun d σ S l0 l1 l2 l3 x => ex_i2l (show decode mX7_set.2.1 26 = .ok (.i2l, 1) by decide +kernel),
  fun d σ S l0 l1 l2 l3 => ex_lconst (show decode mX7_set.2.1 27 = .ok (.lconst 0, 1) by decide +kernel) (by decide +kernel),
  fun d σ S l1 l2 l3 k => ex_aload_n (show decode mX7_set.2.1 28 = .ok (.aload_n 0, 1) by decide +kernel) rfl,
  fun d σ S l0 l1 l2 l3 => ex_getr (idx := 23) (ci := 7) (ff := 5) (n := 26) (hh := 838) (by decide +kernel),
  fun d σ S l0 l2 l3 x => ex_iload_n (show decode mX7_set.2.1 32 = .ok (.iload_n 1, 1) by decide +kernel) rfl,
  fun d σ S l0 l1 l2 l3 x => ex_iald (by decide +kernel),
  fun d σ S l0 l1 l2 l3 => ex_iconst (show decode mX7_set.2.1 34 = .ok (.iconst 1, 1) by decide +kernel) (by decide +kernel),
  fun d σ S l0 l1 l2 l3 x y => ex_isub (show decode mX7_set.2.1 35 = .ok (.isub, 1) by decide +kernel),
  fun d σ S l0 l1 l2 l3 x => ex_i2l (show decode mX7_set.2.1 36 = .ok (.i2l, 1) by decide +kernel),
  fun d σ l0 l1 l2 l3 x0 x1 x2 => ex_is (hs := [920, 921, 922, 101]) (show decode mX7_set.2.1 37 = .ok (.invokestatic 63, 3) by decide +kernel) lkS_7_63 ⟨rfl, Nat.le_of_ble_eq_true rfl, Nat.le_of_ble_eq_true rfl, fun q => nomatch q⟩ rfl rfl,
  fun d σ S l0 l1 l2 l3 x => ex_zne (show decode mX7_set.2.1 40 = .ok (.ifCond .ne 9, 3) by decide +kernel) (by decide),
  fun d σ S l1 l2 l3 k => ex_aload_n (show decode mX7_set.2.1 43 = .ok (.aload_n 0, 1) by decide +kernel) rfl,
  fun d σ S l0 l1 l2 l3 => ex_iconst (show decode mX7_set.2.1 44 = .ok (.iconst 2, 1) by decide +kernel) (by decide +kernel),
  fun d σ l0 l1 l2 l3 x0 => ex_iv (hs := [925, 927, 54, 928, 101]) (show decode mX7_set.2.1 45 = .ok (.invokevirtual 74, 3) by decide +kernel) lkV_7_74 ⟨rfl, Nat.le_of_ble_eq_true rfl, Nat.le_of_ble_eq_true rfl, fun _ => rfl⟩ rfl rfl,
  fun d σ l0 l1 l2 l3 x => ex_iret (show decode mX7_set.2.1 48 = .ok (.ireturn, 1) by decide +kernel) rfl,
  fun d σ S l1 l2 l3 k => ex_aload_n (show decode mX7_set.2.1 49 = .ok (.aload_n 0, 1) by decide +kernel) rfl,
  fun d σ S l0 l1 l2 l3 => ex_getr (idx := 20) (ci := 7) (ff := 4) (n := 26) (hh := 837) (by decide +kernel),
  fun d σ S l0 l1 l2 l3 => ex_bipush (show decode mX7_set.2.1 53 = .ok (.bipush 40, 2) by decide +kernel) (by decide +kernel),
  fun d σ S l0 l2 l3 x => ex_iload_n (show decode mX7_set.2.1 55 = .ok (.iload_n 1, 1) by decide +kernel) rfl,
  fun d σ S l0 l1 l2 l3 x y => ex_imul (show decode mX7_set.2.1 56 = .ok (.imul, 1) by decide +kernel),
  fun d σ S l0 l1 l3 x => ex_iload_n (show decode mX7_set.2.1 57 = .ok (.iload_n 2, 1) by decide +kernel) rfl,
  fun d σ S l0 l1 l2 l3 x y => ex_iadd (show decode mX7_set.2.1 58 = .ok (.iadd, 1) by decide +kernel),
  fun d σ S l1 l2 l3 k => ex_aload_n (show decode mX7_set.2.1 59 = .ok (.aload_n 0, 1) by decide +kernel) rfl,
  fun d σ S l0 l1 l2 l3 => ex_getr (idx := 26) (ci := 7) (ff := 6) (n := 26) (hh := 839) (by decide +kernel),
  fun d σ S l0 l2 l3 x => ex_iload_n (show decode mX7_set.2.1 63 = .ok (.iload_n 1, 1) by decide +kernel) rfl⟩
theorem kX7_set_1 : (∀ (d : Nat) (σ : Sg) (S : List Value) (l0 l1 l2 l3 : Value) (x : Int32), exec d mX7_set 64 [l0, l1, l2, l3] (.int x :: .ref 56 :: S) σ = if inb x 8 = true then exec d mX7_set 65 [l0, l1, l2, l3] (.int (σ 56 x.toNatClampNeg) :: S) σ else none) ∧
  (∀ (d : Nat) (σ : Sg) (S : List Value) (l0 l1 l2 l3 : Value) (x : Int32), exec d mX7_set 65 [l0, l1, l2, l3] (.int x :: S) σ = if x = nI 0 then exec d mX7_set 68 [l0, l1, l2, l3] S σ else exec d mX7_set 73 [l0, l1, l2, l3] S σ) ∧
  (∀ (d : Nat) (σ : Sg) (S : List Value) (l0 l1 l2 : Value) (x : Int32), exec d mX7_set 68 [l0, l1, l2, .int x] S σ = exec d mX7_set 69 [l0, l1, l2, .int x] (.int x :: S) σ) ∧
  (∀ (d : Nat) (σ : Sg) (S : List Value) (l0 l1 l2 l3 : Value) (x : Int32), exec d mX7_set 69 [l0, l1, l2, l3] (.int x :: S) σ = exec d mX7_set 70 [l0, l1, l2, l3] (.int (x.toInt8.toInt32) :: S) σ) ∧
  (∀ (d : Nat) (σ : Sg) (S : List Value) (l0 l1 l2 l3 : Value), exec d mX7_set 70 [l0, l1, l2, l3] S σ = exec d mX7_set 89 [l0, l1, l2, l3] S σ) ∧
  (∀ (d : Nat) (σ : Sg) (S : List Value) (l1 l2 l3 : Value) (k : Nat), exec d mX7_set 73 [.ref k, l1, l2, l3] S σ = exec d mX7_set 74 [.ref k, l1, l2, l3] (.ref k :: S) σ) ∧
  (∀ (d : Nat) (σ : Sg) (S : List Value) (l0 l1 l2 l3 : Value), exec d mX7_set 74 [l0, l1, l2, l3] (.ref 50 :: S) σ = exec d mX7_set 77 [l0, l1, l2, l3] (.ref 56 :: S) σ) ∧
  (∀ (d : Nat) (σ : Sg) (S : List Value) (l0 l2 l3 : Value) (x : Int32), exec d mX7_set 77 [l0, .int x, l2, l3] S σ = exec d mX7_set 78 [l0, .int x, l2, l3] (.int x :: S) σ) ∧
  (∀ (d : Nat) (σ : Sg) (S : List Value) (l0 l1 l2 l3 : Value) (x : Int32), exec d mX7_set 78 [l0, l1, l2, l3] (.int x :: .ref 56 :: S) σ = if inb x 8 = true then exec d mX7_set 79 [l0, l1, l2, l3] (.int (σ 56 x.toNatClampNeg) :: S) σ else none) ∧
  (∀ (d : Nat) (σ : Sg) (S : List Value) (l0 l1 l2 l3 : Value), exec d mX7_set 79 [l0, l1, l2, l3] S σ = exec d mX7_set 80 [l0, l1, l2, l3] (.int (nI 1) :: S) σ) ∧
  (∀ (d : Nat) (σ : Sg) (S : List Value) (l0 l1 l2 l3 : Value) (x y : Int32), exec d mX7_set 80 [l0, l1, l2, l3] (.int y :: .int x :: S) σ = if x = y then exec d mX7_set 83 [l0, l1, l2, l3] S σ else exec d mX7_set 88 [l0, l1, l2, l3] S σ) ∧
  (∀ (d : Nat) (σ : Sg) (S : List Value) (l0 l1 l2 : Value) (x : Int32), exec d mX7_set 83 [l0, l1, l2, .int x] S σ = exec d mX7_set 84 [l0, l1, l2, .int x] (.int x :: S) σ) ∧
  (∀ (d : Nat) (σ : Sg) (S : List Value) (l0 l1 l2 l3 : Value) (x : Int32), exec d mX7_set 84 [l0, l1, l2, l3] (.int x :: S) σ = exec d mX7_set 85 [l0, l1, l2, l3] (.int (x.toInt16.toInt32) :: S) σ) ∧
  (∀ (d : Nat) (σ : Sg) (S : List Value) (l0 l1 l2 l3 : Value), exec d mX7_set 85 [l0, l1, l2, l3] S σ = exec d mX7_set 89 [l0, l1, l2, l3] S σ) ∧
  (∀ (d : Nat) (σ : Sg) (S : List Value) (l0 l1 l2 : Value) (x : Int32), exec d mX7_set 88 [l0, l1, l2, .int x] S σ = exec d mX7_set 89 [l0, l1, l2, .int x] (.int x :: S) σ) ∧
  (∀ (d : Nat) (σ : Sg) (S : List Value) (l0 l1 l2 l3 : Value) (x y : Int32), exec d mX7_set 89 [l0, l1, l2, l3] (.int y :: .int x :: .ref 54 :: S) σ = if inb x 320 = true then exec d mX7_set 90 [l0, l1, l2, l3] S (up σ 54 x.toNatClampNeg y) else none) ∧
  (∀ (d : Nat) (σ : Sg) (S : List Value) (l1 l2 l3 : Value) (k : Nat), exec d mX7_set 90 [.ref k, l1, l2, l3] S σ = exec d mX7_set 91 [.ref k, l1, l2, l3] (.ref k :: S) σ) ∧
  (∀ (d : Nat) (σ : Sg) (S : List Value) (l1 l2 l3 : Value) (k : Nat), exec d mX7_set 91 [.ref k, l1, l2, l3] S σ = exec d mX7_set 92 [.ref k, l1, l2, l3] (.ref k :: S) σ) ∧
  (∀ (d : Nat) (σ : Sg) (S : List Value) (l0 l1 l2 l3 : Value), exec d mX7_set 92 [l0, l1, l2, l3] (.ref 50 :: S) σ = exec d mX7_set 95 [l0, l1, l2, l3] (.ref 54 :: S) σ) ∧
  (∀ (d : Nat) (σ : Sg) (S : List Value) (l0 l1 l2 l3 : Value), exec d mX7_set 95 [l0, l1, l2, l3] S σ = exec d mX7_set 97 [l0, l1, l2, l3] (.int (nI 40) :: S) σ) ∧
  (∀ (d : Nat) (σ : Sg) (S : List Value) (l0 l2 l3 : Value) (x : Int32), exec d mX7_set 97 [l0, .int x, l2, l3] S σ = exec d mX7_set 98 [l0, .int x, l2, l3] (.int x :: S) σ) ∧
  (∀ (d : Nat) (σ : Sg) (S : List Value) (l0 l1 l2 l3 : Value) (x y : Int32), exec d mX7_set 98 [l0, l1, l2, l3] (.int y :: .int x :: S) σ = exec d mX7_set 99 [l0, l1, l2, l3] (.int (x * y) :: S) σ) ∧
  (∀ (d : Nat) (σ : Sg) (S : List Value) (l0 l1 l3 : Value) (x : Int32), exec d mX7_set 99 [l0, l1, .int x, l3] S σ = exec d mX7_set 100 [l0, l1, .int x, l3] (.int x :: S) σ) ∧
  (∀ (d : Nat) (σ : Sg) (S : List Value) (l0 l1 l2 l3 : Value) (x y : Int32), exec d mX7_set 100 [l0, l1, l2, l3] (.int y :: .int x :: S) σ = exec d mX7_set 101 [l0, l1, l2, l3] (.int (x + y) :: S) σ) ∧
  (∀ (d : Nat) (σ : Sg) (S : List Value) (l0 l1 l2 l3 : Value) (x : Int32), exec d mX7_set 101 [l0, l1, l2, l3] (.int x :: .ref 54 :: S) σ = if inb x 320 = true then exec d mX7_set 102 [l0, l1, l2, l3] (.int (σ 54 x.toNatClampNeg) :: S) σ else none) ∧
  (∀ (d : Nat) (σ : Sg) (l0 l1 l2 l3 : Value) (x0 : Int32), exec d mX7_set 102 [l0, l1, l2, l3] [.int x0, .ref 50] σ = kb (cal d mX7_good [.ref 50, .int x0] σ) (fun rs σ2 => exec d mX7_set 105 [l0, l1, l2, l3] (rs ++ []) σ2)) ∧
  (∀ (d : Nat) (σ : Sg) (l0 l1 l2 l3 : Value) (x : Int32), exec d mX7_set 105 [l0, l1, l2, l3] [.int x] σ = some (some (.int x), σ)) :=
  ⟨fun d σ S l0 l1 l2 l3 x => ex_iald (by decide +kernel),
  fun d σ S l0 l1 l2 l3 x => ex_zne (show decode mX7_set.2.1 65 = .ok (.ifCond .ne 8, 3) by decide +kernel) (by decide),
  fun d σ S l0 l1 l2 x => ex_iload_n (show decode mX7_set.2.1 68 = .ok (.iload_n 3, 1) by decide +kernel) rfl,
  fun d σ S l0 l1 l2 l3 x => ex_i2b (show decode mX7_set.2.1 69 = .ok (.i2b, 1) by decide +kernel),
  fun d σ S l0 l1 l2 l3 => ex_goto (show decode mX7_set.2.1 70 = .ok (.goto 19, 3) by decide +kernel) (by decide),
  fun d σ S l1 l2 l3 k => ex_aload_n (show decode mX7_set.2.1 73 = .ok (.aload_n 0, 1) by decide +kernel) rfl,
  fun d σ S l0 l1 l2 l3 => ex_getr (idx := 26) (ci := 7) (ff := 6) (n := 26) (hh := 839) (by decide +kernel),
  fun d σ S l0 l2 l3 x => ex_iload_n (show decode mX7_set.2.1 77 = .ok (.iload_n 1, 1) by decide +kernel) rfl,
  fun d σ S l0 l1 l2 l3 x => ex_iald (by decide +kernel),
  fun d σ S l0 l1 l2 l3 => ex_iconst (show decode mX7_set.2.1 79 = .ok (.iconst 1, 1) by decide +kernel) (by decide +kernel),
  fun d σ S l0 l1 l2 l3 x y => ex_cne (show decode mX7_set.2.1 80 = .ok (.if_icmp .ne 8, 3) by decide +kernel) (by decide),
  fun d σ S l0 l1 l2 x => ex_iload_n (show decode mX7_set.2.1 83 = .ok (.iload_n 3, 1) by decide +kernel) rfl,
  fun d σ S l0 l1 l2 l3 x => ex_i2s (show decode mX7_set.2.1 84 = .ok (.i2s, 1) by decide +kernel),
  fun d σ S l0 l1 l2 l3 => ex_goto (show decode mX7_set.2.1 85 = .ok (.goto 4, 3) by decide +kernel) (by decide),
  fun d σ S l0 l1 l2 x => ex_iload_n (show decode mX7_set.2.1 88 = .ok (.iload_n 3, 1) by decide +kernel) rfl,
  fun d σ S l0 l1 l2 l3 x y => ex_iast (by decide +kernel),
  fun d σ S l1 l2 l3 k => ex_aload_n (show decode mX7_set.2.1 90 = .ok (.aload_n 0, 1) by decide +kernel) rfl,
  fun d σ S l1 l2 l3 k => ex_aload_n (show decode mX7_set.2.1 91 = .ok (.aload_n 0, 1) by decide +kernel) rfl,
  fun d σ S l0 l1 l2 l3 => ex_getr (idx := 20) (ci := 7) (ff := 4) (n := 26) (hh := 837) (by decide +kernel),
  fun d σ S l0 l1 l2 l3 => ex_bipush (show decode mX7_set.2.1 95 = .ok (.bipush 40, 2) by decide +kernel) (by decide +kernel),
  fun d σ S l0 l2 l3 x => ex_iload_n (show decode mX7_set.2.1 97 = .ok (.iload_n 1, 1) by decide +kernel) rfl,
  fun d σ S l0 l1 l2 l3 x y => ex_imul (show decode mX7_set.2.1 98 = .ok (.imul, 1) by decide +kernel),
  fun d σ S l0 l1 l3 x => ex_iload_n (show decode mX7_set.2.1 99 = .ok (.iload_n 2, 1) by decide +kernel) rfl,
  fun d σ S l0 l1 l2 l3 x y => ex_iadd (show decode mX7_set.2.1 100 = .ok (.iadd, 1) by decide +kernel),
  fun d σ S l0 l1 l2 l3 x => ex_iald (by decide +kernel),
  fun d σ l0 l1 l2 l3 x0 => ex_iv (hs := [930, 932, 55, 933, 101]) (show decode mX7_set.2.1 102 = .ok (.invokevirtual 78, 3) by decide +kernel) lkV_7_78 ⟨rfl, Nat.le_of_ble_eq_true rfl, Nat.le_of_ble_eq_true rfl, fun _ => rfl⟩ rfl rfl,
  fun d σ l0 l1 l2 l3 x => ex_iret (show decode mX7_set.2.1 105 = .ok (.ireturn, 1) by decide +kernel) rfl⟩
theorem aX7_set_50 : ∀ (d : Nat) (a1 : Int32) (a2 : Int32) (a3 : Int32) (σ : Sg), cal (d + 1) mX7_set [.ref 50, .int a1, .int a2, .int a3] σ = exec d mX7_set 0 [.ref 50, .int a1, .int a2, .int a3] [] σ := fun _ _ _ _ _ => rfl
theorem kX7_fits : (∀ (d : Nat) (σ : Sg) (S : List Value) (l1 l2 : Value) (x : Int32), exec d mX7_fits 0 [.int x, l1, l2] S σ = exec d mX7_fits 1 [.int x, l1, l2] (.int x :: S) σ) ∧
  (∀ (d : Nat) (σ : Sg) (S : List Value) (l0 l1 l2 : Value) (x : Int32), exec d mX7_fits 1 [l0, l1, l2] (.int x :: S) σ = if x < nI 0 then exec d mX7_fits 19 [l0, l1, l2] S σ else exec d mX7_fits 4 [l0, l1, l2] S σ) ∧
  (∀ (d : Nat) (σ : Sg) (S : List Value) (l1 l2 : Value) (x : Int32), exec d mX7_fits 4 [.int x, l1, l2] S σ = exec d mX7_fits 5 [.int x, l1, l2] (.int x :: S) σ) ∧
  (∀ (d : Nat) (σ : Sg) (S : List Value) (l0 l1 l2 : Value) (x : Int32), exec d mX7_fits 5 [l0, l1, l2] (.int x :: S) σ = exec d mX7_fits 6 [l0, l1, l2] (.long x.toInt64 :: S) σ) ∧
  (∀ (d : Nat) (σ : Sg) (S : List Value) (l0 l2 : Value) (x : Int32), exec d mX7_fits 6 [l0, .int x, l2] S σ = exec d mX7_fits 7 [l0, .int x, l2] (.int x :: S) σ) ∧
  (∀ (d : Nat) (σ : Sg) (S : List Value) (l0 l1 l2 : Value) (x : Int32), exec d mX7_fits 7 [l0, l1, l2] (.int x :: S) σ = exec d mX7_fits 8 [l0, l1, l2] (.long x.toInt64 :: S) σ) ∧
  (∀ (d : Nat) (σ : Sg) (S : List Value) (l0 l1 l2 : Value) (x y : Int64), exec d mX7_fits 8 [l0, l1, l2] (.long y :: .long x :: S) σ = exec d mX7_fits 9 [l0, l1, l2] (.long (x + y) :: S) σ) ∧
  (∀ (d : Nat) (σ : Sg) (S : List Value) (l0 l1 : Value) (x : Int32), exec d mX7_fits 9 [l0, l1, .int x] S σ = exec d mX7_fits 10 [l0, l1, .int x] (.int x :: S) σ) ∧
  (∀ (d : Nat) (σ : Sg) (S : List Value) (l0 l1 l2 : Value) (x : Int32), exec d mX7_fits 10 [l0, l1, l2] (.int x :: S) σ = exec d mX7_fits 11 [l0, l1, l2] (.long x.toInt64 :: S) σ) ∧
  (∀ (d : Nat) (σ : Sg) (S : List Value) (l0 l1 l2 : Value) (x y : Int64), exec d mX7_fits 11 [l0, l1, l2] (.long y :: .long x :: S) σ = exec d mX7_fits 12 [l0, l1, l2] (.int (lg_cmp x y) :: S) σ) ∧
  (∀ (d : Nat) (σ : Sg) (S : List Value) (l0 l1 l2 : Value) (x : Int32), exec d mX7_fits 12 [l0, l1, l2] (.int x :: S) σ = if nI 0 < x then exec d mX7_fits 19 [l0, l1, l2] S σ else exec d mX7_fits 15 [l0, l1, l2] S σ) ∧
  (∀ (d : Nat) (σ : Sg) (S : List Value) (l0 l1 l2 : Value), exec d mX7_fits 15 [l0, l1, l2] S σ = exec d mX7_fits 16 [l0, l1, l2] (.int (nI 1) :: S) σ) ∧
  (∀ (d : Nat) (σ : Sg) (S : List Value) (l0 l1 l2 : Value), exec d mX7_fits 16 [l0, l1, l2] S σ = exec d mX7_fits 20 [l0, l1, l2] S σ) ∧
  (∀ (d : Nat) (σ : Sg) (S : List Value) (l0 l1 l2 : Value), exec d mX7_fits 19 [l0, l1, l2] S σ = exec d mX7_fits 20 [l0, l1, l2] (.int (nI 0) :: S) σ) ∧
  (∀ (d : Nat) (σ : Sg) (l0 l1 l2 : Value) (x : Int32), exec d mX7_fits 20 [l0, l1, l2] [.int x] σ = if b01 x = true then some (some (.int x), σ) else none) :=
  ⟨fun d σ S l1 l2 x => ex_iload_n (show decode mX7_fits.2.1 0 = .ok (.iload_n 0, 1) by decide +kernel) rfl,
  fun d σ S l0 l1 l2 x => ex_zlt (show decode mX7_fits.2.1 1 = .ok (.ifCond .lt 18, 3) by decide +kernel) (by decide),
  fun d σ S l1 l2 x => ex_iload_n (show decode mX7_fits.2.1 4 = .ok (.iload_n 0, 1) by decide +kernel) rfl,
  fun d σ S l0 l1 l2 x => ex_i2l (show decode mX7_fits.2.1 5 = .ok (.i2l, 1) by decide +kernel),
  fun d σ S l0 l2 x => ex_iload_n (show decode mX7_fits.2.1 6 = .ok (.iload_n 1, 1) by decide +kernel) rfl,
  fun d σ S l0 l1 l2 x => ex_i2l (show decode mX7_fits.2.1 7 = .ok (.i2l, 1) by decide +kernel),
  fun d σ S l0 l1 l2 x y => ex_ladd (show decode mX7_fits.2.1 8 = .ok (.ladd, 1) by decide +kernel),
  fun d σ S l0 l1 x => ex_iload_n (show decode mX7_fits.2.1 9 = .ok (.iload_n 2, 1) by decide +kernel) rfl,
  fun d σ S l0 l1 l2 x => ex_i2l (show decode mX7_fits.2.1 10 = .ok (.i2l, 1) by decide +kernel),
  fun d σ S l0 l1 l2 x y => ex_lcmp (show decode mX7_fits.2.1 11 = .ok (.lcmp, 1) by decide +kernel),
  fun d σ S l0 l1 l2 x => ex_zgt (show decode mX7_fits.2.1 12 = .ok (.ifCond .gt 7, 3) by decide +kernel) (by decide),
  fun d σ S l0 l1 l2 => ex_iconst (show decode mX7_fits.2.1 15 = .ok (.iconst 1, 1) by decide +kernel) (by decide +kernel),
  fun d σ S l0 l1 l2 => ex_goto (show decode mX7_fits.2.1 16 = .ok (.goto 4, 3) by decide +kernel) (by decide),
  fun d σ S l0 l1 l2 => ex_iconst (show decode mX7_fits.2.1 19 = .ok (.iconst 0, 1) by decide +kernel) (by decide +kernel),
  fun d σ l0 l1 l2 x => ex_zret (show decode mX7_fits.2.1 20 = .ok (.ireturn, 1) by decide +kernel) rfl⟩
theorem aX7_fits : ∀ (d : Nat) (a0 : Int32) (a1 : Int32) (a2 : Int32) (σ : Sg), cal (d + 1) mX7_fits [.int a0, .int a1, .int a2] σ = exec d mX7_fits 0 [.int a0, .int a1, .int a2] [] σ := fun _ _ _ _ _ => rfl
theorem kX7_copy_0 : (∀ (d : Nat) (σ : Sg) (S : List Value) (l0 l2 l3 l4 l5 l6 : Value) (x : Int32), exec d mX7_copy 0 [l0, .int x, l2, l3, l4, l5, l6] S σ = exec d mX7_copy 1 [l0, .int x, l2, l3, l4, l5, l6] (.int x :: S) σ) ∧
  (∀ (d : Nat) (σ : Sg) (l0 l1 l2 l3 l4 l5 l6 : Value) (x0 : Int32), exec d mX7_copy 1 [l0, l1, l2, l3, l4, l5, l6] [.int x0] σ = kb (cal d mX7_isRow [.int x0] σ) (fun rs σ2 => exec d mX7_copy 4 [l0, l1, l2, l3, l4, l5, l6] (rs ++ []) σ2)) ∧
  (∀ (d : Nat) (σ : Sg) (S : List Value) (l0 l1 l2 l3 l4 l5 l6 : Value) (x : Int32), exec d mX7_copy 4 [l0, l1, l2, l3, l4, l5, l6] (.int x :: S) σ = if x = nI 0 then exec d mX7_copy 14 [l0, l1, l2, l3, l4, l5, l6] S σ else exec d mX7_copy 7 [l0, l1, l2, l3, l4, l5, l6] S σ) ∧
  (∀ (d : Nat) (σ : Sg) (S : List Value) (l0 l1 l2 l4 l5 l6 : Value) (x : Int32), exec d mX7_copy 7 [l0, l1, l2, .int x, l4, l5, l6] S σ = exec d mX7_copy 8 [l0, l1, l2, .int x, l4, l5, l6] (.int x :: S) σ) ∧
  (∀ (d : Nat) (σ : Sg) (l0 l1 l2 l3 l4 l5 l6 : Value) (x0 : Int32), exec d mX7_copy 8 [l0, l1, l2, l3, l4, l5, l6] [.int x0] σ = kb (cal d mX7_isRow [.int x0] σ) (fun rs σ2 => exec d mX7_copy 11 [l0, l1, l2, l3, l4, l5, l6] (rs ++ []) σ2)) ∧
  (∀ (d : Nat) (σ : Sg) (S : List Value) (l0 l1 l2 l3 l4 l5 l6 : Value) (x : Int32), exec d mX7_copy 11 [l0, l1, l2, l3, l4, l5, l6] (.int x :: S) σ = if x = nI 0 then exec d mX7_copy 14 [l0, l1, l2, l3, l4, l5, l6] S σ else exec d mX7_copy 17 [l0, l1, l2, l3, l4, l5, l6] S σ) ∧
  (∀ (d : Nat) (σ : Sg) (S : List Value) (l0 l1 l2 l3 l4 l5 l6 : Value), exec d mX7_copy 14 [l0, l1, l2, l3, l4, l5, l6] S σ = exec d mX7_copy 16 [l0, l1, l2, l3, l4, l5, l6] (.int ((-1000001)) :: S) σ) ∧
  (∀ (d : Nat) (σ : Sg) (l0 l1 l2 l3 l4 l5 l6 : Value) (x : Int32), exec d mX7_copy 16 [l0, l1, l2, l3, l4, l5, l6] [.int x] σ = some (some (.int x), σ)) ∧
  (∀ (d : Nat) (σ : Sg) (S : List Value) (l1 l2 l3 l4 l5 l6 : Value) (k : Nat), exec d mX7_copy 17 [.ref k, l1, l2, l3, l4, l5, l6] S σ = exec d mX7_copy 18 [.ref k, l1, l2, l3, l4, l5, l6] (.ref k :: S) σ) ∧
  (∀ (d : Nat) (σ : Sg) (S : List Value) (l0 l1 l2 l3 l4 l5 l6 : Value), exec d mX7_copy 18 [l0, l1, l2, l3, l4, l5, l6] (.ref 50 :: S) σ = exec d mX7_copy 21 [l0, l1, l2, l3, l4, l5, l6] (.ref 55 :: S) σ) ∧
  (∀ (d : Nat) (σ : Sg) (S : List Value) (l0 l2 l3 l4 l5 l6 : Value) (x : Int32), exec d mX7_copy 21 [l0, .int x, l2, l3, l4, l5, l6] S σ = exec d mX7_copy 22 [l0, .int x, l2, l3, l4, l5, l6] (.int x :: S) σ) ∧
  (∀ (d : Nat) (σ : Sg) (S : List Value) (l0 l1 l2 l3 l4 l5 l6 : Value) (x : Int32), exec d mX7_copy 22 [l0, l1, l2, l3, l4, l5, l6] (.int x :: .ref 55 :: S) σ = if inb x 8 = true then exec d mX7_copy 23 [l0, l1, l2, l3, l4, l5, l6] (.int (σ 55 x.toNatClampNeg) :: S) σ else none) ∧
  (∀ (d : Nat) (σ : Sg) (S : List Value) (l0 l1 l2 l3 l4 l5 l6 : Value) (x : Int32), exec d mX7_copy 23 [l0, l1, l2, l3, l4, l5, l6] (.int x :: S) σ = if x < nI 0 then exec d mX7_copy 35 [l0, l1, l2, l3, l4, l5, l6] S σ else exec d mX7_copy 26 [l0, l1, l2, l3, l4, l5, l6] S σ) ∧
  (∀ (d : Nat) (σ : Sg) (S : List Value) (l1 l2 l3 l4 l5 l6 : Value) (k : Nat), exec d mX7_copy 26 [.ref k, l1, l2, l3, l4, l5, l6] S σ = exec d mX7_copy 27 [.ref k, l1, l2, l3, l4, l5, l6] (.ref k :: S) σ) ∧
  (∀ (d : Nat) (σ : Sg) (S : List Value) (l0 l1 l2 l3 l4 l5 l6 : Value), exec d mX7_copy 27 [l0, l1, l2, l3, l4, l5, l6] (.ref 50 :: S) σ = exec d mX7_copy 30 [l0, l1, l2, l3, l4, l5, l6] (.ref 55 :: S) σ) ∧
  (∀ (d : Nat) (σ : Sg) (S : List Value) (l0 l1 l2 l4 l5 l6 : Value) (x : Int32), exec d mX7_copy 30 [l0, l1, l2, .int x, l4, l5, l6] S σ = exec d mX7_copy 31 [l0, l1, l2, .int x, l4, l5, l6] (.int x :: S) σ) ∧
  (∀ (d : Nat) (σ : Sg) (S : List Value) (l0 l1 l2 l3 l4 l5 l6 : Value) (x : Int32), exec d mX7_copy 31 [l0, l1, l2, l3, l4, l5, l6] (.int x :: .ref 55 :: S) σ = if inb x 8 = true then exec d mX7_copy 32 [l0, l1, l2, l3, l4, l5, l6] (.int (σ 55 x.toNatClampNeg) :: S) σ else none) ∧
  (∀ (d : Nat) (σ : Sg) (S : List Value) (l0 l1 l2 l3 l4 l5 l6 : Value) (x : Int32), exec d mX7_copy 32 [l0, l1, l2, l3, l4, l5, l6] (.int x :: S) σ = if nI 0 ≤ x then exec d mX7_copy 41 [l0, l1, l2, l3, l4, l5, l6] S σ else exec d mX7_copy 35 [l0, l1, l2, l3, l4, l5, l6] S σ) ∧
  (∀ (d : Nat) (σ : Sg) (S : List Value) (l1 l2 l3 l4 l5 l6 : Value) (k : Nat), exec d mX7_copy 35 [.ref k, l1, l2, l3, l4, l5, l6] S σ = exec d mX7_copy 36 [.ref k, l1, l2, l3, l4, l5, l6] (.ref k :: S) σ) ∧
  (∀ (d : Nat) (σ : Sg) (S : List Value) (l0 l1 l2 l3 l4 l5 l6 : Value), exec d mX7_copy 36 [l0, l1, l2, l3, l4, l5, l6] S σ = exec d mX7_copy 37 [l0, l1, l2, l3, l4, l5, l6] (.int (nI 1) :: S) σ) ∧
  (∀ (d : Nat) (σ : Sg) (l0 l1 l2 l3 l4 l5 l6 : Value) (x0 : Int32), exec d mX7_copy 37 [l0, l1, l2, l3, l4, l5, l6] [.int x0, .ref 50] σ = kb (cal d mX7_found [.ref 50, .int x0] σ) (fun rs σ2 => exec d mX7_copy 40 [l0, l1, l2, l3, l4, l5, l6] (rs ++ []) σ2)) ∧
  (∀ (d : Nat) (σ : Sg) (l0 l1 l2 l3 l4 l5 l6 : Value) (x : Int32), exec d mX7_copy 40 [l0, l1, l2, l3, l4, l5, l6] [.int x] σ = some (some (.int x), σ)) ∧
  (∀ (d : Nat) (σ : Sg) (S : List Value) (l1 l2 l3 l4 l5 l6 : Value) (k : Nat), exec d mX7_copy 41 [.ref k, l1, l2, l3, l4, l5, l6] S σ = exec d mX7_copy 42 [.ref k, l1, l2, l3, l4, l5, l6] (.ref k :: S) σ) ∧
  (∀ (d : Nat) (σ : Sg) (S : List Value) (l0 l1 l2 l3 l4 l5 l6 : Value), exec d mX7_copy 42 [l0, l1, l2, l3, l4, l5, l6] (.ref 50 :: S) σ = exec d mX7_copy 45 [l0, l1, l2, l3, l4, l5, l6] (.ref 56 :: S) σ) ∧
  (∀ (d : Nat) (σ : Sg) (S : List Value) (l0 l2 l3 l4 l5 l6 : Value) (x : Int32), exec d mX7_copy 45 [l0, .int x, l2, l3, l4, l5, l6] S σ = exec d mX7_copy 46 [l0, .int x, l2, l3, l4, l5, l6] (.int x :: S) σ) ∧
  (∀ (d : Nat) (σ : Sg) (S : List Value) (l0 l1 l2 l3 l4 l5 l6 : Value) (x : Int32), exec d mX7_copy 46 [l0, l1, l2, l3, l4, l5, l6] (.int x :: .ref 56 :: S) σ = if inb x 8 = true then exec d mX7_copy 47 [l0, l1, l2, l3, l4, l5, l6] (.int (σ 56 x.toNatClampNeg) :: S) σ else none) ∧
  (∀ (d : Nat) (σ : Sg) (S : List Value) (l1 l2 l3 l4 l5 l6 : Value) (k : Nat), exec d mX7_copy 47 [.ref k, l1, l2, l3, l4, l5, l6] S σ = exec d mX7_copy 48 [.ref k, l1, l2, l3, l4, l5, l6] (.ref k :: S) σ) ∧
  (∀ (d : Nat) (σ : Sg) (S : List Value) (l0 l1 l2 l3 l4 l5 l6 : Value), exec d mX7_copy 48 [l0, l1, l2, l3, l4, l5, l6] (.ref 50 :: S) σ = exec d mX7_copy 51 [l0, l1, l2, l3, l4, l5, l6] (.ref 56 :: S) σ) ∧
  (∀ (d : Nat) (σ : Sg) (S : List Value) (l0 l1 l2 l4 l5 l6 : Value) (x : Int32), exec d mX7_copy 51 [l0, l1, l2, .int x, l4, l5, l6] S σ = exec d mX7_copy 52 [l0, l1, l2, .int x, l4, l5, l6] (.int x :: S) σ) ∧
  (∀ (d : Nat) (σ : Sg) (S : List Value) (l0 l1 l2 l3 l4 l5 l6 : Value) (x : Int32), exec d mX7_copy 52 [l0, l1, l2, l3, l4, l5, l6] (.int x :: .ref 56 :: S) σ = if inb x 8 = true then exec d mX7_copy 53 [l0, l1, l2, l3, l4, l5, l6] (.int (σ 56 x.toNatClampNeg) :: S) σ else none) ∧
  (∀ (d : Nat) (σ : Sg) (S : List Value) (l0 l1 l2 l3 l4 l5 l6 : Value) (x y : Int32), exec d mX7_copy 53 [l0, l1, l2, l3, l4, l5, l6] (.int y :: .int x :: S) σ = if x = y then exec d mX7_copy 62 [l0, l1, l2, l3, l4, l5, l6] S σ else exec d mX7_copy 56 [l0, l1, l2, l3, l4, l5, l6] S σ) ∧
  (∀ (d : Nat) (σ : Sg) (S : List Value) (l1 l2 l3 l4 l5 l6 : Value) (k : Nat), exec d mX7_copy 56 [.ref k, l1, l2, l3, l4, l5, l6] S σ = exec d mX7_copy 57 [.ref k, l1, l2, l3, l4, l5, l6] (.ref k :: S) σ) ∧
  (∀ (d : Nat) (σ : Sg) (S : List Value) (l0 l1 l2 l3 l4 l5 l6 : Value), exec d mX7_copy 57 [l0, l1, l2, l3, l4, l5, l6] S σ = exec d mX7_copy 58 [l0, l1, l2, l3, l4, l5, l6] (.int (nI 5) :: S) σ) ∧
  (∀ (d : Nat) (σ : Sg) (l0 l1 l2 l3 l4 l5 l6 : Value) (x0 : Int32), exec d mX7_copy 58 [l0, l1, l2, l3, l4, l5, l6] [.int x0, .ref 50] σ = kb (cal d mX7_found [.ref 50, .int x0] σ) (fun rs σ2 => exec d mX7_copy 61 [l0, l1, l2, l3, l4, l5, l6] (rs ++ []) σ2)) ∧
  (∀ (d : Nat) (σ : Sg) (l0 l1 l2 l3 l4 l5 l6 : Value) (x : Int32), exec d mX7_copy 61 [l0, l1, l2, l3, l4, l5, l6] [.int x] σ = some (some (.int x), σ)) ∧
  (∀ (d : Nat) (σ : Sg) (S : List Value) (l0 l1 l2 l3 l4 l6 : Value) (x : Int32), exec d mX7_copy 62 [l0, l1, l2, l3, l4, .int x, l6] S σ = exec d mX7_copy 64 [l0, l1, l2, l3, l4, .int x, l6] (.int x :: S) σ) ∧
  (∀ (d : Nat) (σ : Sg) (S : List Value) (l0 l1 l2 l3 l4 l5 l6 : Value) (x : Int32), exec d mX7_copy 64 [l0, l1, l2, l3, l4, l5, l6] (.int x :: S) σ = if x < nI 0 then exec d mX7_copy 98 [l0, l1, l2, l3, l4, l5, l6] S σ else exec d mX7_copy 67 [l0, l1, l2, l3, l4, l5, l6] S σ) ∧
  (∀ (d : Nat) (σ : Sg) (S : List Value) (l0 l1 l3 l4 l5 l6 : Value) (x : Int32), exec d mX7_copy 67 [l0, l1, .int x, l3, l4, l5, l6] S σ = exec d mX7_copy 68 [l0, l1, .int x, l3, l4, l5, l6] (.int x :: S) σ) ∧
  (∀ (d : Nat) (σ : Sg) (S : List Value) (l0 l1 l2 l3 l4 l6 : Value) (x : Int32), exec d mX7_copy 68 [l0, l1, l2, l3, l4, .int x, l6] S σ = exec d mX7_copy 70 [l0, l1, l2, l3, l4, .int x, l6] (.int x :: S) σ) ∧
  (∀ (d : Nat) (σ : Sg) (S : List Value) (l1 l2 l3 l4 l5 l6 : Value) (k : Nat), exec d mX7_copy 70 [.ref k, l1, l2, l3, l4, l5, l6] S σ = exec d mX7_copy 71 [.ref k, l1, l2, l3, l4, l5, l6] (.ref k :: S) σ) :=
  ⟨fun d σ S l0 l2 l3 l4 l5 l6 x => ex_iload_n (show decode mX7_copy.2.1 0 = .ok (.iload_n 1, 1) by decide +kernel) rfl,
  fun d σ l0 l1 l2 l3 l4 l5 l6 x0 => ex_is (hs := [916, 917, 918, 101]) (show decode mX7_copy.2.1 1 = .ok (.invokestatic 67, 3) by decide +kernel) lkS_7_67 ⟨rfl, Nat.le_of_ble_eq_true rfl, Nat.le_of_ble_eq_true rfl, fun q => nomatch q⟩ rfl rfl,
  fun d σ S l0 l1 l2 l3 l4 l5 l6 x => ex_zeq (show decode mX7_copy.2.1 4 = .ok (.ifCond .eq 10, 3) by decide +kernel) (by decide),
  fun d σ S l0 l1 l2 l4 l5 l6 x => ex_iload_n (show decode mX7_copy.2.1 7 = .ok (.iload_n 3, 1) by decide +kernel) rfl,
  fun d σ l0 l1 l2 l3 l4 l5 l6 x0 => ex_is (hs := [916, 917, 918, 101]) (show decode mX7_copy.2.1 8 = .ok (.invokestatic 67, 3) by decide +kernel) lkS_7_67 ⟨rfl, Nat.le_of_ble_eq_true rfl, Nat.le_of_ble_eq_true rfl, fun q => nomatch q⟩ rfl rfl,
  fun d σ S l0 l1 l2 l3 l4 l5 l6 x => ex_zne (show decode mX7_copy.2.1 11 = .ok (.ifCond .ne 6, 3) by decide +kernel) (by decide),
  fun d σ S l0 l1 l2 l3 l4 l5 l6 => ex_ldc (hh := 924) (show decode mX7_copy.2.1 14 = .ok (.ldc 73, 2) by decide +kernel) (by decide +kernel),
  fun d σ l0 l1 l2 l3 l4 l5 l6 x => ex_iret (show decode mX7_copy.2.1 16 = .ok (.ireturn, 1) by decide +kernel) rfl,
  fun d σ S l1 l2 l3 l4 l5 l6 k => ex_aload_n (show decode mX7_copy.2.1 17 = .ok (.aload_n 0, 1) by decide +kernel) rfl,
  fun d σ S l0 l1 l2 l3 l4 l5 l6 => ex_getr (idx := 23) (ci := 7) (ff := 5) (n := 26) (hh := 838) (by decide +kernel),
  fun d σ S l0 l2 l3 l4 l5 l6 x => ex_iload_n (show decode mX7_copy.2.1 21 = .ok (.iload_n 1, 1) by decide +kernel) rfl,
  fun d σ S l0 l1 l2 l3 l4 l5 l6 x => ex_iald (by decide +kernel),
  fun d σ S l0 l1 l2 l3 l4 l5 l6 x => ex_zlt (show decode mX7_copy.2.1 23 = .ok (.ifCond .lt 12, 3) by decide +kernel) (by decide),
  fun d σ S l1 l2 l3 l4 l5 l6 k => ex_aload_n (show decode mX7_copy.2.1 26 = .ok (.aload_n 0, 1) by decide +kernel) rfl,
  fun d σ S l0 l1 l2 l3 l4 l5 l6 => ex_getr (idx := 23) (ci := 7) (ff := 5) (n := 26) (hh := 838) (by decide +kernel),
  fun d σ S l0 l1 l2 l4 l5 l6 x => ex_iload_n (show decode mX7_copy.2.1 30 = .ok (.iload_n 3, 1) by decide +kernel) rfl,
  fun d σ S l0 l1 l2 l3 l4 l5 l6 x => ex_iald (by decide +kernel),
  fun d σ S l0 l1 l2 l3 l4 l5 l6 x => ex_zge (show decode mX7_copy.2.1 32 = .ok (.ifCond .ge 9, 3) by decide +kernel) (by decide),
  fun d σ S l1 l2 l3 l4 l5 l6 k => ex_aload_n (show decode mX7_copy.2.1 35 = .ok (.aload_n 0, 1) by decide +kernel) rfl,
  fun d σ S l0 l1 l2 l3 l4 l5 l6 => ex_iconst (show decode mX7_copy.2.1 36 = .ok (.iconst 1, 1) by decide +kernel) (by decide +kernel),
  fun d σ l0 l1 l2 l3 l4 l5 l6 x0 => ex_iv (hs := [925, 927, 54, 928, 101]) (show decode mX7_copy.2.1 37 = .ok (.invokevirtual 74, 3) by decide +kernel) lkV_7_74 ⟨rfl, Nat.le_of_ble_eq_true rfl, Nat.le_of_ble_eq_true rfl, fun _ => rfl⟩ rfl rfl,
  fun d σ l0 l1 l2 l3 l4 l5 l6 x => ex_iret (show decode mX7_copy.2.1 40 = .ok (.ireturn, 1) by decide +kernel) rfl,
  fun d σ S l1 l2 l3 l4 l5 l6 k => ex_aload_n (show decode mX7_copy.2.1 41 = .ok (.aload_n 0, 1) by decide +kernel) rfl,
  fun d σ S l0 l1 l2 l3 l4 l5 l6 => ex_getr (idx := 26) (ci := 7) (ff := 6) (n := 26) (hh := 839) (by decide +kernel),
  fun d σ S l0 l2 l3 l4 l5 l6 x => ex_iload_n (show decode mX7_copy.2.1 45 = .ok (.iload_n 1, 1) by decide +kernel) rfl,
  fun d σ S l0 l1 l2 l3 l4 l5 l6 x => ex_iald (by decide +kernel),
  fun d σ S l1 l2 l3 l4 l5 l6 k => ex_aload_n (show decode mX7_copy.2.1 47 = .ok (.aload_n 0, 1) by decide +kernel) rfl,
  fun d σ S l0 l1 l2 l3 l4 l5 l6 => ex_getr (idx := 26) (ci := 7) (ff := 6) (n := 26) (hh := 839) (by decide +kernel),
  fun d σ S l0 l1 l2 l4 l5 l6 x => ex_iload_n (show decode mX7_copy.2.1 51 = .ok (.iload_n 3, 1) by decide +kernel) rfl,
  fun d σ S l0 l1 l2 l3 l4 l5 l6 x => ex_iald (by decide +kernel),
  fun d σ S l0 l1 l2 l3 l4 l5 l6 x y => ex_ceq (show decode mX7_copy.2.1 53 = .ok (.if_icmp .eq 9, 3) by decide +kernel) (by decide),
  fun d σ S l1 l2 l3 l4 l5 l6 k => ex_aload_n (show decode mX7_copy.2.1 56 = .ok (.aload_n 0, 1) by decide +kernel) rfl,
  fun d σ S l0 l1 l2 l3 l4 l5 l6 => ex_iconst (show decode mX7_copy.2.1 57 = .ok (.iconst 5, 1) by decide +kernel) (by decide +kernel),
  fun d σ l0 l1 l2 l3 l4 l5 l6 x0 => ex_iv (hs := [925, 927, 54, 928, 101]) (show decode mX7_copy.2.1 58 = .ok (.invokevirtual 74, 3) by decide +kernel) lkV_7_74 ⟨rfl, Nat.le_of_ble_eq_true rfl, Nat.le_of_ble_eq_true rfl, fun _ => rfl⟩ rfl rfl,
  fun d σ l0 l1 l2 l3 l4 l5 l6 x => ex_iret (show decode mX7_copy.2.1 61 = .ok (.ireturn, 1) by decide +kernel) rfl,
  fun d σ S l0 l1 l2 l3 l4 l6 x => ex_iload (show decode mX7_copy.2.1 62 = .ok (.iload 5, 2) by decide +kernel) rfl,
  fun d σ S l0 l1 l2 l3 l4 l5 l6 x => ex_zlt (show decode mX7_copy.2.1 64 = .ok (.ifCond .lt 34, 3) by decide +kernel) (by decide),
  fun d σ S l0 l1 l3 l4 l5 l6 x => ex_iload_n (show decode mX7_copy.2.1 67 = .ok (.iload_n 2, 1) by decide +kernel) rfl,
  fun d σ S l0 l1 l2 l3 l4 l6 x => ex_iload (show decode mX7_copy.2.1 68 = .ok (.iload 5, 2) by decide +kernel) rfl,
  fun d σ S l1 l2 l3 l4 l5 l6 k => ex_aload_n (show decode mX7_copy.2.1 70 = .ok (.aload_n 0, 1) by decide +kernel) rfl⟩
theorem kX7_copy_1 : (∀ (d : Nat) (σ : Sg) (S : List Value) (l0 l1 l2 l3 l4 l5 l6 : Value), exec d mX7_copy 71 [l0, l1, l2, l3, l4, l5, l6] (.ref 50 :: S) σ = exec d mX7_copy 74 [l0, l1, l2, l3, l4, l5, l6] (.ref 55 :: S) σ) ∧
  (∀ (d : Nat) (σ : Sg) (S : List Value) (l0 l2 l3 l4 l5 l6 : Value) (x : Int32), exec d mX7_copy 74 [l0, .int x, l2, l3, l4, l5, l6] S σ = exec d mX7_copy 75 [l0, .int x, l2, l3, l4, l5, l6] (.int x :: S) σ) ∧
  (∀ (d : Nat) (σ : Sg) (S : List Value) (l0 l1 l2 l3 l4 l5 l6 : Value) (x : Int32), exec d mX7_copy 75 [l0, l1, l2, l3, l4, l5, l6] (.int x :: .ref 55 :: S) σ = if inb x 8 = true then exec d mX7_copy 76 [l0, l1, l2, l3, l4, l5, l6] (.int (σ 55 x.toNatClampNeg) :: S) σ else none) ∧
  (∀ (d : Nat) (σ : Sg) (l0 l1 l2 l3 l4 l5 l6 : Value) (x0 x1 x2 : Int32), exec d mX7_copy 76 [l0, l1, l2, l3, l4, l5, l6] [.int x0, .int x1, .int x2] σ = kb (cal d mX7_fits [.int x2, .int x1, .int x0] σ) (fun rs σ2 => exec d mX7_copy 79 [l0, l1, l2, l3, l4, l5, l6] (rs ++ []) σ2)) ∧
  (∀ (d : Nat) (σ : Sg) (S : List Value) (l0 l1 l2 l3 l4 l5 l6 : Value) (x : Int32), exec d mX7_copy 79 [l0, l1, l2, l3, l4, l5, l6] (.int x :: S) σ = if x = nI 0 then exec d mX7_copy 98 [l0, l1, l2, l3, l4, l5, l6] S σ else exec d mX7_copy 82 [l0, l1, l2, l3, l4, l5, l6] S σ) ∧
  (∀ (d : Nat) (σ : Sg) (S : List Value) (l0 l1 l2 l3 l5 l6 : Value) (x : Int32), exec d mX7_copy 82 [l0, l1, l2, l3, .int x, l5, l6] S σ = exec d mX7_copy 84 [l0, l1, l2, l3, .int x, l5, l6] (.int x :: S) σ) ∧
  (∀ (d : Nat) (σ : Sg) (S : List Value) (l0 l1 l2 l3 l4 l6 : Value) (x : Int32), exec d mX7_copy 84 [l0, l1, l2, l3, l4, .int x, l6] S σ = exec d mX7_copy 86 [l0, l1, l2, l3, l4, .int x, l6] (.int x :: S) σ) ∧
  (∀ (d : Nat) (σ : Sg) (S : List Value) (l1 l2 l3 l4 l5 l6 : Value) (k : Nat), exec d mX7_copy 86 [.ref k, l1, l2, l3, l4, l5, l6] S σ = exec d mX7_copy 87 [.ref k, l1, l2, l3, l4, l5, l6] (.ref k :: S) σ) ∧
  (∀ (d : Nat) (σ : Sg) (S : List Value) (l0 l1 l2 l3 l4 l5 l6 : Value), exec d mX7_copy 87 [l0, l1, l2, l3, l4, l5, l6] (.ref 50 :: S) σ = exec d mX7_copy 90 [l0, l1, l2, l3, l4, l5, l6] (.ref 55 :: S) σ) ∧
  (∀ (d : Nat) (σ : Sg) (S : List Value) (l0 l1 l2 l4 l5 l6 : Value) (x : Int32), exec d mX7_copy 90 [l0, l1, l2, .int x, l4, l5, l6] S σ = exec d mX7_copy 91 [l0, l1, l2, .int x, l4, l5, l6] (.int x :: S) σ) ∧
  (∀ (d : Nat) (σ : Sg) (S : List Value) (l0 l1 l2 l3 l4 l5 l6 : Value) (x : Int32), exec d mX7_copy 91 [l0, l1, l2, l3, l4, l5, l6] (.int x :: .ref 55 :: S) σ = if inb x 8 = true then exec d mX7_copy 92 [l0, l1, l2, l3, l4, l5, l6] (.int (σ 55 x.toNatClampNeg) :: S) σ else none) ∧
  (∀ (d : Nat) (σ : Sg) (l0 l1 l2 l3 l4 l5 l6 : Value) (x0 x1 x2 : Int32), exec d mX7_copy 92 [l0, l1, l2, l3, l4, l5, l6] [.int x0, .int x1, .int x2] σ = kb (cal d mX7_fits [.int x2, .int x1, .int x0] σ) (fun rs σ2 => exec d mX7_copy 95 [l0, l1, l2, l3, l4, l5, l6] (rs ++ []) σ2)) ∧
  (∀ (d : Nat) (σ : Sg) (S : List Value) (l0 l1 l2 l3 l4 l5 l6 : Value) (x : Int32), exec d mX7_copy 95 [l0, l1, l2, l3, l4, l5, l6] (.int x :: S) σ = if x = nI 0 then exec d mX7_copy 98 [l0, l1, l2, l3, l4, l5, l6] S σ else exec d mX7_copy 104 [l0, l1, l2, l3, l4, l5, l6] S σ) ∧
  (∀ (d : Nat) (σ : Sg) (S : List Value) (l1 l2 l3 l4 l5 l6 : Value) (k : Nat), exec d mX7_copy 98 [.ref k, l1, l2, l3, l4, l5, l6] S σ = exec d mX7_copy 99 [.ref k, l1, l2, l3, l4, l5, l6] (.ref k :: S) σ) ∧
  (∀ (d : Nat) (σ : Sg) (S : List Value) (l0 l1 l2 l3 l4 l5 l6 : Value), exec d mX7_copy 99 [l0, l1, l2, l3, l4, l5, l6] S σ = exec d mX7_copy 100 [l0, l1, l2, l3, l4, l5, l6] (.int (nI 2) :: S) σ) ∧
  (∀ (d : Nat) (σ : Sg) (l0 l1 l2 l3 l4 l5 l6 : Value) (x0 : Int32), exec d mX7_copy 100 [l0, l1, l2, l3, l4, l5, l6] [.int x0, .ref 50] σ = kb (cal d mX7_found [.ref 50, .int x0] σ) (fun rs σ2 => exec d mX7_copy 103 [l0, l1, l2, l3, l4, l5, l6] (rs ++ []) σ2)) ∧
  (∀ (d : Nat) (σ : Sg) (l0 l1 l2 l3 l4 l5 l6 : Value) (x : Int32), exec d mX7_copy 103 [l0, l1, l2, l3, l4, l5, l6] [.int x] σ = some (some (.int x), σ)) ∧
  (∀ (d : Nat) (σ : Sg) (S : List Value) (l0 l1 l2 l3 l4 l5 l6 : Value), exec d mX7_copy 104 [l0, l1, l2, l3, l4, l5, l6] S σ = exec d mX7_copy 105 [l0, l1, l2, l3, l4, l5, l6] (.int (nI 0) :: S) σ) ∧
  (∀ (d : Nat) (σ : Sg) (S : List Value) (l0 l1 l2 l3 l4 l6 : Value) (x y : Int32), exec d mX7_copy 105 [l0, l1, l2, l3, l4, .int y, l6] (.int x :: S) σ = exec d mX7_copy 107 [l0, l1, l2, l3, l4, .int y, .int x] S σ) ∧
  (∀ (d : Nat) (σ : Sg) (S : List Value) (l0 l1 l2 l3 l4 l6 : Value) (x : Int32), exec d mX7_copy 109 [l0, l1, l2, l3, l4, .int x, l6] S σ = exec d mX7_copy 111 [l0, l1, l2, l3, l4, .int x, l6] (.int x :: S) σ) ∧
  (∀ (d : Nat) (σ : Sg) (S : List Value) (l0 l1 l2 l3 l4 l5 l6 : Value) (x y : Int32), exec d mX7_copy 111 [l0, l1, l2, l3, l4, l5, l6] (.int y :: .int x :: S) σ = if y ≤ x then exec d mX7_copy 141 [l0, l1, l2, l3, l4, l5, l6] S σ else exec d mX7_copy 114 [l0, l1, l2, l3, l4, l5, l6] S σ) ∧
  (∀ (d : Nat) (σ : Sg) (S : List Value) (l1 l2 l3 l4 l5 l6 : Value) (k : Nat), exec d mX7_copy 114 [.ref k, l1, l2, l3, l4, l5, l6] S σ = exec d mX7_copy 115 [.ref k, l1, l2, l3, l4, l5, l6] (.ref k :: S) σ) ∧
  (∀ (d : Nat) (σ : Sg) (S : List Value) (l0 l1 l2 l3 l4 l5 l6 : Value), exec d mX7_copy 115 [l0, l1, l2, l3, l4, l5, l6] (.ref 50 :: S) σ = exec d mX7_copy 118 [l0, l1, l2, l3, l4, l5, l6] (.ref 59 :: S) σ) ∧
  (∀ (d : Nat) (σ : Sg) (S : List Value) (l0 l1 l2 l3 l4 l5 : Value) (x : Int32), exec d mX7_copy 118 [l0, l1, l2, l3, l4, l5, .int x] S σ = exec d mX7_copy 120 [l0, l1, l2, l3, l4, l5, .int x] (.int x :: S) σ) ∧
  (∀ (d : Nat) (σ : Sg) (S : List Value) (l1 l2 l3 l4 l5 l6 : Value) (k : Nat), exec d mX7_copy 120 [.ref k, l1, l2, l3, l4, l5, l6] S σ = exec d mX7_copy 121 [.ref k, l1, l2, l3, l4, l5, l6] (.ref k :: S) σ) ∧
  (∀ (d : Nat) (σ : Sg) (S : List Value) (l0 l1 l2 l3 l4 l5 l6 : Value), exec d mX7_copy 121 [l0, l1, l2, l3, l4, l5, l6] (.ref 50 :: S) σ = exec d mX7_copy 124 [l0, l1, l2, l3, l4, l5, l6] (.ref 54 :: S) σ) ∧
  (∀ (d : Nat) (σ : Sg) (S : List Value) (l0 l1 l2 l3 l4 l5 l6 : Value), exec d mX7_copy 124 [l0, l1, l2, l3, l4, l5, l6] S σ = exec d mX7_copy 126 [l0, l1, l2, l3, l4, l5, l6] (.int (nI 40) :: S) σ) ∧
  (∀ (d : Nat) (σ : Sg) (S : List Value) (l0 l2 l3 l4 l5 l6 : Value) (x : Int32), exec d mX7_copy 126 [l0, .int x, l2, l3, l4, l5, l6] S σ = exec d mX7_copy 127 [l0, .int x, l2, l3, l4, l5, l6] (.int x :: S) σ) ∧
  (∀ (d : Nat) (σ : Sg) (S : List Value) (l0 l1 l2 l3 l4 l5 l6 : Value) (x y : Int32), exec d mX7_copy 127 [l0, l1, l2, l3, l4, l5, l6] (.int y :: .int x :: S) σ = exec d mX7_copy 128 [l0, l1, l2, l3, l4, l5, l6] (.int (x * y) :: S) σ) ∧
  (∀ (d : Nat) (σ : Sg) (S : List Value) (l0 l1 l3 l4 l5 l6 : Value) (x : Int32), exec d mX7_copy 128 [l0, l1, .int x, l3, l4, l5, l6] S σ = exec d mX7_copy 129 [l0, l1, .int x, l3, l4, l5, l6] (.int x :: S) σ) ∧
  (∀ (d : Nat) (σ : Sg) (S : List Value) (l0 l1 l2 l3 l4 l5 l6 : Value) (x y : Int32), exec d mX7_copy 129 [l0, l1, l2, l3, l4, l5, l6] (.int y :: .int x :: S) σ = exec d mX7_copy 130 [l0, l1, l2, l3, l4, l5, l6] (.int (x + y) :: S) σ) ∧
  (∀ (d : Nat) (σ : Sg) (S : List Value) (l0 l1 l2 l3 l4 l5 : Value) (x : Int32), exec d mX7_copy 130 [l0, l1, l2, l3, l4, l5, .int x] S σ = exec d mX7_copy 132 [l0, l1, l2, l3, l4, l5, .int x] (.int x :: S) σ) ∧
  (∀ (d : Nat) (σ : Sg) (S : List Value) (l0 l1 l2 l3 l4 l5 l6 : Value) (x y : Int32), exec d mX7_copy 132 [l0, l1, l2, l3, l4, l5, l6] (.int y :: .int x :: S) σ = exec d mX7_copy 133 [l0, l1, l2, l3, l4, l5, l6] (.int (x + y) :: S) σ) ∧
  (∀ (d : Nat) (σ : Sg) (S : List Value) (l0 l1 l2 l3 l4 l5 l6 : Value) (x : Int32), exec d mX7_copy 133 [l0, l1, l2, l3, l4, l5, l6] (.int x :: .ref 54 :: S) σ = if inb x 320 = true then exec d mX7_copy 134 [l0, l1, l2, l3, l4, l5, l6] (.int (σ 54 x.toNatClampNeg) :: S) σ else none) ∧
  (∀ (d : Nat) (σ : Sg) (S : List Value) (l0 l1 l2 l3 l4 l5 l6 : Value) (x y : Int32), exec d mX7_copy 134 [l0, l1, l2, l3, l4, l5, l6] (.int y :: .int x :: .ref 59 :: S) σ = if inb x 40 = true then exec d mX7_copy 135 [l0, l1, l2, l3, l4, l5, l6] S (up σ 59 x.toNatClampNeg y) else none) ∧
  (∀ (d : Nat) (σ : Sg) (S : List Value) (l0 l1 l2 l3 l4 : Value) (x y : Int32), exec d mX7_copy 135 [l0, l1, l2, l3, l4, .int y, .int x] S σ = exec d mX7_copy 138 [l0, l1, l2, l3, l4, .int y, .int (x + nI 1)] S σ) ∧
  (∀ (d : Nat) (σ : Sg) (S : List Value) (l0 l1 l2 l3 l4 l5 l6 : Value), exec d mX7_copy 138 [l0, l1, l2, l3, l4, l5, l6] S σ = exec d mX7_copy 107 [l0, l1, l2, l3, l4, l5, l6] S σ) ∧
  (∀ (d : Nat) (σ : Sg) (S : List Value) (l0 l1 l2 l3 l4 l5 l6 : Value), exec d mX7_copy 141 [l0, l1, l2, l3, l4, l5, l6] S σ = exec d mX7_copy 142 [l0, l1, l2, l3, l4, l5, l6] (.int (nI 0) :: S) σ) ∧
  (∀ (d : Nat) (σ : Sg) (S : List Value) (l0 l1 l2 l3 l4 l6 : Value) (x y : Int32), exec d mX7_copy 142 [l0, l1, l2, l3, l4, .int y, l6] (.int x :: S) σ = exec d mX7_copy 144 [l0, l1, l2, l3, l4, .int y, .int x] S σ) ∧
  (∀ (d : Nat) (σ : Sg) (S : List Value) (l0 l1 l2 l3 l4 l6 : Value) (x : Int32), exec d mX7_copy 146 [l0, l1, l2, l3, l4, .int x, l6] S σ = exec d mX7_copy 148 [l0, l1, l2, l3, l4, .int x, l6] (.int x :: S) σ) :=
  ⟨fun d σ S l0 l1 l2 l3 l4 l5 l6 => ex_getr (idx := 23) (ci := 7) (ff := 5) (n := 26) (hh := 838) (by decide +kernel),
  fun d σ S l0 l2 l3 l4 l5 l6 x => ex_iload_n (show decode mX7_copy.2.1 74 = .ok (.iload_n 1, 1) by decide +kernel) rfl,
  fun d σ S l0 l1 l2 l3 l4 l5 l6 x => ex_iald (by decide +kernel),
  fun d σ l0 l1 l2 l3 l4 l5 l6 x0 x1 x2 => ex_is (hs := [942, 943, 944, 101]) (show decode mX7_copy.2.1 76 = .ok (.invokestatic 81, 3) by decide +kernel) lkS_7_81 ⟨rfl, Nat.le_of_ble_eq_true rfl, Nat.le_of_ble_eq_true rfl, fun q => nomatch q⟩ rfl rfl,
  fun d σ S l0 l1 l2 l3 l4 l5 l6 x => ex_zeq (show decode mX7_copy.2.1 79 = .ok (.ifCond .eq 19, 3) by decide +kernel) (by decide),
  fun d σ S l0 l1 l2 l3 l5 l6 x => ex_iload (show decode mX7_copy.2.1 82 = .ok (.iload 4, 2) by decide +kernel) rfl,
  fun d σ S l0 l1 l2 l3 l4 l6 x => ex_iload (show decode mX7_copy.2.1 84 = .ok (.iload 5, 2) by decide +kernel) rfl,
  fun d σ S l1 l2 l3 l4 l5 l6 k => ex_aload_n (show decode mX7_copy.2.1 86 = .ok (.aload_n 0, 1) by decide +kernel) rfl,
  fun d σ S l0 l1 l2 l3 l4 l5 l6 => ex_getr (idx := 23) (ci := 7) (ff := 5) (n := 26) (hh := 838) (by decide +kernel),
  fun d σ S l0 l1 l2 l4 l5 l6 x => ex_iload_n (show decode mX7_copy.2.1 90 = .ok (.iload_n 3, 1) by decide +kernel) rfl,
  fun d σ S l0 l1 l2 l3 l4 l5 l6 x => ex_iald (by decide +kernel),
  fun d σ l0 l1 l2 l3 l4 l5 l6 x0 x1 x2 => ex_is (hs := [942, 943, 944, 101]) (show decode mX7_copy.2.1 92 = .ok (.invokestatic 81, 3) by decide +kernel) lkS_7_81 ⟨rfl, Nat.le_of_ble_eq_true rfl, Nat.le_of_ble_eq_true rfl, fun q => nomatch q⟩ rfl rfl,
  fun d σ S l0 l1 l2 l3 l4 l5 l6 x => ex_zne (show decode mX7_copy.2.1 95 = .ok (.ifCond .ne 9, 3) by decide +kernel) (by decide),
  fun d σ S l1 l2 l3 l4 l5 l6 k => ex_aload_n (show decode mX7_copy.2.1 98 = .ok (.aload_n 0, 1) by decide +kernel) rfl,
  fun d σ S l0 l1 l2 l3 l4 l5 l6 => ex_iconst (show decode mX7_copy.2.1 99 = .ok (.iconst 2, 1) by decide +kernel) (by decide +kernel),
  fun d σ l0 l1 l2 l3 l4 l5 l6 x0 => ex_iv (hs := [925, 927, 54, 928, 101]) (show decode mX7_copy.2.1 100 = .ok (.invokevirtual 74, 3) by decide +kernel) lkV_7_74 ⟨rfl, Nat.le_of_ble_eq_true rfl, Nat.le_of_ble_eq_true rfl, fun _ => rfl⟩ rfl rfl,
  fun d σ l0 l1 l2 l3 l4 l5 l6 x => ex_iret (show decode mX7_copy.2.1 103 = .ok (.ireturn, 1) by decide +kernel) rfl,
  fun d σ S l0 l1 l2 l3 l4 l5 l6 => ex_iconst (show decode mX7_copy.2.1 104 = .ok (.iconst 0, 1) by decide +kernel) (by decide +kernel),
  fun d σ S l0 l1 l2 l3 l4 l6 x y => ex_istore (show decode mX7_copy.2.1 105 = .ok (.istore 6, 2) by decide +kernel) (Nat.le_of_ble_eq_true rfl) rfl,
  fun d σ S l0 l1 l2 l3 l4 l6 x => ex_iload (show decode mX7_copy.2.1 109 = .ok (.iload 5, 2) by decide +kernel) rfl,
  fun d σ S l0 l1 l2 l3 l4 l5 l6 x y => ex_cge (show decode mX7_copy.2.1 111 = .ok (.if_icmp .ge 30, 3) by decide +kernel) (by decide),
  fun d σ S l1 l2 l3 l4 l5 l6 k => ex_aload_n (show decode mX7_copy.2.1 114 = .ok (.aload_n 0, 1) by decide +kernel) rfl,
  fun d σ S l0 l1 l2 l3 l4 l5 l6 => ex_getr (idx := 35) (ci := 7) (ff := 13) (n := 26) (hh := 846) (by decide +kernel),
  fun d σ S l0 l1 l2 l3 l4 l5 x => ex_iload (show decode mX7_copy.2.1 118 = .ok (.iload 6, 2) by decide +kernel) rfl,
  fun d σ S l1 l2 l3 l4 l5 l6 k => ex_aload_n (show decode mX7_copy.2.1 120 = .ok (.aload_n 0, 1) by decide +kernel) rfl,
  fun d σ S l0 l1 l2 l3 l4 l5 l6 => ex_getr (idx := 20) (ci := 7) (ff := 4) (n := 26) (hh := 837) (by decide +kernel),
  fun d σ S l0 l1 l2 l3 l4 l5 l6 => ex_bipush (show decode mX7_copy.2.1 124 = .ok (.bipush 40, 2) by decide +kernel) (by decide +kernel),
  fun d σ S l0 l2 l3 l4 l5 l6 x => ex_iload_n (show decode mX7_copy.2.1 126 = .ok (.iload_n 1, 1) by decide +kernel) rfl,
  fun d σ S l0 l1 l2 l3 l4 l5 l6 x y => ex_imul (show decode mX7_copy.2.1 127 = .ok (.imul, 1) by decide +kernel),
  fun d σ S l0 l1 l3 l4 l5 l6 x => ex_iload_n (show decode mX7_copy.2.1 128 = .ok (.iload_n 2, 1) by decide +kernel) rfl,
  fun d σ S l0 l1 l2 l3 l4 l5 l6 x y => ex_iadd (show decode mX7_copy.2.1 129 = .ok (.iadd, 1) by decide +kernel),
  fun d σ S l0 l1 l2 l3 l4 l5 x => ex_iload (show decode mX7_copy.2.1 130 = .ok (.iload 6, 2) by decide +kernel) rfl,
  fun d σ S l0 l1 l2 l3 l4 l5 l6 x y => ex_iadd (show decode mX7_copy.2.1 132 = .ok (.iadd, 1) by decide +kernel),
  fun d σ S l0 l1 l2 l3 l4 l5 l6 x => ex_iald (by decide +kernel),
  fun d σ S l0 l1 l2 l3 l4 l5 l6 x y => ex_iast (by decide +kernel),
  fun d σ S l0 l1 l2 l3 l4 x y => ex_iinc (show decode mX7_copy.2.1 135 = .ok (.iinc 6 1, 3) by decide +kernel) rfl (by decide +kernel) (Nat.le_of_ble_eq_true rfl) rfl,
  fun d σ S l0 l1 l2 l3 l4 l5 l6 => ex_goto (show decode mX7_copy.2.1 138 = .ok (.goto (-31), 3) by decide +kernel) (by decide),
  fun d σ S l0 l1 l2 l3 l4 l5 l6 => ex_iconst (show decode mX7_copy.2.1 141 = .ok (.iconst 0, 1) by decide +kernel) (by decide +kernel),
  fun d σ S l0 l1 l2 l3 l4 l6 x y => ex_istore (show decode mX7_copy.2.1 142 = .ok (.istore 6, 2) by decide +kernel) (Nat.le_of_ble_eq_true rfl) rfl,
  fun d σ S l0 l1 l2 l3 l4 l6 x => ex_iload (show decode mX7_copy.2.1 146 = .ok (.iload 5, 2) by decide +kernel) rfl⟩
theorem kX7_copy_2 : (∀ (d : Nat) (σ : Sg) (S : List Value) (l0 l1 l2 l3 l4 l5 l6 : Value) (x y : Int32), exec d mX7_copy 148 [l0, l1, l2, l3, l4, l5, l6] (.int y :: .int x :: S) σ = if y ≤ x then exec d mX7_copy 179 [l0, l1, l2, l3, l4, l5, l6] S σ else exec d mX7_copy 151 [l0, l1, l2, l3, l4, l5, l6] S σ) ∧
  (∀ (d : Nat) (σ : Sg) (S : List Value) (l1 l2 l3 l4 l5 l6 : Value) (k : Nat), exec d mX7_copy 151 [.ref k, l1, l2, l3, l4, l5, l6] S σ = exec d mX7_copy 152 [.ref k, l1, l2, l3, l4, l5, l6] (.ref k :: S) σ) ∧
  (∀ (d : Nat) (σ : Sg) (S : List Value) (l0 l1 l2 l3 l4 l5 l6 : Value), exec d mX7_copy 152 [l0, l1, l2, l3, l4, l5, l6] (.ref 50 :: S) σ = exec d mX7_copy 155 [l0, l1, l2, l3, l4, l5, l6] (.ref 54 :: S) σ) ∧
  (∀ (d : Nat) (σ : Sg) (S : List Value) (l0 l1 l2 l3 l4 l5 l6 : Value), exec d mX7_copy 155 [l0, l1, l2, l3, l4, l5, l6] S σ = exec d mX7_copy 157 [l0, l1, l2, l3, l4, l5, l6] (.int (nI 40) :: S) σ) ∧
  (∀ (d : Nat) (σ : Sg) (S : List Value) (l0 l1 l2 l4 l5 l6 : Value) (x : Int32), exec d mX7_copy 157 [l0, l1, l2, .int x, l4, l5, l6] S σ = exec d mX7_copy 158 [l0, l1, l2, .int x, l4, l5, l6] (.int x :: S) σ) ∧
  (∀ (d : Nat) (σ : Sg) (S : List Value) (l0 l1 l2 l3 l4 l5 l6 : Value) (x y : Int32), exec d mX7_copy 158 [l0, l1, l2, l3, l4, l5, l6] (.int y :: .int x :: S) σ = exec d mX7_copy 159 [l0, l1, l2, l3, l4, l5, l6] (.int (x * y) :: S) σ) ∧
  (∀ (d : Nat) (σ : Sg) (S : List Value) (l0 l1 l2 l3 l5 l6 : Value) (x : Int32), exec d mX7_copy 159 [l0, l1, l2, l3, .int x, l5, l6] S σ = exec d mX7_copy 161 [l0, l1, l2, l3, .int x, l5, l6] (.int x :: S) σ) ∧
  (∀ (d : Nat) (σ : Sg) (S : List Value) (l0 l1 l2 l3 l4 l5 l6 : Value) (x y : Int32), exec d mX7_copy 161 [l0, l1, l2, l3, l4, l5, l6] (.int y :: .int x :: S) σ = exec d mX7_copy 162 [l0, l1, l2, l3, l4, l5, l6] (.int (x + y) :: S) σ) ∧
  (∀ (d : Nat) (σ : Sg) (S : List Value) (l0 l1 l2 l3 l4 l5 : Value) (x : Int32), exec d mX7_copy 162 [l0, l1, l2, l3, l4, l5, .int x] S σ = exec d mX7_copy 164 [l0, l1, l2, l3, l4, l5, .int x] (.int x :: S) σ) ∧
  (∀ (d : Nat) (σ : Sg) (S : List Value) (l0 l1 l2 l3 l4 l5 l6 : Value) (x y : Int32), exec d mX7_copy 164 [l0, l1, l2, l3, l4, l5, l6] (.int y :: .int x :: S) σ = exec d mX7_copy 165 [l0, l1, l2, l3, l4, l5, l6] (.int (x + y) :: S) σ) ∧
  (∀ (d : Nat) (σ : Sg) (S : List Value) (l1 l2 l3 l4 l5 l6 : Value) (k : Nat), exec d mX7_copy 165 [.ref k, l1, l2, l3, l4, l5, l6] S σ = exec d mX7_copy 166 [.ref k, l1, l2, l3, l4, l5, l6] (.ref k :: S) σ) ∧
  (∀ (d : Nat) (σ : Sg) (S : List Value) (l0 l1 l2 l3 l4 l5 l6 : Value), exec d mX7_copy 166 [l0, l1, l2, l3, l4, l5, l6] (.ref 50 :: S) σ = exec d mX7_copy 169 [l0, l1, l2, l3, l4, l5, l6] (.ref 59 :: S) σ) ∧
  (∀ (d : Nat) (σ : Sg) (S : List Value) (l0 l1 l2 l3 l4 l5 : Value) (x : Int32), exec d mX7_copy 169 [l0, l1, l2, l3, l4, l5, .int x] S σ = exec d mX7_copy 171 [l0, l1, l2, l3, l4, l5, .int x] (.int x :: S) σ) ∧
  (∀ (d : Nat) (σ : Sg) (S : List Value) (l0 l1 l2 l3 l4 l5 l6 : Value) (x : Int32), exec d mX7_copy 171 [l0, l1, l2, l3, l4, l5, l6] (.int x :: .ref 59 :: S) σ = if inb x 40 = true then exec d mX7_copy 172 [l0, l1, l2, l3, l4, l5, l6] (.int (σ 59 x.toNatClampNeg) :: S) σ else none) ∧
  (∀ (d : Nat) (σ : Sg) (S : List Value) (l0 l1 l2 l3 l4 l5 l6 : Value) (x y : Int32), exec d mX7_copy 172 [l0, l1, l2, l3, l4, l5, l6] (.int y :: .int x :: .ref 54 :: S) σ = if inb x 320 = true then exec d mX7_copy 173 [l0, l1, l2, l3, l4, l5, l6] S (up σ 54 x.toNatClampNeg y) else none) ∧
  (∀ (d : Nat) (σ : Sg) (S : List Value) (l0 l1 l2 l3 l4 : Value) (x y : Int32), exec d mX7_copy 173 [l0, l1, l2, l3, l4, .int y, .int x] S σ = exec d mX7_copy 176 [l0, l1, l2, l3, l4, .int y, .int (x + nI 1)] S σ) ∧
  (∀ (d : Nat) (σ : Sg) (S : List Value) (l0 l1 l2 l3 l4 l5 l6 : Value), exec d mX7_copy 176 [l0, l1, l2, l3, l4, l5, l6] S σ = exec d mX7_copy 144 [l0, l1, l2, l3, l4, l5, l6] S σ) ∧
  (∀ (d : Nat) (σ : Sg) (S : List Value) (l1 l2 l3 l4 l5 l6 : Value) (k : Nat), exec d mX7_copy 179 [.ref k, l1, l2, l3, l4, l5, l6] S σ = exec d mX7_copy 180 [.ref k, l1, l2, l3, l4, l5, l6] (.ref k :: S) σ) ∧
  (∀ (d : Nat) (σ : Sg) (S : List Value) (l0 l1 l2 l3 l4 l6 : Value) (x : Int32), exec d mX7_copy 180 [l0, l1, l2, l3, l4, .int x, l6] S σ = exec d mX7_copy 182 [l0, l1, l2, l3, l4, .int x, l6] (.int x :: S) σ) ∧
  (∀ (d : Nat) (σ : Sg) (l0 l1 l2 l3 l4 l5 l6 : Value) (x0 : Int32), exec d mX7_copy 182 [l0, l1, l2, l3, l4, l5, l6] [.int x0, .ref 50] σ = kb (cal d mX7_good [.ref 50, .int x0] σ) (fun rs σ2 => exec d mX7_copy 185 [l0, l1, l2, l3, l4, l5, l6] (rs ++ []) σ2)) ∧
  (∀ (d : Nat) (σ : Sg) (l0 l1 l2 l3 l4 l5 l6 : Value) (x : Int32), exec d mX7_copy 185 [l0, l1, l2, l3, l4, l5, l6] [.int x] σ = some (some (.int x), σ)) :=
  ⟨fun d σ S l0 l1 l2 l3 l4 l5 l6 x y => ex_cge (show decode mX7_copy.2.1 148 = .ok (.if_icmp .ge 31, 3) by decide +kernel) (by decide),
  fun d σ S l1 l2 l3 l4 l5 l6 k => ex_aload_n (show decode mX7_copy.2.1 151 = .ok (.aload_n 0, 1) by decide +kernel) rfl,
  fun d σ S l0 l1 l2 l3 l4 l5 l6 => ex_getr (idx := 20) (ci := 7) (ff := 4) (n := 26) (hh := 837) (by decide +kernel),
  fun d σ S l0 l1 l2 l3 l4 l5 l6 => ex_bipush (show decode mX7_copy.2.1 155 = .ok (.bipush 40, 2) by decide +kernel) (by decide +kernel),
  fun d σ S l0 l1 l2 l4 l5 l6 x => ex_iload_n (show decode mX7_copy.2.1 157 = .ok (.iload_n 3, 1) by decide +kernel) rfl,
  fun d σ S l0 l1 l2 l3 l4 l5 l6 x y => ex_imul (show decode mX7_copy.2.1 158 = .ok (.imul, 1) by decide +kernel),
  fun d σ S l0 l1 l2 l3 l5 l6 x => ex_iload (show decode mX7_copy.2.1 159 = .ok (.iload 4, 2) by decide +kernel) rfl,
  fun d σ S l0 l1 l2 l3 l4 l5 l6 x y => ex_iadd (show decode mX7_copy.2.1 161 = .ok (.iadd, 1) by decide +kernel),
  fun d σ S l0 l1 l2 l3 l4 l5 x => ex_iload (show decode mX7_copy.2.1 162 = .ok (.iload 6, 2) by decide +kernel) rfl,
  fun d σ S l0 l1 l2 l3 l4 l5 l6 x y => ex_iadd (show decode mX7_copy.2.1 164 = .ok (.iadd, 1) by decide +kernel),
  fun d σ S l1 l2 l3 l4 l5 l6 k => ex_aload_n (show decode mX7_copy.2.1 165 = .ok (.aload_n 0, 1) by decide +kernel) rfl,
  fun d σ S l0 l1 l2 l3 l4 l5 l6 => ex_getr (idx := 35) (ci := 7) (ff := 13) (n := 26) (hh := 846) (by decide +kernel),
  fun d σ S l0 l1 l2 l3 l4 l5 x => ex_iload (show decode mX7_copy.2.1 169 = .ok (.iload 6, 2) by decide +kernel) rfl,
  fun d σ S l0 l1 l2 l3 l4 l5 l6 x => ex_iald (by decide +kernel),
  fun d σ S l0 l1 l2 l3 l4 l5 l6 x y => ex_iast (by decide +kernel),
  fun d σ S l0 l1 l2 l3 l4 x y => ex_iinc (show decode mX7_copy.2.1 173 = .ok (.iinc 6 1, 3) by decide +kernel) rfl (by decide +kernel) (Nat.le_of_ble_eq_true rfl) rfl,
  fun d σ S l0 l1 l2 l3 l4 l5 l6 => ex_goto (show decode mX7_copy.2.1 176 = .ok (.goto (-32), 3) by decide +kernel) (by decide),
  fun d σ S l1 l2 l3 l4 l5 l6 k => ex_aload_n (show decode mX7_copy.2.1 179 = .ok (.aload_n 0, 1) by decide +kernel) rfl,
  fun d σ S l0 l1 l2 l3 l4 l6 x => ex_iload (show decode mX7_copy.2.1 180 = .ok (.iload 5, 2) by decide +kernel) rfl,
  fun d σ l0 l1 l2 l3 l4 l5 l6 x0 => ex_iv (hs := [930, 932, 55, 933, 101]) (show decode mX7_copy.2.1 182 = .ok (.invokevirtual 78, 3) by decide +kernel) lkV_7_78 ⟨rfl, Nat.le_of_ble_eq_true rfl, Nat.le_of_ble_eq_true rfl, fun _ => rfl⟩ rfl rfl,
  fun d σ l0 l1 l2 l3 l4 l5 l6 x => ex_iret (show decode mX7_copy.2.1 185 = .ok (.ireturn, 1) by decide +kernel) rfl⟩
theorem hX7_copy_107 : ∀ (d : Nat) (σ : Sg) (S : List Value) (l0 l1 l2 l3 l4 l5 : Value) (x : Int32), exec d mX7_copy 107 [l0, l1, l2, l3, l4, l5, .int x] S σ = exec d mX7_copy 109 [l0, l1, l2, l3, l4, l5, .int x] (.int x :: S) σ := fun d σ S l0 l1 l2 l3 l4 l5 x => ex_iload (show decode mX7_copy.2.1 107 = .ok (.iload 6, 2) by decide +kernel) rfl
theorem hX7_copy_144 : ∀ (d : Nat) (σ : Sg) (S : List Value) (l0 l1 l2 l3 l4 l5 : Value) (x : Int32), exec d mX7_copy 144 [l0, l1, l2, l3, l4, l5, .int x] S σ = exec d mX7_copy 146 [l0, l1, l2, l3, l4, l5, .int x] (.int x :: S) σ := fun d σ S l0 l1 l2 l3 l4 l5 x => ex_iload (show decode mX7_copy.2.1 144 = .ok (.iload 6, 2) by decide +kernel) rfl
theorem aX7_copy_50 : ∀ (d : Nat) (a1 : Int32) (a2 : Int32) (a3 : Int32) (a4 : Int32) (a5 : Int32) (σ : Sg), cal (d + 1) mX7_copy [.ref 50, .int a1, .int a2, .int a3, .int a4, .int a5] σ = exec d mX7_copy 0 [.ref 50, .int a1, .int a2, .int a3, .int a4, .int a5, uu] [] σ := fun _ _ _ _ _ _ _ => rfl
theorem kX7_drop : (∀ (d : Nat) (σ : Sg) (S : List Value) (l0 l2 : Value) (x : Int32), exec d mX7_drop 0 [l0, .int x, l2] S σ = exec d mX7_drop 1 [l0, .int x, l2] (.int x :: S) σ) ∧
  (∀ (d : Nat) (σ : Sg) (l0 l1 l2 : Value) (x0 : Int32), exec d mX7_drop 1 [l0, l1, l2] [.int x0] σ = kb (cal d mX7_isRow [.int x0] σ) (fun rs σ2 => exec d mX7_drop 4 [l0, l1, l2] (rs ++ []) σ2)) ∧
  (∀ (d : Nat) (σ : Sg) (S : List Value) (l0 l1 l2 : Value) (x : Int32), exec d mX7_drop 4 [l0, l1, l2] (.int x :: S) σ = if x = nI 0 then exec d mX7_drop 7 [l0, l1, l2] S σ else exec d mX7_drop 10 [l0, l1, l2] S σ) ∧
  (∀ (d : Nat) (σ : Sg) (S : List Value) (l0 l1 l2 : Value), exec d mX7_drop 7 [l0, l1, l2] S σ = exec d mX7_drop 9 [l0, l1, l2] (.int ((-1000001)) :: S) σ) ∧
  (∀ (d : Nat) (σ : Sg) (l0 l1 l2 : Value) (x : Int32), exec d mX7_drop 9 [l0, l1, l2] [.int x] σ = some (some (.int x), σ)) ∧
  (∀ (d : Nat) (σ : Sg) (S : List Value) (l1 l2 : Value) (k : Nat), exec d mX7_drop 10 [.ref k, l1, l2] S σ = exec d mX7_drop 11 [.ref k, l1, l2] (.ref k :: S) σ) ∧
  (∀ (d : Nat) (σ : Sg) (S : List Value) (l0 l1 l2 : Value), exec d mX7_drop 11 [l0, l1, l2] (.ref 50 :: S) σ = exec d mX7_drop 14 [l0, l1, l2] (.ref 55 :: S) σ) ∧
  (∀ (d : Nat) (σ : Sg) (S : List Value) (l0 l2 : Value) (x : Int32), exec d mX7_drop 14 [l0, .int x, l2] S σ = exec d mX7_drop 15 [l0, .int x, l2] (.int x :: S) σ) ∧
  (∀ (d : Nat) (σ : Sg) (S : List Value) (l0 l1 l2 : Value) (x : Int32), exec d mX7_drop 15 [l0, l1, l2] (.int x :: .ref 55 :: S) σ = if inb x 8 = true then exec d mX7_drop 16 [l0, l1, l2] (.int (σ 55 x.toNatClampNeg) :: S) σ else none) ∧
  (∀ (d : Nat) (σ : Sg) (S : List Value) (l0 l1 l2 : Value) (x : Int32), exec d mX7_drop 16 [l0, l1, l2] (.int x :: S) σ = if nI 0 ≤ x then exec d mX7_drop 25 [l0, l1, l2] S σ else exec d mX7_drop 19 [l0, l1, l2] S σ) ∧
  (∀ (d : Nat) (σ : Sg) (S : List Value) (l1 l2 : Value) (k : Nat), exec d mX7_drop 19 [.ref k, l1, l2] S σ = exec d mX7_drop 20 [.ref k, l1, l2] (.ref k :: S) σ) ∧
  (∀ (d : Nat) (σ : Sg) (S : List Value) (l0 l1 l2 : Value), exec d mX7_drop 20 [l0, l1, l2] S σ = exec d mX7_drop 21 [l0, l1, l2] (.int (nI 1) :: S) σ) ∧
  (∀ (d : Nat) (σ : Sg) (l0 l1 l2 : Value) (x0 : Int32), exec d mX7_drop 21 [l0, l1, l2] [.int x0, .ref 50] σ = kb (cal d mX7_found [.ref 50, .int x0] σ) (fun rs σ2 => exec d mX7_drop 24 [l0, l1, l2] (rs ++ []) σ2)) ∧
  (∀ (d : Nat) (σ : Sg) (l0 l1 l2 : Value) (x : Int32), exec d mX7_drop 24 [l0, l1, l2] [.int x] σ = some (some (.int x), σ)) ∧
  (∀ (d : Nat) (σ : Sg) (S : List Value) (l1 l2 : Value) (k : Nat), exec d mX7_drop 25 [.ref k, l1, l2] S σ = exec d mX7_drop 26 [.ref k, l1, l2] (.ref k :: S) σ) ∧
  (∀ (d : Nat) (σ : Sg) (S : List Value) (l0 l1 l2 : Value), exec d mX7_drop 26 [l0, l1, l2] (.ref 50 :: S) σ = exec d mX7_drop 29 [l0, l1, l2] (.ref 55 :: S) σ) ∧
  (∀ (d : Nat) (σ : Sg) (S : List Value) (l0 l2 : Value) (x : Int32), exec d mX7_drop 29 [l0, .int x, l2] S σ = exec d mX7_drop 30 [l0, .int x, l2] (.int x :: S) σ) ∧
  (∀ (d : Nat) (σ : Sg) (S : List Value) (l0 l1 l2 : Value) (x : Int32), exec d mX7_drop 30 [l0, l1, l2] (.int x :: .ref 55 :: S) σ = if inb x 8 = true then exec d mX7_drop 31 [l0, l1, l2] (.int (σ 55 x.toNatClampNeg) :: S) σ else none) ∧
  (∀ (d : Nat) (σ : Sg) (S : List Value) (l0 l2 : Value) (x y : Int32), exec d mX7_drop 31 [l0, .int y, l2] (.int x :: S) σ = exec d mX7_drop 32 [l0, .int y, .int x] S σ) ∧
  (∀ (d : Nat) (σ : Sg) (S : List Value) (l1 l2 : Value) (k : Nat), exec d mX7_drop 32 [.ref k, l1, l2] S σ = exec d mX7_drop 33 [.ref k, l1, l2] (.ref k :: S) σ) ∧
  (∀ (d : Nat) (σ : Sg) (S : List Value) (l0 l1 l2 : Value), exec d mX7_drop 33 [l0, l1, l2] (.ref 50 :: S) σ = exec d mX7_drop 36 [l0, l1, l2] (.ref 55 :: S) σ) ∧
  (∀ (d : Nat) (σ : Sg) (S : List Value) (l0 l2 : Value) (x : Int32), exec d mX7_drop 36 [l0, .int x, l2] S σ = exec d mX7_drop 37 [l0, .int x, l2] (.int x :: S) σ) ∧
  (∀ (d : Nat) (σ : Sg) (S : List Value) (l0 l1 l2 : Value), exec d mX7_drop 37 [l0, l1, l2] S σ = exec d mX7_drop 38 [l0, l1, l2] (.int ((-1)) :: S) σ) ∧
  (∀ (d : Nat) (σ : Sg) (S : List Value) (l0 l1 l2 : Value) (x y : Int32), exec d mX7_drop 38 [l0, l1, l2] (.int y :: .int x :: .ref 55 :: S) σ = if inb x 8 = true then exec d mX7_drop 39 [l0, l1, l2] S (up σ 55 x.toNatClampNeg y) else none) ∧
  (∀ (d : Nat) (σ : Sg) (S : List Value) (l1 l2 : Value) (k : Nat), exec d mX7_drop 39 [.ref k, l1, l2] S σ = exec d mX7_drop 40 [.ref k, l1, l2] (.ref k :: S) σ) ∧
  (∀ (d : Nat) (σ : Sg) (S : List Value) (l0 l1 : Value) (x : Int32), exec d mX7_drop 40 [l0, l1, .int x] S σ = exec d mX7_drop 41 [l0, l1, .int x] (.int x :: S) σ) ∧
  (∀ (d : Nat) (σ : Sg) (l0 l1 l2 : Value) (x0 : Int32), exec d mX7_drop 41 [l0, l1, l2] [.int x0, .ref 50] σ = kb (cal d mX7_good [.ref 50, .int x0] σ) (fun rs σ2 => exec d mX7_drop 44 [l0, l1, l2] (rs ++ []) σ2)) ∧
  (∀ (d : Nat) (σ : Sg) (l0 l1 l2 : Value) (x : Int32), exec d mX7_drop 44 [l0, l1, l2] [.int x] σ = some (some (.int x), σ)) :=
  ⟨fun d σ S l0 l2 x => ex_iload_n (show decode mX7_drop.2.1 0 = .ok (.iload_n 1, 1) by decide +kernel) rfl,
  fun d σ l0 l1 l2 x0 => ex_is (hs := [916, 917, 918, 101]) (show decode mX7_drop.2.1 1 = .ok (.invokestatic 67, 3) by decide +kernel) lkS_7_67 ⟨rfl, Nat.le_of_ble_eq_true rfl, Nat.le_of_ble_eq_true rfl, fun q => nomatch q⟩ rfl rfl,
  fun d σ S l0 l1 l2 x => ex_zne (show decode mX7_drop.2.1 4 = .ok (.ifCond .ne 6, 3) by decide +kernel) (by decide),
  fun d σ S l0 l1 l2 => ex_ldc (hh := 924) (show decode mX7_drop.2.1 7 = .ok (.ldc 73, 2) by decide +kernel) (by decide +kernel),
  fun d σ l0 l1 l2 x => ex_iret (show decode mX7_drop.2.1 9 = .ok (.ireturn, 1) by decide +kernel) rfl,
  fun d σ S l1 l2 k => ex_aload_n (show decode mX7_drop.2.1 10 = .ok (.aload_n 0, 1) by decide +kernel) rfl,
  fun d σ S l0 l1 l2 => ex_getr (idx := 23) (ci := 7) (ff := 5) (n := 26) (hh := 838) (by decide +kernel),
  fun d σ S l0 l2 x => ex_iload_n (show decode mX7_drop.2.1 14 = .ok (.iload_n 1, 1) by decide +kernel) rfl,
  fun d σ S l0 l1 l2 x => ex_iald (by decide +kernel),
  fun d σ S l0 l1 l2 x => ex_zge (show decode mX7_drop.2.1 16 = .ok (.ifCond .ge 9, 3) by decide +kernel) (by decide),
  fun d σ S l1 l2 k => ex_aload_n (show decode mX7_drop.2.1 19 = .ok (.aload_n 0, 1) by decide +kernel) rfl,
  fun d σ S l0 l1 l2 => ex_iconst (show decode mX7_drop.2.1 20 = .ok (.iconst 1, 1) by decide +kernel) (by decide +kernel),
  fun d σ l0 l1 l2 x0 => ex_iv (hs := [925, 927, 54, 928, 101]) (show decode mX7_drop.2.1 21 = .ok (.invokevirtual 74, 3) by decide +kernel) lkV_7_74 ⟨rfl, Nat.le_of_ble_eq_true rfl, Nat.le_of_ble_eq_true rfl, fun _ => rfl⟩ rfl rfl,
  fun d σ l0 l1 l2 x => ex_iret (show decode mX7_drop.2.1 24 = .ok (.ireturn, 1) by decide +kernel) rfl,
  fun d σ S l1 l2 k => ex_aload_n (show decode mX7_drop.2.1 25 = .ok (.aload_n 0, 1) by decide +kernel) rfl,
  fun d σ S l0 l1 l2 => ex_getr (idx := 23) (ci := 7) (ff := 5) (n := 26) (hh := 838) (by decide +kernel),
  fun d σ S l0 l2 x => ex_iload_n (show decode mX7_drop.2.1 29 = .ok (.iload_n 1, 1) by decide +kernel) rfl,
  fun d σ S l0 l1 l2 x => ex_iald (by decide +kernel),
  fun d σ S l0 l2 x y => ex_istore_n (show decode mX7_drop.2.1 31 = .ok (.istore_n 2, 1) by decide +kernel) (Nat.le_of_ble_eq_true rfl) rfl,
  fun d σ S l1 l2 k => ex_aload_n (show decode mX7_drop.2.1 32 = .ok (.aload_n 0, 1) by decide +kernel) rfl,
  fun d σ S l0 l1 l2 => ex_getr (idx := 23) (ci := 7) (ff := 5) (n := 26) (hh := 838) (by decide +kernel),
  fun d σ S l0 l2 x => ex_iload_n (show decode mX7_drop.2.1 36 = .ok (.iload_n 1, 1) by decide +kernel) rfl,
  fun d σ S l0 l1 l2 => ex_iconst (show decode mX7_drop.2.1 37 = .ok (.iconst (-1), 1) by decide +kernel) (by decide +kernel),
  fun d σ S l0 l1 l2 x y => ex_iast (by decide +kernel),
  fun d σ S l1 l2 k => ex_aload_n (show decode mX7_drop.2.1 39 = .ok (.aload_n 0, 1) by decide +kernel) rfl,
  fun d σ S l0 l1 x => ex_iload_n (show decode mX7_drop.2.1 40 = .ok (.iload_n 2, 1) by decide +kernel) rfl,
  fun d σ l0 l1 l2 x0 => ex_iv (hs := [930, 932, 55, 933, 101]) (show decode mX7_drop.2.1 41 = .ok (.invokevirtual 78, 3) by decide +kernel) lkV_7_78 ⟨rfl, Nat.le_of_ble_eq_true rfl, Nat.le_of_ble_eq_true rfl, fun _ => rfl⟩ rfl rfl,
  fun d σ l0 l1 l2 x => ex_iret (show decode mX7_drop.2.1 44 = .ok (.ireturn, 1) by decide +kernel) rfl⟩
theorem aX7_drop_50 : ∀ (d : Nat) (a1 : Int32) (σ : Sg), cal (d + 1) mX7_drop [.ref 50, .int a1] σ = exec d mX7_drop 0 [.ref 50, .int a1, uu] [] σ := fun _ _ _ => rfl
theorem kX7_against : (∀ (d : Nat) (σ : Sg) (S : List Value) (l1 l2 l3 : Value) (k : Nat), exec d mX7_against 0 [.ref k, l1, l2, l3] S σ = exec d mX7_against 1 [.ref k, l1, l2, l3] (.ref k :: S) σ) ∧
  (∀ (d : Nat) (σ : Sg) (S : List Value) (l0 l1 l2 l3 : Value), exec d mX7_against 1 [l0, l1, l2, l3] (.ref 50 :: S) σ = exec d mX7_against 4 [l0, l1, l2, l3] (.ref 55 :: S) σ) ∧
  (∀ (d : Nat) (σ : Sg) (S : List Value) (l0 l2 l3 : Value) (x : Int32), exec d mX7_against 4 [l0, .int x, l2, l3] S σ = exec d mX7_against 5 [l0, .int x, l2, l3] (.int x :: S) σ) ∧
  (∀ (d : Nat) (σ : Sg) (S : List Value) (l0 l1 l2 l3 : Value) (x : Int32), exec d mX7_against 5 [l0, l1, l2, l3] (.int x :: .ref 55 :: S) σ = if inb x 8 = true then exec d mX7_against 6 [l0, l1, l2, l3] (.int (σ 55 x.toNatClampNeg) :: S) σ else none) ∧
  (∀ (d : Nat) (σ : Sg) (S : List Value) (l0 l1 l2 l3 : Value) (x : Int32), exec d mX7_against 6 [l0, l1, l2, l3] (.int x :: S) σ = if nI 0 ≤ x then exec d mX7_against 15 [l0, l1, l2, l3] S σ else exec d mX7_against 9 [l0, l1, l2, l3] S σ) ∧
  (∀ (d : Nat) (σ : Sg) (S : List Value) (l1 l2 l3 : Value) (k : Nat), exec d mX7_against 9 [.ref k, l1, l2, l3] S σ = exec d mX7_against 10 [.ref k, l1, l2, l3] (.ref k :: S) σ) ∧
  (∀ (d : Nat) (σ : Sg) (S : List Value) (l0 l1 l2 l3 : Value), exec d mX7_against 10 [l0, l1, l2, l3] S σ = exec d mX7_against 11 [l0, l1, l2, l3] (.int (nI 1) :: S) σ) ∧
  (∀ (d : Nat) (σ : Sg) (l0 l1 l2 l3 : Value) (x0 : Int32), exec d mX7_against 11 [l0, l1, l2, l3] [.int x0, .ref 50] σ = kb (cal d mX7_found [.ref 50, .int x0] σ) (fun rs σ2 => exec d mX7_against 14 [l0, l1, l2, l3] (rs ++ []) σ2)) ∧
  (∀ (d : Nat) (σ : Sg) (l0 l1 l2 l3 : Value) (x : Int32), exec d mX7_against 14 [l0, l1, l2, l3] [.int x] σ = some (some (.int x), σ)) ∧
  (∀ (d : Nat) (σ : Sg) (S : List Value) (l0 l1 l3 : Value) (x : Int32), exec d mX7_against 15 [l0, l1, .int x, l3] S σ = exec d mX7_against 16 [l0, l1, .int x, l3] (.int x :: S) σ) ∧
  (∀ (d : Nat) (σ : Sg) (S : List Value) (l0 l1 l2 : Value) (x : Int32), exec d mX7_against 16 [l0, l1, l2, .int x] S σ = exec d mX7_against 17 [l0, l1, l2, .int x] (.int x :: S) σ) ∧
  (∀ (d : Nat) (σ : Sg) (S : List Value) (l1 l2 l3 : Value) (k : Nat), exec d mX7_against 17 [.ref k, l1, l2, l3] S σ = exec d mX7_against 18 [.ref k, l1, l2, l3] (.ref k :: S) σ) ∧
  (∀ (d : Nat) (σ : Sg) (S : List Value) (l0 l1 l2 l3 : Value), exec d mX7_against 18 [l0, l1, l2, l3] (.ref 50 :: S) σ = exec d mX7_against 21 [l0, l1, l2, l3] (.ref 55 :: S) σ) ∧
  (∀ (d : Nat) (σ : Sg) (S : List Value) (l0 l2 l3 : Value) (x : Int32), exec d mX7_against 21 [l0, .int x, l2, l3] S σ = exec d mX7_against 22 [l0, .int x, l2, l3] (.int x :: S) σ) ∧
  (∀ (d : Nat) (σ : Sg) (S : List Value) (l0 l1 l2 l3 : Value) (x : Int32), exec d mX7_against 22 [l0, l1, l2, l3] (.int x :: .ref 55 :: S) σ = if inb x 8 = true then exec d mX7_against 23 [l0, l1, l2, l3] (.int (σ 55 x.toNatClampNeg) :: S) σ else none) ∧
  (∀ (d : Nat) (σ : Sg) (l0 l1 l2 l3 : Value) (x0 x1 x2 : Int32), exec d mX7_against 23 [l0, l1, l2, l3] [.int x0, .int x1, .int x2] σ = kb (cal d mX7_fits [.int x2, .int x1, .int x0] σ) (fun rs σ2 => exec d mX7_against 26 [l0, l1, l2, l3] (rs ++ []) σ2)) ∧
  (∀ (d : Nat) (σ : Sg) (S : List Value) (l0 l1 l2 l3 : Value) (x : Int32), exec d mX7_against 26 [l0, l1, l2, l3] (.int x :: S) σ = if x = nI 0 then exec d mX7_against 33 [l0, l1, l2, l3] S σ else exec d mX7_against 29 [l0, l1, l2, l3] S σ) ∧
  (∀ (d : Nat) (σ : Sg) (S : List Value) (l0 l1 l2 l3 : Value), exec d mX7_against 29 [l0, l1, l2, l3] S σ = exec d mX7_against 30 [l0, l1, l2, l3] (.int (nI 0) :: S) σ) ∧
  (∀ (d : Nat) (σ : Sg) (S : List Value) (l0 l1 l2 l3 : Value), exec d mX7_against 30 [l0, l1, l2, l3] S σ = exec d mX7_against 38 [l0, l1, l2, l3] S σ) ∧
  (∀ (d : Nat) (σ : Sg) (S : List Value) (l1 l2 l3 : Value) (k : Nat), exec d mX7_against 33 [.ref k, l1, l2, l3] S σ = exec d mX7_against 34 [.ref k, l1, l2, l3] (.ref k :: S) σ) ∧
  (∀ (d : Nat) (σ : Sg) (S : List Value) (l0 l1 l2 l3 : Value), exec d mX7_against 34 [l0, l1, l2, l3] S σ = exec d mX7_against 35 [l0, l1, l2, l3] (.int (nI 2) :: S) σ) ∧
  (∀ (d : Nat) (σ : Sg) (l0 l1 l2 l3 : Value) (x0 : Int32), exec d mX7_against 35 [l0, l1, l2, l3] [.int x0, .ref 50] σ = kb (cal d mX7_found [.ref 50, .int x0] σ) (fun rs σ2 => exec d mX7_against 38 [l0, l1, l2, l3] (rs ++ []) σ2)) ∧
  (∀ (d : Nat) (σ : Sg) (l0 l1 l2 l3 : Value) (x : Int32), exec d mX7_against 38 [l0, l1, l2, l3] [.int x] σ = some (some (.int x), σ)) :=
  ⟨fun d σ S l1 l2 l3 k => ex_aload_n (show decode mX7_against.2.1 0 = .ok (.aload_n 0, 1) by decide +kernel) rfl,
  fun d σ S l0 l1 l2 l3 => ex_getr (idx := 23) (ci := 7) (ff := 5) (n := 26) (hh := 838) (by decide +kernel),
  fun d σ S l0 l2 l3 x => ex_iload_n (show decode mX7_against.2.1 4 = .ok (.iload_n 1, 1) by decide +kernel) rfl,
  fun d σ S l0 l1 l2 l3 x => ex_iald (by decide +kernel),
  fun d σ S l0 l1 l2 l3 x => ex_zge (show decode mX7_against.2.1 6 = .ok (.ifCond .ge 9, 3) by decide +kernel) (by decide),
  fun d σ S l1 l2 l3 k => ex_aload_n (show decode mX7_against.2.1 9 = .ok (.aload_n 0, 1) by decide +kernel) rfl,
  fun d σ S l0 l1 l2 l3 => ex_iconst (show decode mX7_against.2.1 10 = .ok (.iconst 1, 1) by decide +kernel) (by decide +kernel),
  fun d σ l0 l1 l2 l3 x0 => ex_iv (hs := [925, 927, 54, 928, 101]) (show decode mX7_against.2.1 11 = .ok (.invokevirtual 74, 3) by decide +kernel) lkV_7_74 ⟨rfl, Nat.le_of_ble_eq_true rfl, Nat.le_of_ble_eq_true rfl, fun _ => rfl⟩ rfl rfl,
  fun d σ l0 l1 l2 l3 x => ex_iret (show decode mX7_against.2.1 14 = .ok (.ireturn, 1) by decide +kernel) rfl,
  fun d σ S l0 l1 l3 x => ex_iload_n (show decode mX7_against.2.1 15 = .ok (.iload_n 2, 1) by decide +kernel) rfl,
  fun d σ S l0 l1 l2 x => ex_iload_n (show decode mX7_against.2.1 16 = .ok (.iload_n 3, 1) by decide +kernel) rfl,
  fun d σ S l1 l2 l3 k => ex_aload_n (show decode mX7_against.2.1 17 = .ok (.aload_n 0, 1) by decide +kernel) rfl,
  fun d σ S l0 l1 l2 l3 => ex_getr (idx := 23) (ci := 7) (ff := 5) (n := 26) (hh := 838) (by decide +kernel),
  fun d σ S l0 l2 l3 x => ex_iload_n (show decode mX7_against.2.1 21 = .ok (.iload_n 1, 1) by decide +kernel) rfl,
  fun d σ S l0 l1 l2 l3 x => ex_iald (by decide +kernel),
  fun d σ l0 l1 l2 l3 x0 x1 x2 => ex_is (hs := [942, 943, 944, 101]) (show decode mX7_against.2.1 23 = .ok (.invokestatic 81, 3) by decide +kernel) lkS_7_81 ⟨rfl, Nat.le_of_ble_eq_true rfl, Nat.le_of_ble_eq_true rfl, fun q => nomatch q⟩ rfl rfl,
  fun d σ S l0 l1 l2 l3 x => ex_zeq (show decode mX7_against.2.1 26 = .ok (.ifCond .eq 7, 3) by decide +kernel) (by decide),
  fun d σ S l0 l1 l2 l3 => ex_iconst (show decode mX7_against.2.1 29 = .ok (.iconst 0, 1) by decide +kernel) (by decide +kernel),
  fun d σ S l0 l1 l2 l3 => ex_goto (show decode mX7_against.2.1 30 = .ok (.goto 8, 3) by decide +kernel) (by decide),
  fun d σ S l1 l2 l3 k => ex_aload_n (show decode mX7_against.2.1 33 = .ok (.aload_n 0, 1) by decide +kernel) rfl,
  fun d σ S l0 l1 l2 l3 => ex_iconst (show decode mX7_against.2.1 34 = .ok (.iconst 2, 1) by decide +kernel) (by decide +kernel),
  fun d σ l0 l1 l2 l3 x0 => ex_iv (hs := [925, 927, 54, 928, 101]) (show decode mX7_against.2.1 35 = .ok (.invokevirtual 74, 3) by decide +kernel) lkV_7_74 ⟨rfl, Nat.le_of_ble_eq_true rfl, Nat.le_of_ble_eq_true rfl, fun _ => rfl⟩ rfl rfl,
  fun d σ l0 l1 l2 l3 x => ex_iret (show decode mX7_against.2.1 38 = .ok (.ireturn, 1) by decide +kernel) rfl⟩
theorem aX7_against_50 : ∀ (d : Nat) (a1 : Int32) (a2 : Int32) (a3 : Int32) (σ : Sg), cal (d + 1) mX7_against [.ref 50, .int a1, .int a2, .int a3] σ = exec d mX7_against 0 [.ref 50, .int a1, .int a2, .int a3] [] σ := fun _ _ _ _ _ => rfl
theorem kX7_feed : (∀ (d : Nat) (σ : Sg) (S : List Value) (l0 : Value) (x : Int32), exec d mX7_feed 0 [l0, .int x] S σ = exec d mX7_feed 1 [l0, .int x] (.int x :: S) σ) ∧
  (∀ (d : Nat) (σ : Sg) (S : List Value) (l0 l1 : Value) (x : Int32), exec d mX7_feed 1 [l0, l1] (.int x :: S) σ = exec d mX7_feed 2 [l0, l1] (.long x.toInt64 :: S) σ) ∧
  (∀ (d : Nat) (σ : Sg) (S : List Value) (l0 l1 : Value), exec d mX7_feed 2 [l0, l1] S σ = exec d mX7_feed 3 [l0, l1] (.long (lN 0) :: S) σ) ∧
  (∀ (d : Nat) (σ : Sg) (S : List Value) (l0 l1 : Value), exec d mX7_feed 3 [l0, l1] S σ = exec d mX7_feed 6 [l0, l1] (.long (lN 255) :: S) σ) ∧
  (∀ (d : Nat) (σ : Sg) (l0 l1 : Value) (x0 x1 x2 : Int64), exec d mX7_feed 6 [l0, l1] [.long x0, .long x1, .long x2] σ = kb (cal d mX7_in [.long x2, .long x1, .long x0] σ) (fun rs σ2 => exec d mX7_feed 9 [l0, l1] (rs ++ []) σ2)) ∧
  (∀ (d : Nat) (σ : Sg) (S : List Value) (l0 l1 : Value) (x : Int32), exec d mX7_feed 9 [l0, l1] (.int x :: S) σ = if x = nI 0 then exec d mX7_feed 12 [l0, l1] S σ else exec d mX7_feed 15 [l0, l1] S σ) ∧
  (∀ (d : Nat) (σ : Sg) (S : List Value) (l0 l1 : Value), exec d mX7_feed 12 [l0, l1] S σ = exec d mX7_feed 14 [l0, l1] (.int ((-1000001)) :: S) σ) ∧
  (∀ (d : Nat) (σ : Sg) (l0 l1 : Value) (x : Int32), exec d mX7_feed 14 [l0, l1] [.int x] σ = some (some (.int x), σ)) ∧
  (∀ (d : Nat) (σ : Sg) (S : List Value) (l1 : Value) (k : Nat), exec d mX7_feed 15 [.ref k, l1] S σ = exec d mX7_feed 16 [.ref k, l1] (.ref k :: S) σ) ∧
  (∀ (d : Nat) (σ : Sg) (S : List Value) (l0 l1 : Value), exec d mX7_feed 16 [l0, l1] (.ref 50 :: S) σ = exec d mX7_feed 19 [l0, l1] (.int (σ 50 9) :: S) σ) ∧
  (∀ (d : Nat) (σ : Sg) (S : List Value) (l0 l1 : Value), exec d mX7_feed 19 [l0, l1] S σ = exec d mX7_feed 21 [l0, l1] (.int (nI 120) :: S) σ) ∧
  (∀ (d : Nat) (σ : Sg) (S : List Value) (l0 l1 : Value) (x y : Int32), exec d mX7_feed 21 [l0, l1] (.int y :: .int x :: S) σ = if x = y then exec d mX7_feed 24 [l0, l1] S σ else exec d mX7_feed 27 [l0, l1] S σ) ∧
  (∀ (d : Nat) (σ : Sg) (S : List Value) (l0 l1 : Value), exec d mX7_feed 24 [l0, l1] S σ = exec d mX7_feed 26 [l0, l1] (.int ((-1000003)) :: S) σ) ∧
  (∀ (d : Nat) (σ : Sg) (l0 l1 : Value) (x : Int32), exec d mX7_feed 26 [l0, l1] [.int x] σ = some (some (.int x), σ)) ∧
  (∀ (d : Nat) (σ : Sg) (S : List Value) (l1 : Value) (k : Nat), exec d mX7_feed 27 [.ref k, l1] S σ = exec d mX7_feed 28 [.ref k, l1] (.ref k :: S) σ) ∧
  (∀ (d : Nat) (σ : Sg) (S : List Value) (l0 l1 : Value), exec d mX7_feed 28 [l0, l1] (.ref 50 :: S) σ = exec d mX7_feed 31 [l0, l1] (.ref 57 :: S) σ) ∧
  (∀ (d : Nat) (σ : Sg) (S : List Value) (l1 : Value) (k : Nat), exec d mX7_feed 31 [.ref k, l1] S σ = exec d mX7_feed 32 [.ref k, l1] (.ref k :: S) σ) ∧
  (∀ (d : Nat) (σ : Sg) (S : List Value) (l0 l1 : Value), exec d mX7_feed 32 [l0, l1] (.ref 50 :: S) σ = exec d mX7_feed 35 [l0, l1] (.int (σ 50 9) :: S) σ) ∧
  (∀ (d : Nat) (σ : Sg) (S : List Value) (l0 : Value) (x : Int32), exec d mX7_feed 35 [l0, .int x] S σ = exec d mX7_feed 36 [l0, .int x] (.int x :: S) σ) ∧
  (∀ (d : Nat) (σ : Sg) (S : List Value) (l0 l1 : Value) (x y : Int32), exec d mX7_feed 36 [l0, l1] (.int y :: .int x :: .ref 57 :: S) σ = if inb x 120 = true then exec d mX7_feed 37 [l0, l1] S (up σ 57 x.toNatClampNeg y) else none) ∧
  (∀ (d : Nat) (σ : Sg) (S : List Value) (l1 : Value) (k : Nat), exec d mX7_feed 37 [.ref k, l1] S σ = exec d mX7_feed 38 [.ref k, l1] (.ref k :: S) σ) ∧
  (∀ (d : Nat) (σ : Sg) (S : List Value) (l0 l1 : Value) (k : Nat), exec d mX7_feed 38 [l0, l1] (.ref k :: S) σ = exec d mX7_feed 39 [l0, l1] (.ref k :: .ref k :: S) σ) ∧
  (∀ (d : Nat) (σ : Sg) (S : List Value) (l0 l1 : Value), exec d mX7_feed 39 [l0, l1] (.ref 50 :: S) σ = exec d mX7_feed 42 [l0, l1] (.int (σ 50 9) :: S) σ) ∧
  (∀ (d : Nat) (σ : Sg) (S : List Value) (l0 l1 : Value), exec d mX7_feed 42 [l0, l1] S σ = exec d mX7_feed 43 [l0, l1] (.int (nI 1) :: S) σ) ∧
  (∀ (d : Nat) (σ : Sg) (S : List Value) (l0 l1 : Value) (x y : Int32), exec d mX7_feed 43 [l0, l1] (.int y :: .int x :: S) σ = exec d mX7_feed 44 [l0, l1] (.int (x + y) :: S) σ) ∧
  (∀ (d : Nat) (σ : Sg) (S : List Value) (l0 l1 : Value) (x : Int32), exec d mX7_feed 44 [l0, l1] (.int x :: .ref 50 :: S) σ = exec d mX7_feed 47 [l0, l1] S (up σ 50 9 x)) ∧
  (∀ (d : Nat) (σ : Sg) (S : List Value) (l1 : Value) (k : Nat), exec d mX7_feed 47 [.ref k, l1] S σ = exec d mX7_feed 48 [.ref k, l1] (.ref k :: S) σ) ∧
  (∀ (d : Nat) (σ : Sg) (S : List Value) (l0 l1 : Value), exec d mX7_feed 48 [l0, l1] (.ref 50 :: S) σ = exec d mX7_feed 51 [l0, l1] (.int (σ 50 9) :: S) σ) ∧
  (∀ (d : Nat) (σ : Sg) (l0 l1 : Value) (x : Int32), exec d mX7_feed 51 [l0, l1] [.int x] σ = some (some (.int x), σ)) :=
  ⟨fun d σ S l0 x => ex_iload_n (show decode mX7_feed.2.1 0 = .ok (.iload_n 1, 1) by decide +kernel) rfl,
  fun d σ S l0 l1 x => ex_i2l (show decode mX7_feed.2.1 1 = .ok (.i2l, 1) by decide +kernel),
  fun d σ S l0 l1 => ex_lconst (show decode mX7_feed.2.1 2 = .ok (.lconst 0, 1) by decide +kernel) (by decide +kernel),
  fun d σ S l0 l1 => ex_ldc2 (hh := 953) (show decode mX7_feed.2.1 3 = .ok (.ldc2_w 85, 3) by decide +kernel) (by decide +kernel),
  fun d σ l0 l1 x0 x1 x2 => ex_is (hs := [920, 921, 922, 101]) (show decode mX7_feed.2.1 6 = .ok (.invokestatic 63, 3) by decide +kernel) lkS_7_63 ⟨rfl, Nat.le_of_ble_eq_true rfl, Nat.le_of_ble_eq_true rfl, fun q => nomatch q⟩ rfl rfl,
  fun d σ S l0 l1 x => ex_zne (show decode mX7_feed.2.1 9 = .ok (.ifCond .ne 6, 3) by decide +kernel) (by decide),
  fun d σ S l0 l1 => ex_ldc (hh := 924) (show decode mX7_feed.2.1 12 = .ok (.ldc 73, 2) by decide +kernel) (by decide +kernel),
  fun d σ l0 l1 x => ex_iret (show decode mX7_feed.2.1 14 = .ok (.ireturn, 1) by decide +kernel) rfl,
  fun d σ S l1 k => ex_aload_n (show decode mX7_feed.2.1 15 = .ok (.aload_n 0, 1) by decide +kernel) rfl,
  fun d σ S l0 l1 => ex_get (idx := 87) (ci := 7) (ff := 9) (n := 26) (hh := 842) (by decide +kernel),
  fun d σ S l0 l1 => ex_bipush (show decode mX7_feed.2.1 19 = .ok (.bipush 120, 2) by decide +kernel) (by decide +kernel),
  fun d σ S l0 l1 x y => ex_cne (show decode mX7_feed.2.1 21 = .ok (.if_icmp .ne 6, 3) by decide +kernel) (by decide),
  fun d σ S l0 l1 => ex_ldc (hh := 954) (show decode mX7_feed.2.1 24 = .ok (.ldc 90, 2) by decide +kernel) (by decide +kernel),
  fun d σ l0 l1 x => ex_iret (show decode mX7_feed.2.1 26 = .ok (.ireturn, 1) by decide +kernel) rfl,
  fun d σ S l1 k => ex_aload_n (show decode mX7_feed.2.1 27 = .ok (.aload_n 0, 1) by decide +kernel) rfl,
  fun d σ S l0 l1 => ex_getr (idx := 29) (ci := 7) (ff := 8) (n := 26) (hh := 841) (by decide +kernel),
  fun d σ S l1 k => ex_aload_n (show decode mX7_feed.2.1 31 = .ok (.aload_n 0, 1) by decide +kernel) rfl,
  fun d σ S l0 l1 => ex_get (idx := 87) (ci := 7) (ff := 9) (n := 26) (hh := 842) (by decide +kernel),
  fun d σ S l0 x => ex_iload_n (show decode mX7_feed.2.1 35 = .ok (.iload_n 1, 1) by decide +kernel) rfl,
  fun d σ S l0 l1 x y => ex_iast (by decide +kernel),
  fun d σ S l1 k => ex_aload_n (show decode mX7_feed.2.1 37 = .ok (.aload_n 0, 1) by decide +kernel) rfl,
  fun d σ S l0 l1 k => ex_dup (show decode mX7_feed.2.1 38 = .ok (.dup, 1) by decide +kernel) rfl,
  fun d σ S l0 l1 => ex_get (idx := 87) (ci := 7) (ff := 9) (n := 26) (hh := 842) (by decide +kernel),
  fun d σ S l0 l1 => ex_iconst (show decode mX7_feed.2.1 42 = .ok (.iconst 1, 1) by decide +kernel) (by decide +kernel),
  fun d σ S l0 l1 x y => ex_iadd (show decode mX7_feed.2.1 43 = .ok (.iadd, 1) by decide +kernel),
  fun d σ S l0 l1 x => ex_put (idx := 87) (ci := 7) (ff := 9) (n := 26) (hh := 842) (by decide +kernel),
  fun d σ S l1 k => ex_aload_n (show decode mX7_feed.2.1 47 = .ok (.aload_n 0, 1) by decide +kernel) rfl,
  fun d σ S l0 l1 => ex_get (idx := 87) (ci := 7) (ff := 9) (n := 26) (hh := 842) (by decide +kernel),
  fun d σ l0 l1 x => ex_iret (show decode mX7_feed.2.1 51 = .ok (.ireturn, 1) by decide +kernel) rfl⟩
theorem aX7_feed_50 : ∀ (d : Nat) (a1 : Int32) (σ : Sg), cal (d + 1) mX7_feed [.ref 50, .int a1] σ = exec d mX7_feed 0 [.ref 50, .int a1] [] σ := fun _ _ _ => rfl
theorem kX7_byteAt : (∀ (d : Nat) (σ : Sg) (S : List Value) (l0 : Value) (x : Int32), exec d mX7_byteAt 0 [l0, .int x] S σ = exec d mX7_byteAt 1 [l0, .int x] (.int x :: S) σ) ∧
  (∀ (d : Nat) (σ : Sg) (S : List Value) (l1 : Value) (k : Nat), exec d mX7_byteAt 1 [.ref k, l1] S σ = exec d mX7_byteAt 2 [.ref k, l1] (.ref k :: S) σ) ∧
  (∀ (d : Nat) (σ : Sg) (S : List Value) (l0 l1 : Value), exec d mX7_byteAt 2 [l0, l1] (.ref 50 :: S) σ = exec d mX7_byteAt 5 [l0, l1] (.int (σ 50 9) :: S) σ) ∧
  (∀ (d : Nat) (σ : Sg) (S : List Value) (l0 l1 : Value) (x y : Int32), exec d mX7_byteAt 5 [l0, l1] (.int y :: .int x :: S) σ = if y ≤ x then exec d mX7_byteAt 17 [l0, l1] S σ else exec d mX7_byteAt 8 [l0, l1] S σ) ∧
  (∀ (d : Nat) (σ : Sg) (S : List Value) (l1 : Value) (k : Nat), exec d mX7_byteAt 8 [.ref k, l1] S σ = exec d mX7_byteAt 9 [.ref k, l1] (.ref k :: S) σ) ∧
  (∀ (d : Nat) (σ : Sg) (S : List Value) (l0 l1 : Value), exec d mX7_byteAt 9 [l0, l1] (.ref 50 :: S) σ = exec d mX7_byteAt 12 [l0, l1] (.ref 57 :: S) σ) ∧
  (∀ (d : Nat) (σ : Sg) (S : List Value) (l0 : Value) (x : Int32), exec d mX7_byteAt 12 [l0, .int x] S σ = exec d mX7_byteAt 13 [l0, .int x] (.int x :: S) σ) ∧
  (∀ (d : Nat) (σ : Sg) (S : List Value) (l0 l1 : Value) (x : Int32), exec d mX7_byteAt 13 [l0, l1] (.int x :: .ref 57 :: S) σ = if inb x 120 = true then exec d mX7_byteAt 14 [l0, l1] (.int (σ 57 x.toNatClampNeg) :: S) σ else none) ∧
  (∀ (d : Nat) (σ : Sg) (S : List Value) (l0 l1 : Value), exec d mX7_byteAt 14 [l0, l1] S σ = exec d mX7_byteAt 18 [l0, l1] S σ) ∧
  (∀ (d : Nat) (σ : Sg) (S : List Value) (l0 l1 : Value), exec d mX7_byteAt 17 [l0, l1] S σ = exec d mX7_byteAt 18 [l0, l1] (.int ((-1)) :: S) σ) ∧
  (∀ (d : Nat) (σ : Sg) (l0 l1 : Value) (x : Int32), exec d mX7_byteAt 18 [l0, l1] [.int x] σ = some (some (.int x), σ)) :=
  ⟨fun d σ S l0 x => ex_iload_n (show decode mX7_byteAt.2.1 0 = .ok (.iload_n 1, 1) by decide +kernel) rfl,
  fun d σ S l1 k => ex_aload_n (show decode mX7_byteAt.2.1 1 = .ok (.aload_n 0, 1) by decide +kernel) rfl,
  fun d σ S l0 l1 => ex_get (idx := 87) (ci := 7) (ff := 9) (n := 26) (hh := 842) (by decide +kernel),
  fun d σ S l0 l1 x y => ex_cge (show decode mX7_byteAt.2.1 5 = .ok (.if_icmp .ge 12, 3) by decide +kernel) (by decide),
  fun d σ S l1 k => ex_aload_n (show decode mX7_byteAt.2.1 8 = .ok (.aload_n 0, 1) by decide +kernel) rfl,
  fun d σ S l0 l1 => ex_getr (idx := 29) (ci := 7) (ff := 8) (n := 26) (hh := 841) (by decide +kernel),
  fun d σ S l0 x => ex_iload_n (show decode mX7_byteAt.2.1 12 = .ok (.iload_n 1, 1) by decide +kernel) rfl,
  fun d σ S l0 l1 x => ex_iald (by decide +kernel),
  fun d σ S l0 l1 => ex_goto (show decode mX7_byteAt.2.1 14 = .ok (.goto 4, 3) by decide +kernel) (by decide),
  fun d σ S l0 l1 => ex_iconst (show decode mX7_byteAt.2.1 17 = .ok (.iconst (-1), 1) by decide +kernel) (by decide +kernel),
  fun d σ l0 l1 x => ex_iret (show decode mX7_byteAt.2.1 18 = .ok (.ireturn, 1) by decide +kernel) rfl⟩
theorem aX7_byteAt_50 : ∀ (d : Nat) (a1 : Int32) (σ : Sg), cal (d + 1) mX7_byteAt [.ref 50, .int a1] σ = exec d mX7_byteAt 0 [.ref 50, .int a1] [] σ := fun _ _ _ => rfl
theorem kX7_fails : (∀ (d : Nat) (σ : Sg) (S : List Value) (l1 l2 : Value) (k : Nat), exec d mX7_fails 0 [.ref k, l1, l2] S σ = exec d mX7_fails 1 [.ref k, l1, l2] (.ref k :: S) σ) ∧
  (∀ (d : Nat) (σ : Sg) (S : List Value) (l0 l2 : Value) (x : Int32), exec d mX7_fails 1 [l0, .int x, l2] S σ = exec d mX7_fails 2 [l0, .int x, l2] (.int x :: S) σ) ∧
  (∀ (d : Nat) (σ : Sg) (S : List Value) (l0 l1 l2 : Value) (x : Int32), exec d mX7_fails 2 [l0, l1, l2] (.int x :: .ref 50 :: S) σ = exec d mX7_fails 5 [l0, l1, l2] S (up σ 50 10 x)) ∧
  (∀ (d : Nat) (σ : Sg) (S : List Value) (l1 l2 : Value) (k : Nat), exec d mX7_fails 5 [.ref k, l1, l2] S σ = exec d mX7_fails 6 [.ref k, l1, l2] (.ref k :: S) σ) ∧
  (∀ (d : Nat) (σ : Sg) (S : List Value) (l0 l1 : Value) (x : Int32), exec d mX7_fails 6 [l0, l1, .int x] S σ = exec d mX7_fails 7 [l0, l1, .int x] (.int x :: S) σ) ∧
  (∀ (d : Nat) (σ : Sg) (S : List Value) (l0 l1 l2 : Value) (x : Int32), exec d mX7_fails 7 [l0, l1, l2] (.int x :: .ref 50 :: S) σ = exec d mX7_fails 10 [l0, l1, l2] S (up σ 50 16 x)) ∧
  (∀ (d : Nat) (σ : Sg) (S : List Value) (l0 l1 l2 : Value), exec d mX7_fails 10 [l0, l1, l2] S σ = exec d mX7_fails 11 [l0, l1, l2] (.int (nI 0) :: S) σ) ∧
  (∀ (d : Nat) (σ : Sg) (l0 l1 l2 : Value) (x : Int32), exec d mX7_fails 11 [l0, l1, l2] [.int x] σ = if b01 x = true then some (some (.int x), σ) else none) :=
  ⟨fun d σ S l1 l2 k => ex_aload_n (show decode mX7_fails.2.1 0 = .ok (.aload_n 0, 1) by decide +kernel) rfl,
  fun d σ S l0 l2 x => ex_iload_n (show decode mX7_fails.2.1 1 = .ok (.iload_n 1, 1) by decide +kernel) rfl,
  fun d σ S l0 l1 l2 x => ex_put (idx := 91) (ci := 7) (ff := 10) (n := 26) (hh := 843) (by decide +kernel),
  fun d σ S l1 l2 k => ex_aload_n (show decode mX7_fails.2.1 5 = .ok (.aload_n 0, 1) by decide +kernel) rfl,
  fun d σ S l0 l1 x => ex_iload_n (show decode mX7_fails.2.1 6 = .ok (.iload_n 2, 1) by decide +kernel) rfl,
  fun d σ S l0 l1 l2 x => ex_put (idx := 94) (ci := 7) (ff := 16) (n := 26) (hh := 849) (by decide +kernel),
  fun d σ S l0 l1 l2 => ex_iconst (show decode mX7_fails.2.1 10 = .ok (.iconst 0, 1) by decide +kernel) (by decide +kernel),
  fun d σ l0 l1 l2 x => ex_zret (show decode mX7_fails.2.1 11 = .ok (.ireturn, 1) by decide +kernel) rfl⟩
theorem aX7_fails_50 : ∀ (d : Nat) (a1 : Int32) (a2 : Int32) (σ : Sg), cal (d + 1) mX7_fails [.ref 50, .int a1, .int a2] σ = exec d mX7_fails 0 [.ref 50, .int a1, .int a2] [] σ := fun _ _ _ _ => rfl
theorem kX7_takes : (∀ (d : Nat) (σ : Sg) (S : List Value) (l1 : Value) (k : Nat), exec d mX7_takes 0 [.ref k, l1] S σ = exec d mX7_takes 1 [.ref k, l1] (.ref k :: S) σ) ∧
  (∀ (d : Nat) (σ : Sg) (S : List Value) (l1 : Value) (k : Nat), exec d mX7_takes 1 [.ref k, l1] S σ = exec d mX7_takes 2 [.ref k, l1] (.ref k :: S) σ) ∧
  (∀ (d : Nat) (σ : Sg) (S : List Value) (l0 l1 : Value), exec d mX7_takes 2 [l0, l1] (.ref 50 :: S) σ = exec d mX7_takes 5 [l0, l1] (.int (σ 50 14) :: S) σ) ∧
  (∀ (d : Nat) (σ : Sg) (l0 l1 : Value) (x0 : Int32), exec d mX7_takes 5 [l0, l1] [.int x0, .ref 50] σ = kb (cal d mX7_byteAt [.ref 50, .int x0] σ) (fun rs σ2 => exec d mX7_takes 8 [l0, l1] (rs ++ []) σ2)) ∧
  (∀ (d : Nat) (σ : Sg) (S : List Value) (l0 : Value) (x : Int32), exec d mX7_takes 8 [l0, .int x] S σ = exec d mX7_takes 9 [l0, .int x] (.int x :: S) σ) ∧
  (∀ (d : Nat) (σ : Sg) (S : List Value) (l0 l1 : Value) (x y : Int32), exec d mX7_takes 9 [l0, l1] (.int y :: .int x :: S) σ = if x = y then exec d mX7_takes 22 [l0, l1] S σ else exec d mX7_takes 12 [l0, l1] S σ) ∧
  (∀ (d : Nat) (σ : Sg) (S : List Value) (l1 : Value) (k : Nat), exec d mX7_takes 12 [.ref k, l1] S σ = exec d mX7_takes 13 [.ref k, l1] (.ref k :: S) σ) ∧
  (∀ (d : Nat) (σ : Sg) (S : List Value) (l0 l1 : Value), exec d mX7_takes 13 [l0, l1] S σ = exec d mX7_takes 14 [l0, l1] (.int (nI 1) :: S) σ) ∧
  (∀ (d : Nat) (σ : Sg) (S : List Value) (l1 : Value) (k : Nat), exec d mX7_takes 14 [.ref k, l1] S σ = exec d mX7_takes 15 [.ref k, l1] (.ref k :: S) σ) ∧
  (∀ (d : Nat) (σ : Sg) (S : List Value) (l0 l1 : Value), exec d mX7_takes 15 [l0, l1] (.ref 50 :: S) σ = exec d mX7_takes 18 [l0, l1] (.int (σ 50 14) :: S) σ) ∧
  (∀ (d : Nat) (σ : Sg) (l0 l1 : Value) (x0 x1 : Int32), exec d mX7_takes 18 [l0, l1] [.int x0, .int x1, .ref 50] σ = kb (cal d mX7_fails [.ref 50, .int x1, .int x0] σ) (fun rs σ2 => exec d mX7_takes 21 [l0, l1] (rs ++ []) σ2)) ∧
  (∀ (d : Nat) (σ : Sg) (l0 l1 : Value) (x : Int32), exec d mX7_takes 21 [l0, l1] [.int x] σ = if b01 x = true then some (some (.int x), σ) else none) ∧
  (∀ (d : Nat) (σ : Sg) (S : List Value) (l1 : Value) (k : Nat), exec d mX7_takes 22 [.ref k, l1] S σ = exec d mX7_takes 23 [.ref k, l1] (.ref k :: S) σ) ∧
  (∀ (d : Nat) (σ : Sg) (S : List Value) (l0 l1 : Value) (k : Nat), exec d mX7_takes 23 [l0, l1] (.ref k :: S) σ = exec d mX7_takes 24 [l0, l1] (.ref k :: .ref k :: S) σ) ∧
  (∀ (d : Nat) (σ : Sg) (S : List Value) (l0 l1 : Value), exec d mX7_takes 24 [l0, l1] (.ref 50 :: S) σ = exec d mX7_takes 27 [l0, l1] (.int (σ 50 14) :: S) σ) ∧
  (∀ (d : Nat) (σ : Sg) (S : List Value) (l0 l1 : Value), exec d mX7_takes 27 [l0, l1] S σ = exec d mX7_takes 28 [l0, l1] (.int (nI 1) :: S) σ) ∧
  (∀ (d : Nat) (σ : Sg) (S : List Value) (l0 l1 : Value) (x y : Int32), exec d mX7_takes 28 [l0, l1] (.int y :: .int x :: S) σ = exec d mX7_takes 29 [l0, l1] (.int (x + y) :: S) σ) ∧
  (∀ (d : Nat) (σ : Sg) (S : List Value) (l0 l1 : Value) (x : Int32), exec d mX7_takes 29 [l0, l1] (.int x :: .ref 50 :: S) σ = exec d mX7_takes 32 [l0, l1] S (up σ 50 14 x)) ∧
  (∀ (d : Nat) (σ : Sg) (S : List Value) (l0 l1 : Value), exec d mX7_takes 32 [l0, l1] S σ = exec d mX7_takes 33 [l0, l1] (.int (nI 1) :: S) σ) ∧
  (∀ (d : Nat) (σ : Sg) (l0 l1 : Value) (x : Int32), exec d mX7_takes 33 [l0, l1] [.int x] σ = if b01 x = true then some (some (.int x), σ) else none) :=
  ⟨fun d σ S l1 k => ex_aload_n (show decode mX7_takes.2.1 0 = .ok (.aload_n 0, 1) by decide +kernel) rfl,
  fun d σ S l1 k => ex_aload_n (show decode mX7_takes.2.1 1 = .ok (.aload_n 0, 1) by decide +kernel) rfl,
  fun d σ S l0 l1 => ex_get (idx := 97) (ci := 7) (ff := 14) (n := 26) (hh := 847) (by decide +kernel),
  fun d σ l0 l1 x0 => ex_iv (hs := [967, 969, 58, 970, 101]) (show decode mX7_takes.2.1 5 = .ok (.invokevirtual 100, 3) by decide +kernel) lkV_7_100 ⟨rfl, Nat.le_of_ble_eq_true rfl, Nat.le_of_ble_eq_true rfl, fun _ => rfl⟩ rfl rfl,
  fun d σ S l0 x => ex_iload_n (show decode mX7_takes.2.1 8 = .ok (.iload_n 1, 1) by decide +kernel) rfl,
  fun d σ S l0 l1 x y => ex_ceq (show decode mX7_takes.2.1 9 = .ok (.if_icmp .eq 13, 3) by decide +kernel) (by decide),
  fun d σ S l1 k => ex_aload_n (show decode mX7_takes.2.1 12 = .ok (.aload_n 0, 1) by decide +kernel) rfl,
  fun d σ S l0 l1 => ex_iconst (show decode mX7_takes.2.1 13 = .ok (.iconst 1, 1) by decide +kernel) (by decide +kernel),
  fun d σ S l1 k => ex_aload_n (show decode mX7_takes.2.1 14 = .ok (.aload_n 0, 1) by decide +kernel) rfl,
  fun d σ S l0 l1 => ex_get (idx := 97) (ci := 7) (ff := 14) (n := 26) (hh := 847) (by decide +kernel),
  fun d σ l0 l1 x0 x1 => ex_iv (hs := [971, 973, 59, 974, 101]) (show decode mX7_takes.2.1 18 = .ok (.invokevirtual 103, 3) by decide +kernel) lkV_7_103 ⟨rfl, Nat.le_of_ble_eq_true rfl, Nat.le_of_ble_eq_true rfl, fun _ => rfl⟩ rfl rfl,
  fun d σ l0 l1 x => ex_zret (show decode mX7_takes.2.1 21 = .ok (.ireturn, 1) by decide +kernel) rfl,
  fun d σ S l1 k => ex_aload_n (show decode mX7_takes.2.1 22 = .ok (.aload_n 0, 1) by decide +kernel) rfl,
  fun d σ S l0 l1 k => ex_dup (show decode mX7_takes.2.1 23 = .ok (.dup, 1) by decide +kernel) rfl,
  fun d σ S l0 l1 => ex_get (idx := 97) (ci := 7) (ff := 14) (n := 26) (hh := 847) (by decide +kernel),
  fun d σ S l0 l1 => ex_iconst (show decode mX7_takes.2.1 27 = .ok (.iconst 1, 1) by decide +kernel) (by decide +kernel),
  fun d σ S l0 l1 x y => ex_iadd (show decode mX7_takes.2.1 28 = .ok (.iadd, 1) by decide +kernel),
  fun d σ S l0 l1 x => ex_put (idx := 97) (ci := 7) (ff := 14) (n := 26) (hh := 847) (by decide +kernel),
  fun d σ S l0 l1 => ex_iconst (show decode mX7_takes.2.1 32 = .ok (.iconst 1, 1) by decide +kernel) (by decide +kernel),
  fun d σ l0 l1 x => ex_zret (show decode mX7_takes.2.1 33 = .ok (.ireturn, 1) by decide +kernel) rfl⟩
theorem aX7_takes_50 : ∀ (d : Nat) (a1 : Int32) (σ : Sg), cal (d + 1) mX7_takes [.ref 50, .int a1] σ = exec d mX7_takes 0 [.ref 50, .int a1] [] σ := fun _ _ _ => rfl
theorem kX7_takesNumber_0 : (∀ (d : Nat) (σ : Sg) (S : List Value) (l1 l2 l3 l4 : Value) (k : Nat), exec d mX7_takesNumber 0 [.ref k, l1, l2, l3, l4] S σ = exec d mX7_takesNumber 1 [.ref k, l1, l2, l3, l4] (.ref k :: S) σ) ∧
  (∀ (d : Nat) (σ : Sg) (S : List Value) (l0 l1 l2 l3 l4 : Value), exec d mX7_takesNumber 1 [l0, l1, l2, l3, l4] (.ref 50 :: S) σ = exec d mX7_takesNumber 4 [l0, l1, l2, l3, l4] (.int (σ 50 14) :: S) σ) ∧
  (∀ (d : Nat) (σ : Sg) (S : List Value) (l0 l1 l2 l4 : Value) (x y : Int32), exec d mX7_takesNumber 4 [l0, l1, l2, .int y, l4] (.int x :: S) σ = exec d mX7_takesNumber 6 [l0, l1, l2, .int y, .int x] S σ) ∧
  (∀ (d : Nat) (σ : Sg) (S : List Value) (l1 l2 l3 l4 : Value) (k : Nat), exec d mX7_takesNumber 6 [.ref k, l1, l2, l3, l4] S σ = exec d mX7_takesNumber 7 [.ref k, l1, l2, l3, l4] (.ref k :: S) σ) ∧
  (∀ (d : Nat) (σ : Sg) (S : List Value) (l0 l1 l2 l3 l4 : Value), exec d mX7_takesNumber 7 [l0, l1, l2, l3, l4] S σ = exec d mX7_takesNumber 8 [l0, l1, l2, l3, l4] (.int (nI 0) :: S) σ) ∧
  (∀ (d : Nat) (σ : Sg) (S : List Value) (l0 l1 l2 l3 l4 : Value) (x : Int32), exec d mX7_takesNumber 8 [l0, l1, l2, l3, l4] (.int x :: .ref 50 :: S) σ = exec d mX7_takesNumber 11 [l0, l1, l2, l3, l4] S (up σ 50 15 x)) ∧
  (∀ (d : Nat) (σ : Sg) (S : List Value) (l1 l2 l3 l4 : Value) (k : Nat), exec d mX7_takesNumber 12 [.ref k, l1, l2, l3, l4] S σ = exec d mX7_takesNumber 13 [.ref k, l1, l2, l3, l4] (.ref k :: S) σ) ∧
  (∀ (d : Nat) (σ : Sg) (S : List Value) (l0 l1 l2 l3 l4 : Value), exec d mX7_takesNumber 13 [l0, l1, l2, l3, l4] (.ref 50 :: S) σ = exec d mX7_takesNumber 16 [l0, l1, l2, l3, l4] (.int (σ 50 14) :: S) σ) ∧
  (∀ (d : Nat) (σ : Sg) (l0 l1 l2 l3 l4 : Value) (x0 : Int32), exec d mX7_takesNumber 16 [l0, l1, l2, l3, l4] [.int x0, .ref 50] σ = kb (cal d mX7_byteAt [.ref 50, .int x0] σ) (fun rs σ2 => exec d mX7_takesNumber 19 [l0, l1, l2, l3, l4] (rs ++ []) σ2)) ∧
  (∀ (d : Nat) (σ : Sg) (S : List Value) (l0 l1 l2 l3 l4 : Value) (x : Int32), exec d mX7_takesNumber 19 [l0, l1, l2, l3, l4] (.int x :: S) σ = exec d mX7_takesNumber 20 [l0, l1, l2, l3, l4] (.long x.toInt64 :: S) σ) ∧
  (∀ (d : Nat) (σ : Sg) (S : List Value) (l0 l1 l2 l3 l4 : Value), exec d mX7_takesNumber 20 [l0, l1, l2, l3, l4] S σ = exec d mX7_takesNumber 23 [l0, l1, l2, l3, l4] (.long (lN 48) :: S) σ) ∧
  (∀ (d : Nat) (σ : Sg) (S : List Value) (l0 l1 l2 l3 l4 : Value), exec d mX7_takesNumber 23 [l0, l1, l2, l3, l4] S σ = exec d mX7_takesNumber 26 [l0, l1, l2, l3, l4] (.long (lN 57) :: S) σ) ∧
  (∀ (d : Nat) (σ : Sg) (l0 l1 l2 l3 l4 : Value) (x0 x1 x2 : Int64), exec d mX7_takesNumber 26 [l0, l1, l2, l3, l4] [.long x0, .long x1, .long x2] σ = kb (cal d mX7_in [.long x2, .long x1, .long x0] σ) (fun rs σ2 => exec d mX7_takesNumber 29 [l0, l1, l2, l3, l4] (rs ++ []) σ2)) ∧
  (∀ (d : Nat) (σ : Sg) (S : List Value) (l0 l1 l2 l3 l4 : Value) (x : Int32), exec d mX7_takesNumber 29 [l0, l1, l2, l3, l4] (.int x :: S) σ = if x = nI 0 then exec d mX7_takesNumber 86 [l0, l1, l2, l3, l4] S σ else exec d mX7_takesNumber 32 [l0, l1, l2, l3, l4] S σ) ∧
  (∀ (d : Nat) (σ : Sg) (S : List Value) (l1 l2 l3 l4 : Value) (k : Nat), exec d mX7_takesNumber 32 [.ref k, l1, l2, l3, l4] S σ = exec d mX7_takesNumber 33 [.ref k, l1, l2, l3, l4] (.ref k :: S) σ) ∧
  (∀ (d : Nat) (σ : Sg) (S : List Value) (l1 l2 l3 l4 : Value) (k : Nat), exec d mX7_takesNumber 33 [.ref k, l1, l2, l3, l4] S σ = exec d mX7_takesNumber 34 [.ref k, l1, l2, l3, l4] (.ref k :: S) σ) ∧
  (∀ (d : Nat) (σ : Sg) (S : List Value) (l0 l1 l2 l3 l4 : Value), exec d mX7_takesNumber 34 [l0, l1, l2, l3, l4] (.ref 50 :: S) σ = exec d mX7_takesNumber 37 [l0, l1, l2, l3, l4] (.int (σ 50 14) :: S) σ) ∧
  (∀ (d : Nat) (σ : Sg) (S : List Value) (l0 l1 l2 l3 : Value) (x : Int32), exec d mX7_takesNumber 37 [l0, l1, l2, l3, .int x] S σ = exec d mX7_takesNumber 39 [l0, l1, l2, l3, .int x] (.int x :: S) σ) ∧
  (∀ (d : Nat) (σ : Sg) (S : List Value) (l0 l1 l2 l3 l4 : Value) (x y : Int32), exec d mX7_takesNumber 39 [l0, l1, l2, l3, l4] (.int y :: .int x :: S) σ = exec d mX7_takesNumber 40 [l0, l1, l2, l3, l4] (.int (x - y) :: S) σ) ∧
  (∀ (d : Nat) (σ : Sg) (S : List Value) (l0 l1 l2 l3 l4 : Value), exec d mX7_takesNumber 40 [l0, l1, l2, l3, l4] S σ = exec d mX7_takesNumber 41 [l0, l1, l2, l3, l4] (.int (nI 2) :: S) σ) ∧
  (∀ (d : Nat) (σ : Sg) (S : List Value) (l0 l1 l2 l3 l4 : Value) (x y : Int32), exec d mX7_takesNumber 41 [l0, l1, l2, l3, l4] (.int y :: .int x :: S) σ = if y ≤ x then exec d mX7_takesNumber 66 [l0, l1, l2, l3, l4] S σ else exec d mX7_takesNumber 44 [l0, l1, l2, l3, l4] S σ) ∧
  (∀ (d : Nat) (σ : Sg) (S : List Value) (l0 l1 l2 l3 l4 : Value), exec d mX7_takesNumber 44 [l0, l1, l2, l3, l4] S σ = exec d mX7_takesNumber 46 [l0, l1, l2, l3, l4] (.int (nI 10) :: S) σ) ∧
  (∀ (d : Nat) (σ : Sg) (S : List Value) (l1 l2 l3 l4 : Value) (k : Nat), exec d mX7_takesNumber 46 [.ref k, l1, l2, l3, l4] S σ = exec d mX7_takesNumber 47 [.ref k, l1, l2, l3, l4] (.ref k :: S) σ) ∧
  (∀ (d : Nat) (σ : Sg) (S : List Value) (l0 l1 l2 l3 l4 : Value), exec d mX7_takesNumber 47 [l0, l1, l2, l3, l4] (.ref 50 :: S) σ = exec d mX7_takesNumber 50 [l0, l1, l2, l3, l4] (.int (σ 50 15) :: S) σ) ∧
  (∀ (d : Nat) (σ : Sg) (S : List Value) (l0 l1 l2 l3 l4 : Value) (x y : Int32), exec d mX7_takesNumber 50 [l0, l1, l2, l3, l4] (.int y :: .int x :: S) σ = exec d mX7_takesNumber 51 [l0, l1, l2, l3, l4] (.int (x * y) :: S) σ) ∧
  (∀ (d : Nat) (σ : Sg) (S : List Value) (l1 l2 l3 l4 : Value) (k : Nat), exec d mX7_takesNumber 51 [.ref k, l1, l2, l3, l4] S σ = exec d mX7_takesNumber 52 [.ref k, l1, l2, l3, l4] (.ref k :: S) σ) ∧
  (∀ (d : Nat) (σ : Sg) (S : List Value) (l1 l2 l3 l4 : Value) (k : Nat), exec d mX7_takesNumber 52 [.ref k, l1, l2, l3, l4] S σ = exec d mX7_takesNumber 53 [.ref k, l1, l2, l3, l4] (.ref k :: S) σ) ∧
  (∀ (d : Nat) (σ : Sg) (S : List Value) (l0 l1 l2 l3 l4 : Value), exec d mX7_takesNumber 53 [l0, l1, l2, l3, l4] (.ref 50 :: S) σ = exec d mX7_takesNumber 56 [l0, l1, l2, l3, l4] (.int (σ 50 14) :: S) σ) ∧
  (∀ (d : Nat) (σ : Sg) (l0 l1 l2 l3 l4 : Value) (x0 x2 : Int32), exec d mX7_takesNumber 56 [l0, l1, l2, l3, l4] [.int x0, .ref 50, .int x2, .ref 50] σ = kb (cal d mX7_byteAt [.ref 50, .int x0] σ) (fun rs σ2 => exec d mX7_takesNumber 59 [l0, l1, l2, l3, l4] (rs ++ [.int x2, .ref 50]) σ2)) ∧
  (∀ (d : Nat) (σ : Sg) (S : List Value) (l0 l1 l2 l3 l4 : Value) (x y : Int32), exec d mX7_takesNumber 59 [l0, l1, l2, l3, l4] (.int y :: .int x :: S) σ = exec d mX7_takesNumber 60 [l0, l1, l2, l3, l4] (.int (x + y) :: S) σ) ∧
  (∀ (d : Nat) (σ : Sg) (S : List Value) (l0 l1 l2 l3 l4 : Value), exec d mX7_takesNumber 60 [l0, l1, l2, l3, l4] S σ = exec d mX7_takesNumber 62 [l0, l1, l2, l3, l4] (.int (nI 48) :: S) σ) ∧
  (∀ (d : Nat) (σ : Sg) (S : List Value) (l0 l1 l2 l3 l4 : Value) (x y : Int32), exec d mX7_takesNumber 62 [l0, l1, l2, l3, l4] (.int y :: .int x :: S) σ = exec d mX7_takesNumber 63 [l0, l1, l2, l3, l4] (.int (x - y) :: S) σ) ∧
  (∀ (d : Nat) (σ : Sg) (S : List Value) (l0 l1 l2 l3 l4 : Value), exec d mX7_takesNumber 63 [l0, l1, l2, l3, l4] S σ = exec d mX7_takesNumber 70 [l0, l1, l2, l3, l4] S σ) ∧
  (∀ (d : Nat) (σ : Sg) (S : List Value) (l1 l2 l3 l4 : Value) (k : Nat), exec d mX7_takesNumber 66 [.ref k, l1, l2, l3, l4] S σ = exec d mX7_takesNumber 67 [.ref k, l1, l2, l3, l4] (.ref k :: S) σ) ∧
  (∀ (d : Nat) (σ : Sg) (S : List Value) (l0 l1 l2 l3 l4 : Value), exec d mX7_takesNumber 67 [l0, l1, l2, l3, l4] (.ref 50 :: S) σ = exec d mX7_takesNumber 70 [l0, l1, l2, l3, l4] (.int (σ 50 15) :: S) σ) ∧
  (∀ (d : Nat) (σ : Sg) (S : List Value) (l0 l1 l2 l3 l4 : Value) (x : Int32), exec d mX7_takesNumber 70 [l0, l1, l2, l3, l4] (.int x :: .ref 50 :: S) σ = exec d mX7_takesNumber 73 [l0, l1, l2, l3, l4] S (up σ 50 15 x)) ∧
  (∀ (d : Nat) (σ : Sg) (S : List Value) (l1 l2 l3 l4 : Value) (k : Nat), exec d mX7_takesNumber 73 [.ref k, l1, l2, l3, l4] S σ = exec d mX7_takesNumber 74 [.ref k, l1, l2, l3, l4] (.ref k :: S) σ) ∧
  (∀ (d : Nat) (σ : Sg) (S : List Value) (l0 l1 l2 l3 l4 : Value) (k : Nat), exec d mX7_takesNumber 74 [l0, l1, l2, l3, l4] (.ref k :: S) σ = exec d mX7_takesNumber 75 [l0, l1, l2, l3, l4] (.ref k :: .ref k :: S) σ) ∧
  (∀ (d : Nat) (σ : Sg) (S : List Value) (l0 l1 l2 l3 l4 : Value), exec d mX7_takesNumber 75 [l0, l1, l2, l3, l4] (.ref 50 :: S) σ = exec d mX7_takesNumber 78 [l0, l1, l2, l3, l4] (.int (σ 50 14) :: S) σ) ∧
  (∀ (d : Nat) (σ : Sg) (S : List Value) (l0 l1 l2 l3 l4 : Value), exec d mX7_takesNumber 78 [l0, l1, l2, l3, l4] S σ = exec d mX7_takesNumber 79 [l0, l1, l2, l3, l4] (.int (nI 1) :: S) σ) :=
  ⟨fun d σ S l1 l2 l3 l4 k => ex_aload_n (show decode mX7_takesNumber.2.1 0 = .ok (.aload_n 0, 1) by decide +kernel) rfl,
  fun d σ S l0 l1 l2 l3 l4 => ex_get (idx := 97) (ci := 7) (ff := 14) (n := 26) (hh := 847) (by decide +kernel),
  fun d σ S l0 l1 l2 l4 x y => ex_istore (show decode mX7_takesNumber.2.1 4 = .ok (.istore 4, 2) by decide +kernel) (Nat.le_of_ble_eq_true rfl) rfl,
  fun d σ S l1 l2 l3 l4 k => ex_aload_n (show decode mX7_takesNumber.2.1 6 = .ok (.aload_n 0, 1) by decide +kernel) rfl,
  fun d σ S l0 l1 l2 l3 l4 => ex_iconst (show decode mX7_takesNumber.2.1 7 = .ok (.iconst 0, 1) by decide +kernel) (by decide +kernel),
  fun d σ S l0 l1 l2 l3 l4 x => ex_put (idx := 107) (ci := 7) (ff := 15) (n := 26) (hh := 848) (by decide +kernel),
  fun d σ S l1 l2 l3 l4 k => ex_aload_n (show decode mX7_takesNumber.2.1 12 = .ok (.aload_n 0, 1) by decide +kernel) rfl,
  fun d σ S l0 l1 l2 l3 l4 => ex_get (idx := 97) (ci := 7) (ff := 14) (n := 26) (hh := 847) (by decide +kernel),
  fun d σ l0 l1 l2 l3 l4 x0 => ex_iv (hs := [967, 969, 58, 970, 101]) (show decode mX7_takesNumber.2.1 16 = .ok (.invokevirtual 100, 3) by decide +kernel) lkV_7_100 ⟨rfl, Nat.le_of_ble_eq_true rfl, Nat.le_of_ble_eq_true rfl, fun _ => rfl⟩ rfl rfl,
  fun d σ S l0 l1 l2 l3 l4 x => ex_i2l (show decode mX7_takesNumber.2.1 19 = .ok (.i2l, 1) by decide +kernel),
  fun d σ S l0 l1 l2 l3 l4 => ex_ldc2 (hh := 979) (show decode mX7_takesNumber.2.1 20 = .ok (.ldc2_w 110, 3) by decide +kernel) (by decide +kernel),
  fun d σ S l0 l1 l2 l3 l4 => ex_ldc2 (hh := 980) (show decode mX7_takesNumber.2.1 23 = .ok (.ldc2_w 112, 3) by decide +kernel) (by decide +kernel),
  fun d σ l0 l1 l2 l3 l4 x0 x1 x2 => ex_is (hs := [920, 921, 922, 101]) (show decode mX7_takesNumber.2.1 26 = .ok (.invokestatic 63, 3) by decide +kernel) lkS_7_63 ⟨rfl, Nat.le_of_ble_eq_true rfl, Nat.le_of_ble_eq_true rfl, fun q => nomatch q⟩ rfl rfl,
  fun d σ S l0 l1 l2 l3 l4 x => ex_zeq (show decode mX7_takesNumber.2.1 29 = .ok (.ifCond .eq 57, 3) by decide +kernel) (by decide),
  fun d σ S l1 l2 l3 l4 k => ex_aload_n (show decode mX7_takesNumber.2.1 32 = .ok (.aload_n 0, 1) by decide +kernel) rfl,
  fun d σ S l1 l2 l3 l4 k => ex_aload_n (show decode mX7_takesNumber.2.1 33 = .ok (.aload_n 0, 1) by decide +kernel) rfl,
  fun d σ S l0 l1 l2 l3 l4 => ex_get (idx := 97) (ci := 7) (ff := 14) (n := 26) (hh := 847) (by decide +kernel),
  fun d σ S l0 l1 l2 l3 x => ex_iload (show decode mX7_takesNumber.2.1 37 = .ok (.iload 4, 2) by decide +kernel) rfl,
  fun d σ S l0 l1 l2 l3 l4 x y => ex_isub (show decode mX7_takesNumber.2.1 39 = .ok (.isub, 1) by decide +kernel),
  fun d σ S l0 l1 l2 l3 l4 => ex_iconst (show decode mX7_takesNumber.2.1 40 = .ok (.iconst 2, 1) by decide +kernel) (by decide +kernel),
  fun d σ S l0 l1 l2 l3 l4 x y => ex_cge (show decode mX7_takesNumber.2.1 41 = .ok (.if_icmp .ge 25, 3) by decide +kernel) (by decide),
  fun d σ S l0 l1 l2 l3 l4 => ex_bipush (show decode mX7_takesNumber.2.1 44 = .ok (.bipush 10, 2) by decide +kernel) (by decide +kernel),
  fun d σ S l1 l2 l3 l4 k => ex_aload_n (show decode mX7_takesNumber.2.1 46 = .ok (.aload_n 0, 1) by decide +kernel) rfl,
  fun d σ S l0 l1 l2 l3 l4 => ex_get (idx := 107) (ci := 7) (ff := 15) (n := 26) (hh := 848) (by decide +kernel),
  fun d σ S l0 l1 l2 l3 l4 x y => ex_imul (show decode mX7_takesNumber.2.1 50 = .ok (.imul, 1) by decide +kernel),
  fun d σ S l1 l2 l3 l4 k => ex_aload_n (show decode mX7_takesNumber.2.1 51 = .ok (.aload_n 0, 1) by decide +kernel) rfl,
  fun d σ S l1 l2 l3 l4 k => ex_aload_n (show decode mX7_takesNumber.2.1 52 = .ok (.aload_n 0, 1) by decide +kernel) rfl,
  fun d σ S l0 l1 l2 l3 l4 => ex_get (idx := 97) (ci := 7) (ff := 14) (n := 26) (hh := 847) (by decide +kernel),
  fun d σ l0 l1 l2 l3 l4 x0 x2 => ex_iv (hs := [967, 969, 58, 970, 101]) (show decode mX7_takesNumber.2.1 56 = .ok (.invokevirtual 100, 3) by decide +kernel) lkV_7_100 ⟨rfl, Nat.le_of_ble_eq_true rfl, Nat.le_of_ble_eq_true rfl, fun _ => rfl⟩ rfl rfl,
  fun d σ S l0 l1 l2 l3 l4 x y => ex_iadd (show decode mX7_takesNumber.2.1 59 = .ok (.iadd, 1) by decide +kernel),
  fun d σ S l0 l1 l2 l3 l4 => ex_bipush (show decode mX7_takesNumber.2.1 60 = .ok (.bipush 48, 2) by decide +kernel) (by decide +kernel),
  fun d σ S l0 l1 l2 l3 l4 x y => ex_isub (show decode mX7_takesNumber.2.1 62 = .ok (.isub, 1) by decide +kernel),
  fun d σ S l0 l1 l2 l3 l4 => ex_goto (show decode mX7_takesNumber.2.1 63 = .ok (.goto 7, 3) by decide +kernel) (by decide),
  fun d σ S l1 l2 l3 l4 k => ex_aload_n (show decode mX7_takesNumber.2.1 66 = .ok (.aload_n 0, 1) by decide +kernel) rfl,
  fun d σ S l0 l1 l2 l3 l4 => ex_get (idx := 107) (ci := 7) (ff := 15) (n := 26) (hh := 848) (by decide +kernel),
  fun d σ S l0 l1 l2 l3 l4 x => ex_put (idx := 107) (ci := 7) (ff := 15) (n := 26) (hh := 848) (by decide +kernel),
  fun d σ S l1 l2 l3 l4 k => ex_aload_n (show decode mX7_takesNumber.2.1 73 = .ok (.aload_n 0, 1) by decide +kernel) rfl,
  fun d σ S l0 l1 l2 l3 l4 k => ex_dup (show decode mX7_takesNumber.2.1 74 = .ok (.dup, 1) by decide +kernel) rfl,
  fun d σ S l0 l1 l2 l3 l4 => ex_get (idx := 97) (ci := 7) (ff := 14) (n := 26) (hh := 847) (by decide +kernel),
  fun d σ S l0 l1 l2 l3 l4 => ex_iconst (show decode mX7_takesNumber.2.1 78 = .ok (.iconst 1, 1) by decide +kernel) (by decide +kernel)⟩
theorem kX7_takesNumber_1 : (∀ (d : Nat) (σ : Sg) (S : List Value) (l0 l1 l2 l3 l4 : Value) (x y : Int32), exec d mX7_takesNumber 79 [l0, l1, l2, l3, l4] (.int y :: .int x :: S) σ = exec d mX7_takesNumber 80 [l0, l1, l2, l3, l4] (.int (x + y) :: S) σ) ∧
  (∀ (d : Nat) (σ : Sg) (S : List Value) (l0 l1 l2 l3 l4 : Value) (x : Int32), exec d mX7_takesNumber 80 [l0, l1, l2, l3, l4] (.int x :: .ref 50 :: S) σ = exec d mX7_takesNumber 83 [l0, l1, l2, l3, l4] S (up σ 50 14 x)) ∧
  (∀ (d : Nat) (σ : Sg) (S : List Value) (l0 l1 l2 l3 l4 : Value), exec d mX7_takesNumber 83 [l0, l1, l2, l3, l4] S σ = exec d mX7_takesNumber 11 [l0, l1, l2, l3, l4] S σ) ∧
  (∀ (d : Nat) (σ : Sg) (S : List Value) (l1 l2 l3 l4 : Value) (k : Nat), exec d mX7_takesNumber 86 [.ref k, l1, l2, l3, l4] S σ = exec d mX7_takesNumber 87 [.ref k, l1, l2, l3, l4] (.ref k :: S) σ) ∧
  (∀ (d : Nat) (σ : Sg) (S : List Value) (l0 l1 l2 l3 l4 : Value), exec d mX7_takesNumber 87 [l0, l1, l2, l3, l4] (.ref 50 :: S) σ = exec d mX7_takesNumber 90 [l0, l1, l2, l3, l4] (.int (σ 50 14) :: S) σ) ∧
  (∀ (d : Nat) (σ : Sg) (S : List Value) (l0 l1 l2 l3 : Value) (x : Int32), exec d mX7_takesNumber 90 [l0, l1, l2, l3, .int x] S σ = exec d mX7_takesNumber 92 [l0, l1, l2, l3, .int x] (.int x :: S) σ) ∧
  (∀ (d : Nat) (σ : Sg) (S : List Value) (l0 l1 l2 l3 l4 : Value) (x y : Int32), exec d mX7_takesNumber 92 [l0, l1, l2, l3, l4] (.int y :: .int x :: S) σ = if x = y then exec d mX7_takesNumber 106 [l0, l1, l2, l3, l4] S σ else exec d mX7_takesNumber 95 [l0, l1, l2, l3, l4] S σ) ∧
  (∀ (d : Nat) (σ : Sg) (S : List Value) (l1 l2 l3 l4 : Value) (k : Nat), exec d mX7_takesNumber 95 [.ref k, l1, l2, l3, l4] S σ = exec d mX7_takesNumber 96 [.ref k, l1, l2, l3, l4] (.ref k :: S) σ) ∧
  (∀ (d : Nat) (σ : Sg) (S : List Value) (l0 l1 l2 l3 l4 : Value), exec d mX7_takesNumber 96 [l0, l1, l2, l3, l4] (.ref 50 :: S) σ = exec d mX7_takesNumber 99 [l0, l1, l2, l3, l4] (.int (σ 50 14) :: S) σ) ∧
  (∀ (d : Nat) (σ : Sg) (S : List Value) (l0 l1 l2 l3 : Value) (x : Int32), exec d mX7_takesNumber 99 [l0, l1, l2, l3, .int x] S σ = exec d mX7_takesNumber 101 [l0, l1, l2, l3, .int x] (.int x :: S) σ) ∧
  (∀ (d : Nat) (σ : Sg) (S : List Value) (l0 l1 l2 l3 l4 : Value) (x y : Int32), exec d mX7_takesNumber 101 [l0, l1, l2, l3, l4] (.int y :: .int x :: S) σ = exec d mX7_takesNumber 102 [l0, l1, l2, l3, l4] (.int (x - y) :: S) σ) ∧
  (∀ (d : Nat) (σ : Sg) (S : List Value) (l0 l1 l2 l3 l4 : Value), exec d mX7_takesNumber 102 [l0, l1, l2, l3, l4] S σ = exec d mX7_takesNumber 103 [l0, l1, l2, l3, l4] (.int (nI 2) :: S) σ) ∧
  (∀ (d : Nat) (σ : Sg) (S : List Value) (l0 l1 l2 l3 l4 : Value) (x y : Int32), exec d mX7_takesNumber 103 [l0, l1, l2, l3, l4] (.int y :: .int x :: S) σ = if x ≤ y then exec d mX7_takesNumber 114 [l0, l1, l2, l3, l4] S σ else exec d mX7_takesNumber 106 [l0, l1, l2, l3, l4] S σ) ∧
  (∀ (d : Nat) (σ : Sg) (S : List Value) (l1 l2 l3 l4 : Value) (k : Nat), exec d mX7_takesNumber 106 [.ref k, l1, l2, l3, l4] S σ = exec d mX7_takesNumber 107 [.ref k, l1, l2, l3, l4] (.ref k :: S) σ) ∧
  (∀ (d : Nat) (σ : Sg) (S : List Value) (l0 l1 l2 l3 l4 : Value), exec d mX7_takesNumber 107 [l0, l1, l2, l3, l4] S σ = exec d mX7_takesNumber 108 [l0, l1, l2, l3, l4] (.int (nI 1) :: S) σ) ∧
  (∀ (d : Nat) (σ : Sg) (S : List Value) (l0 l1 l2 l3 : Value) (x : Int32), exec d mX7_takesNumber 108 [l0, l1, l2, l3, .int x] S σ = exec d mX7_takesNumber 110 [l0, l1, l2, l3, .int x] (.int x :: S) σ) ∧
  (∀ (d : Nat) (σ : Sg) (l0 l1 l2 l3 l4 : Value) (x0 x1 : Int32), exec d mX7_takesNumber 110 [l0, l1, l2, l3, l4] [.int x0, .int x1, .ref 50] σ = kb (cal d mX7_fails [.ref 50, .int x1, .int x0] σ) (fun rs σ2 => exec d mX7_takesNumber 113 [l0, l1, l2, l3, l4] (rs ++ []) σ2)) ∧
  (∀ (d : Nat) (σ : Sg) (l0 l1 l2 l3 l4 : Value) (x : Int32), exec d mX7_takesNumber 113 [l0, l1, l2, l3, l4] [.int x] σ = if b01 x = true then some (some (.int x), σ) else none) ∧
  (∀ (d : Nat) (σ : Sg) (S : List Value) (l1 l2 l3 l4 : Value) (k : Nat), exec d mX7_takesNumber 114 [.ref k, l1, l2, l3, l4] S σ = exec d mX7_takesNumber 115 [.ref k, l1, l2, l3, l4] (.ref k :: S) σ) ∧
  (∀ (d : Nat) (σ : Sg) (S : List Value) (l0 l1 l2 l3 l4 : Value), exec d mX7_takesNumber 115 [l0, l1, l2, l3, l4] (.ref 50 :: S) σ = exec d mX7_takesNumber 118 [l0, l1, l2, l3, l4] (.int (σ 50 15) :: S) σ) ∧
  (∀ (d : Nat) (σ : Sg) (S : List Value) (l0 l1 l2 l3 l4 : Value) (x : Int32), exec d mX7_takesNumber 118 [l0, l1, l2, l3, l4] (.int x :: S) σ = exec d mX7_takesNumber 119 [l0, l1, l2, l3, l4] (.long x.toInt64 :: S) σ) ∧
  (∀ (d : Nat) (σ : Sg) (S : List Value) (l0 l2 l3 l4 : Value) (x : Int32), exec d mX7_takesNumber 119 [l0, .int x, l2, l3, l4] S σ = exec d mX7_takesNumber 120 [l0, .int x, l2, l3, l4] (.int x :: S) σ) ∧
  (∀ (d : Nat) (σ : Sg) (S : List Value) (l0 l1 l2 l3 l4 : Value) (x : Int32), exec d mX7_takesNumber 120 [l0, l1, l2, l3, l4] (.int x :: S) σ = exec d mX7_takesNumber 121 [l0, l1, l2, l3, l4] (.long x.toInt64 :: S) σ) ∧
  (∀ (d : Nat) (σ : Sg) (S : List Value) (l0 l1 l3 l4 : Value) (x : Int32), exec d mX7_takesNumber 121 [l0, l1, .int x, l3, l4] S σ = exec d mX7_takesNumber 122 [l0, l1, .int x, l3, l4] (.int x :: S) σ) ∧
  (∀ (d : Nat) (σ : Sg) (S : List Value) (l0 l1 l2 l3 l4 : Value) (x : Int32), exec d mX7_takesNumber 122 [l0, l1, l2, l3, l4] (.int x :: S) σ = exec d mX7_takesNumber 123 [l0, l1, l2, l3, l4] (.long x.toInt64 :: S) σ) ∧
  (∀ (d : Nat) (σ : Sg) (l0 l1 l2 l3 l4 : Value) (x0 x1 x2 : Int64), exec d mX7_takesNumber 123 [l0, l1, l2, l3, l4] [.long x0, .long x1, .long x2] σ = kb (cal d mX7_in [.long x2, .long x1, .long x0] σ) (fun rs σ2 => exec d mX7_takesNumber 126 [l0, l1, l2, l3, l4] (rs ++ []) σ2)) ∧
  (∀ (d : Nat) (σ : Sg) (S : List Value) (l0 l1 l2 l3 l4 : Value) (x : Int32), exec d mX7_takesNumber 126 [l0, l1, l2, l3, l4] (.int x :: S) σ = if x = nI 0 then exec d mX7_takesNumber 137 [l0, l1, l2, l3, l4] S σ else exec d mX7_takesNumber 129 [l0, l1, l2, l3, l4] S σ) ∧
  (∀ (d : Nat) (σ : Sg) (S : List Value) (l1 l2 l3 l4 : Value) (k : Nat), exec d mX7_takesNumber 129 [.ref k, l1, l2, l3, l4] S σ = exec d mX7_takesNumber 130 [.ref k, l1, l2, l3, l4] (.ref k :: S) σ) ∧
  (∀ (d : Nat) (σ : Sg) (S : List Value) (l0 l1 l2 l4 : Value) (x : Int32), exec d mX7_takesNumber 130 [l0, l1, l2, .int x, l4] S σ = exec d mX7_takesNumber 131 [l0, l1, l2, .int x, l4] (.int x :: S) σ) ∧
  (∀ (d : Nat) (σ : Sg) (l0 l1 l2 l3 l4 : Value) (x0 : Int32), exec d mX7_takesNumber 131 [l0, l1, l2, l3, l4] [.int x0, .ref 50] σ = kb (cal d mX7_takes [.ref 50, .int x0] σ) (fun rs σ2 => exec d mX7_takesNumber 134 [l0, l1, l2, l3, l4] (rs ++ []) σ2)) ∧
  (∀ (d : Nat) (σ : Sg) (S : List Value) (l0 l1 l2 l3 l4 : Value), exec d mX7_takesNumber 134 [l0, l1, l2, l3, l4] S σ = exec d mX7_takesNumber 144 [l0, l1, l2, l3, l4] S σ) ∧
  (∀ (d : Nat) (σ : Sg) (S : List Value) (l1 l2 l3 l4 : Value) (k : Nat), exec d mX7_takesNumber 137 [.ref k, l1, l2, l3, l4] S σ = exec d mX7_takesNumber 138 [.ref k, l1, l2, l3, l4] (.ref k :: S) σ) ∧
  (∀ (d : Nat) (σ : Sg) (S : List Value) (l0 l1 l2 l3 l4 : Value), exec d mX7_takesNumber 138 [l0, l1, l2, l3, l4] S σ = exec d mX7_takesNumber 139 [l0, l1, l2, l3, l4] (.int (nI 2) :: S) σ) ∧
  (∀ (d : Nat) (σ : Sg) (S : List Value) (l0 l1 l2 l3 : Value) (x : Int32), exec d mX7_takesNumber 139 [l0, l1, l2, l3, .int x] S σ = exec d mX7_takesNumber 141 [l0, l1, l2, l3, .int x] (.int x :: S) σ) ∧
  (∀ (d : Nat) (σ : Sg) (l0 l1 l2 l3 l4 : Value) (x0 x1 : Int32), exec d mX7_takesNumber 141 [l0, l1, l2, l3, l4] [.int x0, .int x1, .ref 50] σ = kb (cal d mX7_fails [.ref 50, .int x1, .int x0] σ) (fun rs σ2 => exec d mX7_takesNumber 144 [l0, l1, l2, l3, l4] (rs ++ []) σ2)) ∧
  (∀ (d : Nat) (σ : Sg) (l0 l1 l2 l3 l4 : Value) (x : Int32), exec d mX7_takesNumber 144 [l0, l1, l2, l3, l4] [.int x] σ = if b01 x = true then some (some (.int x), σ) else none) :=
  ⟨fun d σ S l0 l1 l2 l3 l4 x y => ex_iadd (show decode mX7_takesNumber.2.1 79 = .ok (.iadd, 1) by decide +kernel),
  fun d σ S l0 l1 l2 l3 l4 x => ex_put (idx := 97) (ci := 7) (ff := 14) (n := 26) (hh := 847) (by decide +kernel),
  fun d σ S l0 l1 l2 l3 l4 => ex_goto (show decode mX7_takesNumber.2.1 83 = .ok (.goto (-72), 3) by decide +kernel) (by decide),
  fun d σ S l1 l2 l3 l4 k => ex_aload_n (show decode mX7_takesNumber.2.1 86 = .ok (.aload_n 0, 1) by decide +kernel) rfl,
  fun d σ S l0 l1 l2 l3 l4 => ex_get (idx := 97) (ci := 7) (ff := 14) (n := 26) (hh := 847) (by decide +kernel),
  fun d σ S l0 l1 l2 l3 x => ex_iload (show decode mX7_takesNumber.2.1 90 = .ok (.iload 4, 2) by decide +kernel) rfl,
  fun d σ S l0 l1 l2 l3 l4 x y => ex_ceq (show decode mX7_takesNumber.2.1 92 = .ok (.if_icmp .eq 14, 3) by decide +kernel) (by decide),
  fun d σ S l1 l2 l3 l4 k => ex_aload_n (show decode mX7_takesNumber.2.1 95 = .ok (.aload_n 0, 1) by decide +kernel) rfl,
  fun d σ S l0 l1 l2 l3 l4 => ex_get (idx := 97) (ci := 7) (ff := 14) (n := 26) (hh := 847) (by decide +kernel),
  fun d σ S l0 l1 l2 l3 x => ex_iload (show decode mX7_takesNumber.2.1 99 = .ok (.iload 4, 2) by decide +kernel) rfl,
  fun d σ S l0 l1 l2 l3 l4 x y => ex_isub (show decode mX7_takesNumber.2.1 101 = .ok (.isub, 1) by decide +kernel),
  fun d σ S l0 l1 l2 l3 l4 => ex_iconst (show decode mX7_takesNumber.2.1 102 = .ok (.iconst 2, 1) by decide +kernel) (by decide +kernel),
  fun d σ S l0 l1 l2 l3 l4 x y => ex_cle (show decode mX7_takesNumber.2.1 103 = .ok (.if_icmp .le 11, 3) by decide +kernel) (by decide),
  fun d σ S l1 l2 l3 l4 k => ex_aload_n (show decode mX7_takesNumber.2.1 106 = .ok (.aload_n 0, 1) by decide +kernel) rfl,
  fun d σ S l0 l1 l2 l3 l4 => ex_iconst (show decode mX7_takesNumber.2.1 107 = .ok (.iconst 1, 1) by decide +kernel) (by decide +kernel),
  fun d σ S l0 l1 l2 l3 x => ex_iload (show decode mX7_takesNumber.2.1 108 = .ok (.iload 4, 2) by decide +kernel) rfl,
  fun d σ l0 l1 l2 l3 l4 x0 x1 => ex_iv (hs := [971, 973, 59, 974, 101]) (show decode mX7_takesNumber.2.1 110 = .ok (.invokevirtual 103, 3) by decide +kernel) lkV_7_103 ⟨rfl, Nat.le_of_ble_eq_true rfl, Nat.le_of_ble_eq_true rfl, fun _ => rfl⟩ rfl rfl,
  fun d σ l0 l1 l2 l3 l4 x => ex_zret (show decode mX7_takesNumber.2.1 113 = .ok (.ireturn, 1) by decide +kernel) rfl,
  fun d σ S l1 l2 l3 l4 k => ex_aload_n (show decode mX7_takesNumber.2.1 114 = .ok (.aload_n 0, 1) by decide +kernel) rfl,
  fun d σ S l0 l1 l2 l3 l4 => ex_get (idx := 107) (ci := 7) (ff := 15) (n := 26) (hh := 848) (by decide +kernel),
  fun d σ S l0 l1 l2 l3 l4 x => ex_i2l (show decode mX7_takesNumber.2.1 118 = .ok (.i2l, 1) by decide +kernel),
  fun d σ S l0 l2 l3 l4 x => ex_iload_n (show decode mX7_takesNumber.2.1 119 = .ok (.iload_n 1, 1) by decide +kernel) rfl,
  fun d σ S l0 l1 l2 l3 l4 x => ex_i2l (show decode mX7_takesNumber.2.1 120 = .ok (.i2l, 1) by decide +kernel),
  fun d σ S l0 l1 l3 l4 x => ex_iload_n (show decode mX7_takesNumber.2.1 121 = .ok (.iload_n 2, 1) by decide +kernel) rfl,
  fun d σ S l0 l1 l2 l3 l4 x => ex_i2l (show decode mX7_takesNumber.2.1 122 = .ok (.i2l, 1) by decide +kernel),
  fun d σ l0 l1 l2 l3 l4 x0 x1 x2 => ex_is (hs := [920, 921, 922, 101]) (show decode mX7_takesNumber.2.1 123 = .ok (.invokestatic 63, 3) by decide +kernel) lkS_7_63 ⟨rfl, Nat.le_of_ble_eq_true rfl, Nat.le_of_ble_eq_true rfl, fun q => nomatch q⟩ rfl rfl,
  fun d σ S l0 l1 l2 l3 l4 x => ex_zeq (show decode mX7_takesNumber.2.1 126 = .ok (.ifCond .eq 11, 3) by decide +kernel) (by decide),
  fun d σ S l1 l2 l3 l4 k => ex_aload_n (show decode mX7_takesNumber.2.1 129 = .ok (.aload_n 0, 1) by decide +kernel) rfl,
  fun d σ S l0 l1 l2 l4 x => ex_iload_n (show decode mX7_takesNumber.2.1 130 = .ok (.iload_n 3, 1) by decide +kernel) rfl,
  fun d σ l0 l1 l2 l3 l4 x0 => ex_iv (hs := [963, 965, 57, 966, 101]) (show decode mX7_takesNumber.2.1 131 = .ok (.invokevirtual 114, 3) by decide +kernel) lkV_7_114 ⟨rfl, Nat.le_of_ble_eq_true rfl, Nat.le_of_ble_eq_true rfl, fun _ => rfl⟩ rfl rfl,
  fun d σ S l0 l1 l2 l3 l4 => ex_goto (show decode mX7_takesNumber.2.1 134 = .ok (.goto 10, 3) by decide +kernel) (by decide),
  fun d σ S l1 l2 l3 l4 k => ex_aload_n (show decode mX7_takesNumber.2.1 137 = .ok (.aload_n 0, 1) by decide +kernel) rfl,
  fun d σ S l0 l1 l2 l3 l4 => ex_iconst (show decode mX7_takesNumber.2.1 138 = .ok (.iconst 2, 1) by decide +kernel) (by decide +kernel),
  fun d σ S l0 l1 l2 l3 x => ex_iload (show decode mX7_takesNumber.2.1 139 = .ok (.iload 4, 2) by decide +kernel) rfl,
  fun d σ l0 l1 l2 l3 l4 x0 x1 => ex_iv (hs := [971, 973, 59, 974, 101]) (show decode mX7_takesNumber.2.1 141 = .ok (.invokevirtual 103, 3) by decide +kernel) lkV_7_103 ⟨rfl, Nat.le_of_ble_eq_true rfl, Nat.le_of_ble_eq_true rfl, fun _ => rfl⟩ rfl rfl,
  fun d σ l0 l1 l2 l3 l4 x => ex_zret (show decode mX7_takesNumber.2.1 144 = .ok (.ireturn, 1) by decide +kernel) rfl⟩
theorem hX7_takesNumber_11 : ∀ (d : Nat) (σ : Sg) (S : List Value) (l1 l2 l3 l4 : Value) (k : Nat), exec d mX7_takesNumber 11 [.ref k, l1, l2, l3, l4] S σ = exec d mX7_takesNumber 12 [.ref k, l1, l2, l3, l4] (.ref k :: S) σ := fun d σ S l1 l2 l3 l4 k => ex_aload_n (show decode mX7_takesNumber.2.1 11 = .ok (.aload_n 0, 1) by decide +kernel) rfl
theorem aX7_takesNumber_50 : ∀ (d : Nat) (a1 : Int32) (a2 : Int32) (a3 : Int32) (σ : Sg), cal (d + 1) mX7_takesNumber [.ref 50, .int a1, .int a2, .int a3] σ = exec d mX7_takesNumber 0 [.ref 50, .int a1, .int a2, .int a3, uu] [] σ := fun _ _ _ _ _ => rfl
theorem kX7_takesLaw_0 : (∀ (d : Nat) (σ : Sg) (S : List Value) (l0 l1 : Value), exec d mX7_takesLaw 0 [l0, l1] S σ = exec d mX7_takesLaw 1 [l0, l1] (.int (nI 0) :: S) σ) ∧
  (∀ (d : Nat) (σ : Sg) (S : List Value) (l1 : Value) (k : Nat) (x : Int32), exec d mX7_takesLaw 1 [.ref k, l1] (.int x :: S) σ = exec d mX7_takesLaw 2 [.ref k, .int x] S σ) ∧
  (∀ (d : Nat) (σ : Sg) (S : List Value) (l0 l1 : Value), exec d mX7_takesLaw 3 [l0, l1] S σ = exec d mX7_takesLaw 5 [l0, l1] (.int (nI 6) :: S) σ) ∧
  (∀ (d : Nat) (σ : Sg) (S : List Value) (l0 l1 : Value) (x y : Int32), exec d mX7_takesLaw 5 [l0, l1] (.int y :: .int x :: S) σ = if y ≤ x then exec d mX7_takesLaw 25 [l0, l1] S σ else exec d mX7_takesLaw 8 [l0, l1] S σ) ∧
  (∀ (d : Nat) (σ : Sg) (S : List Value) (l1 : Value) (k : Nat), exec d mX7_takesLaw 8 [.ref k, l1] S σ = exec d mX7_takesLaw 9 [.ref k, l1] (.ref k :: S) σ) ∧
  (∀ (d : Nat) (σ : Sg) (S : List Value) (l0 l1 : Value), exec d mX7_takesLaw 9 [l0, l1] (.ref 50 :: S) σ = exec d mX7_takesLaw 12 [l0, l1] (.ref 51 :: S) σ) ∧
  (∀ (d : Nat) (σ : Sg) (S : List Value) (l0 l1 : Value), exec d mX7_takesLaw 12 [l0, l1] S σ = exec d mX7_takesLaw 15 [l0, l1] (.int (nI 156) :: S) σ) ∧
  (∀ (d : Nat) (σ : Sg) (S : List Value) (l0 : Value) (x : Int32), exec d mX7_takesLaw 15 [l0, .int x] S σ = exec d mX7_takesLaw 16 [l0, .int x] (.int x :: S) σ) ∧
  (∀ (d : Nat) (σ : Sg) (S : List Value) (l0 l1 : Value) (x y : Int32), exec d mX7_takesLaw 16 [l0, l1] (.int y :: .int x :: S) σ = exec d mX7_takesLaw 17 [l0, l1] (.int (x + y) :: S) σ) ∧
  (∀ (d : Nat) (σ : Sg) (S : List Value) (l0 l1 : Value), exec d mX7_takesLaw 17 [l0, l1] S σ = exec d mX7_takesLaw 18 [l0, l1] (.int (nI 0) :: S) σ) ∧
  (∀ (d : Nat) (σ : Sg) (S : List Value) (l0 l1 : Value) (x y : Int32), exec d mX7_takesLaw 18 [l0, l1] (.int y :: .int x :: .ref 51 :: S) σ = if inb x 208 = true then exec d mX7_takesLaw 19 [l0, l1] S (up σ 51 x.toNatClampNeg y) else none) ∧
  (∀ (d : Nat) (σ : Sg) (S : List Value) (k : Nat) (x : Int32), exec d mX7_takesLaw 19 [.ref k, .int x] S σ = exec d mX7_takesLaw 22 [.ref k, .int (x + nI 1)] S σ) ∧
  (∀ (d : Nat) (σ : Sg) (S : List Value) (l0 l1 : Value), exec d mX7_takesLaw 22 [l0, l1] S σ = exec d mX7_takesLaw 2 [l0, l1] S σ) ∧
  (∀ (d : Nat) (σ : Sg) (S : List Value) (l1 : Value) (k : Nat), exec d mX7_takesLaw 25 [.ref k, l1] S σ = exec d mX7_takesLaw 26 [.ref k, l1] (.ref k :: S) σ) ∧
  (∀ (d : Nat) (σ : Sg) (S : List Value) (l0 l1 : Value), exec d mX7_takesLaw 26 [l0, l1] (.ref 50 :: S) σ = exec d mX7_takesLaw 29 [l0, l1] (.ref 51 :: S) σ) ∧
  (∀ (d : Nat) (σ : Sg) (S : List Value) (l0 l1 : Value), exec d mX7_takesLaw 29 [l0, l1] S σ = exec d mX7_takesLaw 32 [l0, l1] (.int (nI 162) :: S) σ) ∧
  (∀ (d : Nat) (σ : Sg) (S : List Value) (l0 l1 : Value), exec d mX7_takesLaw 32 [l0, l1] S σ = exec d mX7_takesLaw 33 [l0, l1] (.int (nI 1) :: S) σ) ∧
  (∀ (d : Nat) (σ : Sg) (S : List Value) (l0 l1 : Value) (x y : Int32), exec d mX7_takesLaw 33 [l0, l1] (.int y :: .int x :: .ref 51 :: S) σ = if inb x 208 = true then exec d mX7_takesLaw 34 [l0, l1] S (up σ 51 x.toNatClampNeg y) else none) ∧
  (∀ (d : Nat) (σ : Sg) (S : List Value) (l1 : Value) (k : Nat), exec d mX7_takesLaw 34 [.ref k, l1] S σ = exec d mX7_takesLaw 35 [.ref k, l1] (.ref k :: S) σ) ∧
  (∀ (d : Nat) (σ : Sg) (S : List Value) (l0 l1 : Value), exec d mX7_takesLaw 35 [l0, l1] (.ref 50 :: S) σ = exec d mX7_takesLaw 38 [l0, l1] (.ref 51 :: S) σ) ∧
  (∀ (d : Nat) (σ : Sg) (S : List Value) (l0 l1 : Value), exec d mX7_takesLaw 38 [l0, l1] S σ = exec d mX7_takesLaw 41 [l0, l1] (.int (nI 163) :: S) σ) ∧
  (∀ (d : Nat) (σ : Sg) (S : List Value) (l0 l1 : Value), exec d mX7_takesLaw 41 [l0, l1] S σ = exec d mX7_takesLaw 42 [l0, l1] (.int (nI 0) :: S) σ) ∧
  (∀ (d : Nat) (σ : Sg) (S : List Value) (l0 l1 : Value) (x y : Int32), exec d mX7_takesLaw 42 [l0, l1] (.int y :: .int x :: .ref 51 :: S) σ = if inb x 208 = true then exec d mX7_takesLaw 43 [l0, l1] S (up σ 51 x.toNatClampNeg y) else none) ∧
  (∀ (d : Nat) (σ : Sg) (S : List Value) (l1 : Value) (k : Nat), exec d mX7_takesLaw 43 [.ref k, l1] S σ = exec d mX7_takesLaw 44 [.ref k, l1] (.ref k :: S) σ) ∧
  (∀ (d : Nat) (σ : Sg) (S : List Value) (l0 l1 : Value), exec d mX7_takesLaw 44 [l0, l1] (.ref 50 :: S) σ = exec d mX7_takesLaw 47 [l0, l1] (.ref 51 :: S) σ) ∧
  (∀ (d : Nat) (σ : Sg) (S : List Value) (l0 l1 : Value), exec d mX7_takesLaw 47 [l0, l1] S σ = exec d mX7_takesLaw 50 [l0, l1] (.int (nI 164) :: S) σ) ∧
  (∀ (d : Nat) (σ : Sg) (S : List Value) (l0 l1 : Value), exec d mX7_takesLaw 50 [l0, l1] S σ = exec d mX7_takesLaw 51 [l0, l1] (.int (nI 0) :: S) σ) ∧
  (∀ (d : Nat) (σ : Sg) (S : List Value) (l0 l1 : Value) (x y : Int32), exec d mX7_takesLaw 51 [l0, l1] (.int y :: .int x :: .ref 51 :: S) σ = if inb x 208 = true then exec d mX7_takesLaw 52 [l0, l1] S (up σ 51 x.toNatClampNeg y) else none) ∧
  (∀ (d : Nat) (σ : Sg) (S : List Value) (l1 : Value) (k : Nat), exec d mX7_takesLaw 52 [.ref k, l1] S σ = exec d mX7_takesLaw 53 [.ref k, l1] (.ref k :: S) σ) ∧
  (∀ (d : Nat) (σ : Sg) (S : List Value) (l0 l1 : Value), exec d mX7_takesLaw 53 [l0, l1] S σ = exec d mX7_takesLaw 55 [l0, l1] (.int (nI 103) :: S) σ) ∧
  (∀ (d : Nat) (σ : Sg) (l0 l1 : Value) (x0 : Int32), exec d mX7_takesLaw 55 [l0, l1] [.int x0, .ref 50] σ = kb (cal d mX7_takes [.ref 50, .int x0] σ) (fun rs σ2 => exec d mX7_takesLaw 58 [l0, l1] (rs ++ []) σ2)) ∧
  (∀ (d : Nat) (σ : Sg) (S : List Value) (l0 l1 : Value) (x : Int32), exec d mX7_takesLaw 58 [l0, l1] (.int x :: S) σ = if x = nI 0 then exec d mX7_takesLaw 73 [l0, l1] S σ else exec d mX7_takesLaw 61 [l0, l1] S σ) ∧
  (∀ (d : Nat) (σ : Sg) (S : List Value) (l1 : Value) (k : Nat), exec d mX7_takesLaw 61 [.ref k, l1] S σ = exec d mX7_takesLaw 62 [.ref k, l1] (.ref k :: S) σ) ∧
  (∀ (d : Nat) (σ : Sg) (S : List Value) (l0 l1 : Value), exec d mX7_takesLaw 62 [l0, l1] S σ = exec d mX7_takesLaw 63 [l0, l1] (.int (nI 0) :: S) σ) ∧
  (∀ (d : Nat) (σ : Sg) (S : List Value) (l0 l1 : Value), exec d mX7_takesLaw 63 [l0, l1] S σ = exec d mX7_takesLaw 65 [l0, l1] (.int (nI 20) :: S) σ) ∧
  (∀ (d : Nat) (σ : Sg) (S : List Value) (l0 l1 : Value), exec d mX7_takesLaw 65 [l0, l1] S σ = exec d mX7_takesLaw 67 [l0, l1] (.int (nI 44) :: S) σ) ∧
  (∀ (d : Nat) (σ : Sg) (l0 l1 : Value) (x0 x1 x2 : Int32), exec d mX7_takesLaw 67 [l0, l1] [.int x0, .int x1, .int x2, .ref 50] σ = kb (cal d mX7_takesNumber [.ref 50, .int x2, .int x1, .int x0] σ) (fun rs σ2 => exec d mX7_takesLaw 70 [l0, l1] (rs ++ []) σ2)) ∧
  (∀ (d : Nat) (σ : Sg) (S : List Value) (l0 l1 : Value) (x : Int32), exec d mX7_takesLaw 70 [l0, l1] (.int x :: S) σ = if x = nI 0 then exec d mX7_takesLaw 73 [l0, l1] S σ else exec d mX7_takesLaw 75 [l0, l1] S σ) ∧
  (∀ (d : Nat) (σ : Sg) (S : List Value) (l0 l1 : Value), exec d mX7_takesLaw 73 [l0, l1] S σ = exec d mX7_takesLaw 74 [l0, l1] (.int (nI 0) :: S) σ) ∧
  (∀ (d : Nat) (σ : Sg) (l0 l1 : Value) (x : Int32), exec d mX7_takesLaw 74 [l0, l1] [.int x] σ = if b01 x = true then some (some (.int x), σ) else none) :=
  ⟨fun d σ S l0 l1 => ex_iconst (show decode mX7_takesLaw.2.1 0 = .ok (.iconst 0, 1) by decide +kernel) (by decide +kernel),
  fun d σ S l1 k x => ex_istore_n (show decode mX7_takesLaw.2.1 1 = .ok (.istore_n 1, 1) by decide +kernel) (Nat.le_of_ble_eq_true rfl) rfl,
  fun d σ S l0 l1 => ex_bipush (show decode mX7_takesLaw.2.1 3 = .ok (.bipush 6, 2) by decide +kernel) (by decide +kernel),
  fun d σ S l0 l1 x y => ex_cge (show decode mX7_takesLaw.2.1 5 = .ok (.if_icmp .ge 20, 3) by decide +kernel) (by decide),
  fun d σ S l1 k => ex_aload_n (show decode mX7_takesLaw.2.1 8 = .ok (.aload_n 0, 1) by decide +kernel) rfl,
  fun d σ S l0 l1 => ex_getr (idx := 7) (ci := 7) (ff := 0) (n := 26) (hh := 833) (by decide +kernel),
  fun d σ S l0 l1 => ex_sipush (show decode mX7_takesLaw.2.1 12 = .ok (.sipush 156, 3) by decide +kernel) (by decide +kernel),
  fun d σ S l0 x => ex_iload_n (show decode mX7_takesLaw.2.1 15 = .ok (.iload_n 1, 1) by decide +kernel) rfl,
  fun d σ S l0 l1 x y => ex_iadd (show decode mX7_takesLaw.2.1 16 = .ok (.iadd, 1) by decide +kernel),
  fun d σ S l0 l1 => ex_iconst (show decode mX7_takesLaw.2.1 17 = .ok (.iconst 0, 1) by decide +kernel) (by decide +kernel),
  fun d σ S l0 l1 x y => ex_iast (by decide +kernel),
  fun d σ S k x => ex_iinc (show decode mX7_takesLaw.2.1 19 = .ok (.iinc 1 1, 3) by decide +kernel) rfl (by decide +kernel) (Nat.le_of_ble_eq_true rfl) rfl,
  fun d σ S l0 l1 => ex_goto (show decode mX7_takesLaw.2.1 22 = .ok (.goto (-20), 3) by decide +kernel) (by decide),
  fun d σ S l1 k => ex_aload_n (show decode mX7_takesLaw.2.1 25 = .ok (.aload_n 0, 1) by decide +kernel) rfl,
  fun d σ S l0 l1 => ex_getr (idx := 7) (ci := 7) (ff := 0) (n := 26) (hh := 833) (by decide +kernel),
  fun d σ S l0 l1 => ex_sipush (show decode mX7_takesLaw.2.1 29 = .ok (.sipush 162, 3) by decide +kernel) (by decide +kernel),
  fun d σ S l0 l1 => ex_iconst (show decode mX7_takesLaw.2.1 32 = .ok (.iconst 1, 1) by decide +kernel) (by decide +kernel),
  fun d σ S l0 l1 x y => ex_iast (by decide +kernel),
  fun d σ S l1 k => ex_aload_n (show decode mX7_takesLaw.2.1 34 = .ok (.aload_n 0, 1) by decide +kernel) rfl,
  fun d σ S l0 l1 => ex_getr (idx := 7) (ci := 7) (ff := 0) (n := 26) (hh := 833) (by decide +kernel),
  fun d σ S l0 l1 => ex_sipush (show decode mX7_takesLaw.2.1 38 = .ok (.sipush 163, 3) by decide +kernel) (by decide +kernel),
  fun d σ S l0 l1 => ex_iconst (show decode mX7_takesLaw.2.1 41 = .ok (.iconst 0, 1) by decide +kernel) (by decide +kernel),
  fun d σ S l0 l1 x y => ex_iast (by decide +kernel),
  fun d σ S l1 k => ex_aload_n (show decode mX7_takesLaw.2.1 43 = .ok (.aload_n 0, 1) by decide +kernel) rfl,
  fun d σ S l0 l1 => ex_getr (idx := 7) (ci := 7) (ff := 0) (n := 26) (hh := 833) (by decide +kernel),
  fun d σ S l0 l1 => ex_sipush (show decode mX7_takesLaw.2.1 47 = .ok (.sipush 164, 3) by decide +kernel) (by decide +kernel),
  fun d σ S l0 l1 => ex_iconst (show decode mX7_takesLaw.2.1 50 = .ok (.iconst 0, 1) by decide +kernel) (by decide +kernel),
  fun d σ S l0 l1 x y => ex_iast (by decide +kernel),
  fun d σ S l1 k => ex_aload_n (show decode mX7_takesLaw.2.1 52 = .ok (.aload_n 0, 1) by decide +kernel) rfl,
  fun d σ S l0 l1 => ex_bipush (show decode mX7_takesLaw.2.1 53 = .ok (.bipush 103, 2) by decide +kernel) (by decide +kernel),
  fun d σ l0 l1 x0 => ex_iv (hs := [963, 965, 57, 966, 101]) (show decode mX7_takesLaw.2.1 55 = .ok (.invokevirtual 114, 3) by decide +kernel) lkV_7_114 ⟨rfl, Nat.le_of_ble_eq_true rfl, Nat.le_of_ble_eq_true rfl, fun _ => rfl⟩ rfl rfl,
  fun d σ S l0 l1 x => ex_zeq (show decode mX7_takesLaw.2.1 58 = .ok (.ifCond .eq 15, 3) by decide +kernel) (by decide),
  fun d σ S l1 k => ex_aload_n (show decode mX7_takesLaw.2.1 61 = .ok (.aload_n 0, 1) by decide +kernel) rfl,
  fun d σ S l0 l1 => ex_iconst (show decode mX7_takesLaw.2.1 62 = .ok (.iconst 0, 1) by decide +kernel) (by decide +kernel),
  fun d σ S l0 l1 => ex_bipush (show decode mX7_takesLaw.2.1 63 = .ok (.bipush 20, 2) by decide +kernel) (by decide +kernel),
  fun d σ S l0 l1 => ex_bipush (show decode mX7_takesLaw.2.1 65 = .ok (.bipush 44, 2) by decide +kernel) (by decide +kernel),
  fun d σ l0 l1 x0 x1 x2 => ex_iv (hs := [975, 977, 60, 978, 101]) (show decode mX7_takesLaw.2.1 67 = .ok (.invokevirtual 117, 3) by decide +kernel) lkV_7_117 ⟨rfl, Nat.le_of_ble_eq_true rfl, Nat.le_of_ble_eq_true rfl, fun _ => rfl⟩ rfl rfl,
  fun d σ S l0 l1 x => ex_zne (show decode mX7_takesLaw.2.1 70 = .ok (.ifCond .ne 5, 3) by decide +kernel) (by decide),
  fun d σ S l0 l1 => ex_iconst (show decode mX7_takesLaw.2.1 73 = .ok (.iconst 0, 1) by decide +kernel) (by decide +kernel),
  fun d σ l0 l1 x => ex_zret (show decode mX7_takesLaw.2.1 74 = .ok (.ireturn, 1) by decide +kernel) rfl⟩
theorem kX7_takesLaw_1 : (∀ (d : Nat) (σ : Sg) (S : List Value) (l1 : Value) (k : Nat), exec d mX7_takesLaw 75 [.ref k, l1] S σ = exec d mX7_takesLaw 76 [.ref k, l1] (.ref k :: S) σ) ∧
  (∀ (d : Nat) (σ : Sg) (S : List Value) (l0 l1 : Value), exec d mX7_takesLaw 76 [l0, l1] (.ref 50 :: S) σ = exec d mX7_takesLaw 79 [l0, l1] (.ref 51 :: S) σ) ∧
  (∀ (d : Nat) (σ : Sg) (S : List Value) (l0 l1 : Value), exec d mX7_takesLaw 79 [l0, l1] S σ = exec d mX7_takesLaw 82 [l0, l1] (.int (nI 156) :: S) σ) ∧
  (∀ (d : Nat) (σ : Sg) (S : List Value) (l1 : Value) (k : Nat), exec d mX7_takesLaw 82 [.ref k, l1] S σ = exec d mX7_takesLaw 83 [.ref k, l1] (.ref k :: S) σ) ∧
  (∀ (d : Nat) (σ : Sg) (S : List Value) (l0 l1 : Value), exec d mX7_takesLaw 83 [l0, l1] (.ref 50 :: S) σ = exec d mX7_takesLaw 86 [l0, l1] (.int (σ 50 15) :: S) σ) ∧
  (∀ (d : Nat) (σ : Sg) (S : List Value) (l0 l1 : Value) (x y : Int32), exec d mX7_takesLaw 86 [l0, l1] (.int y :: .int x :: .ref 51 :: S) σ = if inb x 208 = true then exec d mX7_takesLaw 87 [l0, l1] S (up σ 51 x.toNatClampNeg y) else none) ∧
  (∀ (d : Nat) (σ : Sg) (S : List Value) (l1 : Value) (k : Nat), exec d mX7_takesLaw 87 [.ref k, l1] S σ = exec d mX7_takesLaw 88 [.ref k, l1] (.ref k :: S) σ) ∧
  (∀ (d : Nat) (σ : Sg) (S : List Value) (l0 l1 : Value), exec d mX7_takesLaw 88 [l0, l1] S σ = exec d mX7_takesLaw 89 [l0, l1] (.int (nI 0) :: S) σ) ∧
  (∀ (d : Nat) (σ : Sg) (S : List Value) (l0 l1 : Value), exec d mX7_takesLaw 89 [l0, l1] S σ = exec d mX7_takesLaw 91 [l0, l1] (.int (nI 60) :: S) σ) ∧
  (∀ (d : Nat) (σ : Sg) (S : List Value) (l0 l1 : Value), exec d mX7_takesLaw 91 [l0, l1] S σ = exec d mX7_takesLaw 93 [l0, l1] (.int (nI 44) :: S) σ) ∧
  (∀ (d : Nat) (σ : Sg) (l0 l1 : Value) (x0 x1 x2 : Int32), exec d mX7_takesLaw 93 [l0, l1] [.int x0, .int x1, .int x2, .ref 50] σ = kb (cal d mX7_takesNumber [.ref 50, .int x2, .int x1, .int x0] σ) (fun rs σ2 => exec d mX7_takesLaw 96 [l0, l1] (rs ++ []) σ2)) ∧
  (∀ (d : Nat) (σ : Sg) (S : List Value) (l0 l1 : Value) (x : Int32), exec d mX7_takesLaw 96 [l0, l1] (.int x :: S) σ = if x = nI 0 then exec d mX7_takesLaw 99 [l0, l1] S σ else exec d mX7_takesLaw 101 [l0, l1] S σ) ∧
  (∀ (d : Nat) (σ : Sg) (S : List Value) (l0 l1 : Value), exec d mX7_takesLaw 99 [l0, l1] S σ = exec d mX7_takesLaw 100 [l0, l1] (.int (nI 0) :: S) σ) ∧
  (∀ (d : Nat) (σ : Sg) (l0 l1 : Value) (x : Int32), exec d mX7_takesLaw 100 [l0, l1] [.int x] σ = if b01 x = true then some (some (.int x), σ) else none) ∧
  (∀ (d : Nat) (σ : Sg) (S : List Value) (l1 : Value) (k : Nat), exec d mX7_takesLaw 101 [.ref k, l1] S σ = exec d mX7_takesLaw 102 [.ref k, l1] (.ref k :: S) σ) ∧
  (∀ (d : Nat) (σ : Sg) (S : List Value) (l0 l1 : Value), exec d mX7_takesLaw 102 [l0, l1] (.ref 50 :: S) σ = exec d mX7_takesLaw 105 [l0, l1] (.ref 51 :: S) σ) ∧
  (∀ (d : Nat) (σ : Sg) (S : List Value) (l0 l1 : Value), exec d mX7_takesLaw 105 [l0, l1] S σ = exec d mX7_takesLaw 108 [l0, l1] (.int (nI 157) :: S) σ) ∧
  (∀ (d : Nat) (σ : Sg) (S : List Value) (l1 : Value) (k : Nat), exec d mX7_takesLaw 108 [.ref k, l1] S σ = exec d mX7_takesLaw 109 [.ref k, l1] (.ref k :: S) σ) ∧
  (∀ (d : Nat) (σ : Sg) (S : List Value) (l0 l1 : Value), exec d mX7_takesLaw 109 [l0, l1] (.ref 50 :: S) σ = exec d mX7_takesLaw 112 [l0, l1] (.int (σ 50 15) :: S) σ) ∧
  (∀ (d : Nat) (σ : Sg) (S : List Value) (l0 l1 : Value) (x y : Int32), exec d mX7_takesLaw 112 [l0, l1] (.int y :: .int x :: .ref 51 :: S) σ = if inb x 208 = true then exec d mX7_takesLaw 113 [l0, l1] S (up σ 51 x.toNatClampNeg y) else none) ∧
  (∀ (d : Nat) (σ : Sg) (S : List Value) (l1 : Value) (k : Nat), exec d mX7_takesLaw 113 [.ref k, l1] S σ = exec d mX7_takesLaw 114 [.ref k, l1] (.ref k :: S) σ) ∧
  (∀ (d : Nat) (σ : Sg) (S : List Value) (l0 l1 : Value), exec d mX7_takesLaw 114 [l0, l1] S σ = exec d mX7_takesLaw 115 [l0, l1] (.int (nI 0) :: S) σ) ∧
  (∀ (d : Nat) (σ : Sg) (S : List Value) (l0 l1 : Value), exec d mX7_takesLaw 115 [l0, l1] S σ = exec d mX7_takesLaw 117 [l0, l1] (.int (nI 99) :: S) σ) ∧
  (∀ (d : Nat) (σ : Sg) (S : List Value) (l0 l1 : Value), exec d mX7_takesLaw 117 [l0, l1] S σ = exec d mX7_takesLaw 119 [l0, l1] (.int (nI 59) :: S) σ) ∧
  (∀ (d : Nat) (σ : Sg) (l0 l1 : Value) (x0 x1 x2 : Int32), exec d mX7_takesLaw 119 [l0, l1] [.int x0, .int x1, .int x2, .ref 50] σ = kb (cal d mX7_takesNumber [.ref 50, .int x2, .int x1, .int x0] σ) (fun rs σ2 => exec d mX7_takesLaw 122 [l0, l1] (rs ++ []) σ2)) ∧
  (∀ (d : Nat) (σ : Sg) (S : List Value) (l0 l1 : Value) (x : Int32), exec d mX7_takesLaw 122 [l0, l1] (.int x :: S) σ = if x = nI 0 then exec d mX7_takesLaw 125 [l0, l1] S σ else exec d mX7_takesLaw 127 [l0, l1] S σ) ∧
  (∀ (d : Nat) (σ : Sg) (S : List Value) (l0 l1 : Value), exec d mX7_takesLaw 125 [l0, l1] S σ = exec d mX7_takesLaw 126 [l0, l1] (.int (nI 0) :: S) σ) ∧
  (∀ (d : Nat) (σ : Sg) (l0 l1 : Value) (x : Int32), exec d mX7_takesLaw 126 [l0, l1] [.int x] σ = if b01 x = true then some (some (.int x), σ) else none) ∧
  (∀ (d : Nat) (σ : Sg) (S : List Value) (l1 : Value) (k : Nat), exec d mX7_takesLaw 127 [.ref k, l1] S σ = exec d mX7_takesLaw 128 [.ref k, l1] (.ref k :: S) σ) ∧
  (∀ (d : Nat) (σ : Sg) (S : List Value) (l0 l1 : Value), exec d mX7_takesLaw 128 [l0, l1] (.ref 50 :: S) σ = exec d mX7_takesLaw 131 [l0, l1] (.ref 51 :: S) σ) ∧
  (∀ (d : Nat) (σ : Sg) (S : List Value) (l0 l1 : Value), exec d mX7_takesLaw 131 [l0, l1] S σ = exec d mX7_takesLaw 134 [l0, l1] (.int (nI 158) :: S) σ) ∧
  (∀ (d : Nat) (σ : Sg) (S : List Value) (l1 : Value) (k : Nat), exec d mX7_takesLaw 134 [.ref k, l1] S σ = exec d mX7_takesLaw 135 [.ref k, l1] (.ref k :: S) σ) ∧
  (∀ (d : Nat) (σ : Sg) (S : List Value) (l0 l1 : Value), exec d mX7_takesLaw 135 [l0, l1] (.ref 50 :: S) σ = exec d mX7_takesLaw 138 [l0, l1] (.int (σ 50 15) :: S) σ) ∧
  (∀ (d : Nat) (σ : Sg) (S : List Value) (l0 l1 : Value) (x y : Int32), exec d mX7_takesLaw 138 [l0, l1] (.int y :: .int x :: .ref 51 :: S) σ = if inb x 208 = true then exec d mX7_takesLaw 139 [l0, l1] S (up σ 51 x.toNatClampNeg y) else none) ∧
  (∀ (d : Nat) (σ : Sg) (S : List Value) (l0 l1 : Value), exec d mX7_takesLaw 139 [l0, l1] S σ = exec d mX7_takesLaw 140 [l0, l1] (.int (nI 1) :: S) σ) ∧
  (∀ (d : Nat) (σ : Sg) (l0 l1 : Value) (x : Int32), exec d mX7_takesLaw 140 [l0, l1] [.int x] σ = if b01 x = true then some (some (.int x), σ) else none) :=
  ⟨fun d σ S l1 k => ex_aload_n (show decode mX7_takesLaw.2.1 75 = .ok (.aload_n 0, 1) by decide +kernel) rfl,
  fun d σ S l0 l1 => ex_getr (idx := 7) (ci := 7) (ff := 0) (n := 26) (hh := 833) (by decide +kernel),
  fun d σ S l0 l1 => ex_sipush (show decode mX7_takesLaw.2.1 79 = .ok (.sipush 156, 3) by decide +kernel) (by decide +kernel),
  fun d σ S l1 k => ex_aload_n (show decode mX7_takesLaw.2.1 82 = .ok (.aload_n 0, 1) by decide +kernel) rfl,
  fun d σ S l0 l1 => ex_get (idx := 107) (ci := 7) (ff := 15) (n := 26) (hh := 848) (by decide +kernel),
  fun d σ S l0 l1 x y => ex_iast (by decide +kernel),
  fun d σ S l1 k => ex_aload_n (show decode mX7_takesLaw.2.1 87 = .ok (.aload_n 0, 1) by decide +kernel) rfl,
  fun d σ S l0 l1 => ex_iconst (show decode mX7_takesLaw.2.1 88 = .ok (.iconst 0, 1) by decide +kernel) (by decide +kernel),
  fun d σ S l0 l1 => ex_bipush (show decode mX7_takesLaw.2.1 89 = .ok (.bipush 60, 2) by decide +kernel) (by decide +kernel),
  fun d σ S l0 l1 => ex_bipush (show decode mX7_takesLaw.2.1 91 = .ok (.bipush 44, 2) by decide +kernel) (by decide +kernel),
  fun d σ l0 l1 x0 x1 x2 => ex_iv (hs := [975, 977, 60, 978, 101]) (show decode mX7_takesLaw.2.1 93 = .ok (.invokevirtual 117, 3) by decide +kernel) lkV_7_117 ⟨rfl, Nat.le_of_ble_eq_true rfl, Nat.le_of_ble_eq_true rfl, fun _ => rfl⟩ rfl rfl,
  fun d σ S l0 l1 x => ex_zne (show decode mX7_takesLaw.2.1 96 = .ok (.ifCond .ne 5, 3) by decide +kernel) (by decide),
  fun d σ S l0 l1 => ex_iconst (show decode mX7_takesLaw.2.1 99 = .ok (.iconst 0, 1) by decide +kernel) (by decide +kernel),
  fun d σ l0 l1 x => ex_zret (show decode mX7_takesLaw.2.1 100 = .ok (.ireturn, 1) by decide +kernel) rfl,
  fun d σ S l1 k => ex_aload_n (show decode mX7_takesLaw.2.1 101 = .ok (.aload_n 0, 1) by decide +kernel) rfl,
  fun d σ S l0 l1 => ex_getr (idx := 7) (ci := 7) (ff := 0) (n := 26) (hh := 833) (by decide +kernel),
  fun d σ S l0 l1 => ex_sipush (show decode mX7_takesLaw.2.1 105 = .ok (.sipush 157, 3) by decide +kernel) (by decide +kernel),
  fun d σ S l1 k => ex_aload_n (show decode mX7_takesLaw.2.1 108 = .ok (.aload_n 0, 1) by decide +kernel) rfl,
  fun d σ S l0 l1 => ex_get (idx := 107) (ci := 7) (ff := 15) (n := 26) (hh := 848) (by decide +kernel),
  fun d σ S l0 l1 x y => ex_iast (by decide +kernel),
  fun d σ S l1 k => ex_aload_n (show decode mX7_takesLaw.2.1 113 = .ok (.aload_n 0, 1) by decide +kernel) rfl,
  fun d σ S l0 l1 => ex_iconst (show decode mX7_takesLaw.2.1 114 = .ok (.iconst 0, 1) by decide +kernel) (by decide +kernel),
  fun d σ S l0 l1 => ex_bipush (show decode mX7_takesLaw.2.1 115 = .ok (.bipush 99, 2) by decide +kernel) (by decide +kernel),
  fun d σ S l0 l1 => ex_bipush (show decode mX7_takesLaw.2.1 117 = .ok (.bipush 59, 2) by decide +kernel) (by decide +kernel),
  fun d σ l0 l1 x0 x1 x2 => ex_iv (hs := [975, 977, 60, 978, 101]) (show decode mX7_takesLaw.2.1 119 = .ok (.invokevirtual 117, 3) by decide +kernel) lkV_7_117 ⟨rfl, Nat.le_of_ble_eq_true rfl, Nat.le_of_ble_eq_true rfl, fun _ => rfl⟩ rfl rfl,
  fun d σ S l0 l1 x => ex_zne (show decode mX7_takesLaw.2.1 122 = .ok (.ifCond .ne 5, 3) by decide +kernel) (by decide),
  fun d σ S l0 l1 => ex_iconst (show decode mX7_takesLaw.2.1 125 = .ok (.iconst 0, 1) by decide +kernel) (by decide +kernel),
  fun d σ l0 l1 x => ex_zret (show decode mX7_takesLaw.2.1 126 = .ok (.ireturn, 1) by decide +kernel) rfl,
  fun d σ S l1 k => ex_aload_n (show decode mX7_takesLaw.2.1 127 = .ok (.aload_n 0, 1) by decide +kernel) rfl,
  fun d σ S l0 l1 => ex_getr (idx := 7) (ci := 7) (ff := 0) (n := 26) (hh := 833) (by decide +kernel),
  fun d σ S l0 l1 => ex_sipush (show decode mX7_takesLaw.2.1 131 = .ok (.sipush 158, 3) by decide +kernel) (by decide +kernel),
  fun d σ S l1 k => ex_aload_n (show decode mX7_takesLaw.2.1 134 = .ok (.aload_n 0, 1) by decide +kernel) rfl,
  fun d σ S l0 l1 => ex_get (idx := 107) (ci := 7) (ff := 15) (n := 26) (hh := 848) (by decide +kernel),
  fun d σ S l0 l1 x y => ex_iast (by decide +kernel),
  fun d σ S l0 l1 => ex_iconst (show decode mX7_takesLaw.2.1 139 = .ok (.iconst 1, 1) by decide +kernel) (by decide +kernel),
  fun d σ l0 l1 x => ex_zret (show decode mX7_takesLaw.2.1 140 = .ok (.ireturn, 1) by decide +kernel) rfl⟩
theorem hX7_takesLaw_2 : ∀ (d : Nat) (σ : Sg) (S : List Value) (l0 : Value) (x : Int32), exec d mX7_takesLaw 2 [l0, .int x] S σ = exec d mX7_takesLaw 3 [l0, .int x] (.int x :: S) σ := fun d σ S l0 x => ex_iload_n (show decode mX7_takesLaw.2.1 2 = .ok (.iload_n 1, 1) by decide +kernel) rfl
theorem aX7_takesLaw_50 : ∀ (d : Nat)  (σ : Sg), cal (d + 1) mX7_takesLaw [.ref 50] σ = exec d mX7_takesLaw 0 [.ref 50, uu] [] σ := fun _ _ => rfl
theorem kX7_kindOf : (∀ (d : Nat) (σ : Sg) (S : List Value) (x : Int32), exec d mX7_kindOf 0 [.int x] S σ = exec d mX7_kindOf 1 [.int x] (.int x :: S) σ) ∧
  (∀ (d : Nat) (σ : Sg) (S : List Value) (l0 : Value), exec d mX7_kindOf 1 [l0] S σ = exec d mX7_kindOf 3 [l0] (.int (nI 106) :: S) σ) ∧
  (∀ (d : Nat) (σ : Sg) (S : List Value) (l0 : Value) (x y : Int32), exec d mX7_kindOf 3 [l0] (.int y :: .int x :: S) σ = if x = y then exec d mX7_kindOf 6 [l0] S σ else exec d mX7_kindOf 10 [l0] S σ) ∧
  (∀ (d : Nat) (σ : Sg) (S : List Value) (l0 : Value), exec d mX7_kindOf 6 [l0] S σ = exec d mX7_kindOf 7 [l0] (.int (nI 1) :: S) σ) ∧
  (∀ (d : Nat) (σ : Sg) (S : List Value) (l0 : Value), exec d mX7_kindOf 7 [l0] S σ = exec d mX7_kindOf 51 [l0] S σ) ∧
  (∀ (d : Nat) (σ : Sg) (S : List Value) (x : Int32), exec d mX7_kindOf 10 [.int x] S σ = exec d mX7_kindOf 11 [.int x] (.int x :: S) σ) ∧
  (∀ (d : Nat) (σ : Sg) (S : List Value) (l0 : Value), exec d mX7_kindOf 11 [l0] S σ = exec d mX7_kindOf 13 [l0] (.int (nI 99) :: S) σ) ∧
  (∀ (d : Nat) (σ : Sg) (S : List Value) (l0 : Value) (x y : Int32), exec d mX7_kindOf 13 [l0] (.int y :: .int x :: S) σ = if x = y then exec d mX7_kindOf 16 [l0] S σ else exec d mX7_kindOf 20 [l0] S σ) ∧
  (∀ (d : Nat) (σ : Sg) (S : List Value) (l0 : Value), exec d mX7_kindOf 16 [l0] S σ = exec d mX7_kindOf 17 [l0] (.int (nI 2) :: S) σ) ∧
  (∀ (d : Nat) (σ : Sg) (S : List Value) (l0 : Value), exec d mX7_kindOf 17 [l0] S σ = exec d mX7_kindOf 51 [l0] S σ) ∧
  (∀ (d : Nat) (σ : Sg) (S : List Value) (x : Int32), exec d mX7_kindOf 20 [.int x] S σ = exec d mX7_kindOf 21 [.int x] (.int x :: S) σ) ∧
  (∀ (d : Nat) (σ : Sg) (S : List Value) (l0 : Value), exec d mX7_kindOf 21 [l0] S σ = exec d mX7_kindOf 23 [l0] (.int (nI 104) :: S) σ) ∧
  (∀ (d : Nat) (σ : Sg) (S : List Value) (l0 : Value) (x y : Int32), exec d mX7_kindOf 23 [l0] (.int y :: .int x :: S) σ = if x = y then exec d mX7_kindOf 26 [l0] S σ else exec d mX7_kindOf 30 [l0] S σ) ∧
  (∀ (d : Nat) (σ : Sg) (S : List Value) (l0 : Value), exec d mX7_kindOf 26 [l0] S σ = exec d mX7_kindOf 27 [l0] (.int (nI 3) :: S) σ) ∧
  (∀ (d : Nat) (σ : Sg) (S : List Value) (l0 : Value), exec d mX7_kindOf 27 [l0] S σ = exec d mX7_kindOf 51 [l0] S σ) ∧
  (∀ (d : Nat) (σ : Sg) (S : List Value) (x : Int32), exec d mX7_kindOf 30 [.int x] S σ = exec d mX7_kindOf 31 [.int x] (.int x :: S) σ) ∧
  (∀ (d : Nat) (σ : Sg) (S : List Value) (l0 : Value), exec d mX7_kindOf 31 [l0] S σ = exec d mX7_kindOf 33 [l0] (.int (nI 119) :: S) σ) ∧
  (∀ (d : Nat) (σ : Sg) (S : List Value) (l0 : Value) (x y : Int32), exec d mX7_kindOf 33 [l0] (.int y :: .int x :: S) σ = if x = y then exec d mX7_kindOf 36 [l0] S σ else exec d mX7_kindOf 40 [l0] S σ) ∧
  (∀ (d : Nat) (σ : Sg) (S : List Value) (l0 : Value), exec d mX7_kindOf 36 [l0] S σ = exec d mX7_kindOf 37 [l0] (.int (nI 4) :: S) σ) ∧
  (∀ (d : Nat) (σ : Sg) (S : List Value) (l0 : Value), exec d mX7_kindOf 37 [l0] S σ = exec d mX7_kindOf 51 [l0] S σ) ∧
  (∀ (d : Nat) (σ : Sg) (S : List Value) (x : Int32), exec d mX7_kindOf 40 [.int x] S σ = exec d mX7_kindOf 41 [.int x] (.int x :: S) σ) ∧
  (∀ (d : Nat) (σ : Sg) (S : List Value) (l0 : Value), exec d mX7_kindOf 41 [l0] S σ = exec d mX7_kindOf 43 [l0] (.int (nI 98) :: S) σ) ∧
  (∀ (d : Nat) (σ : Sg) (S : List Value) (l0 : Value) (x y : Int32), exec d mX7_kindOf 43 [l0] (.int y :: .int x :: S) σ = if x = y then exec d mX7_kindOf 46 [l0] S σ else exec d mX7_kindOf 50 [l0] S σ) ∧
  (∀ (d : Nat) (σ : Sg) (S : List Value) (l0 : Value), exec d mX7_kindOf 46 [l0] S σ = exec d mX7_kindOf 47 [l0] (.int (nI 5) :: S) σ) ∧
  (∀ (d : Nat) (σ : Sg) (S : List Value) (l0 : Value), exec d mX7_kindOf 47 [l0] S σ = exec d mX7_kindOf 51 [l0] S σ) ∧
  (∀ (d : Nat) (σ : Sg) (S : List Value) (l0 : Value), exec d mX7_kindOf 50 [l0] S σ = exec d mX7_kindOf 51 [l0] (.int (nI 0) :: S) σ) ∧
  (∀ (d : Nat) (σ : Sg) (l0 : Value) (x : Int32), exec d mX7_kindOf 51 [l0] [.int x] σ = some (some (.int x), σ)) :=
  ⟨fun d σ S x => ex_iload_n (show decode mX7_kindOf.2.1 0 = .ok (.iload_n 0, 1) by decide +kernel) rfl,
  fun d σ S l0 => ex_bipush (show decode mX7_kindOf.2.1 1 = .ok (.bipush 106, 2) by decide +kernel) (by decide +kernel),
  fun d σ S l0 x y => ex_cne (show decode mX7_kindOf.2.1 3 = .ok (.if_icmp .ne 7, 3) by decide +kernel) (by decide),
  fun d σ S l0 => ex_iconst (show decode mX7_kindOf.2.1 6 = .ok (.iconst 1, 1) by decide +kernel) (by decide +kernel),
  fun d σ S l0 => ex_goto (show decode mX7_kindOf.2.1 7 = .ok (.goto 44, 3) by decide +kernel) (by decide),
  fun d σ S x => ex_iload_n (show decode mX7_kindOf.2.1 10 = .ok (.iload_n 0, 1) by decide +kernel) rfl,
  fun d σ S l0 => ex_bipush (show decode mX7_kindOf.2.1 11 = .ok (.bipush 99, 2) by decide +kernel) (by decide +kernel),
  fun d σ S l0 x y => ex_cne (show decode mX7_kindOf.2.1 13 = .ok (.if_icmp .ne 7, 3) by decide +kernel) (by decide),
  fun d σ S l0 => ex_iconst (show decode mX7_kindOf.2.1 16 = .ok (.iconst 2, 1) by decide +kernel) (by decide +kernel),
  fun d σ S l0 => ex_goto (show decode mX7_kindOf.2.1 17 = .ok (.goto 34, 3) by decide +kernel) (by decide),
  fun d σ S x => ex_iload_n (show decode mX7_kindOf.2.1 20 = .ok (.iload_n 0, 1) by decide +kernel) rfl,
  fun d σ S l0 => ex_bipush (show decode mX7_kindOf.2.1 21 = .ok (.bipush 104, 2) by decide +kernel) (by decide +kernel),
  fun d σ S l0 x y => ex_cne (show decode mX7_kindOf.2.1 23 = .ok (.if_icmp .ne 7, 3) by decide +kernel) (by decide),
  fun d σ S l0 => ex_iconst (show decode mX7_kindOf.2.1 26 = .ok (.iconst 3, 1) by decide +kernel) (by decide +kernel),
  fun d σ S l0 => ex_goto (show decode mX7_kindOf.2.1 27 = .ok (.goto 24, 3) by decide +kernel) (by decide),
  fun d σ S x => ex_iload_n (show decode mX7_kindOf.2.1 30 = .ok (.iload_n 0, 1) by decide +kernel) rfl,
  fun d σ S l0 => ex_bipush (show decode mX7_kindOf.2.1 31 = .ok (.bipush 119, 2) by decide +kernel) (by decide +kernel),
  fun d σ S l0 x y => ex_cne (show decode mX7_kindOf.2.1 33 = .ok (.if_icmp .ne 7, 3) by decide +kernel) (by decide),
  fun d σ S l0 => ex_iconst (show decode mX7_kindOf.2.1 36 = .ok (.iconst 4, 1) by decide +kernel) (by decide +kernel),
  fun d σ S l0 => ex_goto (show decode mX7_kindOf.2.1 37 = .ok (.goto 14, 3) by decide +kernel) (by decide),
  fun d σ S x => ex_iload_n (show decode mX7_kindOf.2.1 40 = .ok (.iload_n 0, 1) by decide +kernel) rfl,
  fun d σ S l0 => ex_bipush (show decode mX7_kindOf.2.1 41 = .ok (.bipush 98, 2) by decide +kernel) (by decide +kernel),
  fun d σ S l0 x y => ex_cne (show decode mX7_kindOf.2.1 43 = .ok (.if_icmp .ne 7, 3) by decide +kernel) (by decide),
  fun d σ S l0 => ex_iconst (show decode mX7_kindOf.2.1 46 = .ok (.iconst 5, 1) by decide +kernel) (by decide +kernel),
  fun d σ S l0 => ex_goto (show decode mX7_kindOf.2.1 47 = .ok (.goto 4, 3) by decide +kernel) (by decide),
  fun d σ S l0 => ex_iconst (show decode mX7_kindOf.2.1 50 = .ok (.iconst 0, 1) by decide +kernel) (by decide +kernel),
  fun d σ l0 x => ex_iret (show decode mX7_kindOf.2.1 51 = .ok (.ireturn, 1) by decide +kernel) rfl⟩
theorem aX7_kindOf : ∀ (d : Nat) (a0 : Int32) (σ : Sg), cal (d + 1) mX7_kindOf [.int a0] σ = exec d mX7_kindOf 0 [.int a0] [] σ := fun _ _ _ => rfl
theorem kX7_takesPart_0 : (∀ (d : Nat) (σ : Sg) (S : List Value) (l1 l2 l3 l4 l5 l6 : Value) (k : Nat), exec d mX7_takesPart 0 [.ref k, l1, l2, l3, l4, l5, l6] S σ = exec d mX7_takesPart 1 [.ref k, l1, l2, l3, l4, l5, l6] (.ref k :: S) σ) ∧
  (∀ (d : Nat) (σ : Sg) (S : List Value) (l0 l1 l2 l3 l4 l5 l6 : Value), exec d mX7_takesPart 1 [l0, l1, l2, l3, l4, l5, l6] (.ref 50 :: S) σ = exec d mX7_takesPart 4 [l0, l1, l2, l3, l4, l5, l6] (.ref 51 :: S) σ) ∧
  (∀ (d : Nat) (σ : Sg) (S : List Value) (l0 l1 l2 l3 l4 l5 l6 : Value), exec d mX7_takesPart 4 [l0, l1, l2, l3, l4, l5, l6] S σ = exec d mX7_takesPart 7 [l0, l1, l2, l3, l4, l5, l6] (.int (nI 163) :: S) σ) ∧
  (∀ (d : Nat) (σ : Sg) (S : List Value) (l0 l1 l2 l3 l4 l5 l6 : Value) (x : Int32), exec d mX7_takesPart 7 [l0, l1, l2, l3, l4, l5, l6] (.int x :: .ref 51 :: S) σ = if inb x 208 = true then exec d mX7_takesPart 8 [l0, l1, l2, l3, l4, l5, l6] (.int (σ 51 x.toNatClampNeg) :: S) σ else none) ∧
  (∀ (d : Nat) (σ : Sg) (S : List Value) (l0 l2 l3 l4 l5 l6 : Value) (x y : Int32), exec d mX7_takesPart 8 [l0, .int y, l2, l3, l4, l5, l6] (.int x :: S) σ = exec d mX7_takesPart 9 [l0, .int y, .int x, l3, l4, l5, l6] S σ) ∧
  (∀ (d : Nat) (σ : Sg) (S : List Value) (l0 l1 l3 l4 l5 l6 : Value) (x : Int32), exec d mX7_takesPart 9 [l0, l1, .int x, l3, l4, l5, l6] S σ = exec d mX7_takesPart 10 [l0, l1, .int x, l3, l4, l5, l6] (.int x :: S) σ) ∧
  (∀ (d : Nat) (σ : Sg) (S : List Value) (l0 l1 l2 l3 l4 l5 l6 : Value), exec d mX7_takesPart 10 [l0, l1, l2, l3, l4, l5, l6] S σ = exec d mX7_takesPart 12 [l0, l1, l2, l3, l4, l5, l6] (.int (nI 7) :: S) σ) ∧
  (∀ (d : Nat) (σ : Sg) (S : List Value) (l0 l1 l2 l3 l4 l5 l6 : Value) (x y : Int32), exec d mX7_takesPart 12 [l0, l1, l2, l3, l4, l5, l6] (.int y :: .int x :: S) σ = if x = y then exec d mX7_takesPart 15 [l0, l1, l2, l3, l4, l5, l6] S σ else exec d mX7_takesPart 25 [l0, l1, l2, l3, l4, l5, l6] S σ) ∧
  (∀ (d : Nat) (σ : Sg) (S : List Value) (l1 l2 l3 l4 l5 l6 : Value) (k : Nat), exec d mX7_takesPart 15 [.ref k, l1, l2, l3, l4, l5, l6] S σ = exec d mX7_takesPart 16 [.ref k, l1, l2, l3, l4, l5, l6] (.ref k :: S) σ) ∧
  (∀ (d : Nat) (σ : Sg) (S : List Value) (l0 l1 l2 l3 l4 l5 l6 : Value), exec d mX7_takesPart 16 [l0, l1, l2, l3, l4, l5, l6] S σ = exec d mX7_takesPart 17 [l0, l1, l2, l3, l4, l5, l6] (.int (nI 3) :: S) σ) ∧
  (∀ (d : Nat) (σ : Sg) (S : List Value) (l1 l2 l3 l4 l5 l6 : Value) (k : Nat), exec d mX7_takesPart 17 [.ref k, l1, l2, l3, l4, l5, l6] S σ = exec d mX7_takesPart 18 [.ref k, l1, l2, l3, l4, l5, l6] (.ref k :: S) σ) ∧
  (∀ (d : Nat) (σ : Sg) (S : List Value) (l0 l1 l2 l3 l4 l5 l6 : Value), exec d mX7_takesPart 18 [l0, l1, l2, l3, l4, l5, l6] (.ref 50 :: S) σ = exec d mX7_takesPart 21 [l0, l1, l2, l3, l4, l5, l6] (.int (σ 50 14) :: S) σ) ∧
  (∀ (d : Nat) (σ : Sg) (l0 l1 l2 l3 l4 l5 l6 : Value) (x0 x1 : Int32), exec d mX7_takesPart 21 [l0, l1, l2, l3, l4, l5, l6] [.int x0, .int x1, .ref 50] σ = kb (cal d mX7_fails [.ref 50, .int x1, .int x0] σ) (fun rs σ2 => exec d mX7_takesPart 24 [l0, l1, l2, l3, l4, l5, l6] (rs ++ []) σ2)) ∧
  (∀ (d : Nat) (σ : Sg) (l0 l1 l2 l3 l4 l5 l6 : Value) (x : Int32), exec d mX7_takesPart 24 [l0, l1, l2, l3, l4, l5, l6] [.int x] σ = if b01 x = true then some (some (.int x), σ) else none) ∧
  (∀ (d : Nat) (σ : Sg) (S : List Value) (l1 l2 l3 l4 l5 l6 : Value) (k : Nat), exec d mX7_takesPart 25 [.ref k, l1, l2, l3, l4, l5, l6] S σ = exec d mX7_takesPart 26 [.ref k, l1, l2, l3, l4, l5, l6] (.ref k :: S) σ) ∧
  (∀ (d : Nat) (σ : Sg) (S : List Value) (l0 l1 l2 l3 l4 l5 l6 : Value) (k : Nat), exec d mX7_takesPart 26 [l0, l1, l2, l3, l4, l5, l6] (.ref k :: S) σ = exec d mX7_takesPart 27 [l0, l1, l2, l3, l4, l5, l6] (.ref k :: .ref k :: S) σ) ∧
  (∀ (d : Nat) (σ : Sg) (S : List Value) (l0 l1 l2 l3 l4 l5 l6 : Value), exec d mX7_takesPart 27 [l0, l1, l2, l3, l4, l5, l6] (.ref 50 :: S) σ = exec d mX7_takesPart 30 [l0, l1, l2, l3, l4, l5, l6] (.int (σ 50 14) :: S) σ) ∧
  (∀ (d : Nat) (σ : Sg) (S : List Value) (l0 l1 l2 l3 l4 l5 l6 : Value), exec d mX7_takesPart 30 [l0, l1, l2, l3, l4, l5, l6] S σ = exec d mX7_takesPart 31 [l0, l1, l2, l3, l4, l5, l6] (.int (nI 1) :: S) σ) ∧
  (∀ (d : Nat) (σ : Sg) (S : List Value) (l0 l1 l2 l3 l4 l5 l6 : Value) (x y : Int32), exec d mX7_takesPart 31 [l0, l1, l2, l3, l4, l5, l6] (.int y :: .int x :: S) σ = exec d mX7_takesPart 32 [l0, l1, l2, l3, l4, l5, l6] (.int (x + y) :: S) σ) ∧
  (∀ (d : Nat) (σ : Sg) (S : List Value) (l0 l1 l2 l3 l4 l5 l6 : Value) (x : Int32), exec d mX7_takesPart 32 [l0, l1, l2, l3, l4, l5, l6] (.int x :: .ref 50 :: S) σ = exec d mX7_takesPart 35 [l0, l1, l2, l3, l4, l5, l6] S (up σ 50 14 x)) ∧
  (∀ (d : Nat) (σ : Sg) (S : List Value) (l1 l2 l3 l4 l5 l6 : Value) (k : Nat), exec d mX7_takesPart 35 [.ref k, l1, l2, l3, l4, l5, l6] S σ = exec d mX7_takesPart 36 [.ref k, l1, l2, l3, l4, l5, l6] (.ref k :: S) σ) ∧
  (∀ (d : Nat) (σ : Sg) (S : List Value) (l0 l1 l2 l3 l4 l5 l6 : Value), exec d mX7_takesPart 36 [l0, l1, l2, l3, l4, l5, l6] (.ref 50 :: S) σ = exec d mX7_takesPart 39 [l0, l1, l2, l3, l4, l5, l6] (.ref 51 :: S) σ) ∧
  (∀ (d : Nat) (σ : Sg) (S : List Value) (l0 l1 l2 l3 l4 l5 l6 : Value), exec d mX7_takesPart 39 [l0, l1, l2, l3, l4, l5, l6] S σ = exec d mX7_takesPart 42 [l0, l1, l2, l3, l4, l5, l6] (.int (nI 165) :: S) σ) ∧
  (∀ (d : Nat) (σ : Sg) (S : List Value) (l0 l1 l3 l4 l5 l6 : Value) (x : Int32), exec d mX7_takesPart 42 [l0, l1, .int x, l3, l4, l5, l6] S σ = exec d mX7_takesPart 43 [l0, l1, .int x, l3, l4, l5, l6] (.int x :: S) σ) ∧
  (∀ (d : Nat) (σ : Sg) (S : List Value) (l0 l1 l2 l3 l4 l5 l6 : Value) (x y : Int32), exec d mX7_takesPart 43 [l0, l1, l2, l3, l4, l5, l6] (.int y :: .int x :: S) σ = exec d mX7_takesPart 44 [l0, l1, l2, l3, l4, l5, l6] (.int (x + y) :: S) σ) ∧
  (∀ (d : Nat) (σ : Sg) (S : List Value) (l0 l2 l3 l4 l5 l6 : Value) (x : Int32), exec d mX7_takesPart 44 [l0, .int x, l2, l3, l4, l5, l6] S σ = exec d mX7_takesPart 45 [l0, .int x, l2, l3, l4, l5, l6] (.int x :: S) σ) ∧
  (∀ (d : Nat) (σ : Sg) (S : List Value) (l0 l1 l2 l3 l4 l5 l6 : Value) (x y : Int32), exec d mX7_takesPart 45 [l0, l1, l2, l3, l4, l5, l6] (.int y :: .int x :: .ref 51 :: S) σ = if inb x 208 = true then exec d mX7_takesPart 46 [l0, l1, l2, l3, l4, l5, l6] S (up σ 51 x.toNatClampNeg y) else none) ∧
  (∀ (d : Nat) (σ : Sg) (S : List Value) (l1 l2 l3 l4 l5 l6 : Value) (k : Nat), exec d mX7_takesPart 46 [.ref k, l1, l2, l3, l4, l5, l6] S σ = exec d mX7_takesPart 47 [.ref k, l1, l2, l3, l4, l5, l6] (.ref k :: S) σ) ∧
  (∀ (d : Nat) (σ : Sg) (S : List Value) (l0 l1 l2 l3 l4 l5 l6 : Value), exec d mX7_takesPart 47 [l0, l1, l2, l3, l4, l5, l6] S σ = exec d mX7_takesPart 48 [l0, l1, l2, l3, l4, l5, l6] (.int (nI 0) :: S) σ) ∧
  (∀ (d : Nat) (σ : Sg) (S : List Value) (l0 l1 l2 l3 l4 l5 l6 : Value), exec d mX7_takesPart 48 [l0, l1, l2, l3, l4, l5, l6] S σ = exec d mX7_takesPart 50 [l0, l1, l2, l3, l4, l5, l6] (.int (nI 20) :: S) σ) ∧
  (∀ (d : Nat) (σ : Sg) (S : List Value) (l0 l1 l2 l3 l4 l5 l6 : Value), exec d mX7_takesPart 50 [l0, l1, l2, l3, l4, l5, l6] S σ = exec d mX7_takesPart 52 [l0, l1, l2, l3, l4, l5, l6] (.int (nI 44) :: S) σ) ∧
  (∀ (d : Nat) (σ : Sg) (l0 l1 l2 l3 l4 l5 l6 : Value) (x0 x1 x2 : Int32), exec d mX7_takesPart 52 [l0, l1, l2, l3, l4, l5, l6] [.int x0, .int x1, .int x2, .ref 50] σ = kb (cal d mX7_takesNumber [.ref 50, .int x2, .int x1, .int x0] σ) (fun rs σ2 => exec d mX7_takesPart 55 [l0, l1, l2, l3, l4, l5, l6] (rs ++ []) σ2)) ∧
  (∀ (d : Nat) (σ : Sg) (S : List Value) (l0 l1 l2 l3 l4 l5 l6 : Value) (x : Int32), exec d mX7_takesPart 55 [l0, l1, l2, l3, l4, l5, l6] (.int x :: S) σ = if x = nI 0 then exec d mX7_takesPart 58 [l0, l1, l2, l3, l4, l5, l6] S σ else exec d mX7_takesPart 60 [l0, l1, l2, l3, l4, l5, l6] S σ) ∧
  (∀ (d : Nat) (σ : Sg) (S : List Value) (l0 l1 l2 l3 l4 l5 l6 : Value), exec d mX7_takesPart 58 [l0, l1, l2, l3, l4, l5, l6] S σ = exec d mX7_takesPart 59 [l0, l1, l2, l3, l4, l5, l6] (.int (nI 0) :: S) σ) ∧
  (∀ (d : Nat) (σ : Sg) (l0 l1 l2 l3 l4 l5 l6 : Value) (x : Int32), exec d mX7_takesPart 59 [l0, l1, l2, l3, l4, l5, l6] [.int x] σ = if b01 x = true then some (some (.int x), σ) else none) ∧
  (∀ (d : Nat) (σ : Sg) (S : List Value) (l1 l2 l3 l4 l5 l6 : Value) (k : Nat), exec d mX7_takesPart 60 [.ref k, l1, l2, l3, l4, l5, l6] S σ = exec d mX7_takesPart 61 [.ref k, l1, l2, l3, l4, l5, l6] (.ref k :: S) σ) ∧
  (∀ (d : Nat) (σ : Sg) (S : List Value) (l0 l1 l2 l3 l4 l5 l6 : Value), exec d mX7_takesPart 61 [l0, l1, l2, l3, l4, l5, l6] (.ref 50 :: S) σ = exec d mX7_takesPart 64 [l0, l1, l2, l3, l4, l5, l6] (.ref 51 :: S) σ) ∧
  (∀ (d : Nat) (σ : Sg) (S : List Value) (l0 l1 l2 l3 l4 l5 l6 : Value), exec d mX7_takesPart 64 [l0, l1, l2, l3, l4, l5, l6] S σ = exec d mX7_takesPart 67 [l0, l1, l2, l3, l4, l5, l6] (.int (nI 172) :: S) σ) ∧
  (∀ (d : Nat) (σ : Sg) (S : List Value) (l0 l1 l3 l4 l5 l6 : Value) (x : Int32), exec d mX7_takesPart 67 [l0, l1, .int x, l3, l4, l5, l6] S σ = exec d mX7_takesPart 68 [l0, l1, .int x, l3, l4, l5, l6] (.int x :: S) σ) ∧
  (∀ (d : Nat) (σ : Sg) (S : List Value) (l0 l1 l2 l3 l4 l5 l6 : Value) (x y : Int32), exec d mX7_takesPart 68 [l0, l1, l2, l3, l4, l5, l6] (.int y :: .int x :: S) σ = exec d mX7_takesPart 69 [l0, l1, l2, l3, l4, l5, l6] (.int (x + y) :: S) σ) :=
  ⟨fun d σ S l1 l2 l3 l4 l5 l6 k => ex_aload_n (show decode mX7_takesPart.2.1 0 = .ok (.aload_n 0, 1) by decide +kernel) rfl,
  fun d σ S l0 l1 l2 l3 l4 l5 l6 => ex_getr (idx := 7) (ci := 7) (ff := 0) (n := 26) (hh := 833) (by decide +kernel),
  fun d σ S l0 l1 l2 l3 l4 l5 l6 => ex_sipush (show decode mX7_takesPart.2.1 4 = .ok (.sipush 163, 3) by decide +kernel) (by decide +kernel),
  fun d σ S l0 l1 l2 l3 l4 l5 l6 x => ex_iald (by decide +kernel),
  fun d σ S l0 l2 l3 l4 l5 l6 x y => ex_istore_n (show decode mX7_takesPart.2.1 8 = .ok (.istore_n 2, 1) by decide +kernel) (Nat.le_of_ble_eq_true rfl) rfl,
  fun d σ S l0 l1 l3 l4 l5 l6 x => ex_iload_n (show decode mX7_takesPart.2.1 9 = .ok (.iload_n 2, 1) by decide +kernel) rfl,
  fun d σ S l0 l1 l2 l3 l4 l5 l6 => ex_bipush (show decode mX7_takesPart.2.1 10 = .ok (.bipush 7, 2) by decide +kernel) (by decide +kernel),
  fun d σ S l0 l1 l2 l3 l4 l5 l6 x y => ex_cne (show decode mX7_takesPart.2.1 12 = .ok (.if_icmp .ne 13, 3) by decide +kernel) (by decide),
  fun d σ S l1 l2 l3 l4 l5 l6 k => ex_aload_n (show decode mX7_takesPart.2.1 15 = .ok (.aload_n 0, 1) by decide +kernel) rfl,
  fun d σ S l0 l1 l2 l3 l4 l5 l6 => ex_iconst (show decode mX7_takesPart.2.1 16 = .ok (.iconst 3, 1) by decide +kernel) (by decide +kernel),
  fun d σ S l1 l2 l3 l4 l5 l6 k => ex_aload_n (show decode mX7_takesPart.2.1 17 = .ok (.aload_n 0, 1) by decide +kernel) rfl,
  fun d σ S l0 l1 l2 l3 l4 l5 l6 => ex_get (idx := 97) (ci := 7) (ff := 14) (n := 26) (hh := 847) (by decide +kernel),
  fun d σ l0 l1 l2 l3 l4 l5 l6 x0 x1 => ex_iv (hs := [971, 973, 59, 974, 101]) (show decode mX7_takesPart.2.1 21 = .ok (.invokevirtual 103, 3) by decide +kernel) lkV_7_103 ⟨rfl, Nat.le_of_ble_eq_true rfl, Nat.le_of_ble_eq_true rfl, fun _ => rfl⟩ rfl rfl,
  fun d σ l0 l1 l2 l3 l4 l5 l6 x => ex_zret (show decode mX7_takesPart.2.1 24 = .ok (.ireturn, 1) by decide +kernel) rfl,
  fun d σ S l1 l2 l3 l4 l5 l6 k => ex_aload_n (show decode mX7_takesPart.2.1 25 = .ok (.aload_n 0, 1) by decide +kernel) rfl,
  fun d σ S l0 l1 l2 l3 l4 l5 l6 k => ex_dup (show decode mX7_takesPart.2.1 26 = .ok (.dup, 1) by decide +kernel) rfl,
  fun d σ S l0 l1 l2 l3 l4 l5 l6 => ex_get (idx := 97) (ci := 7) (ff := 14) (n := 26) (hh := 847) (by decide +kernel),
  fun d σ S l0 l1 l2 l3 l4 l5 l6 => ex_iconst (show decode mX7_takesPart.2.1 30 = .ok (.iconst 1, 1) by decide +kernel) (by decide +kernel),
  fun d σ S l0 l1 l2 l3 l4 l5 l6 x y => ex_iadd (show decode mX7_takesPart.2.1 31 = .ok (.iadd, 1) by decide +kernel),
  fun d σ S l0 l1 l2 l3 l4 l5 l6 x => ex_put (idx := 97) (ci := 7) (ff := 14) (n := 26) (hh := 847) (by decide +kernel),
  fun d σ S l1 l2 l3 l4 l5 l6 k => ex_aload_n (show decode mX7_takesPart.2.1 35 = .ok (.aload_n 0, 1) by decide +kernel) rfl,
  fun d σ S l0 l1 l2 l3 l4 l5 l6 => ex_getr (idx := 7) (ci := 7) (ff := 0) (n := 26) (hh := 833) (by decide +kernel),
  fun d σ S l0 l1 l2 l3 l4 l5 l6 => ex_sipush (show decode mX7_takesPart.2.1 39 = .ok (.sipush 165, 3) by decide +kernel) (by decide +kernel),
  fun d σ S l0 l1 l3 l4 l5 l6 x => ex_iload_n (show decode mX7_takesPart.2.1 42 = .ok (.iload_n 2, 1) by decide +kernel) rfl,
  fun d σ S l0 l1 l2 l3 l4 l5 l6 x y => ex_iadd (show decode mX7_takesPart.2.1 43 = .ok (.iadd, 1) by decide +kernel),
  fun d σ S l0 l2 l3 l4 l5 l6 x => ex_iload_n (show decode mX7_takesPart.2.1 44 = .ok (.iload_n 1, 1) by decide +kernel) rfl,
  fun d σ S l0 l1 l2 l3 l4 l5 l6 x y => ex_iast (by decide +kernel),
  fun d σ S l1 l2 l3 l4 l5 l6 k => ex_aload_n (show decode mX7_takesPart.2.1 46 = .ok (.aload_n 0, 1) by decide +kernel) rfl,
  fun d σ S l0 l1 l2 l3 l4 l5 l6 => ex_iconst (show decode mX7_takesPart.2.1 47 = .ok (.iconst 0, 1) by decide +kernel) (by decide +kernel),
  fun d σ S l0 l1 l2 l3 l4 l5 l6 => ex_bipush (show decode mX7_takesPart.2.1 48 = .ok (.bipush 20, 2) by decide +kernel) (by decide +kernel),
  fun d σ S l0 l1 l2 l3 l4 l5 l6 => ex_bipush (show decode mX7_takesPart.2.1 50 = .ok (.bipush 44, 2) by decide +kernel) (by decide +kernel),
  fun d σ l0 l1 l2 l3 l4 l5 l6 x0 x1 x2 => ex_iv (hs := [975, 977, 60, 978, 101]) (show decode mX7_takesPart.2.1 52 = .ok (.invokevirtual 117, 3) by decide +kernel) lkV_7_117 ⟨rfl, Nat.le_of_ble_eq_true rfl, Nat.le_of_ble_eq_true rfl, fun _ => rfl⟩ rfl rfl,
  fun d σ S l0 l1 l2 l3 l4 l5 l6 x => ex_zne (show decode mX7_takesPart.2.1 55 = .ok (.ifCond .ne 5, 3) by decide +kernel) (by decide),
  fun d σ S l0 l1 l2 l3 l4 l5 l6 => ex_iconst (show decode mX7_takesPart.2.1 58 = .ok (.iconst 0, 1) by decide +kernel) (by decide +kernel),
  fun d σ l0 l1 l2 l3 l4 l5 l6 x => ex_zret (show decode mX7_takesPart.2.1 59 = .ok (.ireturn, 1) by decide +kernel) rfl,
  fun d σ S l1 l2 l3 l4 l5 l6 k => ex_aload_n (show decode mX7_takesPart.2.1 60 = .ok (.aload_n 0, 1) by decide +kernel) rfl,
  fun d σ S l0 l1 l2 l3 l4 l5 l6 => ex_getr (idx := 7) (ci := 7) (ff := 0) (n := 26) (hh := 833) (by decide +kernel),
  fun d σ S l0 l1 l2 l3 l4 l5 l6 => ex_sipush (show decode mX7_takesPart.2.1 64 = .ok (.sipush 172, 3) by decide +kernel) (by decide +kernel),
  fun d σ S l0 l1 l3 l4 l5 l6 x => ex_iload_n (show decode mX7_takesPart.2.1 67 = .ok (.iload_n 2, 1) by decide +kernel) rfl,
  fun d σ S l0 l1 l2 l3 l4 l5 l6 x y => ex_iadd (show decode mX7_takesPart.2.1 68 = .ok (.iadd, 1) by decide +kernel)⟩
theorem kX7_takesPart_1 : (∀ (d : Nat) (σ : Sg) (S : List Value) (l1 l2 l3 l4 l5 l6 : Value) (k : Nat), exec d mX7_takesPart 69 [.ref k, l1, l2, l3, l4, l5, l6] S σ = exec d mX7_takesPart 70 [.ref k, l1, l2, l3, l4, l5, l6] (.ref k :: S) σ) ∧
  (∀ (d : Nat) (σ : Sg) (S : List Value) (l0 l1 l2 l3 l4 l5 l6 : Value), exec d mX7_takesPart 70 [l0, l1, l2, l3, l4, l5, l6] (.ref 50 :: S) σ = exec d mX7_takesPart 73 [l0, l1, l2, l3, l4, l5, l6] (.int (σ 50 15) :: S) σ) ∧
  (∀ (d : Nat) (σ : Sg) (S : List Value) (l0 l1 l2 l3 l4 l5 l6 : Value) (x y : Int32), exec d mX7_takesPart 73 [l0, l1, l2, l3, l4, l5, l6] (.int y :: .int x :: .ref 51 :: S) σ = if inb x 208 = true then exec d mX7_takesPart 74 [l0, l1, l2, l3, l4, l5, l6] S (up σ 51 x.toNatClampNeg y) else none) ∧
  (∀ (d : Nat) (σ : Sg) (S : List Value) (l1 l2 l3 l4 l5 l6 : Value) (k : Nat), exec d mX7_takesPart 74 [.ref k, l1, l2, l3, l4, l5, l6] S σ = exec d mX7_takesPart 75 [.ref k, l1, l2, l3, l4, l5, l6] (.ref k :: S) σ) ∧
  (∀ (d : Nat) (σ : Sg) (S : List Value) (l0 l1 l2 l3 l4 l5 l6 : Value), exec d mX7_takesPart 75 [l0, l1, l2, l3, l4, l5, l6] S σ = exec d mX7_takesPart 76 [l0, l1, l2, l3, l4, l5, l6] (.int (nI 1) :: S) σ) ∧
  (∀ (d : Nat) (σ : Sg) (S : List Value) (l0 l1 l2 l3 l4 l5 l6 : Value), exec d mX7_takesPart 76 [l0, l1, l2, l3, l4, l5, l6] S σ = exec d mX7_takesPart 78 [l0, l1, l2, l3, l4, l5, l6] (.int (nI 20) :: S) σ) ∧
  (∀ (d : Nat) (σ : Sg) (S : List Value) (l0 l1 l2 l3 l4 l5 l6 : Value), exec d mX7_takesPart 78 [l0, l1, l2, l3, l4, l5, l6] S σ = exec d mX7_takesPart 80 [l0, l1, l2, l3, l4, l5, l6] (.int (nI 44) :: S) σ) ∧
  (∀ (d : Nat) (σ : Sg) (l0 l1 l2 l3 l4 l5 l6 : Value) (x0 x1 x2 : Int32), exec d mX7_takesPart 80 [l0, l1, l2, l3, l4, l5, l6] [.int x0, .int x1, .int x2, .ref 50] σ = kb (cal d mX7_takesNumber [.ref 50, .int x2, .int x1, .int x0] σ) (fun rs σ2 => exec d mX7_takesPart 83 [l0, l1, l2, l3, l4, l5, l6] (rs ++ []) σ2)) ∧
  (∀ (d : Nat) (σ : Sg) (S : List Value) (l0 l1 l2 l3 l4 l5 l6 : Value) (x : Int32), exec d mX7_takesPart 83 [l0, l1, l2, l3, l4, l5, l6] (.int x :: S) σ = if x = nI 0 then exec d mX7_takesPart 86 [l0, l1, l2, l3, l4, l5, l6] S σ else exec d mX7_takesPart 88 [l0, l1, l2, l3, l4, l5, l6] S σ) ∧
  (∀ (d : Nat) (σ : Sg) (S : List Value) (l0 l1 l2 l3 l4 l5 l6 : Value), exec d mX7_takesPart 86 [l0, l1, l2, l3, l4, l5, l6] S σ = exec d mX7_takesPart 87 [l0, l1, l2, l3, l4, l5, l6] (.int (nI 0) :: S) σ) ∧
  (∀ (d : Nat) (σ : Sg) (l0 l1 l2 l3 l4 l5 l6 : Value) (x : Int32), exec d mX7_takesPart 87 [l0, l1, l2, l3, l4, l5, l6] [.int x] σ = if b01 x = true then some (some (.int x), σ) else none) ∧
  (∀ (d : Nat) (σ : Sg) (S : List Value) (l1 l2 l3 l4 l5 l6 : Value) (k : Nat), exec d mX7_takesPart 88 [.ref k, l1, l2, l3, l4, l5, l6] S σ = exec d mX7_takesPart 89 [.ref k, l1, l2, l3, l4, l5, l6] (.ref k :: S) σ) ∧
  (∀ (d : Nat) (σ : Sg) (S : List Value) (l0 l1 l2 l3 l4 l5 l6 : Value), exec d mX7_takesPart 89 [l0, l1, l2, l3, l4, l5, l6] (.ref 50 :: S) σ = exec d mX7_takesPart 92 [l0, l1, l2, l3, l4, l5, l6] (.ref 51 :: S) σ) ∧
  (∀ (d : Nat) (σ : Sg) (S : List Value) (l0 l1 l2 l3 l4 l5 l6 : Value), exec d mX7_takesPart 92 [l0, l1, l2, l3, l4, l5, l6] S σ = exec d mX7_takesPart 95 [l0, l1, l2, l3, l4, l5, l6] (.int (nI 179) :: S) σ) ∧
  (∀ (d : Nat) (σ : Sg) (S : List Value) (l0 l1 l3 l4 l5 l6 : Value) (x : Int32), exec d mX7_takesPart 95 [l0, l1, .int x, l3, l4, l5, l6] S σ = exec d mX7_takesPart 96 [l0, l1, .int x, l3, l4, l5, l6] (.int x :: S) σ) ∧
  (∀ (d : Nat) (σ : Sg) (S : List Value) (l0 l1 l2 l3 l4 l5 l6 : Value) (x y : Int32), exec d mX7_takesPart 96 [l0, l1, l2, l3, l4, l5, l6] (.int y :: .int x :: S) σ = exec d mX7_takesPart 97 [l0, l1, l2, l3, l4, l5, l6] (.int (x + y) :: S) σ) ∧
  (∀ (d : Nat) (σ : Sg) (S : List Value) (l1 l2 l3 l4 l5 l6 : Value) (k : Nat), exec d mX7_takesPart 97 [.ref k, l1, l2, l3, l4, l5, l6] S σ = exec d mX7_takesPart 98 [.ref k, l1, l2, l3, l4, l5, l6] (.ref k :: S) σ) ∧
  (∀ (d : Nat) (σ : Sg) (S : List Value) (l0 l1 l2 l3 l4 l5 l6 : Value), exec d mX7_takesPart 98 [l0, l1, l2, l3, l4, l5, l6] (.ref 50 :: S) σ = exec d mX7_takesPart 101 [l0, l1, l2, l3, l4, l5, l6] (.int (σ 50 15) :: S) σ) ∧
  (∀ (d : Nat) (σ : Sg) (S : List Value) (l0 l1 l2 l3 l4 l5 l6 : Value) (x y : Int32), exec d mX7_takesPart 101 [l0, l1, l2, l3, l4, l5, l6] (.int y :: .int x :: .ref 51 :: S) σ = if inb x 208 = true then exec d mX7_takesPart 102 [l0, l1, l2, l3, l4, l5, l6] S (up σ 51 x.toNatClampNeg y) else none) ∧
  (∀ (d : Nat) (σ : Sg) (S : List Value) (l1 l2 l3 l4 l5 l6 : Value) (k : Nat), exec d mX7_takesPart 102 [.ref k, l1, l2, l3, l4, l5, l6] S σ = exec d mX7_takesPart 103 [.ref k, l1, l2, l3, l4, l5, l6] (.ref k :: S) σ) ∧
  (∀ (d : Nat) (σ : Sg) (S : List Value) (l0 l1 l2 l3 l4 l5 l6 : Value), exec d mX7_takesPart 103 [l0, l1, l2, l3, l4, l5, l6] (.ref 50 :: S) σ = exec d mX7_takesPart 106 [l0, l1, l2, l3, l4, l5, l6] (.int (σ 50 14) :: S) σ) ∧
  (∀ (d : Nat) (σ : Sg) (S : List Value) (l0 l1 l3 l4 l5 l6 : Value) (x y : Int32), exec d mX7_takesPart 106 [l0, l1, .int y, l3, l4, l5, l6] (.int x :: S) σ = exec d mX7_takesPart 107 [l0, l1, .int y, .int x, l4, l5, l6] S σ) ∧
  (∀ (d : Nat) (σ : Sg) (S : List Value) (l1 l2 l3 l4 l5 l6 : Value) (k : Nat), exec d mX7_takesPart 107 [.ref k, l1, l2, l3, l4, l5, l6] S σ = exec d mX7_takesPart 108 [.ref k, l1, l2, l3, l4, l5, l6] (.ref k :: S) σ) ∧
  (∀ (d : Nat) (σ : Sg) (S : List Value) (l1 l2 l3 l4 l5 l6 : Value) (k : Nat), exec d mX7_takesPart 108 [.ref k, l1, l2, l3, l4, l5, l6] S σ = exec d mX7_takesPart 109 [.ref k, l1, l2, l3, l4, l5, l6] (.ref k :: S) σ) ∧
  (∀ (d : Nat) (σ : Sg) (S : List Value) (l0 l1 l2 l3 l4 l5 l6 : Value), exec d mX7_takesPart 109 [l0, l1, l2, l3, l4, l5, l6] (.ref 50 :: S) σ = exec d mX7_takesPart 112 [l0, l1, l2, l3, l4, l5, l6] (.int (σ 50 14) :: S) σ) ∧
  (∀ (d : Nat) (σ : Sg) (l0 l1 l2 l3 l4 l5 l6 : Value) (x0 : Int32), exec d mX7_takesPart 112 [l0, l1, l2, l3, l4, l5, l6] [.int x0, .ref 50] σ = kb (cal d mX7_byteAt [.ref 50, .int x0] σ) (fun rs σ2 => exec d mX7_takesPart 115 [l0, l1, l2, l3, l4, l5, l6] (rs ++ []) σ2)) ∧
  (∀ (d : Nat) (σ : Sg) (S : List Value) (l0 l1 l2 l3 l4 l5 l6 : Value) (x : Int32), exec d mX7_takesPart 115 [l0, l1, l2, l3, l4, l5, l6] (.int x :: S) σ = exec d mX7_takesPart 116 [l0, l1, l2, l3, l4, l5, l6] (.long x.toInt64 :: S) σ) ∧
  (∀ (d : Nat) (σ : Sg) (S : List Value) (l0 l1 l2 l3 l4 l5 l6 : Value), exec d mX7_takesPart 116 [l0, l1, l2, l3, l4, l5, l6] S σ = exec d mX7_takesPart 119 [l0, l1, l2, l3, l4, l5, l6] (.long (lN 48) :: S) σ) ∧
  (∀ (d : Nat) (σ : Sg) (S : List Value) (l0 l1 l2 l3 l4 l5 l6 : Value), exec d mX7_takesPart 119 [l0, l1, l2, l3, l4, l5, l6] S σ = exec d mX7_takesPart 122 [l0, l1, l2, l3, l4, l5, l6] (.long (lN 57) :: S) σ) ∧
  (∀ (d : Nat) (σ : Sg) (l0 l1 l2 l3 l4 l5 l6 : Value) (x0 x1 x2 : Int64), exec d mX7_takesPart 122 [l0, l1, l2, l3, l4, l5, l6] [.long x0, .long x1, .long x2] σ = kb (cal d mX7_in [.long x2, .long x1, .long x0] σ) (fun rs σ2 => exec d mX7_takesPart 125 [l0, l1, l2, l3, l4, l5, l6] (rs ++ []) σ2)) ∧
  (∀ (d : Nat) (σ : Sg) (S : List Value) (l0 l1 l2 l3 l4 l5 l6 : Value) (x : Int32), exec d mX7_takesPart 125 [l0, l1, l2, l3, l4, l5, l6] (.int x :: S) σ = if x = nI 0 then exec d mX7_takesPart 128 [l0, l1, l2, l3, l4, l5, l6] S σ else exec d mX7_takesPart 135 [l0, l1, l2, l3, l4, l5, l6] S σ) ∧
  (∀ (d : Nat) (σ : Sg) (S : List Value) (l1 l2 l3 l4 l5 l6 : Value) (k : Nat), exec d mX7_takesPart 128 [.ref k, l1, l2, l3, l4, l5, l6] S σ = exec d mX7_takesPart 129 [.ref k, l1, l2, l3, l4, l5, l6] (.ref k :: S) σ) ∧
  (∀ (d : Nat) (σ : Sg) (S : List Value) (l0 l1 l2 l3 l4 l5 l6 : Value), exec d mX7_takesPart 129 [l0, l1, l2, l3, l4, l5, l6] S σ = exec d mX7_takesPart 130 [l0, l1, l2, l3, l4, l5, l6] (.int (nI 1) :: S) σ) ∧
  (∀ (d : Nat) (σ : Sg) (S : List Value) (l0 l1 l2 l4 l5 l6 : Value) (x : Int32), exec d mX7_takesPart 130 [l0, l1, l2, .int x, l4, l5, l6] S σ = exec d mX7_takesPart 131 [l0, l1, l2, .int x, l4, l5, l6] (.int x :: S) σ) ∧
  (∀ (d : Nat) (σ : Sg) (l0 l1 l2 l3 l4 l5 l6 : Value) (x0 x1 : Int32), exec d mX7_takesPart 131 [l0, l1, l2, l3, l4, l5, l6] [.int x0, .int x1, .ref 50] σ = kb (cal d mX7_fails [.ref 50, .int x1, .int x0] σ) (fun rs σ2 => exec d mX7_takesPart 134 [l0, l1, l2, l3, l4, l5, l6] (rs ++ []) σ2)) ∧
  (∀ (d : Nat) (σ : Sg) (l0 l1 l2 l3 l4 l5 l6 : Value) (x : Int32), exec d mX7_takesPart 134 [l0, l1, l2, l3, l4, l5, l6] [.int x] σ = if b01 x = true then some (some (.int x), σ) else none) ∧
  (∀ (d : Nat) (σ : Sg) (S : List Value) (l1 l2 l3 l4 l5 l6 : Value) (k : Nat), exec d mX7_takesPart 136 [.ref k, l1, l2, l3, l4, l5, l6] S σ = exec d mX7_takesPart 137 [.ref k, l1, l2, l3, l4, l5, l6] (.ref k :: S) σ) ∧
  (∀ (d : Nat) (σ : Sg) (S : List Value) (l0 l1 l2 l3 l4 l5 l6 : Value), exec d mX7_takesPart 137 [l0, l1, l2, l3, l4, l5, l6] (.ref 50 :: S) σ = exec d mX7_takesPart 140 [l0, l1, l2, l3, l4, l5, l6] (.int (σ 50 14) :: S) σ) ∧
  (∀ (d : Nat) (σ : Sg) (l0 l1 l2 l3 l4 l5 l6 : Value) (x0 : Int32), exec d mX7_takesPart 140 [l0, l1, l2, l3, l4, l5, l6] [.int x0, .ref 50] σ = kb (cal d mX7_byteAt [.ref 50, .int x0] σ) (fun rs σ2 => exec d mX7_takesPart 143 [l0, l1, l2, l3, l4, l5, l6] (rs ++ []) σ2)) ∧
  (∀ (d : Nat) (σ : Sg) (S : List Value) (l0 l1 l2 l3 l4 l5 l6 : Value) (x : Int32), exec d mX7_takesPart 143 [l0, l1, l2, l3, l4, l5, l6] (.int x :: S) σ = exec d mX7_takesPart 144 [l0, l1, l2, l3, l4, l5, l6] (.long x.toInt64 :: S) σ) :=
  ⟨fun d σ S l1 l2 l3 l4 l5 l6 k => ex_aload_n (show decode mX7_takesPart.2.1 69 = .ok (.aload_n 0, 1) by decide +kernel) rfl,
  fun d σ S l0 l1 l2 l3 l4 l5 l6 => ex_get (idx := 107) (ci := 7) (ff := 15) (n := 26) (hh := 848) (by decide +kernel),
  fun d σ S l0 l1 l2 l3 l4 l5 l6 x y => ex_iast (by decide +kernel),
  fun d σ S l1 l2 l3 l4 l5 l6 k => ex_aload_n (show decode mX7_takesPart.2.1 74 = .ok (.aload_n 0, 1) by decide +kernel) rfl,
  fun d σ S l0 l1 l2 l3 l4 l5 l6 => ex_iconst (show decode mX7_takesPart.2.1 75 = .ok (.iconst 1, 1) by decide +kernel) (by decide +kernel),
  fun d σ S l0 l1 l2 l3 l4 l5 l6 => ex_bipush (show decode mX7_takesPart.2.1 76 = .ok (.bipush 20, 2) by decide +kernel) (by decide +kernel),
  fun d σ S l0 l1 l2 l3 l4 l5 l6 => ex_bipush (show decode mX7_takesPart.2.1 78 = .ok (.bipush 44, 2) by decide +kernel) (by decide +kernel),
  fun d σ l0 l1 l2 l3 l4 l5 l6 x0 x1 x2 => ex_iv (hs := [975, 977, 60, 978, 101]) (show decode mX7_takesPart.2.1 80 = .ok (.invokevirtual 117, 3) by decide +kernel) lkV_7_117 ⟨rfl, Nat.le_of_ble_eq_true rfl, Nat.le_of_ble_eq_true rfl, fun _ => rfl⟩ rfl rfl,
  fun d σ S l0 l1 l2 l3 l4 l5 l6 x => ex_zne (show decode mX7_takesPart.2.1 83 = .ok (.ifCond .ne 5, 3) by decide +kernel) (by decide),
  fun d σ S l0 l1 l2 l3 l4 l5 l6 => ex_iconst (show decode mX7_takesPart.2.1 86 = .ok (.iconst 0, 1) by decide +kernel) (by decide +kernel),
  fun d σ l0 l1 l2 l3 l4 l5 l6 x => ex_zret (show decode mX7_takesPart.2.1 87 = .ok (.ireturn, 1) by decide +kernel) rfl,
  fun d σ S l1 l2 l3 l4 l5 l6 k => ex_aload_n (show decode mX7_takesPart.2.1 88 = .ok (.aload_n 0, 1) by decide +kernel) rfl,
  fun d σ S l0 l1 l2 l3 l4 l5 l6 => ex_getr (idx := 7) (ci := 7) (ff := 0) (n := 26) (hh := 833) (by decide +kernel),
  fun d σ S l0 l1 l2 l3 l4 l5 l6 => ex_sipush (show decode mX7_takesPart.2.1 92 = .ok (.sipush 179, 3) by decide +kernel) (by decide +kernel),
  fun d σ S l0 l1 l3 l4 l5 l6 x => ex_iload_n (show decode mX7_takesPart.2.1 95 = .ok (.iload_n 2, 1) by decide +kernel) rfl,
  fun d σ S l0 l1 l2 l3 l4 l5 l6 x y => ex_iadd (show decode mX7_takesPart.2.1 96 = .ok (.iadd, 1) by decide +kernel),
  fun d σ S l1 l2 l3 l4 l5 l6 k => ex_aload_n (show decode mX7_takesPart.2.1 97 = .ok (.aload_n 0, 1) by decide +kernel) rfl,
  fun d σ S l0 l1 l2 l3 l4 l5 l6 => ex_get (idx := 107) (ci := 7) (ff := 15) (n := 26) (hh := 848) (by decide +kernel),
  fun d σ S l0 l1 l2 l3 l4 l5 l6 x y => ex_iast (by decide +kernel),
  fun d σ S l1 l2 l3 l4 l5 l6 k => ex_aload_n (show decode mX7_takesPart.2.1 102 = .ok (.aload_n 0, 1) by decide +kernel) rfl,
  fun d σ S l0 l1 l2 l3 l4 l5 l6 => ex_get (idx := 97) (ci := 7) (ff := 14) (n := 26) (hh := 847) (by decide +kernel),
  fun d σ S l0 l1 l3 l4 l5 l6 x y => ex_istore_n (show decode mX7_takesPart.2.1 106 = .ok (.istore_n 3, 1) by decide +kernel) (Nat.le_of_ble_eq_true rfl) rfl,
  fun d σ S l1 l2 l3 l4 l5 l6 k => ex_aload_n (show decode mX7_takesPart.2.1 107 = .ok (.aload_n 0, 1) by decide +kernel) rfl,
  fun d σ S l1 l2 l3 l4 l5 l6 k => ex_aload_n (show decode mX7_takesPart.2.1 108 = .ok (.aload_n 0, 1) by decide +kernel) rfl,
  fun d σ S l0 l1 l2 l3 l4 l5 l6 => ex_get (idx := 97) (ci := 7) (ff := 14) (n := 26) (hh := 847) (by decide +kernel),
  fun d σ l0 l1 l2 l3 l4 l5 l6 x0 => ex_iv (hs := [967, 969, 58, 970, 101]) (show decode mX7_takesPart.2.1 112 = .ok (.invokevirtual 100, 3) by decide +kernel) lkV_7_100 ⟨rfl, Nat.le_of_ble_eq_true rfl, Nat.le_of_ble_eq_true rfl, fun _ => rfl⟩ rfl rfl,
  fun d σ S l0 l1 l2 l3 l4 l5 l6 x => ex_i2l (show decode mX7_takesPart.2.1 115 = .ok (.i2l, 1) by decide +kernel),
  fun d σ S l0 l1 l2 l3 l4 l5 l6 => ex_ldc2 (hh := 979) (show decode mX7_takesPart.2.1 116 = .ok (.ldc2_w 110, 3) by decide +kernel) (by decide +kernel),
  fun d σ S l0 l1 l2 l3 l4 l5 l6 => ex_ldc2 (hh := 980) (show decode mX7_takesPart.2.1 119 = .ok (.ldc2_w 112, 3) by decide +kernel) (by decide +kernel),
  fun d σ l0 l1 l2 l3 l4 l5 l6 x0 x1 x2 => ex_is (hs := [920, 921, 922, 101]) (show decode mX7_takesPart.2.1 122 = .ok (.invokestatic 63, 3) by decide +kernel) lkS_7_63 ⟨rfl, Nat.le_of_ble_eq_true rfl, Nat.le_of_ble_eq_true rfl, fun q => nomatch q⟩ rfl rfl,
  fun d σ S l0 l1 l2 l3 l4 l5 l6 x => ex_zne (show decode mX7_takesPart.2.1 125 = .ok (.ifCond .ne 10, 3) by decide +kernel) (by decide),
  fun d σ S l1 l2 l3 l4 l5 l6 k => ex_aload_n (show decode mX7_takesPart.2.1 128 = .ok (.aload_n 0, 1) by decide +kernel) rfl,
  fun d σ S l0 l1 l2 l3 l4 l5 l6 => ex_iconst (show decode mX7_takesPart.2.1 129 = .ok (.iconst 1, 1) by decide +kernel) (by decide +kernel),
  fun d σ S l0 l1 l2 l4 l5 l6 x => ex_iload_n (show decode mX7_takesPart.2.1 130 = .ok (.iload_n 3, 1) by decide +kernel) rfl,
  fun d σ l0 l1 l2 l3 l4 l5 l6 x0 x1 => ex_iv (hs := [971, 973, 59, 974, 101]) (show decode mX7_takesPart.2.1 131 = .ok (.invokevirtual 103, 3) by decide +kernel) lkV_7_103 ⟨rfl, Nat.le_of_ble_eq_true rfl, Nat.le_of_ble_eq_true rfl, fun _ => rfl⟩ rfl rfl,
  fun d σ l0 l1 l2 l3 l4 l5 l6 x => ex_zret (show decode mX7_takesPart.2.1 134 = .ok (.ireturn, 1) by decide +kernel) rfl,
  fun d σ S l1 l2 l3 l4 l5 l6 k => ex_aload_n (show decode mX7_takesPart.2.1 136 = .ok (.aload_n 0, 1) by decide +kernel) rfl,
  fun d σ S l0 l1 l2 l3 l4 l5 l6 => ex_get (idx := 97) (ci := 7) (ff := 14) (n := 26) (hh := 847) (by decide +kernel),
  fun d σ l0 l1 l2 l3 l4 l5 l6 x0 => ex_iv (hs := [967, 969, 58, 970, 101]) (show decode mX7_takesPart.2.1 140 = .ok (.invokevirtual 100, 3) by decide +kernel) lkV_7_100 ⟨rfl, Nat.le_of_ble_eq_true rfl, Nat.le_of_ble_eq_true rfl, fun _ => rfl⟩ rfl rfl,
  fun d σ S l0 l1 l2 l3 l4 l5 l6 x => ex_i2l (show decode mX7_takesPart.2.1 143 = .ok (.i2l, 1) by decide +kernel)⟩
theorem kX7_takesPart_2 : (∀ (d : Nat) (σ : Sg) (S : List Value) (l0 l1 l2 l3 l4 l5 l6 : Value), exec d mX7_takesPart 144 [l0, l1, l2, l3, l4, l5, l6] S σ = exec d mX7_takesPart 147 [l0, l1, l2, l3, l4, l5, l6] (.long (lN 48) :: S) σ) ∧
  (∀ (d : Nat) (σ : Sg) (S : List Value) (l0 l1 l2 l3 l4 l5 l6 : Value), exec d mX7_takesPart 147 [l0, l1, l2, l3, l4, l5, l6] S σ = exec d mX7_takesPart 150 [l0, l1, l2, l3, l4, l5, l6] (.long (lN 57) :: S) σ) ∧
  (∀ (d : Nat) (σ : Sg) (l0 l1 l2 l3 l4 l5 l6 : Value) (x0 x1 x2 : Int64), exec d mX7_takesPart 150 [l0, l1, l2, l3, l4, l5, l6] [.long x0, .long x1, .long x2] σ = kb (cal d mX7_in [.long x2, .long x1, .long x0] σ) (fun rs σ2 => exec d mX7_takesPart 153 [l0, l1, l2, l3, l4, l5, l6] (rs ++ []) σ2)) ∧
  (∀ (d : Nat) (σ : Sg) (S : List Value) (l0 l1 l2 l3 l4 l5 l6 : Value) (x : Int32), exec d mX7_takesPart 153 [l0, l1, l2, l3, l4, l5, l6] (.int x :: S) σ = if x = nI 0 then exec d mX7_takesPart 169 [l0, l1, l2, l3, l4, l5, l6] S σ else exec d mX7_takesPart 156 [l0, l1, l2, l3, l4, l5, l6] S σ) ∧
  (∀ (d : Nat) (σ : Sg) (S : List Value) (l1 l2 l3 l4 l5 l6 : Value) (k : Nat), exec d mX7_takesPart 156 [.ref k, l1, l2, l3, l4, l5, l6] S σ = exec d mX7_takesPart 157 [.ref k, l1, l2, l3, l4, l5, l6] (.ref k :: S) σ) ∧
  (∀ (d : Nat) (σ : Sg) (S : List Value) (l0 l1 l2 l3 l4 l5 l6 : Value) (k : Nat), exec d mX7_takesPart 157 [l0, l1, l2, l3, l4, l5, l6] (.ref k :: S) σ = exec d mX7_takesPart 158 [l0, l1, l2, l3, l4, l5, l6] (.ref k :: .ref k :: S) σ) ∧
  (∀ (d : Nat) (σ : Sg) (S : List Value) (l0 l1 l2 l3 l4 l5 l6 : Value), exec d mX7_takesPart 158 [l0, l1, l2, l3, l4, l5, l6] (.ref 50 :: S) σ = exec d mX7_takesPart 161 [l0, l1, l2, l3, l4, l5, l6] (.int (σ 50 14) :: S) σ) ∧
  (∀ (d : Nat) (σ : Sg) (S : List Value) (l0 l1 l2 l3 l4 l5 l6 : Value), exec d mX7_takesPart 161 [l0, l1, l2, l3, l4, l5, l6] S σ = exec d mX7_takesPart 162 [l0, l1, l2, l3, l4, l5, l6] (.int (nI 1) :: S) σ) ∧
  (∀ (d : Nat) (σ : Sg) (S : List Value) (l0 l1 l2 l3 l4 l5 l6 : Value) (x y : Int32), exec d mX7_takesPart 162 [l0, l1, l2, l3, l4, l5, l6] (.int y :: .int x :: S) σ = exec d mX7_takesPart 163 [l0, l1, l2, l3, l4, l5, l6] (.int (x + y) :: S) σ) ∧
  (∀ (d : Nat) (σ : Sg) (S : List Value) (l0 l1 l2 l3 l4 l5 l6 : Value) (x : Int32), exec d mX7_takesPart 163 [l0, l1, l2, l3, l4, l5, l6] (.int x :: .ref 50 :: S) σ = exec d mX7_takesPart 166 [l0, l1, l2, l3, l4, l5, l6] S (up σ 50 14 x)) ∧
  (∀ (d : Nat) (σ : Sg) (S : List Value) (l0 l1 l2 l3 l4 l5 l6 : Value), exec d mX7_takesPart 166 [l0, l1, l2, l3, l4, l5, l6] S σ = exec d mX7_takesPart 135 [l0, l1, l2, l3, l4, l5, l6] S σ) ∧
  (∀ (d : Nat) (σ : Sg) (S : List Value) (l1 l2 l3 l4 l5 l6 : Value) (k : Nat), exec d mX7_takesPart 169 [.ref k, l1, l2, l3, l4, l5, l6] S σ = exec d mX7_takesPart 170 [.ref k, l1, l2, l3, l4, l5, l6] (.ref k :: S) σ) ∧
  (∀ (d : Nat) (σ : Sg) (S : List Value) (l0 l1 l2 l3 l4 l5 l6 : Value), exec d mX7_takesPart 170 [l0, l1, l2, l3, l4, l5, l6] (.ref 50 :: S) σ = exec d mX7_takesPart 173 [l0, l1, l2, l3, l4, l5, l6] (.int (σ 50 14) :: S) σ) ∧
  (∀ (d : Nat) (σ : Sg) (S : List Value) (l0 l1 l2 l4 l5 l6 : Value) (x : Int32), exec d mX7_takesPart 173 [l0, l1, l2, .int x, l4, l5, l6] S σ = exec d mX7_takesPart 174 [l0, l1, l2, .int x, l4, l5, l6] (.int x :: S) σ) ∧
  (∀ (d : Nat) (σ : Sg) (S : List Value) (l0 l1 l2 l3 l4 l5 l6 : Value) (x y : Int32), exec d mX7_takesPart 174 [l0, l1, l2, l3, l4, l5, l6] (.int y :: .int x :: S) σ = exec d mX7_takesPart 175 [l0, l1, l2, l3, l4, l5, l6] (.int (x - y) :: S) σ) ∧
  (∀ (d : Nat) (σ : Sg) (S : List Value) (l0 l1 l2 l4 l5 l6 : Value) (x y : Int32), exec d mX7_takesPart 175 [l0, l1, l2, .int y, l4, l5, l6] (.int x :: S) σ = exec d mX7_takesPart 177 [l0, l1, l2, .int y, .int x, l5, l6] S σ) ∧
  (∀ (d : Nat) (σ : Sg) (S : List Value) (l1 l2 l3 l4 l5 l6 : Value) (k : Nat), exec d mX7_takesPart 177 [.ref k, l1, l2, l3, l4, l5, l6] S σ = exec d mX7_takesPart 178 [.ref k, l1, l2, l3, l4, l5, l6] (.ref k :: S) σ) ∧
  (∀ (d : Nat) (σ : Sg) (S : List Value) (l0 l1 l2 l4 l5 l6 : Value) (x : Int32), exec d mX7_takesPart 178 [l0, l1, l2, .int x, l4, l5, l6] S σ = exec d mX7_takesPart 179 [l0, l1, l2, .int x, l4, l5, l6] (.int x :: S) σ) ∧
  (∀ (d : Nat) (σ : Sg) (S : List Value) (l0 l1 l2 l3 l4 l5 l6 : Value) (x : Int32), exec d mX7_takesPart 179 [l0, l1, l2, l3, l4, l5, l6] (.int x :: .ref 50 :: S) σ = exec d mX7_takesPart 182 [l0, l1, l2, l3, l4, l5, l6] S (up σ 50 14 x)) ∧
  (∀ (d : Nat) (σ : Sg) (S : List Value) (l1 l2 l3 l4 l5 l6 : Value) (k : Nat), exec d mX7_takesPart 182 [.ref k, l1, l2, l3, l4, l5, l6] S σ = exec d mX7_takesPart 183 [.ref k, l1, l2, l3, l4, l5, l6] (.ref k :: S) σ) ∧
  (∀ (d : Nat) (σ : Sg) (S : List Value) (l0 l1 l2 l4 l5 l6 : Value) (x : Int32), exec d mX7_takesPart 183 [l0, l1, l2, .int x, l4, l5, l6] S σ = exec d mX7_takesPart 184 [l0, l1, l2, .int x, l4, l5, l6] (.int x :: S) σ) ∧
  (∀ (d : Nat) (σ : Sg) (l0 l1 l2 l3 l4 l5 l6 : Value) (x0 : Int32), exec d mX7_takesPart 184 [l0, l1, l2, l3, l4, l5, l6] [.int x0, .ref 50] σ = kb (cal d mX7_byteAt [.ref 50, .int x0] σ) (fun rs σ2 => exec d mX7_takesPart 187 [l0, l1, l2, l3, l4, l5, l6] (rs ++ []) σ2)) ∧
  (∀ (d : Nat) (σ : Sg) (S : List Value) (l0 l1 l2 l3 l4 l5 l6 : Value), exec d mX7_takesPart 187 [l0, l1, l2, l3, l4, l5, l6] S σ = exec d mX7_takesPart 189 [l0, l1, l2, l3, l4, l5, l6] (.int (nI 48) :: S) σ) ∧
  (∀ (d : Nat) (σ : Sg) (S : List Value) (l0 l1 l2 l3 l4 l5 l6 : Value) (x y : Int32), exec d mX7_takesPart 189 [l0, l1, l2, l3, l4, l5, l6] (.int y :: .int x :: S) σ = exec d mX7_takesPart 190 [l0, l1, l2, l3, l4, l5, l6] (.int (x - y) :: S) σ) ∧
  (∀ (d : Nat) (σ : Sg) (S : List Value) (l0 l1 l2 l3 l5 l6 : Value) (x y : Int32), exec d mX7_takesPart 190 [l0, l1, l2, l3, .int y, l5, l6] (.int x :: S) σ = exec d mX7_takesPart 192 [l0, l1, l2, l3, .int y, .int x, l6] S σ) ∧
  (∀ (d : Nat) (σ : Sg) (S : List Value) (l0 l1 l2 l3 l5 l6 : Value) (x : Int32), exec d mX7_takesPart 192 [l0, l1, l2, l3, .int x, l5, l6] S σ = exec d mX7_takesPart 194 [l0, l1, l2, l3, .int x, l5, l6] (.int x :: S) σ) ∧
  (∀ (d : Nat) (σ : Sg) (S : List Value) (l0 l1 l2 l3 l4 l5 l6 : Value), exec d mX7_takesPart 194 [l0, l1, l2, l3, l4, l5, l6] S σ = exec d mX7_takesPart 195 [l0, l1, l2, l3, l4, l5, l6] (.int (nI 1) :: S) σ) ∧
  (∀ (d : Nat) (σ : Sg) (S : List Value) (l0 l1 l2 l3 l4 l5 l6 : Value) (x y : Int32), exec d mX7_takesPart 195 [l0, l1, l2, l3, l4, l5, l6] (.int y :: .int x :: S) σ = if x = y then exec d mX7_takesPart 198 [l0, l1, l2, l3, l4, l5, l6] S σ else exec d mX7_takesPart 203 [l0, l1, l2, l3, l4, l5, l6] S σ) ∧
  (∀ (d : Nat) (σ : Sg) (S : List Value) (l0 l1 l2 l3 l4 l6 : Value) (x : Int32), exec d mX7_takesPart 198 [l0, l1, l2, l3, l4, .int x, l6] S σ = exec d mX7_takesPart 200 [l0, l1, l2, l3, l4, .int x, l6] (.int x :: S) σ) ∧
  (∀ (d : Nat) (σ : Sg) (S : List Value) (l0 l1 l2 l3 l4 l5 l6 : Value), exec d mX7_takesPart 200 [l0, l1, l2, l3, l4, l5, l6] S σ = exec d mX7_takesPart 219 [l0, l1, l2, l3, l4, l5, l6] S σ) ∧
  (∀ (d : Nat) (σ : Sg) (S : List Value) (l0 l1 l2 l3 l4 l5 l6 : Value), exec d mX7_takesPart 203 [l0, l1, l2, l3, l4, l5, l6] S σ = exec d mX7_takesPart 205 [l0, l1, l2, l3, l4, l5, l6] (.int (nI 10) :: S) σ) ∧
  (∀ (d : Nat) (σ : Sg) (S : List Value) (l0 l1 l2 l3 l4 l6 : Value) (x : Int32), exec d mX7_takesPart 205 [l0, l1, l2, l3, l4, .int x, l6] S σ = exec d mX7_takesPart 207 [l0, l1, l2, l3, l4, .int x, l6] (.int x :: S) σ) ∧
  (∀ (d : Nat) (σ : Sg) (S : List Value) (l0 l1 l2 l3 l4 l5 l6 : Value) (x y : Int32), exec d mX7_takesPart 207 [l0, l1, l2, l3, l4, l5, l6] (.int y :: .int x :: S) σ = exec d mX7_takesPart 208 [l0, l1, l2, l3, l4, l5, l6] (.int (x * y) :: S) σ) ∧
  (∀ (d : Nat) (σ : Sg) (S : List Value) (l1 l2 l3 l4 l5 l6 : Value) (k : Nat), exec d mX7_takesPart 208 [.ref k, l1, l2, l3, l4, l5, l6] S σ = exec d mX7_takesPart 209 [.ref k, l1, l2, l3, l4, l5, l6] (.ref k :: S) σ) ∧
  (∀ (d : Nat) (σ : Sg) (S : List Value) (l0 l1 l2 l4 l5 l6 : Value) (x : Int32), exec d mX7_takesPart 209 [l0, l1, l2, .int x, l4, l5, l6] S σ = exec d mX7_takesPart 210 [l0, l1, l2, .int x, l4, l5, l6] (.int x :: S) σ) ∧
  (∀ (d : Nat) (σ : Sg) (S : List Value) (l0 l1 l2 l3 l4 l5 l6 : Value), exec d mX7_takesPart 210 [l0, l1, l2, l3, l4, l5, l6] S σ = exec d mX7_takesPart 211 [l0, l1, l2, l3, l4, l5, l6] (.int (nI 1) :: S) σ) ∧
  (∀ (d : Nat) (σ : Sg) (S : List Value) (l0 l1 l2 l3 l4 l5 l6 : Value) (x y : Int32), exec d mX7_takesPart 211 [l0, l1, l2, l3, l4, l5, l6] (.int y :: .int x :: S) σ = exec d mX7_takesPart 212 [l0, l1, l2, l3, l4, l5, l6] (.int (x + y) :: S) σ) ∧
  (∀ (d : Nat) (σ : Sg) (l0 l1 l2 l3 l4 l5 l6 : Value) (x0 x2 : Int32), exec d mX7_takesPart 212 [l0, l1, l2, l3, l4, l5, l6] [.int x0, .ref 50, .int x2] σ = kb (cal d mX7_byteAt [.ref 50, .int x0] σ) (fun rs σ2 => exec d mX7_takesPart 215 [l0, l1, l2, l3, l4, l5, l6] (rs ++ [.int x2]) σ2)) ∧
  (∀ (d : Nat) (σ : Sg) (S : List Value) (l0 l1 l2 l3 l4 l5 l6 : Value) (x y : Int32), exec d mX7_takesPart 215 [l0, l1, l2, l3, l4, l5, l6] (.int y :: .int x :: S) σ = exec d mX7_takesPart 216 [l0, l1, l2, l3, l4, l5, l6] (.int (x + y) :: S) σ) ∧
  (∀ (d : Nat) (σ : Sg) (S : List Value) (l0 l1 l2 l3 l4 l5 l6 : Value), exec d mX7_takesPart 216 [l0, l1, l2, l3, l4, l5, l6] S σ = exec d mX7_takesPart 218 [l0, l1, l2, l3, l4, l5, l6] (.int (nI 48) :: S) σ) :=
  ⟨fun d σ S l0 l1 l2 l3 l4 l5 l6 => ex_ldc2 (hh := 979) (show decode mX7_takesPart.2.1 144 = .ok (.ldc2_w 110, 3) by decide +kernel) (by decide +kernel),
  fun d σ S l0 l1 l2 l3 l4 l5 l6 => ex_ldc2 (hh := 980) (show decode mX7_takesPart.2.1 147 = .ok (.ldc2_w 112, 3) by decide +kernel) (by decide +kernel),
  fun d σ l0 l1 l2 l3 l4 l5 l6 x0 x1 x2 => ex_is (hs := [920, 921, 922, 101]) (show decode mX7_takesPart.2.1 150 = .ok (.invokestatic 63, 3) by decide +kernel) lkS_7_63 ⟨rfl, Nat.le_of_ble_eq_true rfl, Nat.le_of_ble_eq_true rfl, fun q => nomatch q⟩ rfl rfl,
  fun d σ S l0 l1 l2 l3 l4 l5 l6 x => ex_zeq (show decode mX7_takesPart.2.1 153 = .ok (.ifCond .eq 16, 3) by decide +kernel) (by decide),
  fun d σ S l1 l2 l3 l4 l5 l6 k => ex_aload_n (show decode mX7_takesPart.2.1 156 = .ok (.aload_n 0, 1) by decide +kernel) rfl,
  fun d σ S l0 l1 l2 l3 l4 l5 l6 k => ex_dup (show decode mX7_takesPart.2.1 157 = .ok (.dup, 1) by decide +kernel) rfl,
  fun d σ S l0 l1 l2 l3 l4 l5 l6 => ex_get (idx := 97) (ci := 7) (ff := 14) (n := 26) (hh := 847) (by decide +kernel),
  fun d σ S l0 l1 l2 l3 l4 l5 l6 => ex_iconst (show decode mX7_takesPart.2.1 161 = .ok (.iconst 1, 1) by decide +kernel) (by decide +kernel),
  fun d σ S l0 l1 l2 l3 l4 l5 l6 x y => ex_iadd (show decode mX7_takesPart.2.1 162 = .ok (.iadd, 1) by decide +kernel),
  fun d σ S l0 l1 l2 l3 l4 l5 l6 x => ex_put (idx := 97) (ci := 7) (ff := 14) (n := 26) (hh := 847) (by decide +kernel),
  fun d σ S l0 l1 l2 l3 l4 l5 l6 => ex_goto (show decode mX7_takesPart.2.1 166 = .ok (.goto (-31), 3) by decide +kernel) (by decide),
  fun d σ S l1 l2 l3 l4 l5 l6 k => ex_aload_n (show decode mX7_takesPart.2.1 169 = .ok (.aload_n 0, 1) by decide +kernel) rfl,
  fun d σ S l0 l1 l2 l3 l4 l5 l6 => ex_get (idx := 97) (ci := 7) (ff := 14) (n := 26) (hh := 847) (by decide +kernel),
  fun d σ S l0 l1 l2 l4 l5 l6 x => ex_iload_n (show decode mX7_takesPart.2.1 173 = .ok (.iload_n 3, 1) by decide +kernel) rfl,
  fun d σ S l0 l1 l2 l3 l4 l5 l6 x y => ex_isub (show decode mX7_takesPart.2.1 174 = .ok (.isub, 1) by decide +kernel),
  fun d σ S l0 l1 l2 l4 l5 l6 x y => ex_istore (show decode mX7_takesPart.2.1 175 = .ok (.istore 4, 2) by decide +kernel) (Nat.le_of_ble_eq_true rfl) rfl,
  fun d σ S l1 l2 l3 l4 l5 l6 k => ex_aload_n (show decode mX7_takesPart.2.1 177 = .ok (.aload_n 0, 1) by decide +kernel) rfl,
  fun d σ S l0 l1 l2 l4 l5 l6 x => ex_iload_n (show decode mX7_takesPart.2.1 178 = .ok (.iload_n 3, 1) by decide +kernel) rfl,
  fun d σ S l0 l1 l2 l3 l4 l5 l6 x => ex_put (idx := 97) (ci := 7) (ff := 14) (n := 26) (hh := 847) (by decide +kernel),
  fun d σ S l1 l2 l3 l4 l5 l6 k => ex_aload_n (show decode mX7_takesPart.2.1 182 = .ok (.aload_n 0, 1) by decide +kernel) rfl,
  fun d σ S l0 l1 l2 l4 l5 l6 x => ex_iload_n (show decode mX7_takesPart.2.1 183 = .ok (.iload_n 3, 1) by decide +kernel) rfl,
  fun d σ l0 l1 l2 l3 l4 l5 l6 x0 => ex_iv (hs := [967, 969, 58, 970, 101]) (show decode mX7_takesPart.2.1 184 = .ok (.invokevirtual 100, 3) by decide +kernel) lkV_7_100 ⟨rfl, Nat.le_of_ble_eq_true rfl, Nat.le_of_ble_eq_true rfl, fun _ => rfl⟩ rfl rfl,
  fun d σ S l0 l1 l2 l3 l4 l5 l6 => ex_bipush (show decode mX7_takesPart.2.1 187 = .ok (.bipush 48, 2) by decide +kernel) (by decide +kernel),
  fun d σ S l0 l1 l2 l3 l4 l5 l6 x y => ex_isub (show decode mX7_takesPart.2.1 189 = .ok (.isub, 1) by decide +kernel),
  fun d σ S l0 l1 l2 l3 l5 l6 x y => ex_istore (show decode mX7_takesPart.2.1 190 = .ok (.istore 5, 2) by decide +kernel) (Nat.le_of_ble_eq_true rfl) rfl,
  fun d σ S l0 l1 l2 l3 l5 l6 x => ex_iload (show decode mX7_takesPart.2.1 192 = .ok (.iload 4, 2) by decide +kernel) rfl,
  fun d σ S l0 l1 l2 l3 l4 l5 l6 => ex_iconst (show decode mX7_takesPart.2.1 194 = .ok (.iconst 1, 1) by decide +kernel) (by decide +kernel),
  fun d σ S l0 l1 l2 l3 l4 l5 l6 x y => ex_cne (show decode mX7_takesPart.2.1 195 = .ok (.if_icmp .ne 8, 3) by decide +kernel) (by decide),
  fun d σ S l0 l1 l2 l3 l4 l6 x => ex_iload (show decode mX7_takesPart.2.1 198 = .ok (.iload 5, 2) by decide +kernel) rfl,
  fun d σ S l0 l1 l2 l3 l4 l5 l6 => ex_goto (show decode mX7_takesPart.2.1 200 = .ok (.goto 19, 3) by decide +kernel) (by decide),
  fun d σ S l0 l1 l2 l3 l4 l5 l6 => ex_bipush (show decode mX7_takesPart.2.1 203 = .ok (.bipush 10, 2) by decide +kernel) (by decide +kernel),
  fun d σ S l0 l1 l2 l3 l4 l6 x => ex_iload (show decode mX7_takesPart.2.1 205 = .ok (.iload 5, 2) by decide +kernel) rfl,
  fun d σ S l0 l1 l2 l3 l4 l5 l6 x y => ex_imul (show decode mX7_takesPart.2.1 207 = .ok (.imul, 1) by decide +kernel),
  fun d σ S l1 l2 l3 l4 l5 l6 k => ex_aload_n (show decode mX7_takesPart.2.1 208 = .ok (.aload_n 0, 1) by decide +kernel) rfl,
  fun d σ S l0 l1 l2 l4 l5 l6 x => ex_iload_n (show decode mX7_takesPart.2.1 209 = .ok (.iload_n 3, 1) by decide +kernel) rfl,
  fun d σ S l0 l1 l2 l3 l4 l5 l6 => ex_iconst (show decode mX7_takesPart.2.1 210 = .ok (.iconst 1, 1) by decide +kernel) (by decide +kernel),
  fun d σ S l0 l1 l2 l3 l4 l5 l6 x y => ex_iadd (show decode mX7_takesPart.2.1 211 = .ok (.iadd, 1) by decide +kernel),
  fun d σ l0 l1 l2 l3 l4 l5 l6 x0 x2 => ex_iv (hs := [967, 969, 58, 970, 101]) (show decode mX7_takesPart.2.1 212 = .ok (.invokevirtual 100, 3) by decide +kernel) lkV_7_100 ⟨rfl, Nat.le_of_ble_eq_true rfl, Nat.le_of_ble_eq_true rfl, fun _ => rfl⟩ rfl rfl,
  fun d σ S l0 l1 l2 l3 l4 l5 l6 x y => ex_iadd (show decode mX7_takesPart.2.1 215 = .ok (.iadd, 1) by decide +kernel),
  fun d σ S l0 l1 l2 l3 l4 l5 l6 => ex_bipush (show decode mX7_takesPart.2.1 216 = .ok (.bipush 48, 2) by decide +kernel) (by decide +kernel)⟩
theorem kX7_takesPart_3 : (∀ (d : Nat) (σ : Sg) (S : List Value) (l0 l1 l2 l3 l4 l5 l6 : Value) (x y : Int32), exec d mX7_takesPart 218 [l0, l1, l2, l3, l4, l5, l6] (.int y :: .int x :: S) σ = exec d mX7_takesPart 219 [l0, l1, l2, l3, l4, l5, l6] (.int (x - y) :: S) σ) ∧
  (∀ (d : Nat) (σ : Sg) (S : List Value) (l0 l1 l2 l3 l4 l6 : Value) (x y : Int32), exec d mX7_takesPart 219 [l0, l1, l2, l3, l4, .int y, l6] (.int x :: S) σ = exec d mX7_takesPart 221 [l0, l1, l2, l3, l4, .int y, .int x] S σ) ∧
  (∀ (d : Nat) (σ : Sg) (S : List Value) (l0 l1 l2 l3 l5 l6 : Value) (x : Int32), exec d mX7_takesPart 221 [l0, l1, l2, l3, .int x, l5, l6] S σ = exec d mX7_takesPart 223 [l0, l1, l2, l3, .int x, l5, l6] (.int x :: S) σ) ∧
  (∀ (d : Nat) (σ : Sg) (S : List Value) (l0 l1 l2 l3 l4 l5 l6 : Value), exec d mX7_takesPart 223 [l0, l1, l2, l3, l4, l5, l6] S σ = exec d mX7_takesPart 224 [l0, l1, l2, l3, l4, l5, l6] (.int (nI 3) :: S) σ) ∧
  (∀ (d : Nat) (σ : Sg) (S : List Value) (l0 l1 l2 l3 l4 l5 l6 : Value) (x y : Int32), exec d mX7_takesPart 224 [l0, l1, l2, l3, l4, l5, l6] (.int y :: .int x :: S) σ = if y ≤ x then exec d mX7_takesPart 247 [l0, l1, l2, l3, l4, l5, l6] S σ else exec d mX7_takesPart 227 [l0, l1, l2, l3, l4, l5, l6] S σ) ∧
  (∀ (d : Nat) (σ : Sg) (S : List Value) (l0 l1 l2 l3 l4 l5 : Value) (x : Int32), exec d mX7_takesPart 227 [l0, l1, l2, l3, l4, l5, .int x] S σ = exec d mX7_takesPart 229 [l0, l1, l2, l3, l4, l5, .int x] (.int x :: S) σ) ∧
  (∀ (d : Nat) (σ : Sg) (S : List Value) (l0 l1 l2 l3 l4 l5 l6 : Value), exec d mX7_takesPart 229 [l0, l1, l2, l3, l4, l5, l6] S σ = exec d mX7_takesPart 231 [l0, l1, l2, l3, l4, l5, l6] (.int (nI 7) :: S) σ) ∧
  (∀ (d : Nat) (σ : Sg) (S : List Value) (l0 l1 l2 l3 l4 l5 l6 : Value) (x y : Int32), exec d mX7_takesPart 231 [l0, l1, l2, l3, l4, l5, l6] (.int y :: .int x :: S) σ = if x = y then exec d mX7_takesPart 247 [l0, l1, l2, l3, l4, l5, l6] S σ else exec d mX7_takesPart 234 [l0, l1, l2, l3, l4, l5, l6] S σ) ∧
  (∀ (d : Nat) (σ : Sg) (S : List Value) (l0 l1 l2 l3 l4 l5 : Value) (x : Int32), exec d mX7_takesPart 234 [l0, l1, l2, l3, l4, l5, .int x] S σ = exec d mX7_takesPart 236 [l0, l1, l2, l3, l4, l5, .int x] (.int x :: S) σ) ∧
  (∀ (d : Nat) (σ : Sg) (S : List Value) (l0 l1 l3 l4 l5 l6 : Value) (x : Int32), exec d mX7_takesPart 236 [l0, l1, .int x, l3, l4, l5, l6] S σ = exec d mX7_takesPart 237 [l0, l1, .int x, l3, l4, l5, l6] (.int x :: S) σ) ∧
  (∀ (d : Nat) (σ : Sg) (S : List Value) (l0 l1 l2 l3 l4 l5 l6 : Value) (x y : Int32), exec d mX7_takesPart 237 [l0, l1, l2, l3, l4, l5, l6] (.int y :: .int x :: S) σ = if x < y then exec d mX7_takesPart 247 [l0, l1, l2, l3, l4, l5, l6] S σ else exec d mX7_takesPart 240 [l0, l1, l2, l3, l4, l5, l6] S σ) ∧
  (∀ (d : Nat) (σ : Sg) (S : List Value) (l1 l2 l3 l4 l5 l6 : Value) (k : Nat), exec d mX7_takesPart 240 [.ref k, l1, l2, l3, l4, l5, l6] S σ = exec d mX7_takesPart 241 [.ref k, l1, l2, l3, l4, l5, l6] (.ref k :: S) σ) ∧
  (∀ (d : Nat) (σ : Sg) (S : List Value) (l0 l1 l2 l3 l4 l5 l6 : Value), exec d mX7_takesPart 241 [l0, l1, l2, l3, l4, l5, l6] S σ = exec d mX7_takesPart 242 [l0, l1, l2, l3, l4, l5, l6] (.int (nI 2) :: S) σ) ∧
  (∀ (d : Nat) (σ : Sg) (S : List Value) (l0 l1 l2 l4 l5 l6 : Value) (x : Int32), exec d mX7_takesPart 242 [l0, l1, l2, .int x, l4, l5, l6] S σ = exec d mX7_takesPart 243 [l0, l1, l2, .int x, l4, l5, l6] (.int x :: S) σ) ∧
  (∀ (d : Nat) (σ : Sg) (l0 l1 l2 l3 l4 l5 l6 : Value) (x0 x1 : Int32), exec d mX7_takesPart 243 [l0, l1, l2, l3, l4, l5, l6] [.int x0, .int x1, .ref 50] σ = kb (cal d mX7_fails [.ref 50, .int x1, .int x0] σ) (fun rs σ2 => exec d mX7_takesPart 246 [l0, l1, l2, l3, l4, l5, l6] (rs ++ []) σ2)) ∧
  (∀ (d : Nat) (σ : Sg) (l0 l1 l2 l3 l4 l5 l6 : Value) (x : Int32), exec d mX7_takesPart 246 [l0, l1, l2, l3, l4, l5, l6] [.int x] σ = if b01 x = true then some (some (.int x), σ) else none) ∧
  (∀ (d : Nat) (σ : Sg) (S : List Value) (l1 l2 l3 l4 l5 l6 : Value) (k : Nat), exec d mX7_takesPart 247 [.ref k, l1, l2, l3, l4, l5, l6] S σ = exec d mX7_takesPart 248 [.ref k, l1, l2, l3, l4, l5, l6] (.ref k :: S) σ) ∧
  (∀ (d : Nat) (σ : Sg) (S : List Value) (l0 l1 l2 l3 l4 l5 l6 : Value), exec d mX7_takesPart 248 [l0, l1, l2, l3, l4, l5, l6] S σ = exec d mX7_takesPart 249 [l0, l1, l2, l3, l4, l5, l6] (.int (nI 0) :: S) σ) ∧
  (∀ (d : Nat) (σ : Sg) (S : List Value) (l0 l1 l2 l3 l4 l5 l6 : Value), exec d mX7_takesPart 249 [l0, l1, l2, l3, l4, l5, l6] S σ = exec d mX7_takesPart 251 [l0, l1, l2, l3, l4, l5, l6] (.int (nI 7) :: S) σ) ∧
  (∀ (d : Nat) (σ : Sg) (S : List Value) (l0 l1 l2 l3 l4 l5 l6 : Value), exec d mX7_takesPart 251 [l0, l1, l2, l3, l4, l5, l6] S σ = exec d mX7_takesPart 253 [l0, l1, l2, l3, l4, l5, l6] (.int (nI 59) :: S) σ) ∧
  (∀ (d : Nat) (σ : Sg) (l0 l1 l2 l3 l4 l5 l6 : Value) (x0 x1 x2 : Int32), exec d mX7_takesPart 253 [l0, l1, l2, l3, l4, l5, l6] [.int x0, .int x1, .int x2, .ref 50] σ = kb (cal d mX7_takesNumber [.ref 50, .int x2, .int x1, .int x0] σ) (fun rs σ2 => exec d mX7_takesPart 256 [l0, l1, l2, l3, l4, l5, l6] (rs ++ []) σ2)) ∧
  (∀ (d : Nat) (σ : Sg) (S : List Value) (l0 l1 l2 l3 l4 l5 l6 : Value) (x : Int32), exec d mX7_takesPart 256 [l0, l1, l2, l3, l4, l5, l6] (.int x :: S) σ = if x = nI 0 then exec d mX7_takesPart 259 [l0, l1, l2, l3, l4, l5, l6] S σ else exec d mX7_takesPart 261 [l0, l1, l2, l3, l4, l5, l6] S σ) ∧
  (∀ (d : Nat) (σ : Sg) (S : List Value) (l0 l1 l2 l3 l4 l5 l6 : Value), exec d mX7_takesPart 259 [l0, l1, l2, l3, l4, l5, l6] S σ = exec d mX7_takesPart 260 [l0, l1, l2, l3, l4, l5, l6] (.int (nI 0) :: S) σ) ∧
  (∀ (d : Nat) (σ : Sg) (l0 l1 l2 l3 l4 l5 l6 : Value) (x : Int32), exec d mX7_takesPart 260 [l0, l1, l2, l3, l4, l5, l6] [.int x] σ = if b01 x = true then some (some (.int x), σ) else none) ∧
  (∀ (d : Nat) (σ : Sg) (S : List Value) (l1 l2 l3 l4 l5 l6 : Value) (k : Nat), exec d mX7_takesPart 261 [.ref k, l1, l2, l3, l4, l5, l6] S σ = exec d mX7_takesPart 262 [.ref k, l1, l2, l3, l4, l5, l6] (.ref k :: S) σ) ∧
  (∀ (d : Nat) (σ : Sg) (S : List Value) (l0 l1 l2 l3 l4 l5 l6 : Value), exec d mX7_takesPart 262 [l0, l1, l2, l3, l4, l5, l6] (.ref 50 :: S) σ = exec d mX7_takesPart 265 [l0, l1, l2, l3, l4, l5, l6] (.ref 51 :: S) σ) ∧
  (∀ (d : Nat) (σ : Sg) (S : List Value) (l0 l1 l2 l3 l4 l5 l6 : Value), exec d mX7_takesPart 265 [l0, l1, l2, l3, l4, l5, l6] S σ = exec d mX7_takesPart 268 [l0, l1, l2, l3, l4, l5, l6] (.int (nI 186) :: S) σ) ∧
  (∀ (d : Nat) (σ : Sg) (S : List Value) (l0 l1 l3 l4 l5 l6 : Value) (x : Int32), exec d mX7_takesPart 268 [l0, l1, .int x, l3, l4, l5, l6] S σ = exec d mX7_takesPart 269 [l0, l1, .int x, l3, l4, l5, l6] (.int x :: S) σ) ∧
  (∀ (d : Nat) (σ : Sg) (S : List Value) (l0 l1 l2 l3 l4 l5 l6 : Value) (x y : Int32), exec d mX7_takesPart 269 [l0, l1, l2, l3, l4, l5, l6] (.int y :: .int x :: S) σ = exec d mX7_takesPart 270 [l0, l1, l2, l3, l4, l5, l6] (.int (x + y) :: S) σ) ∧
  (∀ (d : Nat) (σ : Sg) (S : List Value) (l1 l2 l3 l4 l5 l6 : Value) (k : Nat), exec d mX7_takesPart 270 [.ref k, l1, l2, l3, l4, l5, l6] S σ = exec d mX7_takesPart 271 [.ref k, l1, l2, l3, l4, l5, l6] (.ref k :: S) σ) ∧
  (∀ (d : Nat) (σ : Sg) (S : List Value) (l0 l1 l2 l3 l4 l5 l6 : Value), exec d mX7_takesPart 271 [l0, l1, l2, l3, l4, l5, l6] (.ref 50 :: S) σ = exec d mX7_takesPart 274 [l0, l1, l2, l3, l4, l5, l6] (.int (σ 50 15) :: S) σ) ∧
  (∀ (d : Nat) (σ : Sg) (S : List Value) (l0 l1 l2 l3 l4 l5 l6 : Value) (x y : Int32), exec d mX7_takesPart 274 [l0, l1, l2, l3, l4, l5, l6] (.int y :: .int x :: .ref 51 :: S) σ = if inb x 208 = true then exec d mX7_takesPart 275 [l0, l1, l2, l3, l4, l5, l6] S (up σ 51 x.toNatClampNeg y) else none) ∧
  (∀ (d : Nat) (σ : Sg) (S : List Value) (l1 l2 l3 l4 l5 l6 : Value) (k : Nat), exec d mX7_takesPart 275 [.ref k, l1, l2, l3, l4, l5, l6] S σ = exec d mX7_takesPart 276 [.ref k, l1, l2, l3, l4, l5, l6] (.ref k :: S) σ) ∧
  (∀ (d : Nat) (σ : Sg) (S : List Value) (l0 l1 l2 l3 l4 l5 l6 : Value), exec d mX7_takesPart 276 [l0, l1, l2, l3, l4, l5, l6] (.ref 50 :: S) σ = exec d mX7_takesPart 279 [l0, l1, l2, l3, l4, l5, l6] (.ref 51 :: S) σ) ∧
  (∀ (d : Nat) (σ : Sg) (S : List Value) (l0 l1 l2 l3 l4 l5 l6 : Value), exec d mX7_takesPart 279 [l0, l1, l2, l3, l4, l5, l6] S σ = exec d mX7_takesPart 282 [l0, l1, l2, l3, l4, l5, l6] (.int (nI 163) :: S) σ) ∧
  (∀ (d : Nat) (σ : Sg) (S : List Value) (l0 l1 l2 l3 l4 l5 l6 : Value) (k : Nat) (x : Int32), exec d mX7_takesPart 282 [l0, l1, l2, l3, l4, l5, l6] (.int x :: .ref k :: S) σ = exec d mX7_takesPart 283 [l0, l1, l2, l3, l4, l5, l6] (.int x :: .ref k :: .int x :: .ref k :: S) σ) ∧
  (∀ (d : Nat) (σ : Sg) (S : List Value) (l0 l1 l2 l3 l4 l5 l6 : Value) (x : Int32), exec d mX7_takesPart 283 [l0, l1, l2, l3, l4, l5, l6] (.int x :: .ref 51 :: S) σ = if inb x 208 = true then exec d mX7_takesPart 284 [l0, l1, l2, l3, l4, l5, l6] (.int (σ 51 x.toNatClampNeg) :: S) σ else none) ∧
  (∀ (d : Nat) (σ : Sg) (S : List Value) (l0 l1 l2 l3 l4 l5 l6 : Value), exec d mX7_takesPart 284 [l0, l1, l2, l3, l4, l5, l6] S σ = exec d mX7_takesPart 285 [l0, l1, l2, l3, l4, l5, l6] (.int (nI 1) :: S) σ) ∧
  (∀ (d : Nat) (σ : Sg) (S : List Value) (l0 l1 l2 l3 l4 l5 l6 : Value) (x y : Int32), exec d mX7_takesPart 285 [l0, l1, l2, l3, l4, l5, l6] (.int y :: .int x :: S) σ = exec d mX7_takesPart 286 [l0, l1, l2, l3, l4, l5, l6] (.int (x + y) :: S) σ) ∧
  (∀ (d : Nat) (σ : Sg) (S : List Value) (l0 l1 l2 l3 l4 l5 l6 : Value) (x y : Int32), exec d mX7_takesPart 286 [l0, l1, l2, l3, l4, l5, l6] (.int y :: .int x :: .ref 51 :: S) σ = if inb x 208 = true then exec d mX7_takesPart 287 [l0, l1, l2, l3, l4, l5, l6] S (up σ 51 x.toNatClampNeg y) else none) :=
  ⟨fun d σ S l0 l1 l2 l3 l4 l5 l6 x y => ex_isub (show decode mX7_takesPart.2.1 218 = .ok (.isub, 1) by decide +kernel),
  fun d σ S l0 l1 l2 l3 l4 l6 x y => ex_istore (show decode mX7_takesPart.2.1 219 = .ok (.istore 6, 2) by decide +kernel) (Nat.le_of_ble_eq_true rfl) rfl,
  fun d σ S l0 l1 l2 l3 l5 l6 x => ex_iload (show decode mX7_takesPart.2.1 221 = .ok (.iload 4, 2) by decide +kernel) rfl,
  fun d σ S l0 l1 l2 l3 l4 l5 l6 => ex_iconst (show decode mX7_takesPart.2.1 223 = .ok (.iconst 3, 1) by decide +kernel) (by decide +kernel),
  fun d σ S l0 l1 l2 l3 l4 l5 l6 x y => ex_cge (show decode mX7_takesPart.2.1 224 = .ok (.if_icmp .ge 23, 3) by decide +kernel) (by decide),
  fun d σ S l0 l1 l2 l3 l4 l5 x => ex_iload (show decode mX7_takesPart.2.1 227 = .ok (.iload 6, 2) by decide +kernel) rfl,
  fun d σ S l0 l1 l2 l3 l4 l5 l6 => ex_bipush (show decode mX7_takesPart.2.1 229 = .ok (.bipush 7, 2) by decide +kernel) (by decide +kernel),
  fun d σ S l0 l1 l2 l3 l4 l5 l6 x y => ex_ceq (show decode mX7_takesPart.2.1 231 = .ok (.if_icmp .eq 16, 3) by decide +kernel) (by decide),
  fun d σ S l0 l1 l2 l3 l4 l5 x => ex_iload (show decode mX7_takesPart.2.1 234 = .ok (.iload 6, 2) by decide +kernel) rfl,
  fun d σ S l0 l1 l3 l4 l5 l6 x => ex_iload_n (show decode mX7_takesPart.2.1 236 = .ok (.iload_n 2, 1) by decide +kernel) rfl,
  fun d σ S l0 l1 l2 l3 l4 l5 l6 x y => ex_clt (show decode mX7_takesPart.2.1 237 = .ok (.if_icmp .lt 10, 3) by decide +kernel) (by decide),
  fun d σ S l1 l2 l3 l4 l5 l6 k => ex_aload_n (show decode mX7_takesPart.2.1 240 = .ok (.aload_n 0, 1) by decide +kernel) rfl,
  fun d σ S l0 l1 l2 l3 l4 l5 l6 => ex_iconst (show decode mX7_takesPart.2.1 241 = .ok (.iconst 2, 1) by decide +kernel) (by decide +kernel),
  fun d σ S l0 l1 l2 l4 l5 l6 x => ex_iload_n (show decode mX7_takesPart.2.1 242 = .ok (.iload_n 3, 1) by decide +kernel) rfl,
  fun d σ l0 l1 l2 l3 l4 l5 l6 x0 x1 => ex_iv (hs := [971, 973, 59, 974, 101]) (show decode mX7_takesPart.2.1 243 = .ok (.invokevirtual 103, 3) by decide +kernel) lkV_7_103 ⟨rfl, Nat.le_of_ble_eq_true rfl, Nat.le_of_ble_eq_true rfl, fun _ => rfl⟩ rfl rfl,
  fun d σ l0 l1 l2 l3 l4 l5 l6 x => ex_zret (show decode mX7_takesPart.2.1 246 = .ok (.ireturn, 1) by decide +kernel) rfl,
  fun d σ S l1 l2 l3 l4 l5 l6 k => ex_aload_n (show decode mX7_takesPart.2.1 247 = .ok (.aload_n 0, 1) by decide +kernel) rfl,
  fun d σ S l0 l1 l2 l3 l4 l5 l6 => ex_iconst (show decode mX7_takesPart.2.1 248 = .ok (.iconst 0, 1) by decide +kernel) (by decide +kernel),
  fun d σ S l0 l1 l2 l3 l4 l5 l6 => ex_bipush (show decode mX7_takesPart.2.1 249 = .ok (.bipush 7, 2) by decide +kernel) (by decide +kernel),
  fun d σ S l0 l1 l2 l3 l4 l5 l6 => ex_bipush (show decode mX7_takesPart.2.1 251 = .ok (.bipush 59, 2) by decide +kernel) (by decide +kernel),
  fun d σ l0 l1 l2 l3 l4 l5 l6 x0 x1 x2 => ex_iv (hs := [975, 977, 60, 978, 101]) (show decode mX7_takesPart.2.1 253 = .ok (.invokevirtual 117, 3) by decide +kernel) lkV_7_117 ⟨rfl, Nat.le_of_ble_eq_true rfl, Nat.le_of_ble_eq_true rfl, fun _ => rfl⟩ rfl rfl,
  fun d σ S l0 l1 l2 l3 l4 l5 l6 x => ex_zne (show decode mX7_takesPart.2.1 256 = .ok (.ifCond .ne 5, 3) by decide +kernel) (by decide),
  fun d σ S l0 l1 l2 l3 l4 l5 l6 => ex_iconst (show decode mX7_takesPart.2.1 259 = .ok (.iconst 0, 1) by decide +kernel) (by decide +kernel),
  fun d σ l0 l1 l2 l3 l4 l5 l6 x => ex_zret (show decode mX7_takesPart.2.1 260 = .ok (.ireturn, 1) by decide +kernel) rfl,
  fun d σ S l1 l2 l3 l4 l5 l6 k => ex_aload_n (show decode mX7_takesPart.2.1 261 = .ok (.aload_n 0, 1) by decide +kernel) rfl,
  fun d σ S l0 l1 l2 l3 l4 l5 l6 => ex_getr (idx := 7) (ci := 7) (ff := 0) (n := 26) (hh := 833) (by decide +kernel),
  fun d σ S l0 l1 l2 l3 l4 l5 l6 => ex_sipush (show decode mX7_takesPart.2.1 265 = .ok (.sipush 186, 3) by decide +kernel) (by decide +kernel),
  fun d σ S l0 l1 l3 l4 l5 l6 x => ex_iload_n (show decode mX7_takesPart.2.1 268 = .ok (.iload_n 2, 1) by decide +kernel) rfl,
  fun d σ S l0 l1 l2 l3 l4 l5 l6 x y => ex_iadd (show decode mX7_takesPart.2.1 269 = .ok (.iadd, 1) by decide +kernel),
  fun d σ S l1 l2 l3 l4 l5 l6 k => ex_aload_n (show decode mX7_takesPart.2.1 270 = .ok (.aload_n 0, 1) by decide +kernel) rfl,
  fun d σ S l0 l1 l2 l3 l4 l5 l6 => ex_get (idx := 107) (ci := 7) (ff := 15) (n := 26) (hh := 848) (by decide +kernel),
  fun d σ S l0 l1 l2 l3 l4 l5 l6 x y => ex_iast (by decide +kernel),
  fun d σ S l1 l2 l3 l4 l5 l6 k => ex_aload_n (show decode mX7_takesPart.2.1 275 = .ok (.aload_n 0, 1) by decide +kernel) rfl,
  fun d σ S l0 l1 l2 l3 l4 l5 l6 => ex_getr (idx := 7) (ci := 7) (ff := 0) (n := 26) (hh := 833) (by decide +kernel),
  fun d σ S l0 l1 l2 l3 l4 l5 l6 => ex_sipush (show decode mX7_takesPart.2.1 279 = .ok (.sipush 163, 3) by decide +kernel) (by decide +kernel),
  fun d σ S l0 l1 l2 l3 l4 l5 l6 k x => ex_dup2 (show decode mX7_takesPart.2.1 282 = .ok (.dup2, 1) by decide +kernel) rfl rfl,
  fun d σ S l0 l1 l2 l3 l4 l5 l6 x => ex_iald (by decide +kernel),
  fun d σ S l0 l1 l2 l3 l4 l5 l6 => ex_iconst (show decode mX7_takesPart.2.1 284 = .ok (.iconst 1, 1) by decide +kernel) (by decide +kernel),
  fun d σ S l0 l1 l2 l3 l4 l5 l6 x y => ex_iadd (show decode mX7_takesPart.2.1 285 = .ok (.iadd, 1) by decide +kernel),
  fun d σ S l0 l1 l2 l3 l4 l5 l6 x y => ex_iast (by decide +kernel)⟩
theorem kX7_takesPart_4 : (∀ (d : Nat) (σ : Sg) (S : List Value) (l0 l1 l2 l3 l4 l5 l6 : Value), exec d mX7_takesPart 287 [l0, l1, l2, l3, l4, l5, l6] S σ = exec d mX7_takesPart 288 [l0, l1, l2, l3, l4, l5, l6] (.int (nI 1) :: S) σ) ∧
  (∀ (d : Nat) (σ : Sg) (l0 l1 l2 l3 l4 l5 l6 : Value) (x : Int32), exec d mX7_takesPart 288 [l0, l1, l2, l3, l4, l5, l6] [.int x] σ = if b01 x = true then some (some (.int x), σ) else none) :=
  ⟨fun d σ S l0 l1 l2 l3 l4 l5 l6 => ex_iconst (show decode mX7_takesPart.2.1 287 = .ok (.iconst 1, 1) by decide +kernel) (by decide +kernel),
  fun d σ l0 l1 l2 l3 l4 l5 l6 x => ex_zret (show decode mX7_takesPart.2.1 288 = .ok (.ireturn, 1) by decide +kernel) rfl⟩
theorem hX7_takesPart_135 : ∀ (d : Nat) (σ : Sg) (S : List Value) (l1 l2 l3 l4 l5 l6 : Value) (k : Nat), exec d mX7_takesPart 135 [.ref k, l1, l2, l3, l4, l5, l6] S σ = exec d mX7_takesPart 136 [.ref k, l1, l2, l3, l4, l5, l6] (.ref k :: S) σ := fun d σ S l1 l2 l3 l4 l5 l6 k => ex_aload_n (show decode mX7_takesPart.2.1 135 = .ok (.aload_n 0, 1) by decide +kernel) rfl
theorem aX7_takesPart_50 : ∀ (d : Nat) (a1 : Int32) (σ : Sg), cal (d + 1) mX7_takesPart [.ref 50, .int a1] σ = exec d mX7_takesPart 0 [.ref 50, .int a1, uu, uu, uu, uu, uu] [] σ := fun _ _ _ => rfl
theorem kX7_takesElder_0 : (∀ (d : Nat) (σ : Sg) (S : List Value) (l1 : Value) (k : Nat), exec d mX7_takesElder 0 [.ref k, l1] S σ = exec d mX7_takesElder 1 [.ref k, l1] (.ref k :: S) σ) ∧
  (∀ (d : Nat) (σ : Sg) (S : List Value) (l0 l1 : Value), exec d mX7_takesElder 1 [l0, l1] (.ref 50 :: S) σ = exec d mX7_takesElder 4 [l0, l1] (.ref 51 :: S) σ) ∧
  (∀ (d : Nat) (σ : Sg) (S : List Value) (l0 l1 : Value), exec d mX7_takesElder 4 [l0, l1] S σ = exec d mX7_takesElder 7 [l0, l1] (.int (nI 164) :: S) σ) ∧
  (∀ (d : Nat) (σ : Sg) (S : List Value) (l0 l1 : Value) (x : Int32), exec d mX7_takesElder 7 [l0, l1] (.int x :: .ref 51 :: S) σ = if inb x 208 = true then exec d mX7_takesElder 8 [l0, l1] (.int (σ 51 x.toNatClampNeg) :: S) σ else none) ∧
  (∀ (d : Nat) (σ : Sg) (S : List Value) (l1 : Value) (k : Nat) (x : Int32), exec d mX7_takesElder 8 [.ref k, l1] (.int x :: S) σ = exec d mX7_takesElder 9 [.ref k, .int x] S σ) ∧
  (∀ (d : Nat) (σ : Sg) (S : List Value) (l0 : Value) (x : Int32), exec d mX7_takesElder 9 [l0, .int x] S σ = exec d mX7_takesElder 10 [l0, .int x] (.int x :: S) σ) ∧
  (∀ (d : Nat) (σ : Sg) (S : List Value) (l0 l1 : Value), exec d mX7_takesElder 10 [l0, l1] S σ = exec d mX7_takesElder 11 [l0, l1] (.int (nI 5) :: S) σ) ∧
  (∀ (d : Nat) (σ : Sg) (S : List Value) (l0 l1 : Value) (x y : Int32), exec d mX7_takesElder 11 [l0, l1] (.int y :: .int x :: S) σ = if x = y then exec d mX7_takesElder 14 [l0, l1] S σ else exec d mX7_takesElder 24 [l0, l1] S σ) ∧
  (∀ (d : Nat) (σ : Sg) (S : List Value) (l1 : Value) (k : Nat), exec d mX7_takesElder 14 [.ref k, l1] S σ = exec d mX7_takesElder 15 [.ref k, l1] (.ref k :: S) σ) ∧
  (∀ (d : Nat) (σ : Sg) (S : List Value) (l0 l1 : Value), exec d mX7_takesElder 15 [l0, l1] S σ = exec d mX7_takesElder 16 [l0, l1] (.int (nI 3) :: S) σ) ∧
  (∀ (d : Nat) (σ : Sg) (S : List Value) (l1 : Value) (k : Nat), exec d mX7_takesElder 16 [.ref k, l1] S σ = exec d mX7_takesElder 17 [.ref k, l1] (.ref k :: S) σ) ∧
  (∀ (d : Nat) (σ : Sg) (S : List Value) (l0 l1 : Value), exec d mX7_takesElder 17 [l0, l1] (.ref 50 :: S) σ = exec d mX7_takesElder 20 [l0, l1] (.int (σ 50 14) :: S) σ) ∧
  (∀ (d : Nat) (σ : Sg) (l0 l1 : Value) (x0 x1 : Int32), exec d mX7_takesElder 20 [l0, l1] [.int x0, .int x1, .ref 50] σ = kb (cal d mX7_fails [.ref 50, .int x1, .int x0] σ) (fun rs σ2 => exec d mX7_takesElder 23 [l0, l1] (rs ++ []) σ2)) ∧
  (∀ (d : Nat) (σ : Sg) (l0 l1 : Value) (x : Int32), exec d mX7_takesElder 23 [l0, l1] [.int x] σ = if b01 x = true then some (some (.int x), σ) else none) ∧
  (∀ (d : Nat) (σ : Sg) (S : List Value) (l1 : Value) (k : Nat), exec d mX7_takesElder 24 [.ref k, l1] S σ = exec d mX7_takesElder 25 [.ref k, l1] (.ref k :: S) σ) ∧
  (∀ (d : Nat) (σ : Sg) (S : List Value) (l0 l1 : Value) (k : Nat), exec d mX7_takesElder 25 [l0, l1] (.ref k :: S) σ = exec d mX7_takesElder 26 [l0, l1] (.ref k :: .ref k :: S) σ) ∧
  (∀ (d : Nat) (σ : Sg) (S : List Value) (l0 l1 : Value), exec d mX7_takesElder 26 [l0, l1] (.ref 50 :: S) σ = exec d mX7_takesElder 29 [l0, l1] (.int (σ 50 14) :: S) σ) ∧
  (∀ (d : Nat) (σ : Sg) (S : List Value) (l0 l1 : Value), exec d mX7_takesElder 29 [l0, l1] S σ = exec d mX7_takesElder 30 [l0, l1] (.int (nI 1) :: S) σ) ∧
  (∀ (d : Nat) (σ : Sg) (S : List Value) (l0 l1 : Value) (x y : Int32), exec d mX7_takesElder 30 [l0, l1] (.int y :: .int x :: S) σ = exec d mX7_takesElder 31 [l0, l1] (.int (x + y) :: S) σ) ∧
  (∀ (d : Nat) (σ : Sg) (S : List Value) (l0 l1 : Value) (x : Int32), exec d mX7_takesElder 31 [l0, l1] (.int x :: .ref 50 :: S) σ = exec d mX7_takesElder 34 [l0, l1] S (up σ 50 14 x)) ∧
  (∀ (d : Nat) (σ : Sg) (S : List Value) (l1 : Value) (k : Nat), exec d mX7_takesElder 34 [.ref k, l1] S σ = exec d mX7_takesElder 35 [.ref k, l1] (.ref k :: S) σ) ∧
  (∀ (d : Nat) (σ : Sg) (S : List Value) (l0 l1 : Value), exec d mX7_takesElder 35 [l0, l1] S σ = exec d mX7_takesElder 36 [l0, l1] (.int (nI 0) :: S) σ) ∧
  (∀ (d : Nat) (σ : Sg) (S : List Value) (l0 l1 : Value), exec d mX7_takesElder 36 [l0, l1] S σ = exec d mX7_takesElder 38 [l0, l1] (.int (nI 20) :: S) σ) ∧
  (∀ (d : Nat) (σ : Sg) (S : List Value) (l0 l1 : Value), exec d mX7_takesElder 38 [l0, l1] S σ = exec d mX7_takesElder 40 [l0, l1] (.int (nI 44) :: S) σ) ∧
  (∀ (d : Nat) (σ : Sg) (l0 l1 : Value) (x0 x1 x2 : Int32), exec d mX7_takesElder 40 [l0, l1] [.int x0, .int x1, .int x2, .ref 50] σ = kb (cal d mX7_takesNumber [.ref 50, .int x2, .int x1, .int x0] σ) (fun rs σ2 => exec d mX7_takesElder 43 [l0, l1] (rs ++ []) σ2)) ∧
  (∀ (d : Nat) (σ : Sg) (S : List Value) (l0 l1 : Value) (x : Int32), exec d mX7_takesElder 43 [l0, l1] (.int x :: S) σ = if x = nI 0 then exec d mX7_takesElder 46 [l0, l1] S σ else exec d mX7_takesElder 48 [l0, l1] S σ) ∧
  (∀ (d : Nat) (σ : Sg) (S : List Value) (l0 l1 : Value), exec d mX7_takesElder 46 [l0, l1] S σ = exec d mX7_takesElder 47 [l0, l1] (.int (nI 0) :: S) σ) ∧
  (∀ (d : Nat) (σ : Sg) (l0 l1 : Value) (x : Int32), exec d mX7_takesElder 47 [l0, l1] [.int x] σ = if b01 x = true then some (some (.int x), σ) else none) ∧
  (∀ (d : Nat) (σ : Sg) (S : List Value) (l1 : Value) (k : Nat), exec d mX7_takesElder 48 [.ref k, l1] S σ = exec d mX7_takesElder 49 [.ref k, l1] (.ref k :: S) σ) ∧
  (∀ (d : Nat) (σ : Sg) (S : List Value) (l0 l1 : Value), exec d mX7_takesElder 49 [l0, l1] (.ref 50 :: S) σ = exec d mX7_takesElder 52 [l0, l1] (.ref 51 :: S) σ) ∧
  (∀ (d : Nat) (σ : Sg) (S : List Value) (l0 l1 : Value), exec d mX7_takesElder 52 [l0, l1] S σ = exec d mX7_takesElder 55 [l0, l1] (.int (nI 193) :: S) σ) ∧
  (∀ (d : Nat) (σ : Sg) (S : List Value) (l0 : Value) (x : Int32), exec d mX7_takesElder 55 [l0, .int x] S σ = exec d mX7_takesElder 56 [l0, .int x] (.int x :: S) σ) ∧
  (∀ (d : Nat) (σ : Sg) (S : List Value) (l0 l1 : Value) (x y : Int32), exec d mX7_takesElder 56 [l0, l1] (.int y :: .int x :: S) σ = exec d mX7_takesElder 57 [l0, l1] (.int (x + y) :: S) σ) ∧
  (∀ (d : Nat) (σ : Sg) (S : List Value) (l1 : Value) (k : Nat), exec d mX7_takesElder 57 [.ref k, l1] S σ = exec d mX7_takesElder 58 [.ref k, l1] (.ref k :: S) σ) ∧
  (∀ (d : Nat) (σ : Sg) (S : List Value) (l0 l1 : Value), exec d mX7_takesElder 58 [l0, l1] (.ref 50 :: S) σ = exec d mX7_takesElder 61 [l0, l1] (.int (σ 50 15) :: S) σ) ∧
  (∀ (d : Nat) (σ : Sg) (S : List Value) (l0 l1 : Value) (x y : Int32), exec d mX7_takesElder 61 [l0, l1] (.int y :: .int x :: .ref 51 :: S) σ = if inb x 208 = true then exec d mX7_takesElder 62 [l0, l1] S (up σ 51 x.toNatClampNeg y) else none) ∧
  (∀ (d : Nat) (σ : Sg) (S : List Value) (l1 : Value) (k : Nat), exec d mX7_takesElder 62 [.ref k, l1] S σ = exec d mX7_takesElder 63 [.ref k, l1] (.ref k :: S) σ) ∧
  (∀ (d : Nat) (σ : Sg) (S : List Value) (l0 l1 : Value), exec d mX7_takesElder 63 [l0, l1] S σ = exec d mX7_takesElder 64 [l0, l1] (.int (nI 0) :: S) σ) ∧
  (∀ (d : Nat) (σ : Sg) (S : List Value) (l0 l1 : Value), exec d mX7_takesElder 64 [l0, l1] S σ = exec d mX7_takesElder 66 [l0, l1] (.int (nI 7) :: S) σ) ∧
  (∀ (d : Nat) (σ : Sg) (S : List Value) (l0 l1 : Value), exec d mX7_takesElder 66 [l0, l1] S σ = exec d mX7_takesElder 68 [l0, l1] (.int (nI 44) :: S) σ) :=
  ⟨fun d σ S l1 k => ex_aload_n (show decode mX7_takesElder.2.1 0 = .ok (.aload_n 0, 1) by decide +kernel) rfl,
  fun d σ S l0 l1 => ex_getr (idx := 7) (ci := 7) (ff := 0) (n := 26) (hh := 833) (by decide +kernel),
  fun d σ S l0 l1 => ex_sipush (show decode mX7_takesElder.2.1 4 = .ok (.sipush 164, 3) by decide +kernel) (by decide +kernel),
  fun d σ S l0 l1 x => ex_iald (by decide +kernel),
  fun d σ S l1 k x => ex_istore_n (show decode mX7_takesElder.2.1 8 = .ok (.istore_n 1, 1) by decide +kernel) (Nat.le_of_ble_eq_true rfl) rfl,
  fun d σ S l0 x => ex_iload_n (show decode mX7_takesElder.2.1 9 = .ok (.iload_n 1, 1) by decide +kernel) rfl,
  fun d σ S l0 l1 => ex_iconst (show decode mX7_takesElder.2.1 10 = .ok (.iconst 5, 1) by decide +kernel) (by decide +kernel),
  fun d σ S l0 l1 x y => ex_cne (show decode mX7_takesElder.2.1 11 = .ok (.if_icmp .ne 13, 3) by decide +kernel) (by decide),
  fun d σ S l1 k => ex_aload_n (show decode mX7_takesElder.2.1 14 = .ok (.aload_n 0, 1) by decide +kernel) rfl,
  fun d σ S l0 l1 => ex_iconst (show decode mX7_takesElder.2.1 15 = .ok (.iconst 3, 1) by decide +kernel) (by decide +kernel),
  fun d σ S l1 k => ex_aload_n (show decode mX7_takesElder.2.1 16 = .ok (.aload_n 0, 1) by decide +kernel) rfl,
  fun d σ S l0 l1 => ex_get (idx := 97) (ci := 7) (ff := 14) (n := 26) (hh := 847) (by decide +kernel),
  fun d σ l0 l1 x0 x1 => ex_iv (hs := [971, 973, 59, 974, 101]) (show decode mX7_takesElder.2.1 20 = .ok (.invokevirtual 103, 3) by decide +kernel) lkV_7_103 ⟨rfl, Nat.le_of_ble_eq_true rfl, Nat.le_of_ble_eq_true rfl, fun _ => rfl⟩ rfl rfl,
  fun d σ l0 l1 x => ex_zret (show decode mX7_takesElder.2.1 23 = .ok (.ireturn, 1) by decide +kernel) rfl,
  fun d σ S l1 k => ex_aload_n (show decode mX7_takesElder.2.1 24 = .ok (.aload_n 0, 1) by decide +kernel) rfl,
  fun d σ S l0 l1 k => ex_dup (show decode mX7_takesElder.2.1 25 = .ok (.dup, 1) by decide +kernel) rfl,
  fun d σ S l0 l1 => ex_get (idx := 97) (ci := 7) (ff := 14) (n := 26) (hh := 847) (by decide +kernel),
  fun d σ S l0 l1 => ex_iconst (show decode mX7_takesElder.2.1 29 = .ok (.iconst 1, 1) by decide +kernel) (by decide +kernel),
  fun d σ S l0 l1 x y => ex_iadd (show decode mX7_takesElder.2.1 30 = .ok (.iadd, 1) by decide +kernel),
  fun d σ S l0 l1 x => ex_put (idx := 97) (ci := 7) (ff := 14) (n := 26) (hh := 847) (by decide +kernel),
  fun d σ S l1 k => ex_aload_n (show decode mX7_takesElder.2.1 34 = .ok (.aload_n 0, 1) by decide +kernel) rfl,
  fun d σ S l0 l1 => ex_iconst (show decode mX7_takesElder.2.1 35 = .ok (.iconst 0, 1) by decide +kernel) (by decide +kernel),
  fun d σ S l0 l1 => ex_bipush (show decode mX7_takesElder.2.1 36 = .ok (.bipush 20, 2) by decide +kernel) (by decide +kernel),
  fun d σ S l0 l1 => ex_bipush (show decode mX7_takesElder.2.1 38 = .ok (.bipush 44, 2) by decide +kernel) (by decide +kernel),
  fun d σ l0 l1 x0 x1 x2 => ex_iv (hs := [975, 977, 60, 978, 101]) (show decode mX7_takesElder.2.1 40 = .ok (.invokevirtual 117, 3) by decide +kernel) lkV_7_117 ⟨rfl, Nat.le_of_ble_eq_true rfl, Nat.le_of_ble_eq_true rfl, fun _ => rfl⟩ rfl rfl,
  fun d σ S l0 l1 x => ex_zne (show decode mX7_takesElder.2.1 43 = .ok (.ifCond .ne 5, 3) by decide +kernel) (by decide),
  fun d σ S l0 l1 => ex_iconst (show decode mX7_takesElder.2.1 46 = .ok (.iconst 0, 1) by decide +kernel) (by decide +kernel),
  fun d σ l0 l1 x => ex_zret (show decode mX7_takesElder.2.1 47 = .ok (.ireturn, 1) by decide +kernel) rfl,
  fun d σ S l1 k => ex_aload_n (show decode mX7_takesElder.2.1 48 = .ok (.aload_n 0, 1) by decide +kernel) rfl,
  fun d σ S l0 l1 => ex_getr (idx := 7) (ci := 7) (ff := 0) (n := 26) (hh := 833) (by decide +kernel),
  fun d σ S l0 l1 => ex_sipush (show decode mX7_takesElder.2.1 52 = .ok (.sipush 193, 3) by decide +kernel) (by decide +kernel),
  fun d σ S l0 x => ex_iload_n (show decode mX7_takesElder.2.1 55 = .ok (.iload_n 1, 1) by decide +kernel) rfl,
  fun d σ S l0 l1 x y => ex_iadd (show decode mX7_takesElder.2.1 56 = .ok (.iadd, 1) by decide +kernel),
  fun d σ S l1 k => ex_aload_n (show decode mX7_takesElder.2.1 57 = .ok (.aload_n 0, 1) by decide +kernel) rfl,
  fun d σ S l0 l1 => ex_get (idx := 107) (ci := 7) (ff := 15) (n := 26) (hh := 848) (by decide +kernel),
  fun d σ S l0 l1 x y => ex_iast (by decide +kernel),
  fun d σ S l1 k => ex_aload_n (show decode mX7_takesElder.2.1 62 = .ok (.aload_n 0, 1) by decide +kernel) rfl,
  fun d σ S l0 l1 => ex_iconst (show decode mX7_takesElder.2.1 63 = .ok (.iconst 0, 1) by decide +kernel) (by decide +kernel),
  fun d σ S l0 l1 => ex_bipush (show decode mX7_takesElder.2.1 64 = .ok (.bipush 7, 2) by decide +kernel) (by decide +kernel),
  fun d σ S l0 l1 => ex_bipush (show decode mX7_takesElder.2.1 66 = .ok (.bipush 44, 2) by decide +kernel) (by decide +kernel)⟩
theorem kX7_takesElder_1 : (∀ (d : Nat) (σ : Sg) (l0 l1 : Value) (x0 x1 x2 : Int32), exec d mX7_takesElder 68 [l0, l1] [.int x0, .int x1, .int x2, .ref 50] σ = kb (cal d mX7_takesNumber [.ref 50, .int x2, .int x1, .int x0] σ) (fun rs σ2 => exec d mX7_takesElder 71 [l0, l1] (rs ++ []) σ2)) ∧
  (∀ (d : Nat) (σ : Sg) (S : List Value) (l0 l1 : Value) (x : Int32), exec d mX7_takesElder 71 [l0, l1] (.int x :: S) σ = if x = nI 0 then exec d mX7_takesElder 74 [l0, l1] S σ else exec d mX7_takesElder 76 [l0, l1] S σ) ∧
  (∀ (d : Nat) (σ : Sg) (S : List Value) (l0 l1 : Value), exec d mX7_takesElder 74 [l0, l1] S σ = exec d mX7_takesElder 75 [l0, l1] (.int (nI 0) :: S) σ) ∧
  (∀ (d : Nat) (σ : Sg) (l0 l1 : Value) (x : Int32), exec d mX7_takesElder 75 [l0, l1] [.int x] σ = if b01 x = true then some (some (.int x), σ) else none) ∧
  (∀ (d : Nat) (σ : Sg) (S : List Value) (l1 : Value) (k : Nat), exec d mX7_takesElder 76 [.ref k, l1] S σ = exec d mX7_takesElder 77 [.ref k, l1] (.ref k :: S) σ) ∧
  (∀ (d : Nat) (σ : Sg) (S : List Value) (l0 l1 : Value), exec d mX7_takesElder 77 [l0, l1] (.ref 50 :: S) σ = exec d mX7_takesElder 80 [l0, l1] (.ref 51 :: S) σ) ∧
  (∀ (d : Nat) (σ : Sg) (S : List Value) (l0 l1 : Value), exec d mX7_takesElder 80 [l0, l1] S σ = exec d mX7_takesElder 83 [l0, l1] (.int (nI 198) :: S) σ) ∧
  (∀ (d : Nat) (σ : Sg) (S : List Value) (l0 : Value) (x : Int32), exec d mX7_takesElder 83 [l0, .int x] S σ = exec d mX7_takesElder 84 [l0, .int x] (.int x :: S) σ) ∧
  (∀ (d : Nat) (σ : Sg) (S : List Value) (l0 l1 : Value) (x y : Int32), exec d mX7_takesElder 84 [l0, l1] (.int y :: .int x :: S) σ = exec d mX7_takesElder 85 [l0, l1] (.int (x + y) :: S) σ) ∧
  (∀ (d : Nat) (σ : Sg) (S : List Value) (l1 : Value) (k : Nat), exec d mX7_takesElder 85 [.ref k, l1] S σ = exec d mX7_takesElder 86 [.ref k, l1] (.ref k :: S) σ) ∧
  (∀ (d : Nat) (σ : Sg) (S : List Value) (l0 l1 : Value), exec d mX7_takesElder 86 [l0, l1] (.ref 50 :: S) σ = exec d mX7_takesElder 89 [l0, l1] (.int (σ 50 15) :: S) σ) ∧
  (∀ (d : Nat) (σ : Sg) (S : List Value) (l0 l1 : Value) (x y : Int32), exec d mX7_takesElder 89 [l0, l1] (.int y :: .int x :: .ref 51 :: S) σ = if inb x 208 = true then exec d mX7_takesElder 90 [l0, l1] S (up σ 51 x.toNatClampNeg y) else none) ∧
  (∀ (d : Nat) (σ : Sg) (S : List Value) (l1 : Value) (k : Nat), exec d mX7_takesElder 90 [.ref k, l1] S σ = exec d mX7_takesElder 91 [.ref k, l1] (.ref k :: S) σ) ∧
  (∀ (d : Nat) (σ : Sg) (S : List Value) (l0 l1 : Value), exec d mX7_takesElder 91 [l0, l1] S σ = exec d mX7_takesElder 92 [l0, l1] (.int (nI 1) :: S) σ) ∧
  (∀ (d : Nat) (σ : Sg) (S : List Value) (l0 l1 : Value), exec d mX7_takesElder 92 [l0, l1] S σ = exec d mX7_takesElder 94 [l0, l1] (.int (nI 50) :: S) σ) ∧
  (∀ (d : Nat) (σ : Sg) (S : List Value) (l0 l1 : Value), exec d mX7_takesElder 94 [l0, l1] S σ = exec d mX7_takesElder 96 [l0, l1] (.int (nI 59) :: S) σ) ∧
  (∀ (d : Nat) (σ : Sg) (l0 l1 : Value) (x0 x1 x2 : Int32), exec d mX7_takesElder 96 [l0, l1] [.int x0, .int x1, .int x2, .ref 50] σ = kb (cal d mX7_takesNumber [.ref 50, .int x2, .int x1, .int x0] σ) (fun rs σ2 => exec d mX7_takesElder 99 [l0, l1] (rs ++ []) σ2)) ∧
  (∀ (d : Nat) (σ : Sg) (S : List Value) (l0 l1 : Value) (x : Int32), exec d mX7_takesElder 99 [l0, l1] (.int x :: S) σ = if x = nI 0 then exec d mX7_takesElder 102 [l0, l1] S σ else exec d mX7_takesElder 104 [l0, l1] S σ) ∧
  (∀ (d : Nat) (σ : Sg) (S : List Value) (l0 l1 : Value), exec d mX7_takesElder 102 [l0, l1] S σ = exec d mX7_takesElder 103 [l0, l1] (.int (nI 0) :: S) σ) ∧
  (∀ (d : Nat) (σ : Sg) (l0 l1 : Value) (x : Int32), exec d mX7_takesElder 103 [l0, l1] [.int x] σ = if b01 x = true then some (some (.int x), σ) else none) ∧
  (∀ (d : Nat) (σ : Sg) (S : List Value) (l1 : Value) (k : Nat), exec d mX7_takesElder 104 [.ref k, l1] S σ = exec d mX7_takesElder 105 [.ref k, l1] (.ref k :: S) σ) ∧
  (∀ (d : Nat) (σ : Sg) (S : List Value) (l0 l1 : Value), exec d mX7_takesElder 105 [l0, l1] (.ref 50 :: S) σ = exec d mX7_takesElder 108 [l0, l1] (.ref 51 :: S) σ) ∧
  (∀ (d : Nat) (σ : Sg) (S : List Value) (l0 l1 : Value), exec d mX7_takesElder 108 [l0, l1] S σ = exec d mX7_takesElder 111 [l0, l1] (.int (nI 203) :: S) σ) ∧
  (∀ (d : Nat) (σ : Sg) (S : List Value) (l0 : Value) (x : Int32), exec d mX7_takesElder 111 [l0, .int x] S σ = exec d mX7_takesElder 112 [l0, .int x] (.int x :: S) σ) ∧
  (∀ (d : Nat) (σ : Sg) (S : List Value) (l0 l1 : Value) (x y : Int32), exec d mX7_takesElder 112 [l0, l1] (.int y :: .int x :: S) σ = exec d mX7_takesElder 113 [l0, l1] (.int (x + y) :: S) σ) ∧
  (∀ (d : Nat) (σ : Sg) (S : List Value) (l1 : Value) (k : Nat), exec d mX7_takesElder 113 [.ref k, l1] S σ = exec d mX7_takesElder 114 [.ref k, l1] (.ref k :: S) σ) ∧
  (∀ (d : Nat) (σ : Sg) (S : List Value) (l0 l1 : Value), exec d mX7_takesElder 114 [l0, l1] (.ref 50 :: S) σ = exec d mX7_takesElder 117 [l0, l1] (.int (σ 50 15) :: S) σ) ∧
  (∀ (d : Nat) (σ : Sg) (S : List Value) (l0 l1 : Value) (x y : Int32), exec d mX7_takesElder 117 [l0, l1] (.int y :: .int x :: .ref 51 :: S) σ = if inb x 208 = true then exec d mX7_takesElder 118 [l0, l1] S (up σ 51 x.toNatClampNeg y) else none) ∧
  (∀ (d : Nat) (σ : Sg) (S : List Value) (l1 : Value) (k : Nat), exec d mX7_takesElder 118 [.ref k, l1] S σ = exec d mX7_takesElder 119 [.ref k, l1] (.ref k :: S) σ) ∧
  (∀ (d : Nat) (σ : Sg) (S : List Value) (l0 l1 : Value), exec d mX7_takesElder 119 [l0, l1] (.ref 50 :: S) σ = exec d mX7_takesElder 122 [l0, l1] (.ref 51 :: S) σ) ∧
  (∀ (d : Nat) (σ : Sg) (S : List Value) (l0 l1 : Value), exec d mX7_takesElder 122 [l0, l1] S σ = exec d mX7_takesElder 125 [l0, l1] (.int (nI 164) :: S) σ) ∧
  (∀ (d : Nat) (σ : Sg) (S : List Value) (l0 l1 : Value) (k : Nat) (x : Int32), exec d mX7_takesElder 125 [l0, l1] (.int x :: .ref k :: S) σ = exec d mX7_takesElder 126 [l0, l1] (.int x :: .ref k :: .int x :: .ref k :: S) σ) ∧
  (∀ (d : Nat) (σ : Sg) (S : List Value) (l0 l1 : Value) (x : Int32), exec d mX7_takesElder 126 [l0, l1] (.int x :: .ref 51 :: S) σ = if inb x 208 = true then exec d mX7_takesElder 127 [l0, l1] (.int (σ 51 x.toNatClampNeg) :: S) σ else none) ∧
  (∀ (d : Nat) (σ : Sg) (S : List Value) (l0 l1 : Value), exec d mX7_takesElder 127 [l0, l1] S σ = exec d mX7_takesElder 128 [l0, l1] (.int (nI 1) :: S) σ) ∧
  (∀ (d : Nat) (σ : Sg) (S : List Value) (l0 l1 : Value) (x y : Int32), exec d mX7_takesElder 128 [l0, l1] (.int y :: .int x :: S) σ = exec d mX7_takesElder 129 [l0, l1] (.int (x + y) :: S) σ) ∧
  (∀ (d : Nat) (σ : Sg) (S : List Value) (l0 l1 : Value) (x y : Int32), exec d mX7_takesElder 129 [l0, l1] (.int y :: .int x :: .ref 51 :: S) σ = if inb x 208 = true then exec d mX7_takesElder 130 [l0, l1] S (up σ 51 x.toNatClampNeg y) else none) ∧
  (∀ (d : Nat) (σ : Sg) (S : List Value) (l0 l1 : Value), exec d mX7_takesElder 130 [l0, l1] S σ = exec d mX7_takesElder 131 [l0, l1] (.int (nI 1) :: S) σ) ∧
  (∀ (d : Nat) (σ : Sg) (l0 l1 : Value) (x : Int32), exec d mX7_takesElder 131 [l0, l1] [.int x] σ = if b01 x = true then some (some (.int x), σ) else none) :=
  ⟨fun d σ l0 l1 x0 x1 x2 => ex_iv (hs := [975, 977, 60, 978, 101]) (show decode mX7_takesElder.2.1 68 = .ok (.invokevirtual 117, 3) by decide +kernel) lkV_7_117 ⟨rfl, Nat.le_of_ble_eq_true rfl, Nat.le_of_ble_eq_true rfl, fun _ => rfl⟩ rfl rfl,
  fun d σ S l0 l1 x => ex_zne (show decode mX7_takesElder.2.1 71 = .ok (.ifCond .ne 5, 3) by decide +kernel) (by decide),
  fun d σ S l0 l1 => ex_iconst (show decode mX7_takesElder.2.1 74 = .ok (.iconst 0, 1) by decide +kernel) (by decide +kernel),
  fun d σ l0 l1 x => ex_zret (show decode mX7_takesElder.2.1 75 = .ok (.ireturn, 1) by decide +kernel) rfl,
  fun d σ S l1 k => ex_aload_n (show decode mX7_takesElder.2.1 76 = .ok (.aload_n 0, 1) by decide +kernel) rfl,
  fun d σ S l0 l1 => ex_getr (idx := 7) (ci := 7) (ff := 0) (n := 26) (hh := 833) (by decide +kernel),
  fun d σ S l0 l1 => ex_sipush (show decode mX7_takesElder.2.1 80 = .ok (.sipush 198, 3) by decide +kernel) (by decide +kernel),
  fun d σ S l0 x => ex_iload_n (show decode mX7_takesElder.2.1 83 = .ok (.iload_n 1, 1) by decide +kernel) rfl,
  fun d σ S l0 l1 x y => ex_iadd (show decode mX7_takesElder.2.1 84 = .ok (.iadd, 1) by decide +kernel),
  fun d σ S l1 k => ex_aload_n (show decode mX7_takesElder.2.1 85 = .ok (.aload_n 0, 1) by decide +kernel) rfl,
  fun d σ S l0 l1 => ex_get (idx := 107) (ci := 7) (ff := 15) (n := 26) (hh := 848) (by decide +kernel),
  fun d σ S l0 l1 x y => ex_iast (by decide +kernel),
  fun d σ S l1 k => ex_aload_n (show decode mX7_takesElder.2.1 90 = .ok (.aload_n 0, 1) by decide +kernel) rfl,
  fun d σ S l0 l1 => ex_iconst (show decode mX7_takesElder.2.1 91 = .ok (.iconst 1, 1) by decide +kernel) (by decide +kernel),
  fun d σ S l0 l1 => ex_bipush (show decode mX7_takesElder.2.1 92 = .ok (.bipush 50, 2) by decide +kernel) (by decide +kernel),
  fun d σ S l0 l1 => ex_bipush (show decode mX7_takesElder.2.1 94 = .ok (.bipush 59, 2) by decide +kernel) (by decide +kernel),
  fun d σ l0 l1 x0 x1 x2 => ex_iv (hs := [975, 977, 60, 978, 101]) (show decode mX7_takesElder.2.1 96 = .ok (.invokevirtual 117, 3) by decide +kernel) lkV_7_117 ⟨rfl, Nat.le_of_ble_eq_true rfl, Nat.le_of_ble_eq_true rfl, fun _ => rfl⟩ rfl rfl,
  fun d σ S l0 l1 x => ex_zne (show decode mX7_takesElder.2.1 99 = .ok (.ifCond .ne 5, 3) by decide +kernel) (by decide),
  fun d σ S l0 l1 => ex_iconst (show decode mX7_takesElder.2.1 102 = .ok (.iconst 0, 1) by decide +kernel) (by decide +kernel),
  fun d σ l0 l1 x => ex_zret (show decode mX7_takesElder.2.1 103 = .ok (.ireturn, 1) by decide +kernel) rfl,
  fun d σ S l1 k => ex_aload_n (show decode mX7_takesElder.2.1 104 = .ok (.aload_n 0, 1) by decide +kernel) rfl,
  fun d σ S l0 l1 => ex_getr (idx := 7) (ci := 7) (ff := 0) (n := 26) (hh := 833) (by decide +kernel),
  fun d σ S l0 l1 => ex_sipush (show decode mX7_takesElder.2.1 108 = .ok (.sipush 203, 3) by decide +kernel) (by decide +kernel),
  fun d σ S l0 x => ex_iload_n (show decode mX7_takesElder.2.1 111 = .ok (.iload_n 1, 1) by decide +kernel) rfl,
  fun d σ S l0 l1 x y => ex_iadd (show decode mX7_takesElder.2.1 112 = .ok (.iadd, 1) by decide +kernel),
  fun d σ S l1 k => ex_aload_n (show decode mX7_takesElder.2.1 113 = .ok (.aload_n 0, 1) by decide +kernel) rfl,
  fun d σ S l0 l1 => ex_get (idx := 107) (ci := 7) (ff := 15) (n := 26) (hh := 848) (by decide +kernel),
  fun d σ S l0 l1 x y => ex_iast (by decide +kernel),
  fun d σ S l1 k => ex_aload_n (show decode mX7_takesElder.2.1 118 = .ok (.aload_n 0, 1) by decide +kernel) rfl,
  fun d σ S l0 l1 => ex_getr (idx := 7) (ci := 7) (ff := 0) (n := 26) (hh := 833) (by decide +kernel),
  fun d σ S l0 l1 => ex_sipush (show decode mX7_takesElder.2.1 122 = .ok (.sipush 164, 3) by decide +kernel) (by decide +kernel),
  fun d σ S l0 l1 k x => ex_dup2 (show decode mX7_takesElder.2.1 125 = .ok (.dup2, 1) by decide +kernel) rfl rfl,
  fun d σ S l0 l1 x => ex_iald (by decide +kernel),
  fun d σ S l0 l1 => ex_iconst (show decode mX7_takesElder.2.1 127 = .ok (.iconst 1, 1) by decide +kernel) (by decide +kernel),
  fun d σ S l0 l1 x y => ex_iadd (show decode mX7_takesElder.2.1 128 = .ok (.iadd, 1) by decide +kernel),
  fun d σ S l0 l1 x y => ex_iast (by decide +kernel),
  fun d σ S l0 l1 => ex_iconst (show decode mX7_takesElder.2.1 130 = .ok (.iconst 1, 1) by decide +kernel) (by decide +kernel),
  fun d σ l0 l1 x => ex_zret (show decode mX7_takesElder.2.1 131 = .ok (.ireturn, 1) by decide +kernel) rfl⟩
theorem aX7_takesElder_50 : ∀ (d : Nat)  (σ : Sg), cal (d + 1) mX7_takesElder [.ref 50] σ = exec d mX7_takesElder 0 [.ref 50, uu] [] σ := fun _ _ => rfl
theorem kX7_takesMore_0 : (∀ (d : Nat) (σ : Sg) (S : List Value) (l1 l2 : Value) (k : Nat), exec d mX7_takesMore 0 [.ref k, l1, l2] S σ = exec d mX7_takesMore 1 [.ref k, l1, l2] (.ref k :: S) σ) ∧
  (∀ (d : Nat) (σ : Sg) (S : List Value) (l1 l2 : Value) (k : Nat), exec d mX7_takesMore 1 [.ref k, l1, l2] S σ = exec d mX7_takesMore 2 [.ref k, l1, l2] (.ref k :: S) σ) ∧
  (∀ (d : Nat) (σ : Sg) (S : List Value) (l0 l1 l2 : Value), exec d mX7_takesMore 2 [l0, l1, l2] (.ref 50 :: S) σ = exec d mX7_takesMore 5 [l0, l1, l2] (.int (σ 50 14) :: S) σ) ∧
  (∀ (d : Nat) (σ : Sg) (l0 l1 l2 : Value) (x0 : Int32), exec d mX7_takesMore 5 [l0, l1, l2] [.int x0, .ref 50] σ = kb (cal d mX7_byteAt [.ref 50, .int x0] σ) (fun rs σ2 => exec d mX7_takesMore 8 [l0, l1, l2] (rs ++ []) σ2)) ∧
  (∀ (d : Nat) (σ : Sg) (S : List Value) (l1 l2 : Value) (k : Nat) (x : Int32), exec d mX7_takesMore 8 [.ref k, l1, l2] (.int x :: S) σ = exec d mX7_takesMore 9 [.ref k, .int x, l2] S σ) ∧
  (∀ (d : Nat) (σ : Sg) (S : List Value) (l0 l2 : Value) (x : Int32), exec d mX7_takesMore 9 [l0, .int x, l2] S σ = exec d mX7_takesMore 10 [l0, .int x, l2] (.int x :: S) σ) ∧
  (∀ (d : Nat) (σ : Sg) (l0 l1 l2 : Value) (x0 : Int32), exec d mX7_takesMore 10 [l0, l1, l2] [.int x0] σ = kb (cal d mX7_kindOf [.int x0] σ) (fun rs σ2 => exec d mX7_takesMore 13 [l0, l1, l2] (rs ++ []) σ2)) ∧
  (∀ (d : Nat) (σ : Sg) (S : List Value) (l0 l1 l2 : Value) (x : Int32), exec d mX7_takesMore 13 [l0, l1, l2] (.int x :: S) σ = if x ≤ nI 0 then exec d mX7_takesMore 31 [l0, l1, l2] S σ else exec d mX7_takesMore 16 [l0, l1, l2] S σ) ∧
  (∀ (d : Nat) (σ : Sg) (S : List Value) (l1 l2 : Value) (k : Nat), exec d mX7_takesMore 16 [.ref k, l1, l2] S σ = exec d mX7_takesMore 17 [.ref k, l1, l2] (.ref k :: S) σ) ∧
  (∀ (d : Nat) (σ : Sg) (S : List Value) (l0 l1 l2 : Value), exec d mX7_takesMore 17 [l0, l1, l2] (.ref 50 :: S) σ = exec d mX7_takesMore 20 [l0, l1, l2] (.ref 51 :: S) σ) ∧
  (∀ (d : Nat) (σ : Sg) (S : List Value) (l0 l1 l2 : Value), exec d mX7_takesMore 20 [l0, l1, l2] S σ = exec d mX7_takesMore 23 [l0, l1, l2] (.int (nI 164) :: S) σ) ∧
  (∀ (d : Nat) (σ : Sg) (S : List Value) (l0 l1 l2 : Value) (x : Int32), exec d mX7_takesMore 23 [l0, l1, l2] (.int x :: .ref 51 :: S) σ = if inb x 208 = true then exec d mX7_takesMore 24 [l0, l1, l2] (.int (σ 51 x.toNatClampNeg) :: S) σ else none) ∧
  (∀ (d : Nat) (σ : Sg) (S : List Value) (l0 l1 l2 : Value) (x : Int32), exec d mX7_takesMore 24 [l0, l1, l2] (.int x :: S) σ = if x = nI 0 then exec d mX7_takesMore 27 [l0, l1, l2] S σ else exec d mX7_takesMore 31 [l0, l1, l2] S σ) ∧
  (∀ (d : Nat) (σ : Sg) (S : List Value) (l0 l1 l2 : Value), exec d mX7_takesMore 27 [l0, l1, l2] S σ = exec d mX7_takesMore 28 [l0, l1, l2] (.int (nI 1) :: S) σ) ∧
  (∀ (d : Nat) (σ : Sg) (S : List Value) (l0 l1 l2 : Value), exec d mX7_takesMore 28 [l0, l1, l2] S σ = exec d mX7_takesMore 32 [l0, l1, l2] S σ) ∧
  (∀ (d : Nat) (σ : Sg) (S : List Value) (l0 l1 l2 : Value), exec d mX7_takesMore 31 [l0, l1, l2] S σ = exec d mX7_takesMore 32 [l0, l1, l2] (.int (nI 0) :: S) σ) ∧
  (∀ (d : Nat) (σ : Sg) (S : List Value) (l0 l2 : Value) (x y : Int32), exec d mX7_takesMore 32 [l0, .int y, l2] (.int x :: S) σ = exec d mX7_takesMore 33 [l0, .int y, .int x] S σ) ∧
  (∀ (d : Nat) (σ : Sg) (S : List Value) (l0 l1 : Value) (x : Int32), exec d mX7_takesMore 33 [l0, l1, .int x] S σ = exec d mX7_takesMore 34 [l0, l1, .int x] (.int x :: S) σ) ∧
  (∀ (d : Nat) (σ : Sg) (S : List Value) (l0 l1 l2 : Value) (x : Int32), exec d mX7_takesMore 34 [l0, l1, l2] (.int x :: S) σ = if x = nI 0 then exec d mX7_takesMore 37 [l0, l1, l2] S σ else exec d mX7_takesMore 64 [l0, l1, l2] S σ) ∧
  (∀ (d : Nat) (σ : Sg) (S : List Value) (l0 l2 : Value) (x : Int32), exec d mX7_takesMore 37 [l0, .int x, l2] S σ = exec d mX7_takesMore 38 [l0, .int x, l2] (.int x :: S) σ) ∧
  (∀ (d : Nat) (σ : Sg) (S : List Value) (l0 l1 l2 : Value), exec d mX7_takesMore 38 [l0, l1, l2] S σ = exec d mX7_takesMore 40 [l0, l1, l2] (.int (nI 101) :: S) σ) ∧
  (∀ (d : Nat) (σ : Sg) (S : List Value) (l0 l1 l2 : Value) (x y : Int32), exec d mX7_takesMore 40 [l0, l1, l2] (.int y :: .int x :: S) σ = if x = y then exec d mX7_takesMore 43 [l0, l1, l2] S σ else exec d mX7_takesMore 54 [l0, l1, l2] S σ) ∧
  (∀ (d : Nat) (σ : Sg) (S : List Value) (l1 l2 : Value) (k : Nat), exec d mX7_takesMore 43 [.ref k, l1, l2] S σ = exec d mX7_takesMore 44 [.ref k, l1, l2] (.ref k :: S) σ) ∧
  (∀ (d : Nat) (σ : Sg) (S : List Value) (l0 l1 l2 : Value), exec d mX7_takesMore 44 [l0, l1, l2] (.ref 50 :: S) σ = exec d mX7_takesMore 47 [l0, l1, l2] (.ref 51 :: S) σ) ∧
  (∀ (d : Nat) (σ : Sg) (S : List Value) (l0 l1 l2 : Value), exec d mX7_takesMore 47 [l0, l1, l2] S σ = exec d mX7_takesMore 50 [l0, l1, l2] (.int (nI 163) :: S) σ) ∧
  (∀ (d : Nat) (σ : Sg) (S : List Value) (l0 l1 l2 : Value) (x : Int32), exec d mX7_takesMore 50 [l0, l1, l2] (.int x :: .ref 51 :: S) σ = if inb x 208 = true then exec d mX7_takesMore 51 [l0, l1, l2] (.int (σ 51 x.toNatClampNeg) :: S) σ else none) ∧
  (∀ (d : Nat) (σ : Sg) (S : List Value) (l0 l1 l2 : Value) (x : Int32), exec d mX7_takesMore 51 [l0, l1, l2] (.int x :: S) σ = if x = nI 0 then exec d mX7_takesMore 54 [l0, l1, l2] S σ else exec d mX7_takesMore 64 [l0, l1, l2] S σ) ∧
  (∀ (d : Nat) (σ : Sg) (S : List Value) (l1 l2 : Value) (k : Nat), exec d mX7_takesMore 54 [.ref k, l1, l2] S σ = exec d mX7_takesMore 55 [.ref k, l1, l2] (.ref k :: S) σ) ∧
  (∀ (d : Nat) (σ : Sg) (S : List Value) (l0 l1 l2 : Value), exec d mX7_takesMore 55 [l0, l1, l2] S σ = exec d mX7_takesMore 56 [l0, l1, l2] (.int (nI 1) :: S) σ) ∧
  (∀ (d : Nat) (σ : Sg) (S : List Value) (l1 l2 : Value) (k : Nat), exec d mX7_takesMore 56 [.ref k, l1, l2] S σ = exec d mX7_takesMore 57 [.ref k, l1, l2] (.ref k :: S) σ) ∧
  (∀ (d : Nat) (σ : Sg) (S : List Value) (l0 l1 l2 : Value), exec d mX7_takesMore 57 [l0, l1, l2] (.ref 50 :: S) σ = exec d mX7_takesMore 60 [l0, l1, l2] (.int (σ 50 14) :: S) σ) ∧
  (∀ (d : Nat) (σ : Sg) (l0 l1 l2 : Value) (x0 x1 : Int32), exec d mX7_takesMore 60 [l0, l1, l2] [.int x0, .int x1, .ref 50] σ = kb (cal d mX7_fails [.ref 50, .int x1, .int x0] σ) (fun rs σ2 => exec d mX7_takesMore 63 [l0, l1, l2] (rs ++ []) σ2)) ∧
  (∀ (d : Nat) (σ : Sg) (l0 l1 l2 : Value) (x : Int32), exec d mX7_takesMore 63 [l0, l1, l2] [.int x] σ = if b01 x = true then some (some (.int x), σ) else none) ∧
  (∀ (d : Nat) (σ : Sg) (S : List Value) (l0 l1 : Value) (x : Int32), exec d mX7_takesMore 64 [l0, l1, .int x] S σ = exec d mX7_takesMore 65 [l0, l1, .int x] (.int x :: S) σ) ∧
  (∀ (d : Nat) (σ : Sg) (S : List Value) (l0 l1 l2 : Value) (x : Int32), exec d mX7_takesMore 65 [l0, l1, l2] (.int x :: S) σ = if x = nI 0 then exec d mX7_takesMore 79 [l0, l1, l2] S σ else exec d mX7_takesMore 68 [l0, l1, l2] S σ) ∧
  (∀ (d : Nat) (σ : Sg) (S : List Value) (l1 l2 : Value) (k : Nat), exec d mX7_takesMore 68 [.ref k, l1, l2] S σ = exec d mX7_takesMore 69 [.ref k, l1, l2] (.ref k :: S) σ) ∧
  (∀ (d : Nat) (σ : Sg) (S : List Value) (l0 l2 : Value) (x : Int32), exec d mX7_takesMore 69 [l0, .int x, l2] S σ = exec d mX7_takesMore 70 [l0, .int x, l2] (.int x :: S) σ) ∧
  (∀ (d : Nat) (σ : Sg) (l0 l1 l2 : Value) (x0 : Int32), exec d mX7_takesMore 70 [l0, l1, l2] [.int x0, .ref 50] σ = kb (cal d mX7_kindOf [.int x0] σ) (fun rs σ2 => exec d mX7_takesMore 73 [l0, l1, l2] (rs ++ [.ref 50]) σ2)) ∧
  (∀ (d : Nat) (σ : Sg) (l0 l1 l2 : Value) (x0 : Int32), exec d mX7_takesMore 73 [l0, l1, l2] [.int x0, .ref 50] σ = kb (cal d mX7_takesPart [.ref 50, .int x0] σ) (fun rs σ2 => exec d mX7_takesMore 76 [l0, l1, l2] (rs ++ []) σ2)) ∧
  (∀ (d : Nat) (σ : Sg) (S : List Value) (l0 l1 l2 : Value), exec d mX7_takesMore 76 [l0, l1, l2] S σ = exec d mX7_takesMore 83 [l0, l1, l2] S σ) :=
  ⟨fun d σ S l1 l2 k => ex_aload_n (show decode mX7_takesMore.2.1 0 = .ok (.aload_n 0, 1) by decide +kernel) rfl,
  fun d σ S l1 l2 k => ex_aload_n (show decode mX7_takesMore.2.1 1 = .ok (.aload_n 0, 1) by decide +kernel) rfl,
  fun d σ S l0 l1 l2 => ex_get (idx := 97) (ci := 7) (ff := 14) (n := 26) (hh := 847) (by decide +kernel),
  fun d σ l0 l1 l2 x0 => ex_iv (hs := [967, 969, 58, 970, 101]) (show decode mX7_takesMore.2.1 5 = .ok (.invokevirtual 100, 3) by decide +kernel) lkV_7_100 ⟨rfl, Nat.le_of_ble_eq_true rfl, Nat.le_of_ble_eq_true rfl, fun _ => rfl⟩ rfl rfl,
  fun d σ S l1 l2 k x => ex_istore_n (show decode mX7_takesMore.2.1 8 = .ok (.istore_n 1, 1) by decide +kernel) (Nat.le_of_ble_eq_true rfl) rfl,
  fun d σ S l0 l2 x => ex_iload_n (show decode mX7_takesMore.2.1 9 = .ok (.iload_n 1, 1) by decide +kernel) rfl,
  fun d σ l0 l1 l2 x0 => ex_is (hs := [985, 986, 987, 101]) (show decode mX7_takesMore.2.1 10 = .ok (.invokestatic 120, 3) by decide +kernel) lkS_7_120 ⟨rfl, Nat.le_of_ble_eq_true rfl, Nat.le_of_ble_eq_true rfl, fun q => nomatch q⟩ rfl rfl,
  fun d σ S l0 l1 l2 x => ex_zle (show decode mX7_takesMore.2.1 13 = .ok (.ifCond .le 18, 3) by decide +kernel) (by decide),
  fun d σ S l1 l2 k => ex_aload_n (show decode mX7_takesMore.2.1 16 = .ok (.aload_n 0, 1) by decide +kernel) rfl,
  fun d σ S l0 l1 l2 => ex_getr (idx := 7) (ci := 7) (ff := 0) (n := 26) (hh := 833) (by decide +kernel),
  fun d σ S l0 l1 l2 => ex_sipush (show decode mX7_takesMore.2.1 20 = .ok (.sipush 164, 3) by decide +kernel) (by decide +kernel),
  fun d σ S l0 l1 l2 x => ex_iald (by decide +kernel),
  fun d σ S l0 l1 l2 x => ex_zne (show decode mX7_takesMore.2.1 24 = .ok (.ifCond .ne 7, 3) by decide +kernel) (by decide),
  fun d σ S l0 l1 l2 => ex_iconst (show decode mX7_takesMore.2.1 27 = .ok (.iconst 1, 1) by decide +kernel) (by decide +kernel),
  fun d σ S l0 l1 l2 => ex_goto (show decode mX7_takesMore.2.1 28 = .ok (.goto 4, 3) by decide +kernel) (by decide),
  fun d σ S l0 l1 l2 => ex_iconst (show decode mX7_takesMore.2.1 31 = .ok (.iconst 0, 1) by decide +kernel) (by decide +kernel),
  fun d σ S l0 l2 x y => ex_istore_n (show decode mX7_takesMore.2.1 32 = .ok (.istore_n 2, 1) by decide +kernel) (Nat.le_of_ble_eq_true rfl) rfl,
  fun d σ S l0 l1 x => ex_iload_n (show decode mX7_takesMore.2.1 33 = .ok (.iload_n 2, 1) by decide +kernel) rfl,
  fun d σ S l0 l1 l2 x => ex_zne (show decode mX7_takesMore.2.1 34 = .ok (.ifCond .ne 30, 3) by decide +kernel) (by decide),
  fun d σ S l0 l2 x => ex_iload_n (show decode mX7_takesMore.2.1 37 = .ok (.iload_n 1, 1) by decide +kernel) rfl,
  fun d σ S l0 l1 l2 => ex_bipush (show decode mX7_takesMore.2.1 38 = .ok (.bipush 101, 2) by decide +kernel) (by decide +kernel),
  fun d σ S l0 l1 l2 x y => ex_cne (show decode mX7_takesMore.2.1 40 = .ok (.if_icmp .ne 14, 3) by decide +kernel) (by decide),
  fun d σ S l1 l2 k => ex_aload_n (show decode mX7_takesMore.2.1 43 = .ok (.aload_n 0, 1) by decide +kernel) rfl,
  fun d σ S l0 l1 l2 => ex_getr (idx := 7) (ci := 7) (ff := 0) (n := 26) (hh := 833) (by decide +kernel),
  fun d σ S l0 l1 l2 => ex_sipush (show decode mX7_takesMore.2.1 47 = .ok (.sipush 163, 3) by decide +kernel) (by decide +kernel),
  fun d σ S l0 l1 l2 x => ex_iald (by decide +kernel),
  fun d σ S l0 l1 l2 x => ex_zne (show decode mX7_takesMore.2.1 51 = .ok (.ifCond .ne 13, 3) by decide +kernel) (by decide),
  fun d σ S l1 l2 k => ex_aload_n (show decode mX7_takesMore.2.1 54 = .ok (.aload_n 0, 1) by decide +kernel) rfl,
  fun d σ S l0 l1 l2 => ex_iconst (show decode mX7_takesMore.2.1 55 = .ok (.iconst 1, 1) by decide +kernel) (by decide +kernel),
  fun d σ S l1 l2 k => ex_aload_n (show decode mX7_takesMore.2.1 56 = .ok (.aload_n 0, 1) by decide +kernel) rfl,
  fun d σ S l0 l1 l2 => ex_get (idx := 97) (ci := 7) (ff := 14) (n := 26) (hh := 847) (by decide +kernel),
  fun d σ l0 l1 l2 x0 x1 => ex_iv (hs := [971, 973, 59, 974, 101]) (show decode mX7_takesMore.2.1 60 = .ok (.invokevirtual 103, 3) by decide +kernel) lkV_7_103 ⟨rfl, Nat.le_of_ble_eq_true rfl, Nat.le_of_ble_eq_true rfl, fun _ => rfl⟩ rfl rfl,
  fun d σ l0 l1 l2 x => ex_zret (show decode mX7_takesMore.2.1 63 = .ok (.ireturn, 1) by decide +kernel) rfl,
  fun d σ S l0 l1 x => ex_iload_n (show decode mX7_takesMore.2.1 64 = .ok (.iload_n 2, 1) by decide +kernel) rfl,
  fun d σ S l0 l1 l2 x => ex_zeq (show decode mX7_takesMore.2.1 65 = .ok (.ifCond .eq 14, 3) by decide +kernel) (by decide),
  fun d σ S l1 l2 k => ex_aload_n (show decode mX7_takesMore.2.1 68 = .ok (.aload_n 0, 1) by decide +kernel) rfl,
  fun d σ S l0 l2 x => ex_iload_n (show decode mX7_takesMore.2.1 69 = .ok (.iload_n 1, 1) by decide +kernel) rfl,
  fun d σ l0 l1 l2 x0 => ex_is (hs := [985, 986, 987, 101]) (show decode mX7_takesMore.2.1 70 = .ok (.invokestatic 120, 3) by decide +kernel) lkS_7_120 ⟨rfl, Nat.le_of_ble_eq_true rfl, Nat.le_of_ble_eq_true rfl, fun q => nomatch q⟩ rfl rfl,
  fun d σ l0 l1 l2 x0 => ex_iv (hs := [988, 990, 62, 991, 101]) (show decode mX7_takesMore.2.1 73 = .ok (.invokevirtual 123, 3) by decide +kernel) lkV_7_123 ⟨rfl, Nat.le_of_ble_eq_true rfl, Nat.le_of_ble_eq_true rfl, fun _ => rfl⟩ rfl rfl,
  fun d σ S l0 l1 l2 => ex_goto (show decode mX7_takesMore.2.1 76 = .ok (.goto 7, 3) by decide +kernel) (by decide)⟩
theorem kX7_takesMore_1 : (∀ (d : Nat) (σ : Sg) (S : List Value) (l1 l2 : Value) (k : Nat), exec d mX7_takesMore 79 [.ref k, l1, l2] S σ = exec d mX7_takesMore 80 [.ref k, l1, l2] (.ref k :: S) σ) ∧
  (∀ (d : Nat) (σ : Sg) (l0 l1 l2 : Value), exec d mX7_takesMore 80 [l0, l1, l2] [.ref 50] σ = kb (cal d mX7_takesElder [.ref 50] σ) (fun rs σ2 => exec d mX7_takesMore 83 [l0, l1, l2] (rs ++ []) σ2)) ∧
  (∀ (d : Nat) (σ : Sg) (l0 l1 l2 : Value) (x : Int32), exec d mX7_takesMore 83 [l0, l1, l2] [.int x] σ = if b01 x = true then some (some (.int x), σ) else none) :=
  ⟨fun d σ S l1 l2 k => ex_aload_n (show decode mX7_takesMore.2.1 79 = .ok (.aload_n 0, 1) by decide +kernel) rfl,
  fun d σ l0 l1 l2 => ex_iv (hs := [992, 994, 63, 995, 101]) (show decode mX7_takesMore.2.1 80 = .ok (.invokevirtual 126, 3) by decide +kernel) lkV_7_126 ⟨rfl, Nat.le_of_ble_eq_true rfl, Nat.le_of_ble_eq_true rfl, fun _ => rfl⟩ rfl rfl,
  fun d σ l0 l1 l2 x => ex_zret (show decode mX7_takesMore.2.1 83 = .ok (.ireturn, 1) by decide +kernel) rfl⟩
theorem aX7_takesMore_50 : ∀ (d : Nat)  (σ : Sg), cal (d + 1) mX7_takesMore [.ref 50] σ = exec d mX7_takesMore 0 [.ref 50, uu, uu] [] σ := fun _ _ => rfl
theorem kX7_copyAll : (∀ (d : Nat) (σ : Sg) (S : List Value) (l0 l1 l2 l3 : Value), exec d mX7_copyAll 0 [l0, l1, l2, l3] S σ = exec d mX7_copyAll 1 [l0, l1, l2, l3] (.int (nI 0) :: S) σ) ∧
  (∀ (d : Nat) (σ : Sg) (S : List Value) (l0 l1 l3 : Value) (x y : Int32), exec d mX7_copyAll 1 [l0, l1, .int y, l3] (.int x :: S) σ = exec d mX7_copyAll 2 [l0, l1, .int y, .int x] S σ) ∧
  (∀ (d : Nat) (σ : Sg) (S : List Value) (l0 l1 l2 l3 : Value), exec d mX7_copyAll 3 [l0, l1, l2, l3] S σ = exec d mX7_copyAll 5 [l0, l1, l2, l3] (.int (nI 52) :: S) σ) ∧
  (∀ (d : Nat) (σ : Sg) (S : List Value) (l0 l1 l2 l3 : Value) (x y : Int32), exec d mX7_copyAll 5 [l0, l1, l2, l3] (.int y :: .int x :: S) σ = if y ≤ x then exec d mX7_copyAll 30 [l0, l1, l2, l3] S σ else exec d mX7_copyAll 8 [l0, l1, l2, l3] S σ) ∧
  (∀ (d : Nat) (σ : Sg) (S : List Value) (l1 l2 l3 : Value) (k : Nat), exec d mX7_copyAll 8 [.ref k, l1, l2, l3] S σ = exec d mX7_copyAll 9 [.ref k, l1, l2, l3] (.ref k :: S) σ) ∧
  (∀ (d : Nat) (σ : Sg) (S : List Value) (l0 l1 l2 l3 : Value), exec d mX7_copyAll 9 [l0, l1, l2, l3] (.ref 50 :: S) σ = exec d mX7_copyAll 12 [l0, l1, l2, l3] (.ref 51 :: S) σ) ∧
  (∀ (d : Nat) (σ : Sg) (S : List Value) (l0 l1 l3 : Value) (x : Int32), exec d mX7_copyAll 12 [l0, l1, .int x, l3] S σ = exec d mX7_copyAll 13 [l0, l1, .int x, l3] (.int x :: S) σ) ∧
  (∀ (d : Nat) (σ : Sg) (S : List Value) (l0 l1 l2 : Value) (x : Int32), exec d mX7_copyAll 13 [l0, l1, l2, .int x] S σ = exec d mX7_copyAll 14 [l0, l1, l2, .int x] (.int x :: S) σ) ∧
  (∀ (d : Nat) (σ : Sg) (S : List Value) (l0 l1 l2 l3 : Value) (x y : Int32), exec d mX7_copyAll 14 [l0, l1, l2, l3] (.int y :: .int x :: S) σ = exec d mX7_copyAll 15 [l0, l1, l2, l3] (.int (x + y) :: S) σ) ∧
  (∀ (d : Nat) (σ : Sg) (S : List Value) (l1 l2 l3 : Value) (k : Nat), exec d mX7_copyAll 15 [.ref k, l1, l2, l3] S σ = exec d mX7_copyAll 16 [.ref k, l1, l2, l3] (.ref k :: S) σ) ∧
  (∀ (d : Nat) (σ : Sg) (S : List Value) (l0 l1 l2 l3 : Value), exec d mX7_copyAll 16 [l0, l1, l2, l3] (.ref 50 :: S) σ = exec d mX7_copyAll 19 [l0, l1, l2, l3] (.ref 51 :: S) σ) ∧
  (∀ (d : Nat) (σ : Sg) (S : List Value) (l0 l2 l3 : Value) (x : Int32), exec d mX7_copyAll 19 [l0, .int x, l2, l3] S σ = exec d mX7_copyAll 20 [l0, .int x, l2, l3] (.int x :: S) σ) ∧
  (∀ (d : Nat) (σ : Sg) (S : List Value) (l0 l1 l2 : Value) (x : Int32), exec d mX7_copyAll 20 [l0, l1, l2, .int x] S σ = exec d mX7_copyAll 21 [l0, l1, l2, .int x] (.int x :: S) σ) ∧
  (∀ (d : Nat) (σ : Sg) (S : List Value) (l0 l1 l2 l3 : Value) (x y : Int32), exec d mX7_copyAll 21 [l0, l1, l2, l3] (.int y :: .int x :: S) σ = exec d mX7_copyAll 22 [l0, l1, l2, l3] (.int (x + y) :: S) σ) ∧
  (∀ (d : Nat) (σ : Sg) (S : List Value) (l0 l1 l2 l3 : Value) (x : Int32), exec d mX7_copyAll 22 [l0, l1, l2, l3] (.int x :: .ref 51 :: S) σ = if inb x 208 = true then exec d mX7_copyAll 23 [l0, l1, l2, l3] (.int (σ 51 x.toNatClampNeg) :: S) σ else none) ∧
  (∀ (d : Nat) (σ : Sg) (S : List Value) (l0 l1 l2 l3 : Value) (x y : Int32), exec d mX7_copyAll 23 [l0, l1, l2, l3] (.int y :: .int x :: .ref 51 :: S) σ = if inb x 208 = true then exec d mX7_copyAll 24 [l0, l1, l2, l3] S (up σ 51 x.toNatClampNeg y) else none) ∧
  (∀ (d : Nat) (σ : Sg) (S : List Value) (l0 l1 : Value) (x y : Int32), exec d mX7_copyAll 24 [l0, l1, .int y, .int x] S σ = exec d mX7_copyAll 27 [l0, l1, .int y, .int (x + nI 1)] S σ) ∧
  (∀ (d : Nat) (σ : Sg) (S : List Value) (l0 l1 l2 l3 : Value), exec d mX7_copyAll 27 [l0, l1, l2, l3] S σ = exec d mX7_copyAll 2 [l0, l1, l2, l3] S σ) ∧
  (∀ (d : Nat) (σ : Sg) (l0 l1 l2 l3 : Value), exec d mX7_copyAll 30 [l0, l1, l2, l3] [] σ = some (none, σ)) :=
  ⟨fun d σ S l0 l1 l2 l3 => ex_iconst (show decode mX7_copyAll.2.1 0 = .ok (.iconst 0, 1) by decide +kernel) (by decide +kernel),
  fun d σ S l0 l1 l3 x y => ex_istore_n (show decode mX7_copyAll.2.1 1 = .ok (.istore_n 3, 1) by decide +kernel) (Nat.le_of_ble_eq_true rfl) rfl,
  fun d σ S l0 l1 l2 l3 => ex_bipush (show decode mX7_copyAll.2.1 3 = .ok (.bipush 52, 2) by decide +kernel) (by decide +kernel),
  fun d σ S l0 l1 l2 l3 x y => ex_cge (show decode mX7_copyAll.2.1 5 = .ok (.if_icmp .ge 25, 3) by decide +kernel) (by decide),
  fun d σ S l1 l2 l3 k => ex_aload_n (show decode mX7_copyAll.2.1 8 = .ok (.aload_n 0, 1) by decide +kernel) rfl,
  fun d σ S l0 l1 l2 l3 => ex_getr (idx := 7) (ci := 7) (ff := 0) (n := 26) (hh := 833) (by decide +kernel),
  fun d σ S l0 l1 l3 x => ex_iload_n (show decode mX7_copyAll.2.1 12 = .ok (.iload_n 2, 1) by decide +kernel) rfl,
  fun d σ S l0 l1 l2 x => ex_iload_n (show decode mX7_copyAll.2.1 13 = .ok (.iload_n 3, 1) by decide +kernel) rfl,
  fun d σ S l0 l1 l2 l3 x y => ex_iadd (show decode mX7_copyAll.2.1 14 = .ok (.iadd, 1) by decide +kernel),
  fun d σ S l1 l2 l3 k => ex_aload_n (show decode mX7_copyAll.2.1 15 = .ok (.aload_n 0, 1) by decide +kernel) rfl,
  fun d σ S l0 l1 l2 l3 => ex_getr (idx := 7) (ci := 7) (ff := 0) (n := 26) (hh := 833) (by decide +kernel),
  fun d σ S l0 l2 l3 x => ex_iload_n (show decode mX7_copyAll.2.1 19 = .ok (.iload_n 1, 1) by decide +kernel) rfl,
  fun d σ S l0 l1 l2 x => ex_iload_n (show decode mX7_copyAll.2.1 20 = .ok (.iload_n 3, 1) by decide +kernel) rfl,
  fun d σ S l0 l1 l2 l3 x y => ex_iadd (show decode mX7_copyAll.2.1 21 = .ok (.iadd, 1) by decide +kernel),
  fun d σ S l0 l1 l2 l3 x => ex_iald (by decide +kernel),
  fun d σ S l0 l1 l2 l3 x y => ex_iast (by decide +kernel),
  fun d σ S l0 l1 x y => ex_iinc (show decode mX7_copyAll.2.1 24 = .ok (.iinc 3 1, 3) by decide +kernel) rfl (by decide +kernel) (Nat.le_of_ble_eq_true rfl) rfl,
  fun d σ S l0 l1 l2 l3 => ex_goto (show decode mX7_copyAll.2.1 27 = .ok (.goto (-25), 3) by decide +kernel) (by decide),
  fun d σ l0 l1 l2 l3 => ex_vret (show decode mX7_copyAll.2.1 30 = .ok (.return_, 1) by decide +kernel) rfl⟩
theorem hX7_copyAll_2 : ∀ (d : Nat) (σ : Sg) (S : List Value) (l0 l1 l2 : Value) (x : Int32), exec d mX7_copyAll 2 [l0, l1, l2, .int x] S σ = exec d mX7_copyAll 3 [l0, l1, l2, .int x] (.int x :: S) σ := fun d σ S l0 l1 l2 x => ex_iload_n (show decode mX7_copyAll.2.1 2 = .ok (.iload_n 3, 1) by decide +kernel) rfl
theorem aX7_copyAll_50 : ∀ (d : Nat) (a1 : Int32) (a2 : Int32) (σ : Sg), cal (d + 1) mX7_copyAll [.ref 50, .int a1, .int a2] σ = exec d mX7_copyAll 0 [.ref 50, .int a1, .int a2, uu] [] σ := fun _ _ _ _ => rfl
theorem kX7_trial_0 : (∀ (d : Nat) (σ : Sg) (S : List Value) (l1 : Value) (k : Nat), exec d mX7_trial 0 [.ref k, l1] S σ = exec d mX7_trial 1 [.ref k, l1] (.ref k :: S) σ) ∧
  (∀ (d : Nat) (σ : Sg) (S : List Value) (l0 l1 : Value), exec d mX7_trial 1 [l0, l1] S σ = exec d mX7_trial 2 [l0, l1] (.int (nI 0) :: S) σ) ∧
  (∀ (d : Nat) (σ : Sg) (S : List Value) (l0 l1 : Value) (x : Int32), exec d mX7_trial 2 [l0, l1] (.int x :: .ref 50 :: S) σ = exec d mX7_trial 5 [l0, l1] S (up σ 50 14 x)) ∧
  (∀ (d : Nat) (σ : Sg) (S : List Value) (l1 : Value) (k : Nat), exec d mX7_trial 5 [.ref k, l1] S σ = exec d mX7_trial 6 [.ref k, l1] (.ref k :: S) σ) ∧
  (∀ (d : Nat) (σ : Sg) (l0 l1 : Value), exec d mX7_trial 6 [l0, l1] [.ref 50] σ = kb (cal d mX7_takesLaw [.ref 50] σ) (fun rs σ2 => exec d mX7_trial 9 [l0, l1] (rs ++ []) σ2)) ∧
  (∀ (d : Nat) (σ : Sg) (S : List Value) (l1 : Value) (k : Nat) (x : Int32), exec d mX7_trial 9 [.ref k, l1] (.int x :: S) σ = exec d mX7_trial 10 [.ref k, .int x] S σ) ∧
  (∀ (d : Nat) (σ : Sg) (S : List Value) (l0 l1 : Value) (x : Int32), exec d mX7_trial 11 [l0, l1] (.int x :: S) σ = if x = nI 0 then exec d mX7_trial 44 [l0, l1] S σ else exec d mX7_trial 14 [l0, l1] S σ) ∧
  (∀ (d : Nat) (σ : Sg) (S : List Value) (l1 : Value) (k : Nat), exec d mX7_trial 14 [.ref k, l1] S σ = exec d mX7_trial 15 [.ref k, l1] (.ref k :: S) σ) ∧
  (∀ (d : Nat) (σ : Sg) (S : List Value) (l0 l1 : Value), exec d mX7_trial 15 [l0, l1] (.ref 50 :: S) σ = exec d mX7_trial 18 [l0, l1] (.int (σ 50 14) :: S) σ) ∧
  (∀ (d : Nat) (σ : Sg) (S : List Value) (l1 : Value) (k : Nat), exec d mX7_trial 18 [.ref k, l1] S σ = exec d mX7_trial 19 [.ref k, l1] (.ref k :: S) σ) ∧
  (∀ (d : Nat) (σ : Sg) (S : List Value) (l0 l1 : Value), exec d mX7_trial 19 [l0, l1] (.ref 50 :: S) σ = exec d mX7_trial 22 [l0, l1] (.int (σ 50 9) :: S) σ) ∧
  (∀ (d : Nat) (σ : Sg) (S : List Value) (l0 l1 : Value) (x y : Int32), exec d mX7_trial 22 [l0, l1] (.int y :: .int x :: S) σ = if x < y then exec d mX7_trial 36 [l0, l1] S σ else exec d mX7_trial 25 [l0, l1] S σ) ∧
  (∀ (d : Nat) (σ : Sg) (S : List Value) (l1 : Value) (k : Nat), exec d mX7_trial 25 [.ref k, l1] S σ = exec d mX7_trial 26 [.ref k, l1] (.ref k :: S) σ) ∧
  (∀ (d : Nat) (σ : Sg) (S : List Value) (l0 l1 : Value), exec d mX7_trial 26 [l0, l1] (.ref 50 :: S) σ = exec d mX7_trial 29 [l0, l1] (.ref 51 :: S) σ) ∧
  (∀ (d : Nat) (σ : Sg) (S : List Value) (l0 l1 : Value), exec d mX7_trial 29 [l0, l1] S σ = exec d mX7_trial 32 [l0, l1] (.int (nI 163) :: S) σ) ∧
  (∀ (d : Nat) (σ : Sg) (S : List Value) (l0 l1 : Value) (x : Int32), exec d mX7_trial 32 [l0, l1] (.int x :: .ref 51 :: S) σ = if inb x 208 = true then exec d mX7_trial 33 [l0, l1] (.int (σ 51 x.toNatClampNeg) :: S) σ else none) ∧
  (∀ (d : Nat) (σ : Sg) (S : List Value) (l0 l1 : Value) (x : Int32), exec d mX7_trial 33 [l0, l1] (.int x :: S) σ = if x = nI 0 then exec d mX7_trial 36 [l0, l1] S σ else exec d mX7_trial 44 [l0, l1] S σ) ∧
  (∀ (d : Nat) (σ : Sg) (S : List Value) (l1 : Value) (k : Nat), exec d mX7_trial 36 [.ref k, l1] S σ = exec d mX7_trial 37 [.ref k, l1] (.ref k :: S) σ) ∧
  (∀ (d : Nat) (σ : Sg) (l0 l1 : Value), exec d mX7_trial 37 [l0, l1] [.ref 50] σ = kb (cal d mX7_takesMore [.ref 50] σ) (fun rs σ2 => exec d mX7_trial 40 [l0, l1] (rs ++ []) σ2)) ∧
  (∀ (d : Nat) (σ : Sg) (S : List Value) (l1 : Value) (k : Nat) (x : Int32), exec d mX7_trial 40 [.ref k, l1] (.int x :: S) σ = exec d mX7_trial 41 [.ref k, .int x] S σ) ∧
  (∀ (d : Nat) (σ : Sg) (S : List Value) (l0 l1 : Value), exec d mX7_trial 41 [l0, l1] S σ = exec d mX7_trial 10 [l0, l1] S σ) ∧
  (∀ (d : Nat) (σ : Sg) (S : List Value) (l1 : Value) (k : Nat), exec d mX7_trial 44 [.ref k, l1] S σ = exec d mX7_trial 45 [.ref k, l1] (.ref k :: S) σ) ∧
  (∀ (d : Nat) (σ : Sg) (S : List Value) (l0 l1 : Value), exec d mX7_trial 45 [l0, l1] S σ = exec d mX7_trial 46 [l0, l1] (.int (nI 0) :: S) σ) ∧
  (∀ (d : Nat) (σ : Sg) (S : List Value) (l0 l1 : Value) (x : Int32), exec d mX7_trial 46 [l0, l1] (.int x :: .ref 50 :: S) σ = exec d mX7_trial 49 [l0, l1] S (up σ 50 9 x)) ∧
  (∀ (d : Nat) (σ : Sg) (S : List Value) (l0 : Value) (x : Int32), exec d mX7_trial 49 [l0, .int x] S σ = exec d mX7_trial 50 [l0, .int x] (.int x :: S) σ) ∧
  (∀ (d : Nat) (σ : Sg) (S : List Value) (l0 l1 : Value) (x : Int32), exec d mX7_trial 50 [l0, l1] (.int x :: S) σ = if x = nI 0 then exec d mX7_trial 53 [l0, l1] S σ else exec d mX7_trial 61 [l0, l1] S σ) ∧
  (∀ (d : Nat) (σ : Sg) (S : List Value) (l0 l1 : Value), exec d mX7_trial 53 [l0, l1] S σ = exec d mX7_trial 55 [l0, l1] (.int ((-1000100)) :: S) σ) ∧
  (∀ (d : Nat) (σ : Sg) (S : List Value) (l1 : Value) (k : Nat), exec d mX7_trial 55 [.ref k, l1] S σ = exec d mX7_trial 56 [.ref k, l1] (.ref k :: S) σ) ∧
  (∀ (d : Nat) (σ : Sg) (S : List Value) (l0 l1 : Value), exec d mX7_trial 56 [l0, l1] (.ref 50 :: S) σ = exec d mX7_trial 59 [l0, l1] (.int (σ 50 16) :: S) σ) ∧
  (∀ (d : Nat) (σ : Sg) (S : List Value) (l0 l1 : Value) (x y : Int32), exec d mX7_trial 59 [l0, l1] (.int y :: .int x :: S) σ = exec d mX7_trial 60 [l0, l1] (.int (x - y) :: S) σ) ∧
  (∀ (d : Nat) (σ : Sg) (l0 l1 : Value) (x : Int32), exec d mX7_trial 60 [l0, l1] [.int x] σ = some (some (.int x), σ)) ∧
  (∀ (d : Nat) (σ : Sg) (S : List Value) (l1 : Value) (k : Nat), exec d mX7_trial 61 [.ref k, l1] S σ = exec d mX7_trial 62 [.ref k, l1] (.ref k :: S) σ) ∧
  (∀ (d : Nat) (σ : Sg) (S : List Value) (l0 l1 : Value), exec d mX7_trial 62 [l0, l1] S σ = exec d mX7_trial 65 [l0, l1] (.int (nI 156) :: S) σ) ∧
  (∀ (d : Nat) (σ : Sg) (S : List Value) (l0 l1 : Value), exec d mX7_trial 65 [l0, l1] S σ = exec d mX7_trial 66 [l0, l1] (.int (nI 0) :: S) σ) ∧
  (∀ (d : Nat) (σ : Sg) (l0 l1 : Value) (x0 x1 : Int32), exec d mX7_trial 66 [l0, l1] [.int x0, .int x1, .ref 50] σ = kb (cal d mX7_copyAll [.ref 50, .int x1, .int x0] σ) (fun rs σ2 => exec d mX7_trial 69 [l0, l1] (rs ++ []) σ2)) ∧
  (∀ (d : Nat) (σ : Sg) (S : List Value) (l1 : Value) (k : Nat), exec d mX7_trial 69 [.ref k, l1] S σ = exec d mX7_trial 70 [.ref k, l1] (.ref k :: S) σ) ∧
  (∀ (d : Nat) (σ : Sg) (S : List Value) (l0 l1 : Value), exec d mX7_trial 70 [l0, l1] S σ = exec d mX7_trial 71 [l0, l1] (.int (nI 0) :: S) σ) ∧
  (∀ (d : Nat) (σ : Sg) (S : List Value) (l0 l1 : Value) (x : Int32), exec d mX7_trial 71 [l0, l1] (.int x :: .ref 50 :: S) σ = exec d mX7_trial 74 [l0, l1] S (up σ 50 3 x)) ∧
  (∀ (d : Nat) (σ : Sg) (S : List Value) (l1 : Value) (k : Nat), exec d mX7_trial 74 [.ref k, l1] S σ = exec d mX7_trial 75 [.ref k, l1] (.ref k :: S) σ) ∧
  (∀ (d : Nat) (σ : Sg) (S : List Value) (l0 l1 : Value), exec d mX7_trial 75 [l0, l1] (.ref 50 :: S) σ = exec d mX7_trial 78 [l0, l1] (.ref 51 :: S) σ) :=
  ⟨fun d σ S l1 k => ex_aload_n (show decode mX7_trial.2.1 0 = .ok (.aload_n 0, 1) by decide +kernel) rfl,
  fun d σ S l0 l1 => ex_iconst (show decode mX7_trial.2.1 1 = .ok (.iconst 0, 1) by decide +kernel) (by decide +kernel),
  fun d σ S l0 l1 x => ex_put (idx := 97) (ci := 7) (ff := 14) (n := 26) (hh := 847) (by decide +kernel),
  fun d σ S l1 k => ex_aload_n (show decode mX7_trial.2.1 5 = .ok (.aload_n 0, 1) by decide +kernel) rfl,
  fun d σ l0 l1 => ex_iv (hs := [959, 961, 56, 962, 101]) (show decode mX7_trial.2.1 6 = .ok (.invokevirtual 130, 3) by decide +kernel) lkV_7_130 ⟨rfl, Nat.le_of_ble_eq_true rfl, Nat.le_of_ble_eq_true rfl, fun _ => rfl⟩ rfl rfl,
  fun d σ S l1 k x => ex_istore_n (show decode mX7_trial.2.1 9 = .ok (.istore_n 1, 1) by decide +kernel) (Nat.le_of_ble_eq_true rfl) rfl,
  fun d σ S l0 l1 x => ex_zeq (show decode mX7_trial.2.1 11 = .ok (.ifCond .eq 33, 3) by decide +kernel) (by decide),
  fun d σ S l1 k => ex_aload_n (show decode mX7_trial.2.1 14 = .ok (.aload_n 0, 1) by decide +kernel) rfl,
  fun d σ S l0 l1 => ex_get (idx := 97) (ci := 7) (ff := 14) (n := 26) (hh := 847) (by decide +kernel),
  fun d σ S l1 k => ex_aload_n (show decode mX7_trial.2.1 18 = .ok (.aload_n 0, 1) by decide +kernel) rfl,
  fun d σ S l0 l1 => ex_get (idx := 87) (ci := 7) (ff := 9) (n := 26) (hh := 842) (by decide +kernel),
  fun d σ S l0 l1 x y => ex_clt (show decode mX7_trial.2.1 22 = .ok (.if_icmp .lt 14, 3) by decide +kernel) (by decide),
  fun d σ S l1 k => ex_aload_n (show decode mX7_trial.2.1 25 = .ok (.aload_n 0, 1) by decide +kernel) rfl,
  fun d σ S l0 l1 => ex_getr (idx := 7) (ci := 7) (ff := 0) (n := 26) (hh := 833) (by decide +kernel),
  fun d σ S l0 l1 => ex_sipush (show decode mX7_trial.2.1 29 = .ok (.sipush 163, 3) by decide +kernel) (by decide +kernel),
  fun d σ S l0 l1 x => ex_iald (by decide +kernel),
  fun d σ S l0 l1 x => ex_zne (show decode mX7_trial.2.1 33 = .ok (.ifCond .ne 11, 3) by decide +kernel) (by decide),
  fun d σ S l1 k => ex_aload_n (show decode mX7_trial.2.1 36 = .ok (.aload_n 0, 1) by decide +kernel) rfl,
  fun d σ l0 l1 => ex_iv (hs := [981, 983, 61, 984, 101]) (show decode mX7_trial.2.1 37 = .ok (.invokevirtual 133, 3) by decide +kernel) lkV_7_133 ⟨rfl, Nat.le_of_ble_eq_true rfl, Nat.le_of_ble_eq_true rfl, fun _ => rfl⟩ rfl rfl,
  fun d σ S l1 k x => ex_istore_n (show decode mX7_trial.2.1 40 = .ok (.istore_n 1, 1) by decide +kernel) (Nat.le_of_ble_eq_true rfl) rfl,
  fun d σ S l0 l1 => ex_goto (show decode mX7_trial.2.1 41 = .ok (.goto (-31), 3) by decide +kernel) (by decide),
  fun d σ S l1 k => ex_aload_n (show decode mX7_trial.2.1 44 = .ok (.aload_n 0, 1) by decide +kernel) rfl,
  fun d σ S l0 l1 => ex_iconst (show decode mX7_trial.2.1 45 = .ok (.iconst 0, 1) by decide +kernel) (by decide +kernel),
  fun d σ S l0 l1 x => ex_put (idx := 87) (ci := 7) (ff := 9) (n := 26) (hh := 842) (by decide +kernel),
  fun d σ S l0 x => ex_iload_n (show decode mX7_trial.2.1 49 = .ok (.iload_n 1, 1) by decide +kernel) rfl,
  fun d σ S l0 l1 x => ex_zne (show decode mX7_trial.2.1 50 = .ok (.ifCond .ne 11, 3) by decide +kernel) (by decide),
  fun d σ S l0 l1 => ex_ldc (hh := 996) (show decode mX7_trial.2.1 53 = .ok (.ldc 136, 2) by decide +kernel) (by decide +kernel),
  fun d σ S l1 k => ex_aload_n (show decode mX7_trial.2.1 55 = .ok (.aload_n 0, 1) by decide +kernel) rfl,
  fun d σ S l0 l1 => ex_get (idx := 94) (ci := 7) (ff := 16) (n := 26) (hh := 849) (by decide +kernel),
  fun d σ S l0 l1 x y => ex_isub (show decode mX7_trial.2.1 59 = .ok (.isub, 1) by decide +kernel),
  fun d σ l0 l1 x => ex_iret (show decode mX7_trial.2.1 60 = .ok (.ireturn, 1) by decide +kernel) rfl,
  fun d σ S l1 k => ex_aload_n (show decode mX7_trial.2.1 61 = .ok (.aload_n 0, 1) by decide +kernel) rfl,
  fun d σ S l0 l1 => ex_sipush (show decode mX7_trial.2.1 62 = .ok (.sipush 156, 3) by decide +kernel) (by decide +kernel),
  fun d σ S l0 l1 => ex_iconst (show decode mX7_trial.2.1 65 = .ok (.iconst 0, 1) by decide +kernel) (by decide +kernel),
  fun d σ l0 l1 x0 x1 => ex_iv (hs := [997, 999, 64, 1000, 101]) (show decode mX7_trial.2.1 66 = .ok (.invokevirtual 137, 3) by decide +kernel) lkV_7_137 ⟨rfl, Nat.le_of_ble_eq_true rfl, Nat.le_of_ble_eq_true rfl, fun _ => rfl⟩ rfl rfl,
  fun d σ S l1 k => ex_aload_n (show decode mX7_trial.2.1 69 = .ok (.aload_n 0, 1) by decide +kernel) rfl,
  fun d σ S l0 l1 => ex_iconst (show decode mX7_trial.2.1 70 = .ok (.iconst 0, 1) by decide +kernel) (by decide +kernel),
  fun d σ S l0 l1 x => ex_put (idx := 141) (ci := 7) (ff := 3) (n := 26) (hh := 836) (by decide +kernel),
  fun d σ S l1 k => ex_aload_n (show decode mX7_trial.2.1 74 = .ok (.aload_n 0, 1) by decide +kernel) rfl,
  fun d σ S l0 l1 => ex_getr (idx := 7) (ci := 7) (ff := 0) (n := 26) (hh := 833) (by decide +kernel)⟩
theorem kX7_trial_1 : (∀ (d : Nat) (σ : Sg) (S : List Value) (l0 l1 : Value), exec d mX7_trial 78 [l0, l1] S σ = exec d mX7_trial 80 [l0, l1] (.int (nI 7) :: S) σ) ∧
  (∀ (d : Nat) (σ : Sg) (S : List Value) (l0 l1 : Value) (x : Int32), exec d mX7_trial 80 [l0, l1] (.int x :: .ref 51 :: S) σ = if inb x 208 = true then exec d mX7_trial 81 [l0, l1] (.int (σ 51 x.toNatClampNeg) :: S) σ else none) ∧
  (∀ (d : Nat) (σ : Sg) (l0 l1 : Value) (x : Int32), exec d mX7_trial 81 [l0, l1] [.int x] σ = some (some (.int x), σ)) :=
  ⟨fun d σ S l0 l1 => ex_bipush (show decode mX7_trial.2.1 78 = .ok (.bipush 7, 2) by decide +kernel) (by decide +kernel),
  fun d σ S l0 l1 x => ex_iald (by decide +kernel),
  fun d σ l0 l1 x => ex_iret (show decode mX7_trial.2.1 81 = .ok (.ireturn, 1) by decide +kernel) rfl⟩
theorem hX7_trial_10 : ∀ (d : Nat) (σ : Sg) (S : List Value) (l0 : Value) (x : Int32), exec d mX7_trial 10 [l0, .int x] S σ = exec d mX7_trial 11 [l0, .int x] (.int x :: S) σ := fun d σ S l0 x => ex_iload_n (show decode mX7_trial.2.1 10 = .ok (.iload_n 1, 1) by decide +kernel) rfl
theorem aX7_trial_50 : ∀ (d : Nat)  (σ : Sg), cal (d + 1) mX7_trial [.ref 50] σ = exec d mX7_trial 0 [.ref 50, uu] [] σ := fun _ _ => rfl
