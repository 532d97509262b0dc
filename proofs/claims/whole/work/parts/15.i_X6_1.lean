/-! generated: the instructions of GuildPiece -/
theorem kX6_skills_0 : (∀ (d : Nat) (σ : Sg) (S : List Value) (l1 l2 l3 l4 l5 : Value) (k : Nat), exec d mX6_skills 0 [.ref k, l1, l2, l3, l4, l5] S σ = exec d mX6_skills 1 [.ref k, l1, l2, l3, l4, l5] (.ref k :: S) σ) ∧
  (∀ (d : Nat) (σ : Sg) (S : List Value) (l0 l1 l2 l3 l4 l5 : Value), exec d mX6_skills 1 [l0, l1, l2, l3, l4, l5] (.ref 0 :: S) σ = exec d mX6_skills 4 [l0, l1, l2, l3, l4, l5] (.ref 8 :: S) σ) ∧
  (∀ (d : Nat) (σ : Sg) (S : List Value) (l0 l1 l2 l3 l4 l5 : Value), exec d mX6_skills 4 [l0, l1, l2, l3, l4, l5] (.ref 8 :: S) σ = exec d mX6_skills 7 [l0, l1, l2, l3, l4, l5] (.int (σ 8 0) :: S) σ) ∧
  (∀ (d : Nat) (σ : Sg) (S : List Value) (l0 l1 l2 l3 l4 l5 : Value) (x : Int32), exec d mX6_skills 7 [l0, l1, l2, l3, l4, l5] (.int x :: S) σ = if x = nI 0 then exec d mX6_skills 10 [l0, l1, l2, l3, l4, l5] S σ else exec d mX6_skills 13 [l0, l1, l2, l3, l4, l5] S σ) ∧
  (∀ (d : Nat) (σ : Sg) (S : List Value) (l0 l1 l2 l3 l4 l5 : Value), exec d mX6_skills 10 [l0, l1, l2, l3, l4, l5] S σ = exec d mX6_skills 12 [l0, l1, l2, l3, l4, l5] (.int ((-1000002)) :: S) σ) ∧
  (∀ (d : Nat) (σ : Sg) (l0 l1 l2 l3 l4 l5 : Value) (x : Int32), exec d mX6_skills 12 [l0, l1, l2, l3, l4, l5] [.int x] σ = some (some (.int x), σ)) ∧
  (∀ (d : Nat) (σ : Sg) (S : List Value) (l0 l2 l3 l4 l5 : Value) (x : Int32), exec d mX6_skills 13 [l0, .int x, l2, l3, l4, l5] S σ = exec d mX6_skills 14 [l0, .int x, l2, l3, l4, l5] (.int x :: S) σ) ∧
  (∀ (d : Nat) (σ : Sg) (l0 l1 l2 l3 l4 l5 : Value) (x0 : Int32), exec d mX6_skills 14 [l0, l1, l2, l3, l4, l5] [.int x0] σ = kb (cal d mX6_isRow [.int x0] σ) (fun rs σ2 => exec d mX6_skills 17 [l0, l1, l2, l3, l4, l5] (rs ++ []) σ2)) ∧
  (∀ (d : Nat) (σ : Sg) (S : List Value) (l0 l1 l2 l3 l4 l5 : Value) (x : Int32), exec d mX6_skills 17 [l0, l1, l2, l3, l4, l5] (.int x :: S) σ = if x = nI 0 then exec d mX6_skills 31 [l0, l1, l2, l3, l4, l5] S σ else exec d mX6_skills 20 [l0, l1, l2, l3, l4, l5] S σ) ∧
  (∀ (d : Nat) (σ : Sg) (S : List Value) (l0 l1 l2 l4 l5 : Value) (x : Int32), exec d mX6_skills 20 [l0, l1, l2, .int x, l4, l5] S σ = exec d mX6_skills 21 [l0, l1, l2, .int x, l4, l5] (.int x :: S) σ) ∧
  (∀ (d : Nat) (σ : Sg) (S : List Value) (l0 l1 l2 l3 l4 l5 : Value), exec d mX6_skills 21 [l0, l1, l2, l3, l4, l5] S σ = exec d mX6_skills 22 [l0, l1, l2, l3, l4, l5] (.int (nI 1) :: S) σ) ∧
  (∀ (d : Nat) (σ : Sg) (S : List Value) (l0 l1 l2 l3 l4 l5 : Value) (x y : Int32), exec d mX6_skills 22 [l0, l1, l2, l3, l4, l5] (.int y :: .int x :: S) σ = if x < y then exec d mX6_skills 31 [l0, l1, l2, l3, l4, l5] S σ else exec d mX6_skills 25 [l0, l1, l2, l3, l4, l5] S σ) ∧
  (∀ (d : Nat) (σ : Sg) (S : List Value) (l0 l1 l2 l4 l5 : Value) (x : Int32), exec d mX6_skills 25 [l0, l1, l2, .int x, l4, l5] S σ = exec d mX6_skills 26 [l0, l1, l2, .int x, l4, l5] (.int x :: S) σ) ∧
  (∀ (d : Nat) (σ : Sg) (S : List Value) (l0 l1 l2 l3 l4 l5 : Value), exec d mX6_skills 26 [l0, l1, l2, l3, l4, l5] S σ = exec d mX6_skills 28 [l0, l1, l2, l3, l4, l5] (.int (nI 6) :: S) σ) ∧
  (∀ (d : Nat) (σ : Sg) (S : List Value) (l0 l1 l2 l3 l4 l5 : Value) (x y : Int32), exec d mX6_skills 28 [l0, l1, l2, l3, l4, l5] (.int y :: .int x :: S) σ = if x ≤ y then exec d mX6_skills 34 [l0, l1, l2, l3, l4, l5] S σ else exec d mX6_skills 31 [l0, l1, l2, l3, l4, l5] S σ) ∧
  (∀ (d : Nat) (σ : Sg) (S : List Value) (l0 l1 l2 l3 l4 l5 : Value), exec d mX6_skills 31 [l0, l1, l2, l3, l4, l5] S σ = exec d mX6_skills 33 [l0, l1, l2, l3, l4, l5] (.int ((-1000001)) :: S) σ) ∧
  (∀ (d : Nat) (σ : Sg) (l0 l1 l2 l3 l4 l5 : Value) (x : Int32), exec d mX6_skills 33 [l0, l1, l2, l3, l4, l5] [.int x] σ = some (some (.int x), σ)) ∧
  (∀ (d : Nat) (σ : Sg) (S : List Value) (l1 l2 l3 l4 l5 : Value) (k : Nat), exec d mX6_skills 34 [.ref k, l1, l2, l3, l4, l5] S σ = exec d mX6_skills 35 [.ref k, l1, l2, l3, l4, l5] (.ref k :: S) σ) ∧
  (∀ (d : Nat) (σ : Sg) (S : List Value) (l0 l1 l2 l3 l4 l5 : Value), exec d mX6_skills 35 [l0, l1, l2, l3, l4, l5] (.ref 0 :: S) σ = exec d mX6_skills 38 [l0, l1, l2, l3, l4, l5] (.ref 1 :: S) σ) ∧
  (∀ (d : Nat) (σ : Sg) (S : List Value) (l0 l1 l2 l3 l4 l5 : Value), exec d mX6_skills 38 [l0, l1, l2, l3, l4, l5] (.ref 1 :: S) σ = exec d mX6_skills 41 [l0, l1, l2, l3, l4, l5] (.ref 2 :: S) σ) ∧
  (∀ (d : Nat) (σ : Sg) (S : List Value) (l0 l2 l3 l4 l5 : Value) (x : Int32), exec d mX6_skills 41 [l0, .int x, l2, l3, l4, l5] S σ = exec d mX6_skills 42 [l0, .int x, l2, l3, l4, l5] (.int x :: S) σ) ∧
  (∀ (d : Nat) (σ : Sg) (S : List Value) (l0 l1 l2 l3 l4 l5 : Value) (x : Int32), exec d mX6_skills 42 [l0, l1, l2, l3, l4, l5] (.int x :: .ref 2 :: S) σ = if inb x 8 = true then exec d mX6_skills 43 [l0, l1, l2, l3, l4, l5] (.int (σ 2 x.toNatClampNeg) :: S) σ else none) ∧
  (∀ (d : Nat) (σ : Sg) (S : List Value) (l0 l1 l2 l3 l4 l5 : Value) (x : Int32), exec d mX6_skills 43 [l0, l1, l2, l3, l4, l5] (.int x :: S) σ = if x = nI 0 then exec d mX6_skills 46 [l0, l1, l2, l3, l4, l5] S σ else exec d mX6_skills 52 [l0, l1, l2, l3, l4, l5] S σ) ∧
  (∀ (d : Nat) (σ : Sg) (S : List Value) (l1 l2 l3 l4 l5 : Value) (k : Nat), exec d mX6_skills 46 [.ref k, l1, l2, l3, l4, l5] S σ = exec d mX6_skills 47 [.ref k, l1, l2, l3, l4, l5] (.ref k :: S) σ) ∧
  (∀ (d : Nat) (σ : Sg) (S : List Value) (l0 l1 l2 l3 l4 l5 : Value), exec d mX6_skills 47 [l0, l1, l2, l3, l4, l5] S σ = exec d mX6_skills 48 [l0, l1, l2, l3, l4, l5] (.int (nI 1) :: S) σ) ∧
  (∀ (d : Nat) (σ : Sg) (l0 l1 l2 l3 l4 l5 : Value) (x0 : Int32), exec d mX6_skills 48 [l0, l1, l2, l3, l4, l5] [.int x0, .ref 0] σ = kb (cal d mX6_finding [.ref 0, .int x0] σ) (fun rs σ2 => exec d mX6_skills 51 [l0, l1, l2, l3, l4, l5] (rs ++ []) σ2)) ∧
  (∀ (d : Nat) (σ : Sg) (l0 l1 l2 l3 l4 l5 : Value) (x : Int32), exec d mX6_skills 51 [l0, l1, l2, l3, l4, l5] [.int x] σ = some (some (.int x), σ)) ∧
  (∀ (d : Nat) (σ : Sg) (S : List Value) (l1 l2 l3 l4 l5 : Value) (k : Nat), exec d mX6_skills 52 [.ref k, l1, l2, l3, l4, l5] S σ = exec d mX6_skills 53 [.ref k, l1, l2, l3, l4, l5] (.ref k :: S) σ) ∧
  (∀ (d : Nat) (σ : Sg) (S : List Value) (l0 l1 l2 l3 l4 l5 : Value), exec d mX6_skills 53 [l0, l1, l2, l3, l4, l5] (.ref 0 :: S) σ = exec d mX6_skills 56 [l0, l1, l2, l3, l4, l5] (.ref 1 :: S) σ) ∧
  (∀ (d : Nat) (σ : Sg) (S : List Value) (l0 l2 l3 l4 l5 : Value) (x : Int32), exec d mX6_skills 56 [l0, .int x, l2, l3, l4, l5] S σ = exec d mX6_skills 57 [l0, .int x, l2, l3, l4, l5] (.int x :: S) σ) ∧
  (∀ (d : Nat) (σ : Sg) (S : List Value) (l0 l1 l3 l4 l5 : Value) (x : Int32), exec d mX6_skills 57 [l0, l1, .int x, l3, l4, l5] S σ = exec d mX6_skills 58 [l0, l1, .int x, l3, l4, l5] (.int x :: S) σ) ∧
  (∀ (d : Nat) (σ : Sg) (S : List Value) (l0 l1 l2 l3 l4 l5 : Value), exec d mX6_skills 58 [l0, l1, l2, l3, l4, l5] S σ = exec d mX6_skills 59 [l0, l1, l2, l3, l4, l5] (.int (nI 2) :: S) σ) ∧
  (∀ (d : Nat) (σ : Sg) (S : List Value) (l0 l1 l2 l4 l5 : Value) (x : Int32), exec d mX6_skills 59 [l0, l1, l2, .int x, l4, l5] S σ = exec d mX6_skills 60 [l0, l1, l2, .int x, l4, l5] (.int x :: S) σ) ∧
  (∀ (d : Nat) (σ : Sg) (S : List Value) (l0 l1 l2 l3 l4 l5 : Value) (x y : Int32), exec d mX6_skills 60 [l0, l1, l2, l3, l4, l5] (.int y :: .int x :: S) σ = exec d mX6_skills 61 [l0, l1, l2, l3, l4, l5] (.int (x * y) :: S) σ) ∧
  (∀ (d : Nat) (σ : Sg) (l0 l1 l2 l3 l4 l5 : Value) (x0 x1 x2 : Int32), exec d mX6_skills 61 [l0, l1, l2, l3, l4, l5] [.int x0, .int x1, .int x2, .ref 1] σ = kb (cal d mX3_holds [.ref 1, .int x2, .int x1, .int x0] σ) (fun rs σ2 => exec d mX6_skills 64 [l0, l1, l2, l3, l4, l5] (rs ++ []) σ2)) ∧
  (∀ (d : Nat) (σ : Sg) (S : List Value) (l0 l1 l2 l3 l4 l5 : Value) (x : Int32), exec d mX6_skills 64 [l0, l1, l2, l3, l4, l5] (.int x :: S) σ = if x = nI 0 then exec d mX6_skills 67 [l0, l1, l2, l3, l4, l5] S σ else exec d mX6_skills 73 [l0, l1, l2, l3, l4, l5] S σ) ∧
  (∀ (d : Nat) (σ : Sg) (S : List Value) (l1 l2 l3 l4 l5 : Value) (k : Nat), exec d mX6_skills 67 [.ref k, l1, l2, l3, l4, l5] S σ = exec d mX6_skills 68 [.ref k, l1, l2, l3, l4, l5] (.ref k :: S) σ) ∧
  (∀ (d : Nat) (σ : Sg) (S : List Value) (l0 l1 l2 l3 l4 l5 : Value), exec d mX6_skills 68 [l0, l1, l2, l3, l4, l5] S σ = exec d mX6_skills 69 [l0, l1, l2, l3, l4, l5] (.int (nI 2) :: S) σ) ∧
  (∀ (d : Nat) (σ : Sg) (l0 l1 l2 l3 l4 l5 : Value) (x0 : Int32), exec d mX6_skills 69 [l0, l1, l2, l3, l4, l5] [.int x0, .ref 0] σ = kb (cal d mX6_finding [.ref 0, .int x0] σ) (fun rs σ2 => exec d mX6_skills 72 [l0, l1, l2, l3, l4, l5] (rs ++ []) σ2)) ∧
  (∀ (d : Nat) (σ : Sg) (l0 l1 l2 l3 l4 l5 : Value) (x : Int32), exec d mX6_skills 72 [l0, l1, l2, l3, l4, l5] [.int x] σ = some (some (.int x), σ)) :=
  ⟨fun d σ S l1 l2 l3 l4 l5 k => ex_aload_n (show decode mX6_skills.2.1 0 = .ok (.aload_n 0, 1) by decide +kernel) rfl,
  fun d σ S l0 l1 l2 l3 l4 l5 => ex_getr (idx := 26) (ci := 6) (ff := 2) (n := 11) (hh := 348) (by decide +kernel),
  fun d σ S l0 l1 l2 l3 l4 l5 => ex_get (idx := 176) (ci := 5) (ff := 0) (n := 17) (hh := 182) (by decide +kernel),
  fun d σ S l0 l1 l2 l3 l4 l5 x => ex_zne (show decode mX6_skills.2.1 7 = .ok (.ifCond .ne 6, 3) by decide +kernel) (by decide),
  fun d σ S l0 l1 l2 l3 l4 l5 => ex_ldc (hh := 519) (show decode mX6_skills.2.1 10 = .ok (.ldc 134, 2) by decide +kernel) (by decide +kernel),
  fun d σ l0 l1 l2 l3 l4 l5 x => ex_iret (show decode mX6_skills.2.1 12 = .ok (.ireturn, 1) by decide +kernel) rfl,
  fun d σ S l0 l2 l3 l4 l5 x => ex_iload_n (show decode mX6_skills.2.1 13 = .ok (.iload_n 1, 1) by decide +kernel) rfl,
  fun d σ l0 l1 l2 l3 l4 l5 x0 => ex_is (hs := [384, 385, 386, 94]) (show decode mX6_skills.2.1 14 = .ok (.invokestatic 60, 3) by decide +kernel) lkS_6_60 ⟨rfl, Nat.le_of_ble_eq_true rfl, Nat.le_of_ble_eq_true rfl, fun q => nomatch q⟩ rfl rfl,
  fun d σ S l0 l1 l2 l3 l4 l5 x => ex_zeq (show decode mX6_skills.2.1 17 = .ok (.ifCond .eq 14, 3) by decide +kernel) (by decide),
  fun d σ S l0 l1 l2 l4 l5 x => ex_iload_n (show decode mX6_skills.2.1 20 = .ok (.iload_n 3, 1) by decide +kernel) rfl,
  fun d σ S l0 l1 l2 l3 l4 l5 => ex_iconst (show decode mX6_skills.2.1 21 = .ok (.iconst 1, 1) by decide +kernel) (by decide +kernel),
  fun d σ S l0 l1 l2 l3 l4 l5 x y => ex_clt (show decode mX6_skills.2.1 22 = .ok (.if_icmp .lt 9, 3) by decide +kernel) (by decide),
  fun d σ S l0 l1 l2 l4 l5 x => ex_iload_n (show decode mX6_skills.2.1 25 = .ok (.iload_n 3, 1) by decide +kernel) rfl,
  fun d σ S l0 l1 l2 l3 l4 l5 => ex_bipush (show decode mX6_skills.2.1 26 = .ok (.bipush 6, 2) by decide +kernel) (by decide +kernel),
  fun d σ S l0 l1 l2 l3 l4 l5 x y => ex_cle (show decode mX6_skills.2.1 28 = .ok (.if_icmp .le 6, 3) by decide +kernel) (by decide),
  fun d σ S l0 l1 l2 l3 l4 l5 => ex_ldc (hh := 387) (show decode mX6_skills.2.1 31 = .ok (.ldc 64, 2) by decide +kernel) (by decide +kernel),
  fun d σ l0 l1 l2 l3 l4 l5 x => ex_iret (show decode mX6_skills.2.1 33 = .ok (.ireturn, 1) by decide +kernel) rfl,
  fun d σ S l1 l2 l3 l4 l5 k => ex_aload_n (show decode mX6_skills.2.1 34 = .ok (.aload_n 0, 1) by decide +kernel) rfl,
  fun d σ S l0 l1 l2 l3 l4 l5 => ex_getr (idx := 10) (ci := 6) (ff := 0) (n := 11) (hh := 346) (by decide +kernel),
  fun d σ S l0 l1 l2 l3 l4 l5 => ex_getr (idx := 76) (ci := 3) (ff := 0) (n := 4) (hh := 120) (by decide +kernel),
  fun d σ S l0 l2 l3 l4 l5 x => ex_iload_n (show decode mX6_skills.2.1 41 = .ok (.iload_n 1, 1) by decide +kernel) rfl,
  fun d σ S l0 l1 l2 l3 l4 l5 x => ex_bald (by decide +kernel),
  fun d σ S l0 l1 l2 l3 l4 l5 x => ex_zne (show decode mX6_skills.2.1 43 = .ok (.ifCond .ne 9, 3) by decide +kernel) (by decide),
  fun d σ S l1 l2 l3 l4 l5 k => ex_aload_n (show decode mX6_skills.2.1 46 = .ok (.aload_n 0, 1) by decide +kernel) rfl,
  fun d σ S l0 l1 l2 l3 l4 l5 => ex_iconst (show decode mX6_skills.2.1 47 = .ok (.iconst 1, 1) by decide +kernel) (by decide +kernel),
  fun d σ l0 l1 l2 l3 l4 l5 x0 => ex_iv (hs := [388, 390, 0, 391, 94]) (show decode mX6_skills.2.1 48 = .ok (.invokevirtual 65, 3) by decide +kernel) lkV_6_65 ⟨rfl, Nat.le_of_ble_eq_true rfl, Nat.le_of_ble_eq_true rfl, fun _ => rfl⟩ rfl rfl,
  fun d σ l0 l1 l2 l3 l4 l5 x => ex_iret (show decode mX6_skills.2.1 51 = .ok (.ireturn, 1) by decide +kernel) rfl,
  fun d σ S l1 l2 l3 l4 l5 k => ex_aload_n (show decode mX6_skills.2.1 52 = .ok (.aload_n 0, 1) by decide +kernel) rfl,
  fun d σ S l0 l1 l2 l3 l4 l5 => ex_getr (idx := 10) (ci := 6) (ff := 0) (n := 11) (hh := 346) (by decide +kernel),
  fun d σ S l0 l2 l3 l4 l5 x => ex_iload_n (show decode mX6_skills.2.1 56 = .ok (.iload_n 1, 1) by decide +kernel) rfl,
  fun d σ S l0 l1 l3 l4 l5 x => ex_iload_n (show decode mX6_skills.2.1 57 = .ok (.iload_n 2, 1) by decide +kernel) rfl,
  fun d σ S l0 l1 l2 l3 l4 l5 => ex_iconst (show decode mX6_skills.2.1 58 = .ok (.iconst 2, 1) by decide +kernel) (by decide +kernel),
  fun d σ S l0 l1 l2 l4 l5 x => ex_iload_n (show decode mX6_skills.2.1 59 = .ok (.iload_n 3, 1) by decide +kernel) rfl,
  fun d σ S l0 l1 l2 l3 l4 l5 x y => ex_imul (show decode mX6_skills.2.1 60 = .ok (.imul, 1) by decide +kernel),
  fun d σ l0 l1 l2 l3 l4 l5 x0 x1 x2 => ex_iv (hs := [405, 407, 3, 408, 95]) (show decode mX6_skills.2.1 61 = .ok (.invokevirtual 80, 3) by decide +kernel) lkV_6_80 ⟨rfl, Nat.le_of_ble_eq_true rfl, Nat.le_of_ble_eq_true rfl, fun _ => rfl⟩ rfl rfl,
  fun d σ S l0 l1 l2 l3 l4 l5 x => ex_zne (show decode mX6_skills.2.1 64 = .ok (.ifCond .ne 9, 3) by decide +kernel) (by decide),
  fun d σ S l1 l2 l3 l4 l5 k => ex_aload_n (show decode mX6_skills.2.1 67 = .ok (.aload_n 0, 1) by decide +kernel) rfl,
  fun d σ S l0 l1 l2 l3 l4 l5 => ex_iconst (show decode mX6_skills.2.1 68 = .ok (.iconst 2, 1) by decide +kernel) (by decide +kernel),
  fun d σ l0 l1 l2 l3 l4 l5 x0 => ex_iv (hs := [388, 390, 0, 391, 94]) (show decode mX6_skills.2.1 69 = .ok (.invokevirtual 65, 3) by decide +kernel) lkV_6_65 ⟨rfl, Nat.le_of_ble_eq_true rfl, Nat.le_of_ble_eq_true rfl, fun _ => rfl⟩ rfl rfl,
  fun d σ l0 l1 l2 l3 l4 l5 x => ex_iret (show decode mX6_skills.2.1 72 = .ok (.ireturn, 1) by decide +kernel) rfl⟩
theorem kX6_skills_1 : (∀ (d : Nat) (σ : Sg) (S : List Value) (l0 l1 l2 l3 l4 l5 : Value), exec d mX6_skills 73 [l0, l1, l2, l3, l4, l5] S σ = exec d mX6_skills 74 [l0, l1, l2, l3, l4, l5] (.int (nI 0) :: S) σ) ∧
  (∀ (d : Nat) (σ : Sg) (S : List Value) (l0 l1 l2 l4 l5 : Value) (x y : Int32), exec d mX6_skills 74 [l0, l1, l2, .int y, l4, l5] (.int x :: S) σ = exec d mX6_skills 76 [l0, l1, l2, .int y, .int x, l5] S σ) ∧
  (∀ (d : Nat) (σ : Sg) (S : List Value) (l0 l1 l2 l4 l5 : Value) (x : Int32), exec d mX6_skills 78 [l0, l1, l2, .int x, l4, l5] S σ = exec d mX6_skills 79 [l0, l1, l2, .int x, l4, l5] (.int x :: S) σ) ∧
  (∀ (d : Nat) (σ : Sg) (S : List Value) (l0 l1 l2 l3 l4 l5 : Value) (x y : Int32), exec d mX6_skills 79 [l0, l1, l2, l3, l4, l5] (.int y :: .int x :: S) σ = if y ≤ x then exec d mX6_skills 112 [l0, l1, l2, l3, l4, l5] S σ else exec d mX6_skills 82 [l0, l1, l2, l3, l4, l5] S σ) ∧
  (∀ (d : Nat) (σ : Sg) (S : List Value) (l1 l2 l3 l4 l5 : Value) (k : Nat), exec d mX6_skills 82 [.ref k, l1, l2, l3, l4, l5] S σ = exec d mX6_skills 83 [.ref k, l1, l2, l3, l4, l5] (.ref k :: S) σ) ∧
  (∀ (d : Nat) (σ : Sg) (S : List Value) (l1 l2 l3 l4 l5 : Value) (k : Nat), exec d mX6_skills 83 [.ref k, l1, l2, l3, l4, l5] S σ = exec d mX6_skills 84 [.ref k, l1, l2, l3, l4, l5] (.ref k :: S) σ) ∧
  (∀ (d : Nat) (σ : Sg) (S : List Value) (l0 l1 l2 l3 l4 l5 : Value), exec d mX6_skills 84 [l0, l1, l2, l3, l4, l5] (.ref 0 :: S) σ = exec d mX6_skills 87 [l0, l1, l2, l3, l4, l5] (.ref 1 :: S) σ) ∧
  (∀ (d : Nat) (σ : Sg) (S : List Value) (l0 l2 l3 l4 l5 : Value) (x : Int32), exec d mX6_skills 87 [l0, .int x, l2, l3, l4, l5] S σ = exec d mX6_skills 88 [l0, .int x, l2, l3, l4, l5] (.int x :: S) σ) ∧
  (∀ (d : Nat) (σ : Sg) (S : List Value) (l0 l1 l3 l4 l5 : Value) (x : Int32), exec d mX6_skills 88 [l0, l1, .int x, l3, l4, l5] S σ = exec d mX6_skills 89 [l0, l1, .int x, l3, l4, l5] (.int x :: S) σ) ∧
  (∀ (d : Nat) (σ : Sg) (S : List Value) (l0 l1 l2 l3 l4 l5 : Value), exec d mX6_skills 89 [l0, l1, l2, l3, l4, l5] S σ = exec d mX6_skills 90 [l0, l1, l2, l3, l4, l5] (.int (nI 2) :: S) σ) ∧
  (∀ (d : Nat) (σ : Sg) (S : List Value) (l0 l1 l2 l3 l5 : Value) (x : Int32), exec d mX6_skills 90 [l0, l1, l2, l3, .int x, l5] S σ = exec d mX6_skills 92 [l0, l1, l2, l3, .int x, l5] (.int x :: S) σ) ∧
  (∀ (d : Nat) (σ : Sg) (S : List Value) (l0 l1 l2 l3 l4 l5 : Value) (x y : Int32), exec d mX6_skills 92 [l0, l1, l2, l3, l4, l5] (.int y :: .int x :: S) σ = exec d mX6_skills 93 [l0, l1, l2, l3, l4, l5] (.int (x * y) :: S) σ) ∧
  (∀ (d : Nat) (σ : Sg) (S : List Value) (l0 l1 l2 l3 l4 l5 : Value) (x y : Int32), exec d mX6_skills 93 [l0, l1, l2, l3, l4, l5] (.int y :: .int x :: S) σ = exec d mX6_skills 94 [l0, l1, l2, l3, l4, l5] (.int (x + y) :: S) σ) ∧
  (∀ (d : Nat) (σ : Sg) (l0 l1 l2 l3 l4 l5 : Value) (x0 x1 : Int32), exec d mX6_skills 94 [l0, l1, l2, l3, l4, l5] [.int x0, .int x1, .ref 1, .ref 0] σ = kb (cal d mX3_item [.ref 1, .int x1, .int x0] σ) (fun rs σ2 => exec d mX6_skills 97 [l0, l1, l2, l3, l4, l5] (rs ++ [.ref 0]) σ2)) ∧
  (∀ (d : Nat) (σ : Sg) (l0 l1 l2 l3 l4 l5 : Value) (x0 : Int32), exec d mX6_skills 97 [l0, l1, l2, l3, l4, l5] [.int x0, .ref 0] σ = kb (cal d mX6_isPart [.ref 0, .int x0] σ) (fun rs σ2 => exec d mX6_skills 100 [l0, l1, l2, l3, l4, l5] (rs ++ []) σ2)) ∧
  (∀ (d : Nat) (σ : Sg) (S : List Value) (l0 l1 l2 l3 l4 l5 : Value) (x : Int32), exec d mX6_skills 100 [l0, l1, l2, l3, l4, l5] (.int x :: S) σ = if x = nI 0 then exec d mX6_skills 103 [l0, l1, l2, l3, l4, l5] S σ else exec d mX6_skills 106 [l0, l1, l2, l3, l4, l5] S σ) ∧
  (∀ (d : Nat) (σ : Sg) (S : List Value) (l0 l1 l2 l3 l4 l5 : Value), exec d mX6_skills 103 [l0, l1, l2, l3, l4, l5] S σ = exec d mX6_skills 105 [l0, l1, l2, l3, l4, l5] (.int ((-1000001)) :: S) σ) ∧
  (∀ (d : Nat) (σ : Sg) (l0 l1 l2 l3 l4 l5 : Value) (x : Int32), exec d mX6_skills 105 [l0, l1, l2, l3, l4, l5] [.int x] σ = some (some (.int x), σ)) ∧
  (∀ (d : Nat) (σ : Sg) (S : List Value) (l0 l1 l2 l5 : Value) (x y : Int32), exec d mX6_skills 106 [l0, l1, l2, .int y, .int x, l5] S σ = exec d mX6_skills 109 [l0, l1, l2, .int y, .int (x + nI 1), l5] S σ) ∧
  (∀ (d : Nat) (σ : Sg) (S : List Value) (l0 l1 l2 l3 l4 l5 : Value), exec d mX6_skills 109 [l0, l1, l2, l3, l4, l5] S σ = exec d mX6_skills 76 [l0, l1, l2, l3, l4, l5] S σ) ∧
  (∀ (d : Nat) (σ : Sg) (S : List Value) (l0 l1 l2 l3 l4 l5 : Value), exec d mX6_skills 112 [l0, l1, l2, l3, l4, l5] S σ = exec d mX6_skills 113 [l0, l1, l2, l3, l4, l5] (.int (nI 0) :: S) σ) ∧
  (∀ (d : Nat) (σ : Sg) (S : List Value) (l0 l1 l2 l4 l5 : Value) (x y : Int32), exec d mX6_skills 113 [l0, l1, l2, .int y, l4, l5] (.int x :: S) σ = exec d mX6_skills 115 [l0, l1, l2, .int y, .int x, l5] S σ) ∧
  (∀ (d : Nat) (σ : Sg) (S : List Value) (l0 l1 l2 l3 l4 l5 : Value), exec d mX6_skills 115 [l0, l1, l2, l3, l4, l5] S σ = exec d mX6_skills 116 [l0, l1, l2, l3, l4, l5] (.int (nI 0) :: S) σ) ∧
  (∀ (d : Nat) (σ : Sg) (S : List Value) (l0 l1 l2 l3 l5 : Value) (x y : Int32), exec d mX6_skills 116 [l0, l1, l2, l3, .int y, l5] (.int x :: S) σ = exec d mX6_skills 118 [l0, l1, l2, l3, .int y, .int x] S σ) ∧
  (∀ (d : Nat) (σ : Sg) (S : List Value) (l0 l1 l2 l3 l4 l5 : Value), exec d mX6_skills 120 [l0, l1, l2, l3, l4, l5] S σ = exec d mX6_skills 122 [l0, l1, l2, l3, l4, l5] (.int (nI 20) :: S) σ) ∧
  (∀ (d : Nat) (σ : Sg) (S : List Value) (l0 l1 l2 l3 l4 l5 : Value) (x y : Int32), exec d mX6_skills 122 [l0, l1, l2, l3, l4, l5] (.int y :: .int x :: S) σ = if y < x then exec d mX6_skills 152 [l0, l1, l2, l3, l4, l5] S σ else exec d mX6_skills 125 [l0, l1, l2, l3, l4, l5] S σ) ∧
  (∀ (d : Nat) (σ : Sg) (S : List Value) (l1 l2 l3 l4 l5 : Value) (k : Nat), exec d mX6_skills 125 [.ref k, l1, l2, l3, l4, l5] S σ = exec d mX6_skills 126 [.ref k, l1, l2, l3, l4, l5] (.ref k :: S) σ) ∧
  (∀ (d : Nat) (σ : Sg) (S : List Value) (l0 l2 l3 l4 l5 : Value) (x : Int32), exec d mX6_skills 126 [l0, .int x, l2, l3, l4, l5] S σ = exec d mX6_skills 127 [l0, .int x, l2, l3, l4, l5] (.int x :: S) σ) ∧
  (∀ (d : Nat) (σ : Sg) (S : List Value) (l0 l1 l3 l4 l5 : Value) (x : Int32), exec d mX6_skills 127 [l0, l1, .int x, l3, l4, l5] S σ = exec d mX6_skills 128 [l0, l1, .int x, l3, l4, l5] (.int x :: S) σ) ∧
  (∀ (d : Nat) (σ : Sg) (S : List Value) (l0 l1 l2 l4 l5 : Value) (x : Int32), exec d mX6_skills 128 [l0, l1, l2, .int x, l4, l5] S σ = exec d mX6_skills 129 [l0, l1, l2, .int x, l4, l5] (.int x :: S) σ) ∧
  (∀ (d : Nat) (σ : Sg) (S : List Value) (l0 l1 l2 l3 l4 : Value) (x : Int32), exec d mX6_skills 129 [l0, l1, l2, l3, l4, .int x] S σ = exec d mX6_skills 131 [l0, l1, l2, l3, l4, .int x] (.int x :: S) σ) ∧
  (∀ (d : Nat) (σ : Sg) (l0 l1 l2 l3 l4 l5 : Value) (x0 x1 x2 x3 : Int32), exec d mX6_skills 131 [l0, l1, l2, l3, l4, l5] [.int x0, .int x1, .int x2, .int x3, .ref 0] σ = kb (cal d mX6_isMadeAsTold [.ref 0, .int x3, .int x2, .int x1, .int x0] σ) (fun rs σ2 => exec d mX6_skills 134 [l0, l1, l2, l3, l4, l5] (rs ++ []) σ2)) ∧
  (∀ (d : Nat) (σ : Sg) (S : List Value) (l0 l1 l2 l3 l4 l5 : Value) (x : Int32), exec d mX6_skills 134 [l0, l1, l2, l3, l4, l5] (.int x :: S) σ = if x = nI 0 then exec d mX6_skills 146 [l0, l1, l2, l3, l4, l5] S σ else exec d mX6_skills 137 [l0, l1, l2, l3, l4, l5] S σ) ∧
  (∀ (d : Nat) (σ : Sg) (S : List Value) (l0 l1 l2 l3 l5 : Value) (x : Int32), exec d mX6_skills 137 [l0, l1, l2, l3, .int x, l5] S σ = exec d mX6_skills 139 [l0, l1, l2, l3, .int x, l5] (.int x :: S) σ) ∧
  (∀ (d : Nat) (σ : Sg) (S : List Value) (l0 l1 l2 l3 l4 l5 : Value), exec d mX6_skills 139 [l0, l1, l2, l3, l4, l5] S σ = exec d mX6_skills 140 [l0, l1, l2, l3, l4, l5] (.int (nI 1) :: S) σ) ∧
  (∀ (d : Nat) (σ : Sg) (S : List Value) (l0 l1 l2 l3 l4 : Value) (x : Int32), exec d mX6_skills 140 [l0, l1, l2, l3, l4, .int x] S σ = exec d mX6_skills 142 [l0, l1, l2, l3, l4, .int x] (.int x :: S) σ) ∧
  (∀ (d : Nat) (σ : Sg) (S : List Value) (l0 l1 l2 l3 l4 l5 : Value) (x y : Int32), exec d mX6_skills 142 [l0, l1, l2, l3, l4, l5] (.int y :: .int x :: S) σ = exec d mX6_skills 143 [l0, l1, l2, l3, l4, l5] (.int (x <<< (y &&& 31)) :: S) σ) ∧
  (∀ (d : Nat) (σ : Sg) (S : List Value) (l0 l1 l2 l3 l4 l5 : Value) (x y : Int32), exec d mX6_skills 143 [l0, l1, l2, l3, l4, l5] (.int y :: .int x :: S) σ = exec d mX6_skills 144 [l0, l1, l2, l3, l4, l5] (.int (x ||| y) :: S) σ) ∧
  (∀ (d : Nat) (σ : Sg) (S : List Value) (l0 l1 l2 l4 l5 : Value) (x y : Int32), exec d mX6_skills 144 [l0, l1, l2, .int y, l4, l5] (.int x :: S) σ = exec d mX6_skills 146 [l0, l1, l2, .int y, .int x, l5] S σ) ∧
  (∀ (d : Nat) (σ : Sg) (S : List Value) (l0 l1 l2 l3 : Value) (x y : Int32), exec d mX6_skills 146 [l0, l1, l2, l3, .int y, .int x] S σ = exec d mX6_skills 149 [l0, l1, l2, l3, .int y, .int (x + nI 1)] S σ) :=
  ⟨fun d σ S l0 l1 l2 l3 l4 l5 => ex_iconst (show decode mX6_skills.2.1 73 = .ok (.iconst 0, 1) by decide +kernel) (by decide +kernel),
  fun d σ S l0 l1 l2 l4 l5 x y => ex_istore (show decode mX6_skills.2.1 74 = .ok (.istore 4, 2) by decide +kernel) (Nat.le_of_ble_eq_true rfl) rfl,
  fun d σ S l0 l1 l2 l4 l5 x => ex_iload_n (show decode mX6_skills.2.1 78 = .ok (.iload_n 3, 1) by decide +kernel) rfl,
  fun d σ S l0 l1 l2 l3 l4 l5 x y => ex_cge (show decode mX6_skills.2.1 79 = .ok (.if_icmp .ge 33, 3) by decide +kernel) (by decide),
  fun d σ S l1 l2 l3 l4 l5 k => ex_aload_n (show decode mX6_skills.2.1 82 = .ok (.aload_n 0, 1) by decide +kernel) rfl,
  fun d σ S l1 l2 l3 l4 l5 k => ex_aload_n (show decode mX6_skills.2.1 83 = .ok (.aload_n 0, 1) by decide +kernel) rfl,
  fun d σ S l0 l1 l2 l3 l4 l5 => ex_getr (idx := 10) (ci := 6) (ff := 0) (n := 11) (hh := 346) (by decide +kernel),
  fun d σ S l0 l2 l3 l4 l5 x => ex_iload_n (show decode mX6_skills.2.1 87 = .ok (.iload_n 1, 1) by decide +kernel) rfl,
  fun d σ S l0 l1 l3 l4 l5 x => ex_iload_n (show decode mX6_skills.2.1 88 = .ok (.iload_n 2, 1) by decide +kernel) rfl,
  fun d σ S l0 l1 l2 l3 l4 l5 => ex_iconst (show decode mX6_skills.2.1 89 = .ok (.iconst 2, 1) by decide +kernel) (by decide +kernel),
  fun d σ S l0 l1 l2 l3 l5 x => ex_iload (show decode mX6_skills.2.1 90 = .ok (.iload 4, 2) by decide +kernel) rfl,
  fun d σ S l0 l1 l2 l3 l4 l5 x y => ex_imul (show decode mX6_skills.2.1 92 = .ok (.imul, 1) by decide +kernel),
  fun d σ S l0 l1 l2 l3 l4 l5 x y => ex_iadd (show decode mX6_skills.2.1 93 = .ok (.iadd, 1) by decide +kernel),
  fun d σ l0 l1 l2 l3 l4 l5 x0 x1 => ex_iv (hs := [707, 709, 44, 710, 95]) (show decode mX6_skills.2.1 94 = .ok (.invokevirtual 263, 3) by decide +kernel) lkV_6_263 ⟨rfl, Nat.le_of_ble_eq_true rfl, Nat.le_of_ble_eq_true rfl, fun _ => rfl⟩ rfl rfl,
  fun d σ l0 l1 l2 l3 l4 l5 x0 => ex_iv (hs := [528, 530, 23, 531, 94]) (show decode mX6_skills.2.1 97 = .ok (.invokevirtual 139, 3) by decide +kernel) lkV_6_139 ⟨rfl, Nat.le_of_ble_eq_true rfl, Nat.le_of_ble_eq_true rfl, fun _ => rfl⟩ rfl rfl,
  fun d σ S l0 l1 l2 l3 l4 l5 x => ex_zne (show decode mX6_skills.2.1 100 = .ok (.ifCond .ne 6, 3) by decide +kernel) (by decide),
  fun d σ S l0 l1 l2 l3 l4 l5 => ex_ldc (hh := 387) (show decode mX6_skills.2.1 103 = .ok (.ldc 64, 2) by decide +kernel) (by decide +kernel),
  fun d σ l0 l1 l2 l3 l4 l5 x => ex_iret (show decode mX6_skills.2.1 105 = .ok (.ireturn, 1) by decide +kernel) rfl,
  fun d σ S l0 l1 l2 l5 x y => ex_iinc (show decode mX6_skills.2.1 106 = .ok (.iinc 4 1, 3) by decide +kernel) rfl (by decide +kernel) (Nat.le_of_ble_eq_true rfl) rfl,
  fun d σ S l0 l1 l2 l3 l4 l5 => ex_goto (show decode mX6_skills.2.1 109 = .ok (.goto (-33), 3) by decide +kernel) (by decide),
  fun d σ S l0 l1 l2 l3 l4 l5 => ex_iconst (show decode mX6_skills.2.1 112 = .ok (.iconst 0, 1) by decide +kernel) (by decide +kernel),
  fun d σ S l0 l1 l2 l4 l5 x y => ex_istore (show decode mX6_skills.2.1 113 = .ok (.istore 4, 2) by decide +kernel) (Nat.le_of_ble_eq_true rfl) rfl,
  fun d σ S l0 l1 l2 l3 l4 l5 => ex_iconst (show decode mX6_skills.2.1 115 = .ok (.iconst 0, 1) by decide +kernel) (by decide +kernel),
  fun d σ S l0 l1 l2 l3 l5 x y => ex_istore (show decode mX6_skills.2.1 116 = .ok (.istore 5, 2) by decide +kernel) (Nat.le_of_ble_eq_true rfl) rfl,
  fun d σ S l0 l1 l2 l3 l4 l5 => ex_bipush (show decode mX6_skills.2.1 120 = .ok (.bipush 20, 2) by decide +kernel) (by decide +kernel),
  fun d σ S l0 l1 l2 l3 l4 l5 x y => ex_cgt (show decode mX6_skills.2.1 122 = .ok (.if_icmp .gt 30, 3) by decide +kernel) (by decide),
  fun d σ S l1 l2 l3 l4 l5 k => ex_aload_n (show decode mX6_skills.2.1 125 = .ok (.aload_n 0, 1) by decide +kernel) rfl,
  fun d σ S l0 l2 l3 l4 l5 x => ex_iload_n (show decode mX6_skills.2.1 126 = .ok (.iload_n 1, 1) by decide +kernel) rfl,
  fun d σ S l0 l1 l3 l4 l5 x => ex_iload_n (show decode mX6_skills.2.1 127 = .ok (.iload_n 2, 1) by decide +kernel) rfl,
  fun d σ S l0 l1 l2 l4 l5 x => ex_iload_n (show decode mX6_skills.2.1 128 = .ok (.iload_n 3, 1) by decide +kernel) rfl,
  fun d σ S l0 l1 l2 l3 l4 x => ex_iload (show decode mX6_skills.2.1 129 = .ok (.iload 5, 2) by decide +kernel) rfl,
  fun d σ l0 l1 l2 l3 l4 l5 x0 x1 x2 x3 => ex_iv (hs := [716, 718, 45, 719, 94]) (show decode mX6_skills.2.1 131 = .ok (.invokevirtual 266, 3) by decide +kernel) lkV_6_266 ⟨rfl, Nat.le_of_ble_eq_true rfl, Nat.le_of_ble_eq_true rfl, fun _ => rfl⟩ rfl rfl,
  fun d σ S l0 l1 l2 l3 l4 l5 x => ex_zeq (show decode mX6_skills.2.1 134 = .ok (.ifCond .eq 12, 3) by decide +kernel) (by decide),
  fun d σ S l0 l1 l2 l3 l5 x => ex_iload (show decode mX6_skills.2.1 137 = .ok (.iload 4, 2) by decide +kernel) rfl,
  fun d σ S l0 l1 l2 l3 l4 l5 => ex_iconst (show decode mX6_skills.2.1 139 = .ok (.iconst 1, 1) by decide +kernel) (by decide +kernel),
  fun d σ S l0 l1 l2 l3 l4 x => ex_iload (show decode mX6_skills.2.1 140 = .ok (.iload 5, 2) by decide +kernel) rfl,
  fun d σ S l0 l1 l2 l3 l4 l5 x y => ex_ishl (show decode mX6_skills.2.1 142 = .ok (.ishl, 1) by decide +kernel),
  fun d σ S l0 l1 l2 l3 l4 l5 x y => ex_ior (show decode mX6_skills.2.1 143 = .ok (.ior, 1) by decide +kernel),
  fun d σ S l0 l1 l2 l4 l5 x y => ex_istore (show decode mX6_skills.2.1 144 = .ok (.istore 4, 2) by decide +kernel) (Nat.le_of_ble_eq_true rfl) rfl,
  fun d σ S l0 l1 l2 l3 x y => ex_iinc (show decode mX6_skills.2.1 146 = .ok (.iinc 5 1, 3) by decide +kernel) rfl (by decide +kernel) (Nat.le_of_ble_eq_true rfl) rfl⟩
theorem kX6_skills_2 : (∀ (d : Nat) (σ : Sg) (S : List Value) (l0 l1 l2 l3 l4 l5 : Value), exec d mX6_skills 149 [l0, l1, l2, l3, l4, l5] S σ = exec d mX6_skills 118 [l0, l1, l2, l3, l4, l5] S σ) ∧
  (∀ (d : Nat) (σ : Sg) (S : List Value) (l1 l2 l3 l4 l5 : Value) (k : Nat), exec d mX6_skills 152 [.ref k, l1, l2, l3, l4, l5] S σ = exec d mX6_skills 153 [.ref k, l1, l2, l3, l4, l5] (.ref k :: S) σ) ∧
  (∀ (d : Nat) (σ : Sg) (S : List Value) (l0 l1 l2 l3 l5 : Value) (x : Int32), exec d mX6_skills 153 [l0, l1, l2, l3, .int x, l5] S σ = exec d mX6_skills 155 [l0, l1, l2, l3, .int x, l5] (.int x :: S) σ) ∧
  (∀ (d : Nat) (σ : Sg) (l0 l1 l2 l3 l4 l5 : Value) (x0 : Int32), exec d mX6_skills 155 [l0, l1, l2, l3, l4, l5] [.int x0, .ref 0] σ = kb (cal d mX6_clean [.ref 0, .int x0] σ) (fun rs σ2 => exec d mX6_skills 158 [l0, l1, l2, l3, l4, l5] (rs ++ []) σ2)) ∧
  (∀ (d : Nat) (σ : Sg) (l0 l1 l2 l3 l4 l5 : Value) (x : Int32), exec d mX6_skills 158 [l0, l1, l2, l3, l4, l5] [.int x] σ = some (some (.int x), σ)) :=
  ⟨fun d σ S l0 l1 l2 l3 l4 l5 => ex_goto (show decode mX6_skills.2.1 149 = .ok (.goto (-31), 3) by decide +kernel) (by decide),
  fun d σ S l1 l2 l3 l4 l5 k => ex_aload_n (show decode mX6_skills.2.1 152 = .ok (.aload_n 0, 1) by decide +kernel) rfl,
  fun d σ S l0 l1 l2 l3 l5 x => ex_iload (show decode mX6_skills.2.1 153 = .ok (.iload 4, 2) by decide +kernel) rfl,
  fun d σ l0 l1 l2 l3 l4 l5 x0 => ex_iv (hs := [397, 399, 2, 400, 94]) (show decode mX6_skills.2.1 155 = .ok (.invokevirtual 73, 3) by decide +kernel) lkV_6_73 ⟨rfl, Nat.le_of_ble_eq_true rfl, Nat.le_of_ble_eq_true rfl, fun _ => rfl⟩ rfl rfl,
  fun d σ l0 l1 l2 l3 l4 l5 x => ex_iret (show decode mX6_skills.2.1 158 = .ok (.ireturn, 1) by decide +kernel) rfl⟩
theorem hX6_skills_76 : ∀ (d : Nat) (σ : Sg) (S : List Value) (l0 l1 l2 l3 l5 : Value) (x : Int32), exec d mX6_skills 76 [l0, l1, l2, l3, .int x, l5] S σ = exec d mX6_skills 78 [l0, l1, l2, l3, .int x, l5] (.int x :: S) σ := fun d σ S l0 l1 l2 l3 l5 x => ex_iload (show decode mX6_skills.2.1 76 = .ok (.iload 4, 2) by decide +kernel) rfl
theorem hX6_skills_118 : ∀ (d : Nat) (σ : Sg) (S : List Value) (l0 l1 l2 l3 l4 : Value) (x : Int32), exec d mX6_skills 118 [l0, l1, l2, l3, l4, .int x] S σ = exec d mX6_skills 120 [l0, l1, l2, l3, l4, .int x] (.int x :: S) σ := fun d σ S l0 l1 l2 l3 l4 x => ex_iload (show decode mX6_skills.2.1 118 = .ok (.iload 5, 2) by decide +kernel) rfl
theorem aX6_skills_0 : ∀ (d : Nat) (a1 : Int32) (a2 : Int32) (a3 : Int32) (σ : Sg), cal (d + 1) mX6_skills [.ref 0, .int a1, .int a2, .int a3] σ = exec d mX6_skills 0 [.ref 0, .int a1, .int a2, .int a3, uu, uu] [] σ := fun _ _ _ _ _ => rfl
theorem kX6_who_0 : (∀ (d : Nat) (σ : Sg) (S : List Value) (l1 l2 l3 l4 l5 l6 : Value) (k : Nat), exec d mX6_who 0 [.ref k, l1, l2, l3, l4, l5, l6] S σ = exec d mX6_who 1 [.ref k, l1, l2, l3, l4, l5, l6] (.ref k :: S) σ) ∧
  (∀ (d : Nat) (σ : Sg) (S : List Value) (l0 l2 l3 l4 l5 l6 : Value) (x : Int32), exec d mX6_who 1 [l0, .int x, l2, l3, l4, l5, l6] S σ = exec d mX6_who 2 [l0, .int x, l2, l3, l4, l5, l6] (.int x :: S) σ) ∧
  (∀ (d : Nat) (σ : Sg) (l0 l1 l2 l3 l4 l5 l6 : Value) (x0 : Int32), exec d mX6_who 2 [l0, l1, l2, l3, l4, l5, l6] [.int x0, .ref 0] σ = kb (cal d mX6_isPart [.ref 0, .int x0] σ) (fun rs σ2 => exec d mX6_who 5 [l0, l1, l2, l3, l4, l5, l6] (rs ++ []) σ2)) ∧
  (∀ (d : Nat) (σ : Sg) (S : List Value) (l0 l1 l2 l3 l4 l5 l6 : Value) (x : Int32), exec d mX6_who 5 [l0, l1, l2, l3, l4, l5, l6] (.int x :: S) σ = if x = nI 0 then exec d mX6_who 28 [l0, l1, l2, l3, l4, l5, l6] S σ else exec d mX6_who 8 [l0, l1, l2, l3, l4, l5, l6] S σ) ∧
  (∀ (d : Nat) (σ : Sg) (S : List Value) (l0 l1 l3 l4 l5 l6 : Value) (x : Int32), exec d mX6_who 8 [l0, l1, .int x, l3, l4, l5, l6] S σ = exec d mX6_who 9 [l0, l1, .int x, l3, l4, l5, l6] (.int x :: S) σ) ∧
  (∀ (d : Nat) (σ : Sg) (l0 l1 l2 l3 l4 l5 l6 : Value) (x0 : Int32), exec d mX6_who 9 [l0, l1, l2, l3, l4, l5, l6] [.int x0] σ = kb (cal d mX6_isRow [.int x0] σ) (fun rs σ2 => exec d mX6_who 12 [l0, l1, l2, l3, l4, l5, l6] (rs ++ []) σ2)) ∧
  (∀ (d : Nat) (σ : Sg) (S : List Value) (l0 l1 l2 l3 l4 l5 l6 : Value) (x : Int32), exec d mX6_who 12 [l0, l1, l2, l3, l4, l5, l6] (.int x :: S) σ = if x = nI 0 then exec d mX6_who 28 [l0, l1, l2, l3, l4, l5, l6] S σ else exec d mX6_who 15 [l0, l1, l2, l3, l4, l5, l6] S σ) ∧
  (∀ (d : Nat) (σ : Sg) (S : List Value) (l0 l1 l2 l3 l5 l6 : Value) (x : Int32), exec d mX6_who 15 [l0, l1, l2, l3, .int x, l5, l6] S σ = exec d mX6_who 17 [l0, l1, l2, l3, .int x, l5, l6] (.int x :: S) σ) ∧
  (∀ (d : Nat) (σ : Sg) (S : List Value) (l0 l1 l2 l3 l4 l5 l6 : Value), exec d mX6_who 17 [l0, l1, l2, l3, l4, l5, l6] S σ = exec d mX6_who 18 [l0, l1, l2, l3, l4, l5, l6] (.int (nI 1) :: S) σ) ∧
  (∀ (d : Nat) (σ : Sg) (S : List Value) (l0 l1 l2 l3 l4 l5 l6 : Value) (x y : Int32), exec d mX6_who 18 [l0, l1, l2, l3, l4, l5, l6] (.int y :: .int x :: S) σ = if x < y then exec d mX6_who 28 [l0, l1, l2, l3, l4, l5, l6] S σ else exec d mX6_who 21 [l0, l1, l2, l3, l4, l5, l6] S σ) ∧
  (∀ (d : Nat) (σ : Sg) (S : List Value) (l0 l1 l2 l3 l5 l6 : Value) (x : Int32), exec d mX6_who 21 [l0, l1, l2, l3, .int x, l5, l6] S σ = exec d mX6_who 23 [l0, l1, l2, l3, .int x, l5, l6] (.int x :: S) σ) ∧
  (∀ (d : Nat) (σ : Sg) (S : List Value) (l0 l1 l2 l3 l4 l5 l6 : Value), exec d mX6_who 23 [l0, l1, l2, l3, l4, l5, l6] S σ = exec d mX6_who 25 [l0, l1, l2, l3, l4, l5, l6] (.int (nI 8) :: S) σ) ∧
  (∀ (d : Nat) (σ : Sg) (S : List Value) (l0 l1 l2 l3 l4 l5 l6 : Value) (x y : Int32), exec d mX6_who 25 [l0, l1, l2, l3, l4, l5, l6] (.int y :: .int x :: S) σ = if x ≤ y then exec d mX6_who 31 [l0, l1, l2, l3, l4, l5, l6] S σ else exec d mX6_who 28 [l0, l1, l2, l3, l4, l5, l6] S σ) ∧
  (∀ (d : Nat) (σ : Sg) (S : List Value) (l0 l1 l2 l3 l4 l5 l6 : Value), exec d mX6_who 28 [l0, l1, l2, l3, l4, l5, l6] S σ = exec d mX6_who 30 [l0, l1, l2, l3, l4, l5, l6] (.int ((-1000001)) :: S) σ) ∧
  (∀ (d : Nat) (σ : Sg) (l0 l1 l2 l3 l4 l5 l6 : Value) (x : Int32), exec d mX6_who 30 [l0, l1, l2, l3, l4, l5, l6] [.int x] σ = some (some (.int x), σ)) ∧
  (∀ (d : Nat) (σ : Sg) (S : List Value) (l1 l2 l3 l4 l5 l6 : Value) (k : Nat), exec d mX6_who 31 [.ref k, l1, l2, l3, l4, l5, l6] S σ = exec d mX6_who 32 [.ref k, l1, l2, l3, l4, l5, l6] (.ref k :: S) σ) ∧
  (∀ (d : Nat) (σ : Sg) (S : List Value) (l0 l1 l2 l3 l4 l5 l6 : Value), exec d mX6_who 32 [l0, l1, l2, l3, l4, l5, l6] (.ref 0 :: S) σ = exec d mX6_who 35 [l0, l1, l2, l3, l4, l5, l6] (.ref 1 :: S) σ) ∧
  (∀ (d : Nat) (σ : Sg) (S : List Value) (l0 l1 l2 l3 l4 l5 l6 : Value), exec d mX6_who 35 [l0, l1, l2, l3, l4, l5, l6] (.ref 1 :: S) σ = exec d mX6_who 38 [l0, l1, l2, l3, l4, l5, l6] (.ref 2 :: S) σ) ∧
  (∀ (d : Nat) (σ : Sg) (S : List Value) (l0 l1 l3 l4 l5 l6 : Value) (x : Int32), exec d mX6_who 38 [l0, l1, .int x, l3, l4, l5, l6] S σ = exec d mX6_who 39 [l0, l1, .int x, l3, l4, l5, l6] (.int x :: S) σ) ∧
  (∀ (d : Nat) (σ : Sg) (S : List Value) (l0 l1 l2 l3 l4 l5 l6 : Value) (x : Int32), exec d mX6_who 39 [l0, l1, l2, l3, l4, l5, l6] (.int x :: .ref 2 :: S) σ = if inb x 8 = true then exec d mX6_who 40 [l0, l1, l2, l3, l4, l5, l6] (.int (σ 2 x.toNatClampNeg) :: S) σ else none) ∧
  (∀ (d : Nat) (σ : Sg) (S : List Value) (l0 l1 l2 l3 l4 l5 l6 : Value) (x : Int32), exec d mX6_who 40 [l0, l1, l2, l3, l4, l5, l6] (.int x :: S) σ = if x = nI 0 then exec d mX6_who 43 [l0, l1, l2, l3, l4, l5, l6] S σ else exec d mX6_who 49 [l0, l1, l2, l3, l4, l5, l6] S σ) ∧
  (∀ (d : Nat) (σ : Sg) (S : List Value) (l1 l2 l3 l4 l5 l6 : Value) (k : Nat), exec d mX6_who 43 [.ref k, l1, l2, l3, l4, l5, l6] S σ = exec d mX6_who 44 [.ref k, l1, l2, l3, l4, l5, l6] (.ref k :: S) σ) ∧
  (∀ (d : Nat) (σ : Sg) (S : List Value) (l0 l1 l2 l3 l4 l5 l6 : Value), exec d mX6_who 44 [l0, l1, l2, l3, l4, l5, l6] S σ = exec d mX6_who 45 [l0, l1, l2, l3, l4, l5, l6] (.int (nI 1) :: S) σ) ∧
  (∀ (d : Nat) (σ : Sg) (l0 l1 l2 l3 l4 l5 l6 : Value) (x0 : Int32), exec d mX6_who 45 [l0, l1, l2, l3, l4, l5, l6] [.int x0, .ref 0] σ = kb (cal d mX6_finding [.ref 0, .int x0] σ) (fun rs σ2 => exec d mX6_who 48 [l0, l1, l2, l3, l4, l5, l6] (rs ++ []) σ2)) ∧
  (∀ (d : Nat) (σ : Sg) (l0 l1 l2 l3 l4 l5 l6 : Value) (x : Int32), exec d mX6_who 48 [l0, l1, l2, l3, l4, l5, l6] [.int x] σ = some (some (.int x), σ)) ∧
  (∀ (d : Nat) (σ : Sg) (S : List Value) (l1 l2 l3 l4 l5 l6 : Value) (k : Nat), exec d mX6_who 49 [.ref k, l1, l2, l3, l4, l5, l6] S σ = exec d mX6_who 50 [.ref k, l1, l2, l3, l4, l5, l6] (.ref k :: S) σ) ∧
  (∀ (d : Nat) (σ : Sg) (S : List Value) (l0 l1 l2 l3 l4 l5 l6 : Value), exec d mX6_who 50 [l0, l1, l2, l3, l4, l5, l6] (.ref 0 :: S) σ = exec d mX6_who 53 [l0, l1, l2, l3, l4, l5, l6] (.ref 1 :: S) σ) ∧
  (∀ (d : Nat) (σ : Sg) (S : List Value) (l0 l1 l3 l4 l5 l6 : Value) (x : Int32), exec d mX6_who 53 [l0, l1, .int x, l3, l4, l5, l6] S σ = exec d mX6_who 54 [l0, l1, .int x, l3, l4, l5, l6] (.int x :: S) σ) ∧
  (∀ (d : Nat) (σ : Sg) (S : List Value) (l0 l1 l2 l4 l5 l6 : Value) (x : Int32), exec d mX6_who 54 [l0, l1, l2, .int x, l4, l5, l6] S σ = exec d mX6_who 55 [l0, l1, l2, .int x, l4, l5, l6] (.int x :: S) σ) ∧
  (∀ (d : Nat) (σ : Sg) (S : List Value) (l0 l1 l2 l3 l4 l5 l6 : Value), exec d mX6_who 55 [l0, l1, l2, l3, l4, l5, l6] S σ = exec d mX6_who 56 [l0, l1, l2, l3, l4, l5, l6] (.int (nI 3) :: S) σ) ∧
  (∀ (d : Nat) (σ : Sg) (S : List Value) (l0 l1 l2 l3 l5 l6 : Value) (x : Int32), exec d mX6_who 56 [l0, l1, l2, l3, .int x, l5, l6] S σ = exec d mX6_who 58 [l0, l1, l2, l3, .int x, l5, l6] (.int x :: S) σ) ∧
  (∀ (d : Nat) (σ : Sg) (S : List Value) (l0 l1 l2 l3 l4 l5 l6 : Value) (x y : Int32), exec d mX6_who 58 [l0, l1, l2, l3, l4, l5, l6] (.int y :: .int x :: S) σ = exec d mX6_who 59 [l0, l1, l2, l3, l4, l5, l6] (.int (x * y) :: S) σ) ∧
  (∀ (d : Nat) (σ : Sg) (l0 l1 l2 l3 l4 l5 l6 : Value) (x0 x1 x2 : Int32), exec d mX6_who 59 [l0, l1, l2, l3, l4, l5, l6] [.int x0, .int x1, .int x2, .ref 1] σ = kb (cal d mX3_holds [.ref 1, .int x2, .int x1, .int x0] σ) (fun rs σ2 => exec d mX6_who 62 [l0, l1, l2, l3, l4, l5, l6] (rs ++ []) σ2)) ∧
  (∀ (d : Nat) (σ : Sg) (S : List Value) (l0 l1 l2 l3 l4 l5 l6 : Value) (x : Int32), exec d mX6_who 62 [l0, l1, l2, l3, l4, l5, l6] (.int x :: S) σ = if x = nI 0 then exec d mX6_who 65 [l0, l1, l2, l3, l4, l5, l6] S σ else exec d mX6_who 71 [l0, l1, l2, l3, l4, l5, l6] S σ) ∧
  (∀ (d : Nat) (σ : Sg) (S : List Value) (l1 l2 l3 l4 l5 l6 : Value) (k : Nat), exec d mX6_who 65 [.ref k, l1, l2, l3, l4, l5, l6] S σ = exec d mX6_who 66 [.ref k, l1, l2, l3, l4, l5, l6] (.ref k :: S) σ) ∧
  (∀ (d : Nat) (σ : Sg) (S : List Value) (l0 l1 l2 l3 l4 l5 l6 : Value), exec d mX6_who 66 [l0, l1, l2, l3, l4, l5, l6] S σ = exec d mX6_who 67 [l0, l1, l2, l3, l4, l5, l6] (.int (nI 2) :: S) σ) ∧
  (∀ (d : Nat) (σ : Sg) (l0 l1 l2 l3 l4 l5 l6 : Value) (x0 : Int32), exec d mX6_who 67 [l0, l1, l2, l3, l4, l5, l6] [.int x0, .ref 0] σ = kb (cal d mX6_finding [.ref 0, .int x0] σ) (fun rs σ2 => exec d mX6_who 70 [l0, l1, l2, l3, l4, l5, l6] (rs ++ []) σ2)) ∧
  (∀ (d : Nat) (σ : Sg) (l0 l1 l2 l3 l4 l5 l6 : Value) (x : Int32), exec d mX6_who 70 [l0, l1, l2, l3, l4, l5, l6] [.int x] σ = some (some (.int x), σ)) ∧
  (∀ (d : Nat) (σ : Sg) (S : List Value) (l0 l1 l2 l3 l4 l5 l6 : Value), exec d mX6_who 71 [l0, l1, l2, l3, l4, l5, l6] S σ = exec d mX6_who 72 [l0, l1, l2, l3, l4, l5, l6] (.int (nI 0) :: S) σ) ∧
  (∀ (d : Nat) (σ : Sg) (S : List Value) (l0 l1 l2 l3 l5 l6 : Value) (x y : Int32), exec d mX6_who 72 [l0, l1, l2, l3, .int y, l5, l6] (.int x :: S) σ = exec d mX6_who 74 [l0, l1, l2, l3, .int y, .int x, l6] S σ) :=
  ⟨fun d σ S l1 l2 l3 l4 l5 l6 k => ex_aload_n (show decode mX6_who.2.1 0 = .ok (.aload_n 0, 1) by decide +kernel) rfl,
  fun d σ S l0 l2 l3 l4 l5 l6 x => ex_iload_n (show decode mX6_who.2.1 1 = .ok (.iload_n 1, 1) by decide +kernel) rfl,
  fun d σ l0 l1 l2 l3 l4 l5 l6 x0 => ex_iv (hs := [528, 530, 23, 531, 94]) (show decode mX6_who.2.1 2 = .ok (.invokevirtual 139, 3) by decide +kernel) lkV_6_139 ⟨rfl, Nat.le_of_ble_eq_true rfl, Nat.le_of_ble_eq_true rfl, fun _ => rfl⟩ rfl rfl,
  fun d σ S l0 l1 l2 l3 l4 l5 l6 x => ex_zeq (show decode mX6_who.2.1 5 = .ok (.ifCond .eq 23, 3) by decide +kernel) (by decide),
  fun d σ S l0 l1 l3 l4 l5 l6 x => ex_iload_n (show decode mX6_who.2.1 8 = .ok (.iload_n 2, 1) by decide +kernel) rfl,
  fun d σ l0 l1 l2 l3 l4 l5 l6 x0 => ex_is (hs := [384, 385, 386, 94]) (show decode mX6_who.2.1 9 = .ok (.invokestatic 60, 3) by decide +kernel) lkS_6_60 ⟨rfl, Nat.le_of_ble_eq_true rfl, Nat.le_of_ble_eq_true rfl, fun q => nomatch q⟩ rfl rfl,
  fun d σ S l0 l1 l2 l3 l4 l5 l6 x => ex_zeq (show decode mX6_who.2.1 12 = .ok (.ifCond .eq 16, 3) by decide +kernel) (by decide),
  fun d σ S l0 l1 l2 l3 l5 l6 x => ex_iload (show decode mX6_who.2.1 15 = .ok (.iload 4, 2) by decide +kernel) rfl,
  fun d σ S l0 l1 l2 l3 l4 l5 l6 => ex_iconst (show decode mX6_who.2.1 17 = .ok (.iconst 1, 1) by decide +kernel) (by decide +kernel),
  fun d σ S l0 l1 l2 l3 l4 l5 l6 x y => ex_clt (show decode mX6_who.2.1 18 = .ok (.if_icmp .lt 10, 3) by decide +kernel) (by decide),
  fun d σ S l0 l1 l2 l3 l5 l6 x => ex_iload (show decode mX6_who.2.1 21 = .ok (.iload 4, 2) by decide +kernel) rfl,
  fun d σ S l0 l1 l2 l3 l4 l5 l6 => ex_bipush (show decode mX6_who.2.1 23 = .ok (.bipush 8, 2) by decide +kernel) (by decide +kernel),
  fun d σ S l0 l1 l2 l3 l4 l5 l6 x y => ex_cle (show decode mX6_who.2.1 25 = .ok (.if_icmp .le 6, 3) by decide +kernel) (by decide),
  fun d σ S l0 l1 l2 l3 l4 l5 l6 => ex_ldc (hh := 387) (show decode mX6_who.2.1 28 = .ok (.ldc 64, 2) by decide +kernel) (by decide +kernel),
  fun d σ l0 l1 l2 l3 l4 l5 l6 x => ex_iret (show decode mX6_who.2.1 30 = .ok (.ireturn, 1) by decide +kernel) rfl,
  fun d σ S l1 l2 l3 l4 l5 l6 k => ex_aload_n (show decode mX6_who.2.1 31 = .ok (.aload_n 0, 1) by decide +kernel) rfl,
  fun d σ S l0 l1 l2 l3 l4 l5 l6 => ex_getr (idx := 10) (ci := 6) (ff := 0) (n := 11) (hh := 346) (by decide +kernel),
  fun d σ S l0 l1 l2 l3 l4 l5 l6 => ex_getr (idx := 76) (ci := 3) (ff := 0) (n := 4) (hh := 120) (by decide +kernel),
  fun d σ S l0 l1 l3 l4 l5 l6 x => ex_iload_n (show decode mX6_who.2.1 38 = .ok (.iload_n 2, 1) by decide +kernel) rfl,
  fun d σ S l0 l1 l2 l3 l4 l5 l6 x => ex_bald (by decide +kernel),
  fun d σ S l0 l1 l2 l3 l4 l5 l6 x => ex_zne (show decode mX6_who.2.1 40 = .ok (.ifCond .ne 9, 3) by decide +kernel) (by decide),
  fun d σ S l1 l2 l3 l4 l5 l6 k => ex_aload_n (show decode mX6_who.2.1 43 = .ok (.aload_n 0, 1) by decide +kernel) rfl,
  fun d σ S l0 l1 l2 l3 l4 l5 l6 => ex_iconst (show decode mX6_who.2.1 44 = .ok (.iconst 1, 1) by decide +kernel) (by decide +kernel),
  fun d σ l0 l1 l2 l3 l4 l5 l6 x0 => ex_iv (hs := [388, 390, 0, 391, 94]) (show decode mX6_who.2.1 45 = .ok (.invokevirtual 65, 3) by decide +kernel) lkV_6_65 ⟨rfl, Nat.le_of_ble_eq_true rfl, Nat.le_of_ble_eq_true rfl, fun _ => rfl⟩ rfl rfl,
  fun d σ l0 l1 l2 l3 l4 l5 l6 x => ex_iret (show decode mX6_who.2.1 48 = .ok (.ireturn, 1) by decide +kernel) rfl,
  fun d σ S l1 l2 l3 l4 l5 l6 k => ex_aload_n (show decode mX6_who.2.1 49 = .ok (.aload_n 0, 1) by decide +kernel) rfl,
  fun d σ S l0 l1 l2 l3 l4 l5 l6 => ex_getr (idx := 10) (ci := 6) (ff := 0) (n := 11) (hh := 346) (by decide +kernel),
  fun d σ S l0 l1 l3 l4 l5 l6 x => ex_iload_n (show decode mX6_who.2.1 53 = .ok (.iload_n 2, 1) by decide +kernel) rfl,
  fun d σ S l0 l1 l2 l4 l5 l6 x => ex_iload_n (show decode mX6_who.2.1 54 = .ok (.iload_n 3, 1) by decide +kernel) rfl,
  fun d σ S l0 l1 l2 l3 l4 l5 l6 => ex_iconst (show decode mX6_who.2.1 55 = .ok (.iconst 3, 1) by decide +kernel) (by decide +kernel),
  fun d σ S l0 l1 l2 l3 l5 l6 x => ex_iload (show decode mX6_who.2.1 56 = .ok (.iload 4, 2) by decide +kernel) rfl,
  fun d σ S l0 l1 l2 l3 l4 l5 l6 x y => ex_imul (show decode mX6_who.2.1 58 = .ok (.imul, 1) by decide +kernel),
  fun d σ l0 l1 l2 l3 l4 l5 l6 x0 x1 x2 => ex_iv (hs := [405, 407, 3, 408, 95]) (show decode mX6_who.2.1 59 = .ok (.invokevirtual 80, 3) by decide +kernel) lkV_6_80 ⟨rfl, Nat.le_of_ble_eq_true rfl, Nat.le_of_ble_eq_true rfl, fun _ => rfl⟩ rfl rfl,
  fun d σ S l0 l1 l2 l3 l4 l5 l6 x => ex_zne (show decode mX6_who.2.1 62 = .ok (.ifCond .ne 9, 3) by decide +kernel) (by decide),
  fun d σ S l1 l2 l3 l4 l5 l6 k => ex_aload_n (show decode mX6_who.2.1 65 = .ok (.aload_n 0, 1) by decide +kernel) rfl,
  fun d σ S l0 l1 l2 l3 l4 l5 l6 => ex_iconst (show decode mX6_who.2.1 66 = .ok (.iconst 2, 1) by decide +kernel) (by decide +kernel),
  fun d σ l0 l1 l2 l3 l4 l5 l6 x0 => ex_iv (hs := [388, 390, 0, 391, 94]) (show decode mX6_who.2.1 67 = .ok (.invokevirtual 65, 3) by decide +kernel) lkV_6_65 ⟨rfl, Nat.le_of_ble_eq_true rfl, Nat.le_of_ble_eq_true rfl, fun _ => rfl⟩ rfl rfl,
  fun d σ l0 l1 l2 l3 l4 l5 l6 x => ex_iret (show decode mX6_who.2.1 70 = .ok (.ireturn, 1) by decide +kernel) rfl,
  fun d σ S l0 l1 l2 l3 l4 l5 l6 => ex_iconst (show decode mX6_who.2.1 71 = .ok (.iconst 0, 1) by decide +kernel) (by decide +kernel),
  fun d σ S l0 l1 l2 l3 l5 l6 x y => ex_istore (show decode mX6_who.2.1 72 = .ok (.istore 5, 2) by decide +kernel) (Nat.le_of_ble_eq_true rfl) rfl⟩
theorem kX6_who_1 : (∀ (d : Nat) (σ : Sg) (S : List Value) (l0 l1 l2 l3 l5 l6 : Value) (x : Int32), exec d mX6_who 76 [l0, l1, l2, l3, .int x, l5, l6] S σ = exec d mX6_who 78 [l0, l1, l2, l3, .int x, l5, l6] (.int x :: S) σ) ∧
  (∀ (d : Nat) (σ : Sg) (S : List Value) (l0 l1 l2 l3 l4 l5 l6 : Value) (x y : Int32), exec d mX6_who 78 [l0, l1, l2, l3, l4, l5, l6] (.int y :: .int x :: S) σ = if y ≤ x then exec d mX6_who 118 [l0, l1, l2, l3, l4, l5, l6] S σ else exec d mX6_who 81 [l0, l1, l2, l3, l4, l5, l6] S σ) ∧
  (∀ (d : Nat) (σ : Sg) (S : List Value) (l1 l2 l3 l4 l5 l6 : Value) (k : Nat), exec d mX6_who 81 [.ref k, l1, l2, l3, l4, l5, l6] S σ = exec d mX6_who 82 [.ref k, l1, l2, l3, l4, l5, l6] (.ref k :: S) σ) ∧
  (∀ (d : Nat) (σ : Sg) (S : List Value) (l0 l1 l2 l3 l4 l5 l6 : Value), exec d mX6_who 82 [l0, l1, l2, l3, l4, l5, l6] (.ref 0 :: S) σ = exec d mX6_who 85 [l0, l1, l2, l3, l4, l5, l6] (.ref 1 :: S) σ) ∧
  (∀ (d : Nat) (σ : Sg) (S : List Value) (l0 l1 l3 l4 l5 l6 : Value) (x : Int32), exec d mX6_who 85 [l0, l1, .int x, l3, l4, l5, l6] S σ = exec d mX6_who 86 [l0, l1, .int x, l3, l4, l5, l6] (.int x :: S) σ) ∧
  (∀ (d : Nat) (σ : Sg) (S : List Value) (l0 l1 l2 l4 l5 l6 : Value) (x : Int32), exec d mX6_who 86 [l0, l1, l2, .int x, l4, l5, l6] S σ = exec d mX6_who 87 [l0, l1, l2, .int x, l4, l5, l6] (.int x :: S) σ) ∧
  (∀ (d : Nat) (σ : Sg) (S : List Value) (l0 l1 l2 l3 l4 l5 l6 : Value), exec d mX6_who 87 [l0, l1, l2, l3, l4, l5, l6] S σ = exec d mX6_who 88 [l0, l1, l2, l3, l4, l5, l6] (.int (nI 3) :: S) σ) ∧
  (∀ (d : Nat) (σ : Sg) (S : List Value) (l0 l1 l2 l3 l4 l6 : Value) (x : Int32), exec d mX6_who 88 [l0, l1, l2, l3, l4, .int x, l6] S σ = exec d mX6_who 90 [l0, l1, l2, l3, l4, .int x, l6] (.int x :: S) σ) ∧
  (∀ (d : Nat) (σ : Sg) (S : List Value) (l0 l1 l2 l3 l4 l5 l6 : Value) (x y : Int32), exec d mX6_who 90 [l0, l1, l2, l3, l4, l5, l6] (.int y :: .int x :: S) σ = exec d mX6_who 91 [l0, l1, l2, l3, l4, l5, l6] (.int (x * y) :: S) σ) ∧
  (∀ (d : Nat) (σ : Sg) (S : List Value) (l0 l1 l2 l3 l4 l5 l6 : Value) (x y : Int32), exec d mX6_who 91 [l0, l1, l2, l3, l4, l5, l6] (.int y :: .int x :: S) σ = exec d mX6_who 92 [l0, l1, l2, l3, l4, l5, l6] (.int (x + y) :: S) σ) ∧
  (∀ (d : Nat) (σ : Sg) (l0 l1 l2 l3 l4 l5 l6 : Value) (x0 x1 : Int32), exec d mX6_who 92 [l0, l1, l2, l3, l4, l5, l6] [.int x0, .int x1, .ref 1] σ = kb (cal d mX3_item [.ref 1, .int x1, .int x0] σ) (fun rs σ2 => exec d mX6_who 95 [l0, l1, l2, l3, l4, l5, l6] (rs ++ []) σ2)) ∧
  (∀ (d : Nat) (σ : Sg) (S : List Value) (l0 l1 l2 l3 l4 l6 : Value) (x y : Int32), exec d mX6_who 95 [l0, l1, l2, l3, l4, .int y, l6] (.int x :: S) σ = exec d mX6_who 97 [l0, l1, l2, l3, l4, .int y, .int x] S σ) ∧
  (∀ (d : Nat) (σ : Sg) (S : List Value) (l0 l1 l2 l3 l4 l5 : Value) (x : Int32), exec d mX6_who 97 [l0, l1, l2, l3, l4, l5, .int x] S σ = exec d mX6_who 99 [l0, l1, l2, l3, l4, l5, .int x] (.int x :: S) σ) ∧
  (∀ (d : Nat) (σ : Sg) (S : List Value) (l0 l1 l2 l3 l4 l5 l6 : Value) (x : Int32), exec d mX6_who 99 [l0, l1, l2, l3, l4, l5, l6] (.int x :: S) σ = if x < nI 0 then exec d mX6_who 109 [l0, l1, l2, l3, l4, l5, l6] S σ else exec d mX6_who 102 [l0, l1, l2, l3, l4, l5, l6] S σ) ∧
  (∀ (d : Nat) (σ : Sg) (S : List Value) (l0 l1 l2 l3 l4 l5 : Value) (x : Int32), exec d mX6_who 102 [l0, l1, l2, l3, l4, l5, .int x] S σ = exec d mX6_who 104 [l0, l1, l2, l3, l4, l5, .int x] (.int x :: S) σ) ∧
  (∀ (d : Nat) (σ : Sg) (S : List Value) (l0 l1 l2 l3 l4 l5 l6 : Value), exec d mX6_who 104 [l0, l1, l2, l3, l4, l5, l6] S σ = exec d mX6_who 106 [l0, l1, l2, l3, l4, l5, l6] (.int (nI 20) :: S) σ) ∧
  (∀ (d : Nat) (σ : Sg) (S : List Value) (l0 l1 l2 l3 l4 l5 l6 : Value) (x y : Int32), exec d mX6_who 106 [l0, l1, l2, l3, l4, l5, l6] (.int y :: .int x :: S) σ = if x ≤ y then exec d mX6_who 112 [l0, l1, l2, l3, l4, l5, l6] S σ else exec d mX6_who 109 [l0, l1, l2, l3, l4, l5, l6] S σ) ∧
  (∀ (d : Nat) (σ : Sg) (S : List Value) (l0 l1 l2 l3 l4 l5 l6 : Value), exec d mX6_who 109 [l0, l1, l2, l3, l4, l5, l6] S σ = exec d mX6_who 111 [l0, l1, l2, l3, l4, l5, l6] (.int ((-1000001)) :: S) σ) ∧
  (∀ (d : Nat) (σ : Sg) (l0 l1 l2 l3 l4 l5 l6 : Value) (x : Int32), exec d mX6_who 111 [l0, l1, l2, l3, l4, l5, l6] [.int x] σ = some (some (.int x), σ)) ∧
  (∀ (d : Nat) (σ : Sg) (S : List Value) (l0 l1 l2 l3 l6 : Value) (x y : Int32), exec d mX6_who 112 [l0, l1, l2, l3, .int y, .int x, l6] S σ = exec d mX6_who 115 [l0, l1, l2, l3, .int y, .int (x + nI 1), l6] S σ) ∧
  (∀ (d : Nat) (σ : Sg) (S : List Value) (l0 l1 l2 l3 l4 l5 l6 : Value), exec d mX6_who 115 [l0, l1, l2, l3, l4, l5, l6] S σ = exec d mX6_who 74 [l0, l1, l2, l3, l4, l5, l6] S σ) ∧
  (∀ (d : Nat) (σ : Sg) (S : List Value) (l0 l1 l2 l3 l4 l5 l6 : Value), exec d mX6_who 118 [l0, l1, l2, l3, l4, l5, l6] S σ = exec d mX6_who 119 [l0, l1, l2, l3, l4, l5, l6] (.int (nI 0) :: S) σ) ∧
  (∀ (d : Nat) (σ : Sg) (S : List Value) (l0 l1 l2 l3 l5 l6 : Value) (x y : Int32), exec d mX6_who 119 [l0, l1, l2, l3, .int y, l5, l6] (.int x :: S) σ = exec d mX6_who 121 [l0, l1, l2, l3, .int y, .int x, l6] S σ) ∧
  (∀ (d : Nat) (σ : Sg) (S : List Value) (l0 l1 l2 l3 l4 l5 l6 : Value), exec d mX6_who 121 [l0, l1, l2, l3, l4, l5, l6] S σ = exec d mX6_who 122 [l0, l1, l2, l3, l4, l5, l6] (.int (nI 1) :: S) σ) ∧
  (∀ (d : Nat) (σ : Sg) (S : List Value) (l0 l1 l2 l3 l4 l6 : Value) (x y : Int32), exec d mX6_who 122 [l0, l1, l2, l3, l4, .int y, l6] (.int x :: S) σ = exec d mX6_who 124 [l0, l1, l2, l3, l4, .int y, .int x] S σ) ∧
  (∀ (d : Nat) (σ : Sg) (S : List Value) (l0 l1 l2 l3 l4 l5 l6 : Value), exec d mX6_who 126 [l0, l1, l2, l3, l4, l5, l6] S σ = exec d mX6_who 127 [l0, l1, l2, l3, l4, l5, l6] (.int (nI 5) :: S) σ) ∧
  (∀ (d : Nat) (σ : Sg) (S : List Value) (l0 l1 l2 l3 l4 l5 l6 : Value) (x y : Int32), exec d mX6_who 127 [l0, l1, l2, l3, l4, l5, l6] (.int y :: .int x :: S) σ = if y < x then exec d mX6_who 159 [l0, l1, l2, l3, l4, l5, l6] S σ else exec d mX6_who 130 [l0, l1, l2, l3, l4, l5, l6] S σ) ∧
  (∀ (d : Nat) (σ : Sg) (S : List Value) (l1 l2 l3 l4 l5 l6 : Value) (k : Nat), exec d mX6_who 130 [.ref k, l1, l2, l3, l4, l5, l6] S σ = exec d mX6_who 131 [.ref k, l1, l2, l3, l4, l5, l6] (.ref k :: S) σ) ∧
  (∀ (d : Nat) (σ : Sg) (S : List Value) (l0 l2 l3 l4 l5 l6 : Value) (x : Int32), exec d mX6_who 131 [l0, .int x, l2, l3, l4, l5, l6] S σ = exec d mX6_who 132 [l0, .int x, l2, l3, l4, l5, l6] (.int x :: S) σ) ∧
  (∀ (d : Nat) (σ : Sg) (S : List Value) (l0 l1 l2 l3 l4 l5 : Value) (x : Int32), exec d mX6_who 132 [l0, l1, l2, l3, l4, l5, .int x] S σ = exec d mX6_who 134 [l0, l1, l2, l3, l4, l5, .int x] (.int x :: S) σ) ∧
  (∀ (d : Nat) (σ : Sg) (S : List Value) (l0 l1 l3 l4 l5 l6 : Value) (x : Int32), exec d mX6_who 134 [l0, l1, .int x, l3, l4, l5, l6] S σ = exec d mX6_who 135 [l0, l1, .int x, l3, l4, l5, l6] (.int x :: S) σ) ∧
  (∀ (d : Nat) (σ : Sg) (S : List Value) (l0 l1 l2 l4 l5 l6 : Value) (x : Int32), exec d mX6_who 135 [l0, l1, l2, .int x, l4, l5, l6] S σ = exec d mX6_who 136 [l0, l1, l2, .int x, l4, l5, l6] (.int x :: S) σ) ∧
  (∀ (d : Nat) (σ : Sg) (S : List Value) (l0 l1 l2 l3 l5 l6 : Value) (x : Int32), exec d mX6_who 136 [l0, l1, l2, l3, .int x, l5, l6] S σ = exec d mX6_who 138 [l0, l1, l2, l3, .int x, l5, l6] (.int x :: S) σ) ∧
  (∀ (d : Nat) (σ : Sg) (l0 l1 l2 l3 l4 l5 l6 : Value) (x0 x1 x2 x3 x4 : Int32), exec d mX6_who 138 [l0, l1, l2, l3, l4, l5, l6] [.int x0, .int x1, .int x2, .int x3, .int x4, .ref 0] σ = kb (cal d mX6_isTakenAsTold [.ref 0, .int x4, .int x3, .int x2, .int x1, .int x0] σ) (fun rs σ2 => exec d mX6_who 141 [l0, l1, l2, l3, l4, l5, l6] (rs ++ []) σ2)) ∧
  (∀ (d : Nat) (σ : Sg) (S : List Value) (l0 l1 l2 l3 l4 l5 l6 : Value) (x : Int32), exec d mX6_who 141 [l0, l1, l2, l3, l4, l5, l6] (.int x :: S) σ = if x = nI 0 then exec d mX6_who 153 [l0, l1, l2, l3, l4, l5, l6] S σ else exec d mX6_who 144 [l0, l1, l2, l3, l4, l5, l6] S σ) ∧
  (∀ (d : Nat) (σ : Sg) (S : List Value) (l0 l1 l2 l3 l4 l6 : Value) (x : Int32), exec d mX6_who 144 [l0, l1, l2, l3, l4, .int x, l6] S σ = exec d mX6_who 146 [l0, l1, l2, l3, l4, .int x, l6] (.int x :: S) σ) ∧
  (∀ (d : Nat) (σ : Sg) (S : List Value) (l0 l1 l2 l3 l4 l5 l6 : Value), exec d mX6_who 146 [l0, l1, l2, l3, l4, l5, l6] S σ = exec d mX6_who 147 [l0, l1, l2, l3, l4, l5, l6] (.int (nI 1) :: S) σ) ∧
  (∀ (d : Nat) (σ : Sg) (S : List Value) (l0 l1 l2 l3 l4 l5 : Value) (x : Int32), exec d mX6_who 147 [l0, l1, l2, l3, l4, l5, .int x] S σ = exec d mX6_who 149 [l0, l1, l2, l3, l4, l5, .int x] (.int x :: S) σ) ∧
  (∀ (d : Nat) (σ : Sg) (S : List Value) (l0 l1 l2 l3 l4 l5 l6 : Value) (x y : Int32), exec d mX6_who 149 [l0, l1, l2, l3, l4, l5, l6] (.int y :: .int x :: S) σ = exec d mX6_who 150 [l0, l1, l2, l3, l4, l5, l6] (.int (x <<< (y &&& 31)) :: S) σ) ∧
  (∀ (d : Nat) (σ : Sg) (S : List Value) (l0 l1 l2 l3 l4 l5 l6 : Value) (x y : Int32), exec d mX6_who 150 [l0, l1, l2, l3, l4, l5, l6] (.int y :: .int x :: S) σ = exec d mX6_who 151 [l0, l1, l2, l3, l4, l5, l6] (.int (x ||| y) :: S) σ) :=
  ⟨fun d σ S l0 l1 l2 l3 l5 l6 x => ex_iload (show decode mX6_who.2.1 76 = .ok (.iload 4, 2) by decide +kernel) rfl,
  fun d σ S l0 l1 l2 l3 l4 l5 l6 x y => ex_cge (show decode mX6_who.2.1 78 = .ok (.if_icmp .ge 40, 3) by decide +kernel) (by decide),
  fun d σ S l1 l2 l3 l4 l5 l6 k => ex_aload_n (show decode mX6_who.2.1 81 = .ok (.aload_n 0, 1) by decide +kernel) rfl,
  fun d σ S l0 l1 l2 l3 l4 l5 l6 => ex_getr (idx := 10) (ci := 6) (ff := 0) (n := 11) (hh := 346) (by decide +kernel),
  fun d σ S l0 l1 l3 l4 l5 l6 x => ex_iload_n (show decode mX6_who.2.1 85 = .ok (.iload_n 2, 1) by decide +kernel) rfl,
  fun d σ S l0 l1 l2 l4 l5 l6 x => ex_iload_n (show decode mX6_who.2.1 86 = .ok (.iload_n 3, 1) by decide +kernel) rfl,
  fun d σ S l0 l1 l2 l3 l4 l5 l6 => ex_iconst (show decode mX6_who.2.1 87 = .ok (.iconst 3, 1) by decide +kernel) (by decide +kernel),
  fun d σ S l0 l1 l2 l3 l4 l6 x => ex_iload (show decode mX6_who.2.1 88 = .ok (.iload 5, 2) by decide +kernel) rfl,
  fun d σ S l0 l1 l2 l3 l4 l5 l6 x y => ex_imul (show decode mX6_who.2.1 90 = .ok (.imul, 1) by decide +kernel),
  fun d σ S l0 l1 l2 l3 l4 l5 l6 x y => ex_iadd (show decode mX6_who.2.1 91 = .ok (.iadd, 1) by decide +kernel),
  fun d σ l0 l1 l2 l3 l4 l5 l6 x0 x1 => ex_iv (hs := [707, 709, 44, 710, 95]) (show decode mX6_who.2.1 92 = .ok (.invokevirtual 263, 3) by decide +kernel) lkV_6_263 ⟨rfl, Nat.le_of_ble_eq_true rfl, Nat.le_of_ble_eq_true rfl, fun _ => rfl⟩ rfl rfl,
  fun d σ S l0 l1 l2 l3 l4 l6 x y => ex_istore (show decode mX6_who.2.1 95 = .ok (.istore 6, 2) by decide +kernel) (Nat.le_of_ble_eq_true rfl) rfl,
  fun d σ S l0 l1 l2 l3 l4 l5 x => ex_iload (show decode mX6_who.2.1 97 = .ok (.iload 6, 2) by decide +kernel) rfl,
  fun d σ S l0 l1 l2 l3 l4 l5 l6 x => ex_zlt (show decode mX6_who.2.1 99 = .ok (.ifCond .lt 10, 3) by decide +kernel) (by decide),
  fun d σ S l0 l1 l2 l3 l4 l5 x => ex_iload (show decode mX6_who.2.1 102 = .ok (.iload 6, 2) by decide +kernel) rfl,
  fun d σ S l0 l1 l2 l3 l4 l5 l6 => ex_bipush (show decode mX6_who.2.1 104 = .ok (.bipush 20, 2) by decide +kernel) (by decide +kernel),
  fun d σ S l0 l1 l2 l3 l4 l5 l6 x y => ex_cle (show decode mX6_who.2.1 106 = .ok (.if_icmp .le 6, 3) by decide +kernel) (by decide),
  fun d σ S l0 l1 l2 l3 l4 l5 l6 => ex_ldc (hh := 387) (show decode mX6_who.2.1 109 = .ok (.ldc 64, 2) by decide +kernel) (by decide +kernel),
  fun d σ l0 l1 l2 l3 l4 l5 l6 x => ex_iret (show decode mX6_who.2.1 111 = .ok (.ireturn, 1) by decide +kernel) rfl,
  fun d σ S l0 l1 l2 l3 l6 x y => ex_iinc (show decode mX6_who.2.1 112 = .ok (.iinc 5 1, 3) by decide +kernel) rfl (by decide +kernel) (Nat.le_of_ble_eq_true rfl) rfl,
  fun d σ S l0 l1 l2 l3 l4 l5 l6 => ex_goto (show decode mX6_who.2.1 115 = .ok (.goto (-41), 3) by decide +kernel) (by decide),
  fun d σ S l0 l1 l2 l3 l4 l5 l6 => ex_iconst (show decode mX6_who.2.1 118 = .ok (.iconst 0, 1) by decide +kernel) (by decide +kernel),
  fun d σ S l0 l1 l2 l3 l5 l6 x y => ex_istore (show decode mX6_who.2.1 119 = .ok (.istore 5, 2) by decide +kernel) (Nat.le_of_ble_eq_true rfl) rfl,
  fun d σ S l0 l1 l2 l3 l4 l5 l6 => ex_iconst (show decode mX6_who.2.1 121 = .ok (.iconst 1, 1) by decide +kernel) (by decide +kernel),
  fun d σ S l0 l1 l2 l3 l4 l6 x y => ex_istore (show decode mX6_who.2.1 122 = .ok (.istore 6, 2) by decide +kernel) (Nat.le_of_ble_eq_true rfl) rfl,
  fun d σ S l0 l1 l2 l3 l4 l5 l6 => ex_iconst (show decode mX6_who.2.1 126 = .ok (.iconst 5, 1) by decide +kernel) (by decide +kernel),
  fun d σ S l0 l1 l2 l3 l4 l5 l6 x y => ex_cgt (show decode mX6_who.2.1 127 = .ok (.if_icmp .gt 32, 3) by decide +kernel) (by decide),
  fun d σ S l1 l2 l3 l4 l5 l6 k => ex_aload_n (show decode mX6_who.2.1 130 = .ok (.aload_n 0, 1) by decide +kernel) rfl,
  fun d σ S l0 l2 l3 l4 l5 l6 x => ex_iload_n (show decode mX6_who.2.1 131 = .ok (.iload_n 1, 1) by decide +kernel) rfl,
  fun d σ S l0 l1 l2 l3 l4 l5 x => ex_iload (show decode mX6_who.2.1 132 = .ok (.iload 6, 2) by decide +kernel) rfl,
  fun d σ S l0 l1 l3 l4 l5 l6 x => ex_iload_n (show decode mX6_who.2.1 134 = .ok (.iload_n 2, 1) by decide +kernel) rfl,
  fun d σ S l0 l1 l2 l4 l5 l6 x => ex_iload_n (show decode mX6_who.2.1 135 = .ok (.iload_n 3, 1) by decide +kernel) rfl,
  fun d σ S l0 l1 l2 l3 l5 l6 x => ex_iload (show decode mX6_who.2.1 136 = .ok (.iload 4, 2) by decide +kernel) rfl,
  fun d σ l0 l1 l2 l3 l4 l5 l6 x0 x1 x2 x3 x4 => ex_iv (hs := [726, 728, 46, 729, 94]) (show decode mX6_who.2.1 138 = .ok (.invokevirtual 270, 3) by decide +kernel) lkV_6_270 ⟨rfl, Nat.le_of_ble_eq_true rfl, Nat.le_of_ble_eq_true rfl, fun _ => rfl⟩ rfl rfl,
  fun d σ S l0 l1 l2 l3 l4 l5 l6 x => ex_zeq (show decode mX6_who.2.1 141 = .ok (.ifCond .eq 12, 3) by decide +kernel) (by decide),
  fun d σ S l0 l1 l2 l3 l4 l6 x => ex_iload (show decode mX6_who.2.1 144 = .ok (.iload 5, 2) by decide +kernel) rfl,
  fun d σ S l0 l1 l2 l3 l4 l5 l6 => ex_iconst (show decode mX6_who.2.1 146 = .ok (.iconst 1, 1) by decide +kernel) (by decide +kernel),
  fun d σ S l0 l1 l2 l3 l4 l5 x => ex_iload (show decode mX6_who.2.1 147 = .ok (.iload 6, 2) by decide +kernel) rfl,
  fun d σ S l0 l1 l2 l3 l4 l5 l6 x y => ex_ishl (show decode mX6_who.2.1 149 = .ok (.ishl, 1) by decide +kernel),
  fun d σ S l0 l1 l2 l3 l4 l5 l6 x y => ex_ior (show decode mX6_who.2.1 150 = .ok (.ior, 1) by decide +kernel)⟩
theorem kX6_who_2 : (∀ (d : Nat) (σ : Sg) (S : List Value) (l0 l1 l2 l3 l5 l6 : Value) (x y : Int32), exec d mX6_who 151 [l0, l1, l2, l3, .int y, l5, l6] (.int x :: S) σ = exec d mX6_who 153 [l0, l1, l2, l3, .int y, .int x, l6] S σ) ∧
  (∀ (d : Nat) (σ : Sg) (S : List Value) (l0 l1 l2 l3 l4 : Value) (x y : Int32), exec d mX6_who 153 [l0, l1, l2, l3, l4, .int y, .int x] S σ = exec d mX6_who 156 [l0, l1, l2, l3, l4, .int y, .int (x + nI 1)] S σ) ∧
  (∀ (d : Nat) (σ : Sg) (S : List Value) (l0 l1 l2 l3 l4 l5 l6 : Value), exec d mX6_who 156 [l0, l1, l2, l3, l4, l5, l6] S σ = exec d mX6_who 124 [l0, l1, l2, l3, l4, l5, l6] S σ) ∧
  (∀ (d : Nat) (σ : Sg) (S : List Value) (l1 l2 l3 l4 l5 l6 : Value) (k : Nat), exec d mX6_who 159 [.ref k, l1, l2, l3, l4, l5, l6] S σ = exec d mX6_who 160 [.ref k, l1, l2, l3, l4, l5, l6] (.ref k :: S) σ) ∧
  (∀ (d : Nat) (σ : Sg) (S : List Value) (l0 l1 l2 l3 l4 l6 : Value) (x : Int32), exec d mX6_who 160 [l0, l1, l2, l3, l4, .int x, l6] S σ = exec d mX6_who 162 [l0, l1, l2, l3, l4, .int x, l6] (.int x :: S) σ) ∧
  (∀ (d : Nat) (σ : Sg) (l0 l1 l2 l3 l4 l5 l6 : Value) (x0 : Int32), exec d mX6_who 162 [l0, l1, l2, l3, l4, l5, l6] [.int x0, .ref 0] σ = kb (cal d mX6_clean [.ref 0, .int x0] σ) (fun rs σ2 => exec d mX6_who 165 [l0, l1, l2, l3, l4, l5, l6] (rs ++ []) σ2)) ∧
  (∀ (d : Nat) (σ : Sg) (l0 l1 l2 l3 l4 l5 l6 : Value) (x : Int32), exec d mX6_who 165 [l0, l1, l2, l3, l4, l5, l6] [.int x] σ = some (some (.int x), σ)) :=
  ⟨fun d σ S l0 l1 l2 l3 l5 l6 x y => ex_istore (show decode mX6_who.2.1 151 = .ok (.istore 5, 2) by decide +kernel) (Nat.le_of_ble_eq_true rfl) rfl,
  fun d σ S l0 l1 l2 l3 l4 x y => ex_iinc (show decode mX6_who.2.1 153 = .ok (.iinc 6 1, 3) by decide +kernel) rfl (by decide +kernel) (Nat.le_of_ble_eq_true rfl) rfl,
  fun d σ S l0 l1 l2 l3 l4 l5 l6 => ex_goto (show decode mX6_who.2.1 156 = .ok (.goto (-32), 3) by decide +kernel) (by decide),
  fun d σ S l1 l2 l3 l4 l5 l6 k => ex_aload_n (show decode mX6_who.2.1 159 = .ok (.aload_n 0, 1) by decide +kernel) rfl,
  fun d σ S l0 l1 l2 l3 l4 l6 x => ex_iload (show decode mX6_who.2.1 160 = .ok (.iload 5, 2) by decide +kernel) rfl,
  fun d σ l0 l1 l2 l3 l4 l5 l6 x0 => ex_iv (hs := [397, 399, 2, 400, 94]) (show decode mX6_who.2.1 162 = .ok (.invokevirtual 73, 3) by decide +kernel) lkV_6_73 ⟨rfl, Nat.le_of_ble_eq_true rfl, Nat.le_of_ble_eq_true rfl, fun _ => rfl⟩ rfl rfl,
  fun d σ l0 l1 l2 l3 l4 l5 l6 x => ex_iret (show decode mX6_who.2.1 165 = .ok (.ireturn, 1) by decide +kernel) rfl⟩
theorem hX6_who_74 : ∀ (d : Nat) (σ : Sg) (S : List Value) (l0 l1 l2 l3 l4 l6 : Value) (x : Int32), exec d mX6_who 74 [l0, l1, l2, l3, l4, .int x, l6] S σ = exec d mX6_who 76 [l0, l1, l2, l3, l4, .int x, l6] (.int x :: S) σ := fun d σ S l0 l1 l2 l3 l4 l6 x => ex_iload (show decode mX6_who.2.1 74 = .ok (.iload 5, 2) by decide +kernel) rfl
theorem hX6_who_124 : ∀ (d : Nat) (σ : Sg) (S : List Value) (l0 l1 l2 l3 l4 l5 : Value) (x : Int32), exec d mX6_who 124 [l0, l1, l2, l3, l4, l5, .int x] S σ = exec d mX6_who 126 [l0, l1, l2, l3, l4, l5, .int x] (.int x :: S) σ := fun d σ S l0 l1 l2 l3 l4 l5 x => ex_iload (show decode mX6_who.2.1 124 = .ok (.iload 6, 2) by decide +kernel) rfl
theorem aX6_who_0 : ∀ (d : Nat) (a1 : Int32) (a2 : Int32) (a3 : Int32) (a4 : Int32) (σ : Sg), cal (d + 1) mX6_who [.ref 0, .int a1, .int a2, .int a3, .int a4] σ = exec d mX6_who 0 [.ref 0, .int a1, .int a2, .int a3, .int a4, uu, uu] [] σ := fun _ _ _ _ _ _ => rfl
theorem kX6_err_0 : (∀ (d : Nat) (σ : Sg) (S : List Value) (l1 l2 l3 l4 l5 l6 l7 l8 l9 : Value) (k : Nat), exec d mX6_err 0 [.ref k, l1, l2, l3, l4, l5, l6, l7, l8, l9] S σ = exec d mX6_err 1 [.ref k, l1, l2, l3, l4, l5, l6, l7, l8, l9] (.ref k :: S) σ) ∧
  (∀ (d : Nat) (σ : Sg) (S : List Value) (l0 l1 l2 l3 l4 l5 l6 l7 l8 l9 : Value), exec d mX6_err 1 [l0, l1, l2, l3, l4, l5, l6, l7, l8, l9] (.ref 0 :: S) σ = exec d mX6_err 4 [l0, l1, l2, l3, l4, l5, l6, l7, l8, l9] (.ref 8 :: S) σ) ∧
  (∀ (d : Nat) (σ : Sg) (S : List Value) (l0 l1 l2 l3 l4 l5 l6 l7 l8 l9 : Value), exec d mX6_err 4 [l0, l1, l2, l3, l4, l5, l6, l7, l8, l9] (.ref 8 :: S) σ = exec d mX6_err 7 [l0, l1, l2, l3, l4, l5, l6, l7, l8, l9] (.int (σ 8 0) :: S) σ) ∧
  (∀ (d : Nat) (σ : Sg) (S : List Value) (l0 l1 l2 l3 l4 l5 l6 l7 l8 l9 : Value) (x : Int32), exec d mX6_err 7 [l0, l1, l2, l3, l4, l5, l6, l7, l8, l9] (.int x :: S) σ = if x = nI 0 then exec d mX6_err 10 [l0, l1, l2, l3, l4, l5, l6, l7, l8, l9] S σ else exec d mX6_err 14 [l0, l1, l2, l3, l4, l5, l6, l7, l8, l9] S σ) ∧
  (∀ (d : Nat) (σ : Sg) (S : List Value) (l0 l1 l2 l3 l4 l5 l6 l7 l8 l9 : Value), exec d mX6_err 10 [l0, l1, l2, l3, l4, l5, l6, l7, l8, l9] S σ = exec d mX6_err 13 [l0, l1, l2, l3, l4, l5, l6, l7, l8, l9] (.long ((-1000002)) :: S) σ) ∧
  (∀ (d : Nat) (σ : Sg) (l0 l1 l2 l3 l4 l5 l6 l7 l8 l9 : Value) (x : Int64), exec d mX6_err 13 [l0, l1, l2, l3, l4, l5, l6, l7, l8, l9] [.long x] σ = some (some (.long x), σ)) ∧
  (∀ (d : Nat) (σ : Sg) (S : List Value) (l0 l2 l3 l4 l5 l6 l7 l8 l9 : Value) (x : Int32), exec d mX6_err 14 [l0, .int x, l2, l3, l4, l5, l6, l7, l8, l9] S σ = exec d mX6_err 15 [l0, .int x, l2, l3, l4, l5, l6, l7, l8, l9] (.int x :: S) σ) ∧
  (∀ (d : Nat) (σ : Sg) (S : List Value) (l0 l1 l2 l3 l4 l5 l6 l7 l8 l9 : Value) (x : Int32), exec d mX6_err 15 [l0, l1, l2, l3, l4, l5, l6, l7, l8, l9] (.int x :: S) σ = if x < nI 0 then exec d mX6_err 31 [l0, l1, l2, l3, l4, l5, l6, l7, l8, l9] S σ else exec d mX6_err 18 [l0, l1, l2, l3, l4, l5, l6, l7, l8, l9] S σ) ∧
  (∀ (d : Nat) (σ : Sg) (S : List Value) (l0 l2 l3 l4 l5 l6 l7 l8 l9 : Value) (x : Int32), exec d mX6_err 18 [l0, .int x, l2, l3, l4, l5, l6, l7, l8, l9] S σ = exec d mX6_err 19 [l0, .int x, l2, l3, l4, l5, l6, l7, l8, l9] (.int x :: S) σ) ∧
  (∀ (d : Nat) (σ : Sg) (S : List Value) (l0 l1 l2 l3 l4 l5 l6 l7 l8 l9 : Value), exec d mX6_err 19 [l0, l1, l2, l3, l4, l5, l6, l7, l8, l9] S σ = exec d mX6_err 21 [l0, l1, l2, l3, l4, l5, l6, l7, l8, l9] (.int (nI 10) :: S) σ) ∧
  (∀ (d : Nat) (σ : Sg) (S : List Value) (l0 l1 l2 l3 l4 l5 l6 l7 l8 l9 : Value) (x y : Int32), exec d mX6_err 21 [l0, l1, l2, l3, l4, l5, l6, l7, l8, l9] (.int y :: .int x :: S) σ = if y < x then exec d mX6_err 31 [l0, l1, l2, l3, l4, l5, l6, l7, l8, l9] S σ else exec d mX6_err 24 [l0, l1, l2, l3, l4, l5, l6, l7, l8, l9] S σ) ∧
  (∀ (d : Nat) (σ : Sg) (S : List Value) (l0 l1 l3 l4 l5 l6 l7 l8 l9 : Value) (x : Int32), exec d mX6_err 24 [l0, l1, .int x, l3, l4, l5, l6, l7, l8, l9] S σ = exec d mX6_err 25 [l0, l1, .int x, l3, l4, l5, l6, l7, l8, l9] (.int x :: S) σ) ∧
  (∀ (d : Nat) (σ : Sg) (l0 l1 l2 l3 l4 l5 l6 l7 l8 l9 : Value) (x0 : Int32), exec d mX6_err 25 [l0, l1, l2, l3, l4, l5, l6, l7, l8, l9] [.int x0] σ = kb (cal d mX6_isOneOfTwo [.int x0] σ) (fun rs σ2 => exec d mX6_err 28 [l0, l1, l2, l3, l4, l5, l6, l7, l8, l9] (rs ++ []) σ2)) ∧
  (∀ (d : Nat) (σ : Sg) (S : List Value) (l0 l1 l2 l3 l4 l5 l6 l7 l8 l9 : Value) (x : Int32), exec d mX6_err 28 [l0, l1, l2, l3, l4, l5, l6, l7, l8, l9] (.int x :: S) σ = if x = nI 0 then exec d mX6_err 31 [l0, l1, l2, l3, l4, l5, l6, l7, l8, l9] S σ else exec d mX6_err 35 [l0, l1, l2, l3, l4, l5, l6, l7, l8, l9] S σ) ∧
  (∀ (d : Nat) (σ : Sg) (S : List Value) (l0 l1 l2 l3 l4 l5 l6 l7 l8 l9 : Value), exec d mX6_err 31 [l0, l1, l2, l3, l4, l5, l6, l7, l8, l9] S σ = exec d mX6_err 34 [l0, l1, l2, l3, l4, l5, l6, l7, l8, l9] (.long ((-1000001)) :: S) σ) ∧
  (∀ (d : Nat) (σ : Sg) (l0 l1 l2 l3 l4 l5 l6 l7 l8 l9 : Value) (x : Int64), exec d mX6_err 34 [l0, l1, l2, l3, l4, l5, l6, l7, l8, l9] [.long x] σ = some (some (.long x), σ)) ∧
  (∀ (d : Nat) (σ : Sg) (S : List Value) (l1 l2 l3 l4 l5 l6 l7 l8 l9 : Value) (k : Nat), exec d mX6_err 35 [.ref k, l1, l2, l3, l4, l5, l6, l7, l8, l9] S σ = exec d mX6_err 36 [.ref k, l1, l2, l3, l4, l5, l6, l7, l8, l9] (.ref k :: S) σ) ∧
  (∀ (d : Nat) (σ : Sg) (S : List Value) (l0 l1 l2 l3 l4 l5 l6 l7 l8 l9 : Value), exec d mX6_err 36 [l0, l1, l2, l3, l4, l5, l6, l7, l8, l9] (.ref 0 :: S) σ = exec d mX6_err 39 [l0, l1, l2, l3, l4, l5, l6, l7, l8, l9] (.ref 8 :: S) σ) ∧
  (∀ (d : Nat) (σ : Sg) (S : List Value) (l1 l2 l3 l4 l5 l6 l7 l8 l9 : Value) (k : Nat), exec d mX6_err 39 [.ref k, l1, l2, l3, l4, l5, l6, l7, l8, l9] S σ = exec d mX6_err 40 [.ref k, l1, l2, l3, l4, l5, l6, l7, l8, l9] (.ref k :: S) σ) ∧
  (∀ (d : Nat) (σ : Sg) (S : List Value) (l0 l1 l2 l3 l4 l5 l6 l7 l8 l9 : Value), exec d mX6_err 40 [l0, l1, l2, l3, l4, l5, l6, l7, l8, l9] (.ref 0 :: S) σ = exec d mX6_err 43 [l0, l1, l2, l3, l4, l5, l6, l7, l8, l9] (.ref 8 :: S) σ) ∧
  (∀ (d : Nat) (σ : Sg) (S : List Value) (l0 l1 l2 l3 l4 l5 l6 l7 l8 l9 : Value), exec d mX6_err 43 [l0, l1, l2, l3, l4, l5, l6, l7, l8, l9] (.ref 8 :: S) σ = exec d mX6_err 46 [l0, l1, l2, l3, l4, l5, l6, l7, l8, l9] (.int (σ 8 7) :: S) σ) ∧
  (∀ (d : Nat) (σ : Sg) (S : List Value) (l1 l2 l3 l4 l5 l6 l7 l8 l9 : Value) (k : Nat), exec d mX6_err 46 [.ref k, l1, l2, l3, l4, l5, l6, l7, l8, l9] S σ = exec d mX6_err 47 [.ref k, l1, l2, l3, l4, l5, l6, l7, l8, l9] (.ref k :: S) σ) ∧
  (∀ (d : Nat) (σ : Sg) (S : List Value) (l0 l1 l2 l3 l4 l5 l6 l7 l8 l9 : Value), exec d mX6_err 47 [l0, l1, l2, l3, l4, l5, l6, l7, l8, l9] (.ref 0 :: S) σ = exec d mX6_err 50 [l0, l1, l2, l3, l4, l5, l6, l7, l8, l9] (.ref 8 :: S) σ) ∧
  (∀ (d : Nat) (σ : Sg) (S : List Value) (l0 l1 l2 l3 l4 l5 l6 l7 l8 l9 : Value), exec d mX6_err 50 [l0, l1, l2, l3, l4, l5, l6, l7, l8, l9] (.ref 8 :: S) σ = exec d mX6_err 53 [l0, l1, l2, l3, l4, l5, l6, l7, l8, l9] (.int (σ 8 8) :: S) σ) ∧
  (∀ (d : Nat) (σ : Sg) (l0 l1 l2 l3 l4 l5 l6 l7 l8 l9 : Value) (x0 x1 : Int32), exec d mX6_err 53 [l0, l1, l2, l3, l4, l5, l6, l7, l8, l9] [.int x0, .int x1, .ref 8] σ = kb (cal d mX5_votes [.ref 8, .int x1, .int x0] σ) (fun rs σ2 => exec d mX6_err 56 [l0, l1, l2, l3, l4, l5, l6, l7, l8, l9] (rs ++ []) σ2)) ∧
  (∀ (d : Nat) (σ : Sg) (S : List Value) (l0 l1 l3 l4 l5 l6 l7 l8 l9 : Value) (x y : Int32), exec d mX6_err 56 [l0, l1, .int y, l3, l4, l5, l6, l7, l8, l9] (.int x :: S) σ = exec d mX6_err 57 [l0, l1, .int y, .int x, l4, l5, l6, l7, l8, l9] S σ) ∧
  (∀ (d : Nat) (σ : Sg) (S : List Value) (l0 l1 l2 l3 l4 l5 l6 l7 l8 l9 : Value), exec d mX6_err 57 [l0, l1, l2, l3, l4, l5, l6, l7, l8, l9] S σ = exec d mX6_err 58 [l0, l1, l2, l3, l4, l5, l6, l7, l8, l9] (.long (lN 0) :: S) σ) ∧
  (∀ (d : Nat) (σ : Sg) (S : List Value) (l0 l1 l2 l4 l5 l6 l7 l8 l9 : Value) (y : Int32) (x : Int64), exec d mX6_err 58 [l0, l1, l2, .int y, l4, l5, l6, l7, l8, l9] (.long x :: S) σ = exec d mX6_err 60 [l0, l1, l2, .int y, .long x, uu, l6, l7, l8, l9] S σ) ∧
  (∀ (d : Nat) (σ : Sg) (S : List Value) (l0 l1 l2 l3 l4 l5 l6 l7 l8 l9 : Value), exec d mX6_err 60 [l0, l1, l2, l3, l4, l5, l6, l7, l8, l9] S σ = exec d mX6_err 61 [l0, l1, l2, l3, l4, l5, l6, l7, l8, l9] (.long (lN 1) :: S) σ) ∧
  (∀ (d : Nat) (σ : Sg) (S : List Value) (l0 l1 l2 l3 l4 l6 l7 l8 l9 : Value) (x : Int64), exec d mX6_err 61 [l0, l1, l2, l3, l4, uu, l6, l7, l8, l9] (.long x :: S) σ = exec d mX6_err 63 [l0, l1, l2, l3, l4, uu, .long x, uu, l8, l9] S σ) ∧
  (∀ (d : Nat) (σ : Sg) (S : List Value) (l0 l1 l2 l3 l4 l5 l6 l7 l8 l9 : Value), exec d mX6_err 63 [l0, l1, l2, l3, l4, l5, l6, l7, l8, l9] S σ = exec d mX6_err 64 [l0, l1, l2, l3, l4, l5, l6, l7, l8, l9] (.int (nI 0) :: S) σ) ∧
  (∀ (d : Nat) (σ : Sg) (S : List Value) (l0 l1 l2 l3 l4 l5 l6 l8 l9 : Value) (x : Int32), exec d mX6_err 64 [l0, l1, l2, l3, l4, l5, l6, uu, l8, l9] (.int x :: S) σ = exec d mX6_err 66 [l0, l1, l2, l3, l4, l5, l6, uu, .int x, l9] S σ) ∧
  (∀ (d : Nat) (σ : Sg) (S : List Value) (l1 l2 l3 l4 l5 l6 l7 l8 l9 : Value) (k : Nat), exec d mX6_err 68 [.ref k, l1, l2, l3, l4, l5, l6, l7, l8, l9] S σ = exec d mX6_err 69 [.ref k, l1, l2, l3, l4, l5, l6, l7, l8, l9] (.ref k :: S) σ) ∧
  (∀ (d : Nat) (σ : Sg) (S : List Value) (l0 l1 l2 l3 l4 l5 l6 l7 l8 l9 : Value), exec d mX6_err 69 [l0, l1, l2, l3, l4, l5, l6, l7, l8, l9] (.ref 0 :: S) σ = exec d mX6_err 72 [l0, l1, l2, l3, l4, l5, l6, l7, l8, l9] (.ref 8 :: S) σ) ∧
  (∀ (d : Nat) (σ : Sg) (S : List Value) (l0 l1 l2 l3 l4 l5 l6 l7 l8 l9 : Value), exec d mX6_err 72 [l0, l1, l2, l3, l4, l5, l6, l7, l8, l9] (.ref 8 :: S) σ = exec d mX6_err 75 [l0, l1, l2, l3, l4, l5, l6, l7, l8, l9] (.int (σ 8 5) :: S) σ) ∧
  (∀ (d : Nat) (σ : Sg) (S : List Value) (l0 l1 l2 l3 l4 l5 l6 l7 l8 l9 : Value) (x y : Int32), exec d mX6_err 75 [l0, l1, l2, l3, l4, l5, l6, l7, l8, l9] (.int y :: .int x :: S) σ = if y ≤ x then exec d mX6_err 92 [l0, l1, l2, l3, l4, l5, l6, l7, l8, l9] S σ else exec d mX6_err 78 [l0, l1, l2, l3, l4, l5, l6, l7, l8, l9] S σ) ∧
  (∀ (d : Nat) (σ : Sg) (S : List Value) (l0 l1 l2 l3 l4 l5 l7 l8 l9 : Value) (x : Int64), exec d mX6_err 78 [l0, l1, l2, l3, l4, l5, .long x, l7, l8, l9] S σ = exec d mX6_err 80 [l0, l1, l2, l3, l4, l5, .long x, l7, l8, l9] (.long x :: S) σ) ∧
  (∀ (d : Nat) (σ : Sg) (S : List Value) (l0 l1 l2 l3 l4 l5 l6 l7 l8 l9 : Value), exec d mX6_err 80 [l0, l1, l2, l3, l4, l5, l6, l7, l8, l9] S σ = exec d mX6_err 83 [l0, l1, l2, l3, l4, l5, l6, l7, l8, l9] (.long (lN 10) :: S) σ) ∧
  (∀ (d : Nat) (σ : Sg) (S : List Value) (l0 l1 l2 l3 l4 l5 l6 l7 l8 l9 : Value) (x y : Int64), exec d mX6_err 83 [l0, l1, l2, l3, l4, l5, l6, l7, l8, l9] (.long y :: .long x :: S) σ = exec d mX6_err 84 [l0, l1, l2, l3, l4, l5, l6, l7, l8, l9] (.long (x * y) :: S) σ) ∧
  (∀ (d : Nat) (σ : Sg) (S : List Value) (l0 l1 l2 l3 l4 l6 l7 l8 l9 : Value) (x : Int64), exec d mX6_err 84 [l0, l1, l2, l3, l4, uu, l6, l7, l8, l9] (.long x :: S) σ = exec d mX6_err 86 [l0, l1, l2, l3, l4, uu, .long x, uu, l8, l9] S σ) :=
  ⟨fun d σ S l1 l2 l3 l4 l5 l6 l7 l8 l9 k => ex_aload_n (show decode mX6_err.2.1 0 = .ok (.aload_n 0, 1) by decide +kernel) rfl,
  fun d σ S l0 l1 l2 l3 l4 l5 l6 l7 l8 l9 => ex_getr (idx := 26) (ci := 6) (ff := 2) (n := 11) (hh := 348) (by decide +kernel),
  fun d σ S l0 l1 l2 l3 l4 l5 l6 l7 l8 l9 => ex_get (idx := 176) (ci := 5) (ff := 0) (n := 17) (hh := 182) (by decide +kernel),
  fun d σ S l0 l1 l2 l3 l4 l5 l6 l7 l8 l9 x => ex_zne (show decode mX6_err.2.1 7 = .ok (.ifCond .ne 7, 3) by decide +kernel) (by decide),
  fun d σ S l0 l1 l2 l3 l4 l5 l6 l7 l8 l9 => ex_ldc2 (hh := 734) (show decode mX6_err.2.1 10 = .ok (.ldc2_w 274, 3) by decide +kernel) (by decide +kernel),
  fun d σ l0 l1 l2 l3 l4 l5 l6 l7 l8 l9 x => ex_lret (show decode mX6_err.2.1 13 = .ok (.lreturn, 1) by decide +kernel) rfl,
  fun d σ S l0 l2 l3 l4 l5 l6 l7 l8 l9 x => ex_iload_n (show decode mX6_err.2.1 14 = .ok (.iload_n 1, 1) by decide +kernel) rfl,
  fun d σ S l0 l1 l2 l3 l4 l5 l6 l7 l8 l9 x => ex_zlt (show decode mX6_err.2.1 15 = .ok (.ifCond .lt 16, 3) by decide +kernel) (by decide),
  fun d σ S l0 l2 l3 l4 l5 l6 l7 l8 l9 x => ex_iload_n (show decode mX6_err.2.1 18 = .ok (.iload_n 1, 1) by decide +kernel) rfl,
  fun d σ S l0 l1 l2 l3 l4 l5 l6 l7 l8 l9 => ex_bipush (show decode mX6_err.2.1 19 = .ok (.bipush 10, 2) by decide +kernel) (by decide +kernel),
  fun d σ S l0 l1 l2 l3 l4 l5 l6 l7 l8 l9 x y => ex_cgt (show decode mX6_err.2.1 21 = .ok (.if_icmp .gt 10, 3) by decide +kernel) (by decide),
  fun d σ S l0 l1 l3 l4 l5 l6 l7 l8 l9 x => ex_iload_n (show decode mX6_err.2.1 24 = .ok (.iload_n 2, 1) by decide +kernel) rfl,
  fun d σ l0 l1 l2 l3 l4 l5 l6 l7 l8 l9 x0 => ex_is (hs := [669, 670, 671, 94]) (show decode mX6_err.2.1 25 = .ok (.invokestatic 239, 3) by decide +kernel) lkS_6_239 ⟨rfl, Nat.le_of_ble_eq_true rfl, Nat.le_of_ble_eq_true rfl, fun q => nomatch q⟩ rfl rfl,
  fun d σ S l0 l1 l2 l3 l4 l5 l6 l7 l8 l9 x => ex_zne (show decode mX6_err.2.1 28 = .ok (.ifCond .ne 7, 3) by decide +kernel) (by decide),
  fun d σ S l0 l1 l2 l3 l4 l5 l6 l7 l8 l9 => ex_ldc2 (hh := 735) (show decode mX6_err.2.1 31 = .ok (.ldc2_w 276, 3) by decide +kernel) (by decide +kernel),
  fun d σ l0 l1 l2 l3 l4 l5 l6 l7 l8 l9 x => ex_lret (show decode mX6_err.2.1 34 = .ok (.lreturn, 1) by decide +kernel) rfl,
  fun d σ S l1 l2 l3 l4 l5 l6 l7 l8 l9 k => ex_aload_n (show decode mX6_err.2.1 35 = .ok (.aload_n 0, 1) by decide +kernel) rfl,
  fun d σ S l0 l1 l2 l3 l4 l5 l6 l7 l8 l9 => ex_getr (idx := 26) (ci := 6) (ff := 2) (n := 11) (hh := 348) (by decide +kernel),
  fun d σ S l1 l2 l3 l4 l5 l6 l7 l8 l9 k => ex_aload_n (show decode mX6_err.2.1 39 = .ok (.aload_n 0, 1) by decide +kernel) rfl,
  fun d σ S l0 l1 l2 l3 l4 l5 l6 l7 l8 l9 => ex_getr (idx := 26) (ci := 6) (ff := 2) (n := 11) (hh := 348) (by decide +kernel),
  fun d σ S l0 l1 l2 l3 l4 l5 l6 l7 l8 l9 => ex_get (idx := 151) (ci := 5) (ff := 7) (n := 17) (hh := 212) (by decide +kernel),
  fun d σ S l1 l2 l3 l4 l5 l6 l7 l8 l9 k => ex_aload_n (show decode mX6_err.2.1 46 = .ok (.aload_n 0, 1) by decide +kernel) rfl,
  fun d σ S l0 l1 l2 l3 l4 l5 l6 l7 l8 l9 => ex_getr (idx := 26) (ci := 6) (ff := 2) (n := 11) (hh := 348) (by decide +kernel),
  fun d σ S l0 l1 l2 l3 l4 l5 l6 l7 l8 l9 => ex_get (idx := 167) (ci := 5) (ff := 8) (n := 17) (hh := 215) (by decide +kernel),
  fun d σ l0 l1 l2 l3 l4 l5 l6 l7 l8 l9 x0 x1 => ex_iv (hs := [610, 612, 31, 613, 97]) (show decode mX6_err.2.1 53 = .ok (.invokevirtual 215, 3) by decide +kernel) lkV_6_215 ⟨rfl, Nat.le_of_ble_eq_true rfl, Nat.le_of_ble_eq_true rfl, fun _ => rfl⟩ rfl rfl,
  fun d σ S l0 l1 l3 l4 l5 l6 l7 l8 l9 x y => ex_istore_n (show decode mX6_err.2.1 56 = .ok (.istore_n 3, 1) by decide +kernel) (Nat.le_of_ble_eq_true rfl) rfl,
  fun d σ S l0 l1 l2 l3 l4 l5 l6 l7 l8 l9 => ex_lconst (show decode mX6_err.2.1 57 = .ok (.lconst 0, 1) by decide +kernel) (by decide +kernel),
  fun d σ S l0 l1 l2 l4 l5 l6 l7 l8 l9 y x => ex_lstore (show decode mX6_err.2.1 58 = .ok (.lstore 4, 2) by decide +kernel) (Nat.le_of_ble_eq_true rfl) rfl,
  fun d σ S l0 l1 l2 l3 l4 l5 l6 l7 l8 l9 => ex_lconst (show decode mX6_err.2.1 60 = .ok (.lconst 1, 1) by decide +kernel) (by decide +kernel),
  fun d σ S l0 l1 l2 l3 l4 l6 l7 l8 l9 x => ex_lstore (show decode mX6_err.2.1 61 = .ok (.lstore 6, 2) by decide +kernel) (Nat.le_of_ble_eq_true rfl) rfl,
  fun d σ S l0 l1 l2 l3 l4 l5 l6 l7 l8 l9 => ex_iconst (show decode mX6_err.2.1 63 = .ok (.iconst 0, 1) by decide +kernel) (by decide +kernel),
  fun d σ S l0 l1 l2 l3 l4 l5 l6 l8 l9 x => ex_istore (show decode mX6_err.2.1 64 = .ok (.istore 8, 2) by decide +kernel) (Nat.le_of_ble_eq_true rfl) rfl,
  fun d σ S l1 l2 l3 l4 l5 l6 l7 l8 l9 k => ex_aload_n (show decode mX6_err.2.1 68 = .ok (.aload_n 0, 1) by decide +kernel) rfl,
  fun d σ S l0 l1 l2 l3 l4 l5 l6 l7 l8 l9 => ex_getr (idx := 26) (ci := 6) (ff := 2) (n := 11) (hh := 348) (by decide +kernel),
  fun d σ S l0 l1 l2 l3 l4 l5 l6 l7 l8 l9 => ex_get (idx := 257) (ci := 5) (ff := 5) (n := 17) (hh := 204) (by decide +kernel),
  fun d σ S l0 l1 l2 l3 l4 l5 l6 l7 l8 l9 x y => ex_cge (show decode mX6_err.2.1 75 = .ok (.if_icmp .ge 17, 3) by decide +kernel) (by decide),
  fun d σ S l0 l1 l2 l3 l4 l5 l7 l8 l9 x => ex_lload (show decode mX6_err.2.1 78 = .ok (.lload 6, 2) by decide +kernel) rfl,
  fun d σ S l0 l1 l2 l3 l4 l5 l6 l7 l8 l9 => ex_ldc2 (hh := 736) (show decode mX6_err.2.1 80 = .ok (.ldc2_w 278, 3) by decide +kernel) (by decide +kernel),
  fun d σ S l0 l1 l2 l3 l4 l5 l6 l7 l8 l9 x y => ex_lmul (show decode mX6_err.2.1 83 = .ok (.lmul, 1) by decide +kernel),
  fun d σ S l0 l1 l2 l3 l4 l6 l7 l8 l9 x => ex_lstore (show decode mX6_err.2.1 84 = .ok (.lstore 6, 2) by decide +kernel) (Nat.le_of_ble_eq_true rfl) rfl⟩
theorem kX6_err_1 : (∀ (d : Nat) (σ : Sg) (S : List Value) (l0 l1 l2 l3 l4 l5 l6 l9 : Value) (x : Int32), exec d mX6_err 86 [l0, l1, l2, l3, l4, l5, l6, uu, .int x, l9] S σ = exec d mX6_err 89 [l0, l1, l2, l3, l4, l5, l6, uu, .int (x + nI 1), l9] S σ) ∧
  (∀ (d : Nat) (σ : Sg) (S : List Value) (l0 l1 l2 l3 l4 l5 l6 l7 l8 l9 : Value), exec d mX6_err 89 [l0, l1, l2, l3, l4, l5, l6, l7, l8, l9] S σ = exec d mX6_err 66 [l0, l1, l2, l3, l4, l5, l6, l7, l8, l9] S σ) ∧
  (∀ (d : Nat) (σ : Sg) (S : List Value) (l0 l1 l2 l3 l4 l5 l6 l7 l8 l9 : Value), exec d mX6_err 92 [l0, l1, l2, l3, l4, l5, l6, l7, l8, l9] S σ = exec d mX6_err 93 [l0, l1, l2, l3, l4, l5, l6, l7, l8, l9] (.int (nI 0) :: S) σ) ∧
  (∀ (d : Nat) (σ : Sg) (S : List Value) (l0 l1 l2 l3 l4 l5 l6 l8 l9 : Value) (x : Int32), exec d mX6_err 93 [l0, l1, l2, l3, l4, l5, l6, uu, l8, l9] (.int x :: S) σ = exec d mX6_err 95 [l0, l1, l2, l3, l4, l5, l6, uu, .int x, l9] S σ) ∧
  (∀ (d : Nat) (σ : Sg) (S : List Value) (l0 l1 l2 l3 l4 l5 l6 l7 l8 l9 : Value), exec d mX6_err 97 [l0, l1, l2, l3, l4, l5, l6, l7, l8, l9] S σ = exec d mX6_err 98 [l0, l1, l2, l3, l4, l5, l6, l7, l8, l9] (.int (nI 1) :: S) σ) ∧
  (∀ (d : Nat) (σ : Sg) (S : List Value) (l1 l2 l3 l4 l5 l6 l7 l8 l9 : Value) (k : Nat), exec d mX6_err 98 [.ref k, l1, l2, l3, l4, l5, l6, l7, l8, l9] S σ = exec d mX6_err 99 [.ref k, l1, l2, l3, l4, l5, l6, l7, l8, l9] (.ref k :: S) σ) ∧
  (∀ (d : Nat) (σ : Sg) (S : List Value) (l0 l1 l2 l3 l4 l5 l6 l7 l8 l9 : Value), exec d mX6_err 99 [l0, l1, l2, l3, l4, l5, l6, l7, l8, l9] (.ref 0 :: S) σ = exec d mX6_err 102 [l0, l1, l2, l3, l4, l5, l6, l7, l8, l9] (.ref 8 :: S) σ) ∧
  (∀ (d : Nat) (σ : Sg) (S : List Value) (l0 l1 l2 l3 l4 l5 l6 l7 l8 l9 : Value), exec d mX6_err 102 [l0, l1, l2, l3, l4, l5, l6, l7, l8, l9] (.ref 8 :: S) σ = exec d mX6_err 105 [l0, l1, l2, l3, l4, l5, l6, l7, l8, l9] (.int (σ 8 5) :: S) σ) ∧
  (∀ (d : Nat) (σ : Sg) (S : List Value) (l0 l1 l2 l3 l4 l5 l6 l7 l8 l9 : Value) (x y : Int32), exec d mX6_err 105 [l0, l1, l2, l3, l4, l5, l6, l7, l8, l9] (.int y :: .int x :: S) σ = exec d mX6_err 106 [l0, l1, l2, l3, l4, l5, l6, l7, l8, l9] (.int (x <<< (y &&& 31)) :: S) σ) ∧
  (∀ (d : Nat) (σ : Sg) (S : List Value) (l0 l1 l2 l3 l4 l5 l6 l7 l8 l9 : Value) (x y : Int32), exec d mX6_err 106 [l0, l1, l2, l3, l4, l5, l6, l7, l8, l9] (.int y :: .int x :: S) σ = if y ≤ x then exec d mX6_err 141 [l0, l1, l2, l3, l4, l5, l6, l7, l8, l9] S σ else exec d mX6_err 109 [l0, l1, l2, l3, l4, l5, l6, l7, l8, l9] S σ) ∧
  (∀ (d : Nat) (σ : Sg) (S : List Value) (l1 l2 l3 l4 l5 l6 l7 l8 l9 : Value) (k : Nat), exec d mX6_err 109 [.ref k, l1, l2, l3, l4, l5, l6, l7, l8, l9] S σ = exec d mX6_err 110 [.ref k, l1, l2, l3, l4, l5, l6, l7, l8, l9] (.ref k :: S) σ) ∧
  (∀ (d : Nat) (σ : Sg) (S : List Value) (l0 l1 l2 l3 l4 l5 l6 l7 l8 l9 : Value), exec d mX6_err 110 [l0, l1, l2, l3, l4, l5, l6, l7, l8, l9] (.ref 0 :: S) σ = exec d mX6_err 113 [l0, l1, l2, l3, l4, l5, l6, l7, l8, l9] (.ref 8 :: S) σ) ∧
  (∀ (d : Nat) (σ : Sg) (S : List Value) (l0 l1 l2 l4 l5 l6 l7 l8 l9 : Value) (x : Int32), exec d mX6_err 113 [l0, l1, l2, .int x, l4, l5, l6, l7, l8, l9] S σ = exec d mX6_err 114 [l0, l1, l2, .int x, l4, l5, l6, l7, l8, l9] (.int x :: S) σ) ∧
  (∀ (d : Nat) (σ : Sg) (S : List Value) (l0 l1 l2 l3 l4 l5 l6 l7 l9 : Value) (x : Int32), exec d mX6_err 114 [l0, l1, l2, l3, l4, l5, l6, l7, .int x, l9] S σ = exec d mX6_err 116 [l0, l1, l2, l3, l4, l5, l6, l7, .int x, l9] (.int x :: S) σ) ∧
  (∀ (d : Nat) (σ : Sg) (S : List Value) (l0 l1 l2 l3 l4 l5 l6 l7 l8 l9 : Value) (x y : Int32), exec d mX6_err 116 [l0, l1, l2, l3, l4, l5, l6, l7, l8, l9] (.int y :: .int x :: S) σ = exec d mX6_err 117 [l0, l1, l2, l3, l4, l5, l6, l7, l8, l9] (.int (x ^^^ y) :: S) σ) ∧
  (∀ (d : Nat) (σ : Sg) (l0 l1 l2 l3 l4 l5 l6 l7 l8 l9 : Value) (x0 : Int32), exec d mX6_err 117 [l0, l1, l2, l3, l4, l5, l6, l7, l8, l9] [.int x0, .ref 8] σ = kb (cal d mX5_wins [.ref 8, .int x0] σ) (fun rs σ2 => exec d mX6_err 120 [l0, l1, l2, l3, l4, l5, l6, l7, l8, l9] (rs ++ []) σ2)) ∧
  (∀ (d : Nat) (σ : Sg) (S : List Value) (l0 l1 l2 l3 l4 l5 l6 l7 l8 l9 : Value) (x : Int32), exec d mX6_err 120 [l0, l1, l2, l3, l4, l5, l6, l7, l8, l9] (.int x :: S) σ = if x = nI 0 then exec d mX6_err 135 [l0, l1, l2, l3, l4, l5, l6, l7, l8, l9] S σ else exec d mX6_err 123 [l0, l1, l2, l3, l4, l5, l6, l7, l8, l9] S σ) ∧
  (∀ (d : Nat) (σ : Sg) (S : List Value) (l0 l1 l2 l3 l5 l6 l7 l8 l9 : Value) (x : Int64), exec d mX6_err 123 [l0, l1, l2, l3, .long x, l5, l6, l7, l8, l9] S σ = exec d mX6_err 125 [l0, l1, l2, l3, .long x, l5, l6, l7, l8, l9] (.long x :: S) σ) ∧
  (∀ (d : Nat) (σ : Sg) (S : List Value) (l1 l2 l3 l4 l5 l6 l7 l8 l9 : Value) (k : Nat), exec d mX6_err 125 [.ref k, l1, l2, l3, l4, l5, l6, l7, l8, l9] S σ = exec d mX6_err 126 [.ref k, l1, l2, l3, l4, l5, l6, l7, l8, l9] (.ref k :: S) σ) ∧
  (∀ (d : Nat) (σ : Sg) (S : List Value) (l0 l1 l2 l3 l4 l5 l6 l7 l9 : Value) (x : Int32), exec d mX6_err 126 [l0, l1, l2, l3, l4, l5, l6, l7, .int x, l9] S σ = exec d mX6_err 128 [l0, l1, l2, l3, l4, l5, l6, l7, .int x, l9] (.int x :: S) σ) ∧
  (∀ (d : Nat) (σ : Sg) (S : List Value) (l0 l2 l3 l4 l5 l6 l7 l8 l9 : Value) (x : Int32), exec d mX6_err 128 [l0, .int x, l2, l3, l4, l5, l6, l7, l8, l9] S σ = exec d mX6_err 129 [l0, .int x, l2, l3, l4, l5, l6, l7, l8, l9] (.int x :: S) σ) ∧
  (∀ (d : Nat) (σ : Sg) (l0 l1 l2 l3 l4 l5 l6 l7 l8 l9 : Value) (x0 x1 : Int32) (x3 : Int64), exec d mX6_err 129 [l0, l1, l2, l3, l4, l5, l6, l7, l8, l9] [.int x0, .int x1, .ref 0, .long x3] σ = kb (cal d mX6_casesOf [.ref 0, .int x1, .int x0] σ) (fun rs σ2 => exec d mX6_err 132 [l0, l1, l2, l3, l4, l5, l6, l7, l8, l9] (rs ++ [.long x3]) σ2)) ∧
  (∀ (d : Nat) (σ : Sg) (S : List Value) (l0 l1 l2 l3 l4 l5 l6 l7 l8 l9 : Value) (x y : Int64), exec d mX6_err 132 [l0, l1, l2, l3, l4, l5, l6, l7, l8, l9] (.long y :: .long x :: S) σ = exec d mX6_err 133 [l0, l1, l2, l3, l4, l5, l6, l7, l8, l9] (.long (x + y) :: S) σ) ∧
  (∀ (d : Nat) (σ : Sg) (S : List Value) (l0 l1 l2 l4 l5 l6 l7 l8 l9 : Value) (y : Int32) (x : Int64), exec d mX6_err 133 [l0, l1, l2, .int y, l4, l5, l6, l7, l8, l9] (.long x :: S) σ = exec d mX6_err 135 [l0, l1, l2, .int y, .long x, uu, l6, l7, l8, l9] S σ) ∧
  (∀ (d : Nat) (σ : Sg) (S : List Value) (l0 l1 l2 l3 l4 l5 l6 l9 : Value) (x : Int32), exec d mX6_err 135 [l0, l1, l2, l3, l4, l5, l6, uu, .int x, l9] S σ = exec d mX6_err 138 [l0, l1, l2, l3, l4, l5, l6, uu, .int (x + nI 1), l9] S σ) ∧
  (∀ (d : Nat) (σ : Sg) (S : List Value) (l0 l1 l2 l3 l4 l5 l6 l7 l8 l9 : Value), exec d mX6_err 138 [l0, l1, l2, l3, l4, l5, l6, l7, l8, l9] S σ = exec d mX6_err 95 [l0, l1, l2, l3, l4, l5, l6, l7, l8, l9] S σ) ∧
  (∀ (d : Nat) (σ : Sg) (S : List Value) (l0 l1 l2 l3 l5 l6 l7 l8 l9 : Value) (x : Int64), exec d mX6_err 141 [l0, l1, l2, l3, .long x, l5, l6, l7, l8, l9] S σ = exec d mX6_err 143 [l0, l1, l2, l3, .long x, l5, l6, l7, l8, l9] (.long x :: S) σ) ∧
  (∀ (d : Nat) (σ : Sg) (S : List Value) (l0 l1 l2 l3 l4 l5 l7 l8 l9 : Value) (x : Int64), exec d mX6_err 143 [l0, l1, l2, l3, l4, l5, .long x, l7, l8, l9] S σ = exec d mX6_err 145 [l0, l1, l2, l3, l4, l5, .long x, l7, l8, l9] (.long x :: S) σ) ∧
  (∀ (d : Nat) (σ : Sg) (l0 l1 l2 l3 l4 l5 l6 l7 l8 l9 : Value) (x0 x1 : Int64), exec d mX6_err 145 [l0, l1, l2, l3, l4, l5, l6, l7, l8, l9] [.long x0, .long x1] σ = kb (cal d mX6_commonDivisor [.long x1, .long x0] σ) (fun rs σ2 => exec d mX6_err 148 [l0, l1, l2, l3, l4, l5, l6, l7, l8, l9] (rs ++ []) σ2)) ∧
  (∀ (d : Nat) (σ : Sg) (S : List Value) (l0 l1 l2 l3 l4 l5 l6 l8 l9 : Value) (x : Int64), exec d mX6_err 148 [l0, l1, l2, l3, l4, l5, l6, uu, l8, l9] (.long x :: S) σ = exec d mX6_err 150 [l0, l1, l2, l3, l4, l5, l6, uu, .long x, uu] S σ) ∧
  (∀ (d : Nat) (σ : Sg) (S : List Value) (l0 l1 l2 l3 l4 l5 l6 l7 l9 : Value) (x : Int64), exec d mX6_err 150 [l0, l1, l2, l3, l4, l5, l6, l7, .long x, l9] S σ = exec d mX6_err 152 [l0, l1, l2, l3, l4, l5, l6, l7, .long x, l9] (.long x :: S) σ) ∧
  (∀ (d : Nat) (σ : Sg) (S : List Value) (l0 l1 l2 l3 l4 l5 l6 l7 l8 l9 : Value), exec d mX6_err 152 [l0, l1, l2, l3, l4, l5, l6, l7, l8, l9] S σ = exec d mX6_err 153 [l0, l1, l2, l3, l4, l5, l6, l7, l8, l9] (.long (lN 0) :: S) σ) ∧
  (∀ (d : Nat) (σ : Sg) (S : List Value) (l0 l1 l2 l3 l4 l5 l6 l7 l8 l9 : Value) (x y : Int64), exec d mX6_err 153 [l0, l1, l2, l3, l4, l5, l6, l7, l8, l9] (.long y :: .long x :: S) σ = exec d mX6_err 154 [l0, l1, l2, l3, l4, l5, l6, l7, l8, l9] (.int (lg_cmp x y) :: S) σ) ∧
  (∀ (d : Nat) (σ : Sg) (S : List Value) (l0 l1 l2 l3 l4 l5 l6 l7 l8 l9 : Value) (x : Int32), exec d mX6_err 154 [l0, l1, l2, l3, l4, l5, l6, l7, l8, l9] (.int x :: S) σ = if nI 0 < x then exec d mX6_err 161 [l0, l1, l2, l3, l4, l5, l6, l7, l8, l9] S σ else exec d mX6_err 157 [l0, l1, l2, l3, l4, l5, l6, l7, l8, l9] S σ) ∧
  (∀ (d : Nat) (σ : Sg) (S : List Value) (l0 l1 l2 l3 l4 l5 l6 l7 l8 l9 : Value), exec d mX6_err 157 [l0, l1, l2, l3, l4, l5, l6, l7, l8, l9] S σ = exec d mX6_err 160 [l0, l1, l2, l3, l4, l5, l6, l7, l8, l9] (.long ((-1000001)) :: S) σ) ∧
  (∀ (d : Nat) (σ : Sg) (l0 l1 l2 l3 l4 l5 l6 l7 l8 l9 : Value) (x : Int64), exec d mX6_err 160 [l0, l1, l2, l3, l4, l5, l6, l7, l8, l9] [.long x] σ = some (some (.long x), σ)) ∧
  (∀ (d : Nat) (σ : Sg) (S : List Value) (l0 l1 l3 l4 l5 l6 l7 l8 l9 : Value) (x : Int32), exec d mX6_err 161 [l0, l1, .int x, l3, l4, l5, l6, l7, l8, l9] S σ = exec d mX6_err 162 [l0, l1, .int x, l3, l4, l5, l6, l7, l8, l9] (.int x :: S) σ) ∧
  (∀ (d : Nat) (σ : Sg) (S : List Value) (l0 l1 l2 l3 l4 l5 l6 l7 l8 l9 : Value) (x : Int32), exec d mX6_err 162 [l0, l1, l2, l3, l4, l5, l6, l7, l8, l9] (.int x :: S) σ = if x = nI 0 then exec d mX6_err 165 [l0, l1, l2, l3, l4, l5, l6, l7, l8, l9] S σ else exec d mX6_err 173 [l0, l1, l2, l3, l4, l5, l6, l7, l8, l9] S σ) ∧
  (∀ (d : Nat) (σ : Sg) (S : List Value) (l0 l1 l2 l3 l5 l6 l7 l8 l9 : Value) (x : Int64), exec d mX6_err 165 [l0, l1, l2, l3, .long x, l5, l6, l7, l8, l9] S σ = exec d mX6_err 167 [l0, l1, l2, l3, .long x, l5, l6, l7, l8, l9] (.long x :: S) σ) ∧
  (∀ (d : Nat) (σ : Sg) (S : List Value) (l0 l1 l2 l3 l4 l5 l6 l7 l9 : Value) (x : Int64), exec d mX6_err 167 [l0, l1, l2, l3, l4, l5, l6, l7, .long x, l9] S σ = exec d mX6_err 169 [l0, l1, l2, l3, l4, l5, l6, l7, .long x, l9] (.long x :: S) σ) :=
  ⟨fun d σ S l0 l1 l2 l3 l4 l5 l6 l9 x => ex_iinc (show decode mX6_err.2.1 86 = .ok (.iinc 8 1, 3) by decide +kernel) rfl (by decide +kernel) (Nat.le_of_ble_eq_true rfl) rfl,
  fun d σ S l0 l1 l2 l3 l4 l5 l6 l7 l8 l9 => ex_goto (show decode mX6_err.2.1 89 = .ok (.goto (-23), 3) by decide +kernel) (by decide),
  fun d σ S l0 l1 l2 l3 l4 l5 l6 l7 l8 l9 => ex_iconst (show decode mX6_err.2.1 92 = .ok (.iconst 0, 1) by decide +kernel) (by decide +kernel),
  fun d σ S l0 l1 l2 l3 l4 l5 l6 l8 l9 x => ex_istore (show decode mX6_err.2.1 93 = .ok (.istore 8, 2) by decide +kernel) (Nat.le_of_ble_eq_true rfl) rfl,
  fun d σ S l0 l1 l2 l3 l4 l5 l6 l7 l8 l9 => ex_iconst (show decode mX6_err.2.1 97 = .ok (.iconst 1, 1) by decide +kernel) (by decide +kernel),
  fun d σ S l1 l2 l3 l4 l5 l6 l7 l8 l9 k => ex_aload_n (show decode mX6_err.2.1 98 = .ok (.aload_n 0, 1) by decide +kernel) rfl,
  fun d σ S l0 l1 l2 l3 l4 l5 l6 l7 l8 l9 => ex_getr (idx := 26) (ci := 6) (ff := 2) (n := 11) (hh := 348) (by decide +kernel),
  fun d σ S l0 l1 l2 l3 l4 l5 l6 l7 l8 l9 => ex_get (idx := 257) (ci := 5) (ff := 5) (n := 17) (hh := 204) (by decide +kernel),
  fun d σ S l0 l1 l2 l3 l4 l5 l6 l7 l8 l9 x y => ex_ishl (show decode mX6_err.2.1 105 = .ok (.ishl, 1) by decide +kernel),
  fun d σ S l0 l1 l2 l3 l4 l5 l6 l7 l8 l9 x y => ex_cge (show decode mX6_err.2.1 106 = .ok (.if_icmp .ge 35, 3) by decide +kernel) (by decide),
  fun d σ S l1 l2 l3 l4 l5 l6 l7 l8 l9 k => ex_aload_n (show decode mX6_err.2.1 109 = .ok (.aload_n 0, 1) by decide +kernel) rfl,
  fun d σ S l0 l1 l2 l3 l4 l5 l6 l7 l8 l9 => ex_getr (idx := 26) (ci := 6) (ff := 2) (n := 11) (hh := 348) (by decide +kernel),
  fun d σ S l0 l1 l2 l4 l5 l6 l7 l8 l9 x => ex_iload_n (show decode mX6_err.2.1 113 = .ok (.iload_n 3, 1) by decide +kernel) rfl,
  fun d σ S l0 l1 l2 l3 l4 l5 l6 l7 l9 x => ex_iload (show decode mX6_err.2.1 114 = .ok (.iload 8, 2) by decide +kernel) rfl,
  fun d σ S l0 l1 l2 l3 l4 l5 l6 l7 l8 l9 x y => ex_ixor (show decode mX6_err.2.1 116 = .ok (.ixor, 1) by decide +kernel),
  fun d σ l0 l1 l2 l3 l4 l5 l6 l7 l8 l9 x0 => ex_iv (hs := [681, 626, 33, 627, 97]) (show decode mX6_err.2.1 117 = .ok (.invokevirtual 254, 3) by decide +kernel) lkV_6_254 ⟨rfl, Nat.le_of_ble_eq_true rfl, Nat.le_of_ble_eq_true rfl, fun _ => rfl⟩ rfl rfl,
  fun d σ S l0 l1 l2 l3 l4 l5 l6 l7 l8 l9 x => ex_zeq (show decode mX6_err.2.1 120 = .ok (.ifCond .eq 15, 3) by decide +kernel) (by decide),
  fun d σ S l0 l1 l2 l3 l5 l6 l7 l8 l9 x => ex_lload (show decode mX6_err.2.1 123 = .ok (.lload 4, 2) by decide +kernel) rfl,
  fun d σ S l1 l2 l3 l4 l5 l6 l7 l8 l9 k => ex_aload_n (show decode mX6_err.2.1 125 = .ok (.aload_n 0, 1) by decide +kernel) rfl,
  fun d σ S l0 l1 l2 l3 l4 l5 l6 l7 l9 x => ex_iload (show decode mX6_err.2.1 126 = .ok (.iload 8, 2) by decide +kernel) rfl,
  fun d σ S l0 l2 l3 l4 l5 l6 l7 l8 l9 x => ex_iload_n (show decode mX6_err.2.1 128 = .ok (.iload_n 1, 1) by decide +kernel) rfl,
  fun d σ l0 l1 l2 l3 l4 l5 l6 l7 l8 l9 x0 x1 x3 => ex_iv (hs := [737, 739, 47, 740, 94]) (show decode mX6_err.2.1 129 = .ok (.invokevirtual 280, 3) by decide +kernel) lkV_6_280 ⟨rfl, Nat.le_of_ble_eq_true rfl, Nat.le_of_ble_eq_true rfl, fun _ => rfl⟩ rfl rfl,
  fun d σ S l0 l1 l2 l3 l4 l5 l6 l7 l8 l9 x y => ex_ladd (show decode mX6_err.2.1 132 = .ok (.ladd, 1) by decide +kernel),
  fun d σ S l0 l1 l2 l4 l5 l6 l7 l8 l9 y x => ex_lstore (show decode mX6_err.2.1 133 = .ok (.lstore 4, 2) by decide +kernel) (Nat.le_of_ble_eq_true rfl) rfl,
  fun d σ S l0 l1 l2 l3 l4 l5 l6 l9 x => ex_iinc (show decode mX6_err.2.1 135 = .ok (.iinc 8 1, 3) by decide +kernel) rfl (by decide +kernel) (Nat.le_of_ble_eq_true rfl) rfl,
  fun d σ S l0 l1 l2 l3 l4 l5 l6 l7 l8 l9 => ex_goto (show decode mX6_err.2.1 138 = .ok (.goto (-43), 3) by decide +kernel) (by decide),
  fun d σ S l0 l1 l2 l3 l5 l6 l7 l8 l9 x => ex_lload (show decode mX6_err.2.1 141 = .ok (.lload 4, 2) by decide +kernel) rfl,
  fun d σ S l0 l1 l2 l3 l4 l5 l7 l8 l9 x => ex_lload (show decode mX6_err.2.1 143 = .ok (.lload 6, 2) by decide +kernel) rfl,
  fun d σ l0 l1 l2 l3 l4 l5 l6 l7 l8 l9 x0 x1 => ex_is (hs := [741, 742, 743, 94]) (show decode mX6_err.2.1 145 = .ok (.invokestatic 284, 3) by decide +kernel) lkS_6_284 ⟨rfl, Nat.le_of_ble_eq_true rfl, Nat.le_of_ble_eq_true rfl, fun q => nomatch q⟩ rfl rfl,
  fun d σ S l0 l1 l2 l3 l4 l5 l6 l8 l9 x => ex_lstore (show decode mX6_err.2.1 148 = .ok (.lstore 8, 2) by decide +kernel) (Nat.le_of_ble_eq_true rfl) rfl,
  fun d σ S l0 l1 l2 l3 l4 l5 l6 l7 l9 x => ex_lload (show decode mX6_err.2.1 150 = .ok (.lload 8, 2) by decide +kernel) rfl,
  fun d σ S l0 l1 l2 l3 l4 l5 l6 l7 l8 l9 => ex_lconst (show decode mX6_err.2.1 152 = .ok (.lconst 0, 1) by decide +kernel) (by decide +kernel),
  fun d σ S l0 l1 l2 l3 l4 l5 l6 l7 l8 l9 x y => ex_lcmp (show decode mX6_err.2.1 153 = .ok (.lcmp, 1) by decide +kernel),
  fun d σ S l0 l1 l2 l3 l4 l5 l6 l7 l8 l9 x => ex_zgt (show decode mX6_err.2.1 154 = .ok (.ifCond .gt 7, 3) by decide +kernel) (by decide),
  fun d σ S l0 l1 l2 l3 l4 l5 l6 l7 l8 l9 => ex_ldc2 (hh := 735) (show decode mX6_err.2.1 157 = .ok (.ldc2_w 276, 3) by decide +kernel) (by decide +kernel),
  fun d σ l0 l1 l2 l3 l4 l5 l6 l7 l8 l9 x => ex_lret (show decode mX6_err.2.1 160 = .ok (.lreturn, 1) by decide +kernel) rfl,
  fun d σ S l0 l1 l3 l4 l5 l6 l7 l8 l9 x => ex_iload_n (show decode mX6_err.2.1 161 = .ok (.iload_n 2, 1) by decide +kernel) rfl,
  fun d σ S l0 l1 l2 l3 l4 l5 l6 l7 l8 l9 x => ex_zne (show decode mX6_err.2.1 162 = .ok (.ifCond .ne 11, 3) by decide +kernel) (by decide),
  fun d σ S l0 l1 l2 l3 l5 l6 l7 l8 l9 x => ex_lload (show decode mX6_err.2.1 165 = .ok (.lload 4, 2) by decide +kernel) rfl,
  fun d σ S l0 l1 l2 l3 l4 l5 l6 l7 l9 x => ex_lload (show decode mX6_err.2.1 167 = .ok (.lload 8, 2) by decide +kernel) rfl⟩
theorem kX6_err_2 : (∀ (d : Nat) (σ : Sg) (S : List Value) (l0 l1 l2 l3 l4 l5 l6 l7 l8 l9 : Value) (x y : Int64), exec d mX6_err 169 [l0, l1, l2, l3, l4, l5, l6, l7, l8, l9] (.long y :: .long x :: S) σ = if y = 0 then none else exec d mX6_err 170 [l0, l1, l2, l3, l4, l5, l6, l7, l8, l9] (.long (x / y) :: S) σ) ∧
  (∀ (d : Nat) (σ : Sg) (S : List Value) (l0 l1 l2 l3 l4 l5 l6 l7 l8 l9 : Value), exec d mX6_err 170 [l0, l1, l2, l3, l4, l5, l6, l7, l8, l9] S σ = exec d mX6_err 178 [l0, l1, l2, l3, l4, l5, l6, l7, l8, l9] S σ) ∧
  (∀ (d : Nat) (σ : Sg) (S : List Value) (l0 l1 l2 l3 l4 l5 l7 l8 l9 : Value) (x : Int64), exec d mX6_err 173 [l0, l1, l2, l3, l4, l5, .long x, l7, l8, l9] S σ = exec d mX6_err 175 [l0, l1, l2, l3, l4, l5, .long x, l7, l8, l9] (.long x :: S) σ) ∧
  (∀ (d : Nat) (σ : Sg) (S : List Value) (l0 l1 l2 l3 l4 l5 l6 l7 l9 : Value) (x : Int64), exec d mX6_err 175 [l0, l1, l2, l3, l4, l5, l6, l7, .long x, l9] S σ = exec d mX6_err 177 [l0, l1, l2, l3, l4, l5, l6, l7, .long x, l9] (.long x :: S) σ) ∧
  (∀ (d : Nat) (σ : Sg) (S : List Value) (l0 l1 l2 l3 l4 l5 l6 l7 l8 l9 : Value) (x y : Int64), exec d mX6_err 177 [l0, l1, l2, l3, l4, l5, l6, l7, l8, l9] (.long y :: .long x :: S) σ = if y = 0 then none else exec d mX6_err 178 [l0, l1, l2, l3, l4, l5, l6, l7, l8, l9] (.long (x / y) :: S) σ) ∧
  (∀ (d : Nat) (σ : Sg) (l0 l1 l2 l3 l4 l5 l6 l7 l8 l9 : Value) (x : Int64), exec d mX6_err 178 [l0, l1, l2, l3, l4, l5, l6, l7, l8, l9] [.long x] σ = some (some (.long x), σ)) :=
  ⟨fun d σ S l0 l1 l2 l3 l4 l5 l6 l7 l8 l9 x y => ex_ldiv (show decode mX6_err.2.1 169 = .ok (.ldiv, 1) by decide +kernel),
  fun d σ S l0 l1 l2 l3 l4 l5 l6 l7 l8 l9 => ex_goto (show decode mX6_err.2.1 170 = .ok (.goto 8, 3) by decide +kernel) (by decide),
  fun d σ S l0 l1 l2 l3 l4 l5 l7 l8 l9 x => ex_lload (show decode mX6_err.2.1 173 = .ok (.lload 6, 2) by decide +kernel) rfl,
  fun d σ S l0 l1 l2 l3 l4 l5 l6 l7 l9 x => ex_lload (show decode mX6_err.2.1 175 = .ok (.lload 8, 2) by decide +kernel) rfl,
  fun d σ S l0 l1 l2 l3 l4 l5 l6 l7 l8 l9 x y => ex_ldiv (show decode mX6_err.2.1 177 = .ok (.ldiv, 1) by decide +kernel),
  fun d σ l0 l1 l2 l3 l4 l5 l6 l7 l8 l9 x => ex_lret (show decode mX6_err.2.1 178 = .ok (.lreturn, 1) by decide +kernel) rfl⟩
theorem hX6_err_66 : ∀ (d : Nat) (σ : Sg) (S : List Value) (l0 l1 l2 l3 l4 l5 l6 l7 l9 : Value) (x : Int32), exec d mX6_err 66 [l0, l1, l2, l3, l4, l5, l6, l7, .int x, l9] S σ = exec d mX6_err 68 [l0, l1, l2, l3, l4, l5, l6, l7, .int x, l9] (.int x :: S) σ := fun d σ S l0 l1 l2 l3 l4 l5 l6 l7 l9 x => ex_iload (show decode mX6_err.2.1 66 = .ok (.iload 8, 2) by decide +kernel) rfl
theorem hX6_err_95 : ∀ (d : Nat) (σ : Sg) (S : List Value) (l0 l1 l2 l3 l4 l5 l6 l7 l9 : Value) (x : Int32), exec d mX6_err 95 [l0, l1, l2, l3, l4, l5, l6, l7, .int x, l9] S σ = exec d mX6_err 97 [l0, l1, l2, l3, l4, l5, l6, l7, .int x, l9] (.int x :: S) σ := fun d σ S l0 l1 l2 l3 l4 l5 l6 l7 l9 x => ex_iload (show decode mX6_err.2.1 95 = .ok (.iload 8, 2) by decide +kernel) rfl
theorem aX6_err_0 : ∀ (d : Nat) (a1 : Int32) (a2 : Int32) (σ : Sg), cal (d + 1) mX6_err [.ref 0, .int a1, .int a2] σ = exec d mX6_err 0 [.ref 0, .int a1, .int a2, uu, uu, uu, uu, uu, uu, uu] [] σ := fun _ _ _ _ => rfl
theorem kX6_worth : (∀ (d : Nat) (σ : Sg) (S : List Value) (l1 : Value) (k : Nat), exec d mX6_worth 0 [.ref k, l1] S σ = exec d mX6_worth 1 [.ref k, l1] (.ref k :: S) σ) ∧
  (∀ (d : Nat) (σ : Sg) (S : List Value) (l0 l1 : Value), exec d mX6_worth 1 [l0, l1] (.ref 0 :: S) σ = exec d mX6_worth 4 [l0, l1] (.ref 8 :: S) σ) ∧
  (∀ (d : Nat) (σ : Sg) (S : List Value) (l0 l1 : Value), exec d mX6_worth 4 [l0, l1] (.ref 8 :: S) σ = exec d mX6_worth 7 [l0, l1] (.int (σ 8 0) :: S) σ) ∧
  (∀ (d : Nat) (σ : Sg) (S : List Value) (l0 l1 : Value) (x : Int32), exec d mX6_worth 7 [l0, l1] (.int x :: S) σ = if x = nI 0 then exec d mX6_worth 10 [l0, l1] S σ else exec d mX6_worth 13 [l0, l1] S σ) ∧
  (∀ (d : Nat) (σ : Sg) (S : List Value) (l0 l1 : Value), exec d mX6_worth 10 [l0, l1] S σ = exec d mX6_worth 12 [l0, l1] (.int ((-1000002)) :: S) σ) ∧
  (∀ (d : Nat) (σ : Sg) (l0 l1 : Value) (x : Int32), exec d mX6_worth 12 [l0, l1] [.int x] σ = some (some (.int x), σ)) ∧
  (∀ (d : Nat) (σ : Sg) (S : List Value) (l0 : Value) (x : Int32), exec d mX6_worth 13 [l0, .int x] S σ = exec d mX6_worth 14 [l0, .int x] (.int x :: S) σ) ∧
  (∀ (d : Nat) (σ : Sg) (S : List Value) (l0 l1 : Value) (x : Int32), exec d mX6_worth 14 [l0, l1] (.int x :: S) σ = if x < nI 0 then exec d mX6_worth 23 [l0, l1] S σ else exec d mX6_worth 17 [l0, l1] S σ) ∧
  (∀ (d : Nat) (σ : Sg) (S : List Value) (l0 : Value) (x : Int32), exec d mX6_worth 17 [l0, .int x] S σ = exec d mX6_worth 18 [l0, .int x] (.int x :: S) σ) ∧
  (∀ (d : Nat) (σ : Sg) (S : List Value) (l0 l1 : Value), exec d mX6_worth 18 [l0, l1] S σ = exec d mX6_worth 20 [l0, l1] (.int (nI 20) :: S) σ) ∧
  (∀ (d : Nat) (σ : Sg) (S : List Value) (l0 l1 : Value) (x y : Int32), exec d mX6_worth 20 [l0, l1] (.int y :: .int x :: S) σ = if x ≤ y then exec d mX6_worth 26 [l0, l1] S σ else exec d mX6_worth 23 [l0, l1] S σ) ∧
  (∀ (d : Nat) (σ : Sg) (S : List Value) (l0 l1 : Value), exec d mX6_worth 23 [l0, l1] S σ = exec d mX6_worth 25 [l0, l1] (.int ((-1000001)) :: S) σ) ∧
  (∀ (d : Nat) (σ : Sg) (l0 l1 : Value) (x : Int32), exec d mX6_worth 25 [l0, l1] [.int x] σ = some (some (.int x), σ)) ∧
  (∀ (d : Nat) (σ : Sg) (S : List Value) (l1 : Value) (k : Nat), exec d mX6_worth 26 [.ref k, l1] S σ = exec d mX6_worth 27 [.ref k, l1] (.ref k :: S) σ) ∧
  (∀ (d : Nat) (σ : Sg) (S : List Value) (l0 l1 : Value), exec d mX6_worth 27 [l0, l1] (.ref 0 :: S) σ = exec d mX6_worth 30 [l0, l1] (.ref 46 :: S) σ) ∧
  (∀ (d : Nat) (σ : Sg) (S : List Value) (l1 : Value) (k : Nat), exec d mX6_worth 30 [.ref k, l1] S σ = exec d mX6_worth 31 [.ref k, l1] (.ref k :: S) σ) ∧
  (∀ (d : Nat) (σ : Sg) (S : List Value) (l0 l1 : Value), exec d mX6_worth 31 [l0, l1] (.ref 0 :: S) σ = exec d mX6_worth 34 [l0, l1] (.ref 8 :: S) σ) ∧
  (∀ (d : Nat) (σ : Sg) (S : List Value) (l0 : Value) (x : Int32), exec d mX6_worth 34 [l0, .int x] S σ = exec d mX6_worth 35 [l0, .int x] (.int x :: S) σ) ∧
  (∀ (d : Nat) (σ : Sg) (l0 l1 : Value) (x0 : Int32), exec d mX6_worth 35 [l0, l1] [.int x0, .ref 8, .ref 46] σ = kb (cal d mX2_reckon [.ref 46, .ref 8, .int x0] σ) (fun rs σ2 => exec d mX6_worth 38 [l0, l1] (rs ++ []) σ2)) ∧
  (∀ (d : Nat) (σ : Sg) (S : List Value) (l1 : Value) (k : Nat), exec d mX6_worth 38 [.ref k, l1] S σ = exec d mX6_worth 39 [.ref k, l1] (.ref k :: S) σ) ∧
  (∀ (d : Nat) (σ : Sg) (S : List Value) (l0 l1 : Value), exec d mX6_worth 39 [l0, l1] (.ref 0 :: S) σ = exec d mX6_worth 42 [l0, l1] (.ref 46 :: S) σ) ∧
  (∀ (d : Nat) (σ : Sg) (S : List Value) (l0 l1 : Value), exec d mX6_worth 42 [l0, l1] (.ref 46 :: S) σ = exec d mX6_worth 45 [l0, l1] (.int (σ 46 2) :: S) σ) ∧
  (∀ (d : Nat) (σ : Sg) (S : List Value) (l0 l1 : Value) (x : Int32), exec d mX6_worth 45 [l0, l1] (.int x :: S) σ = if x = nI 0 then exec d mX6_worth 58 [l0, l1] S σ else exec d mX6_worth 48 [l0, l1] S σ) ∧
  (∀ (d : Nat) (σ : Sg) (S : List Value) (l1 : Value) (k : Nat), exec d mX6_worth 48 [.ref k, l1] S σ = exec d mX6_worth 49 [.ref k, l1] (.ref k :: S) σ) ∧
  (∀ (d : Nat) (σ : Sg) (S : List Value) (l0 l1 : Value), exec d mX6_worth 49 [l0, l1] (.ref 0 :: S) σ = exec d mX6_worth 52 [l0, l1] (.ref 46 :: S) σ) ∧
  (∀ (d : Nat) (σ : Sg) (S : List Value) (l0 l1 : Value), exec d mX6_worth 52 [l0, l1] (.ref 46 :: S) σ = exec d mX6_worth 55 [l0, l1] (.int (σ 46 3) :: S) σ) ∧
  (∀ (d : Nat) (σ : Sg) (S : List Value) (l0 l1 : Value), exec d mX6_worth 55 [l0, l1] S σ = exec d mX6_worth 60 [l0, l1] S σ) ∧
  (∀ (d : Nat) (σ : Sg) (S : List Value) (l0 l1 : Value), exec d mX6_worth 58 [l0, l1] S σ = exec d mX6_worth 60 [l0, l1] (.int ((-1000000)) :: S) σ) ∧
  (∀ (d : Nat) (σ : Sg) (l0 l1 : Value) (x : Int32), exec d mX6_worth 60 [l0, l1] [.int x] σ = some (some (.int x), σ)) :=
  ⟨fun d σ S l1 k => ex_aload_n (show decode mX6_worth.2.1 0 = .ok (.aload_n 0, 1) by decide +kernel) rfl,
  fun d σ S l0 l1 => ex_getr (idx := 26) (ci := 6) (ff := 2) (n := 11) (hh := 348) (by decide +kernel),
  fun d σ S l0 l1 => ex_get (idx := 176) (ci := 5) (ff := 0) (n := 17) (hh := 182) (by decide +kernel),
  fun d σ S l0 l1 x => ex_zne (show decode mX6_worth.2.1 7 = .ok (.ifCond .ne 6, 3) by decide +kernel) (by decide),
  fun d σ S l0 l1 => ex_ldc (hh := 519) (show decode mX6_worth.2.1 10 = .ok (.ldc 134, 2) by decide +kernel) (by decide +kernel),
  fun d σ l0 l1 x => ex_iret (show decode mX6_worth.2.1 12 = .ok (.ireturn, 1) by decide +kernel) rfl,
  fun d σ S l0 x => ex_iload_n (show decode mX6_worth.2.1 13 = .ok (.iload_n 1, 1) by decide +kernel) rfl,
  fun d σ S l0 l1 x => ex_zlt (show decode mX6_worth.2.1 14 = .ok (.ifCond .lt 9, 3) by decide +kernel) (by decide),
  fun d σ S l0 x => ex_iload_n (show decode mX6_worth.2.1 17 = .ok (.iload_n 1, 1) by decide +kernel) rfl,
  fun d σ S l0 l1 => ex_bipush (show decode mX6_worth.2.1 18 = .ok (.bipush 20, 2) by decide +kernel) (by decide +kernel),
  fun d σ S l0 l1 x y => ex_cle (show decode mX6_worth.2.1 20 = .ok (.if_icmp .le 6, 3) by decide +kernel) (by decide),
  fun d σ S l0 l1 => ex_ldc (hh := 387) (show decode mX6_worth.2.1 23 = .ok (.ldc 64, 2) by decide +kernel) (by decide +kernel),
  fun d σ l0 l1 x => ex_iret (show decode mX6_worth.2.1 25 = .ok (.ireturn, 1) by decide +kernel) rfl,
  fun d σ S l1 k => ex_aload_n (show decode mX6_worth.2.1 26 = .ok (.aload_n 0, 1) by decide +kernel) rfl,
  fun d σ S l0 l1 => ex_getr (idx := 49) (ci := 6) (ff := 7) (n := 11) (hh := 353) (by decide +kernel),
  fun d σ S l1 k => ex_aload_n (show decode mX6_worth.2.1 30 = .ok (.aload_n 0, 1) by decide +kernel) rfl,
  fun d σ S l0 l1 => ex_getr (idx := 26) (ci := 6) (ff := 2) (n := 11) (hh := 348) (by decide +kernel),
  fun d σ S l0 x => ex_iload_n (show decode mX6_worth.2.1 34 = .ok (.iload_n 1, 1) by decide +kernel) rfl,
  fun d σ l0 l1 x0 => ex_iv (hs := [632, 634, 34, 635, 99]) (show decode mX6_worth.2.1 35 = .ok (.invokevirtual 222, 3) by decide +kernel) lkV_6_222 ⟨rfl, Nat.le_of_ble_eq_true rfl, Nat.le_of_ble_eq_true rfl, fun _ => rfl⟩ rfl rfl,
  fun d σ S l1 k => ex_aload_n (show decode mX6_worth.2.1 38 = .ok (.aload_n 0, 1) by decide +kernel) rfl,
  fun d σ S l0 l1 => ex_getr (idx := 49) (ci := 6) (ff := 7) (n := 11) (hh := 353) (by decide +kernel),
  fun d σ S l0 l1 => ex_get (idx := 226) (ci := 2) (ff := 2) (n := 6) (hh := 299) (by decide +kernel),
  fun d σ S l0 l1 x => ex_zeq (show decode mX6_worth.2.1 45 = .ok (.ifCond .eq 13, 3) by decide +kernel) (by decide),
  fun d σ S l1 k => ex_aload_n (show decode mX6_worth.2.1 48 = .ok (.aload_n 0, 1) by decide +kernel) rfl,
  fun d σ S l0 l1 => ex_getr (idx := 49) (ci := 6) (ff := 7) (n := 11) (hh := 353) (by decide +kernel),
  fun d σ S l0 l1 => ex_get (idx := 229) (ci := 2) (ff := 3) (n := 6) (hh := 301) (by decide +kernel),
  fun d σ S l0 l1 => ex_goto (show decode mX6_worth.2.1 55 = .ok (.goto 5, 3) by decide +kernel) (by decide),
  fun d σ S l0 l1 => ex_ldc (hh := 593) (show decode mX6_worth.2.1 58 = .ok (.ldc 192, 2) by decide +kernel) (by decide +kernel),
  fun d σ l0 l1 x => ex_iret (show decode mX6_worth.2.1 60 = .ok (.ireturn, 1) by decide +kernel) rfl⟩
theorem aX6_worth_0 : ∀ (d : Nat) (a1 : Int32) (σ : Sg), cal (d + 1) mX6_worth [.ref 0, .int a1] σ = exec d mX6_worth 0 [.ref 0, .int a1] [] σ := fun _ _ _ => rfl
theorem kX6_drawn_0 : (∀ (d : Nat) (σ : Sg) (S : List Value) (l1 l2 l3 l4 l5 l6 : Value) (k : Nat), exec d mX6_drawn 0 [.ref k, l1, l2, l3, l4, l5, l6] S σ = exec d mX6_drawn 1 [.ref k, l1, l2, l3, l4, l5, l6] (.ref k :: S) σ) ∧
  (∀ (d : Nat) (σ : Sg) (S : List Value) (l0 l1 l2 l3 l4 l5 l6 : Value), exec d mX6_drawn 1 [l0, l1, l2, l3, l4, l5, l6] (.ref 0 :: S) σ = exec d mX6_drawn 4 [l0, l1, l2, l3, l4, l5, l6] (.ref 8 :: S) σ) ∧
  (∀ (d : Nat) (σ : Sg) (S : List Value) (l0 l1 l2 l3 l4 l5 l6 : Value), exec d mX6_drawn 4 [l0, l1, l2, l3, l4, l5, l6] (.ref 8 :: S) σ = exec d mX6_drawn 7 [l0, l1, l2, l3, l4, l5, l6] (.int (σ 8 0) :: S) σ) ∧
  (∀ (d : Nat) (σ : Sg) (S : List Value) (l0 l1 l2 l3 l4 l5 l6 : Value) (x : Int32), exec d mX6_drawn 7 [l0, l1, l2, l3, l4, l5, l6] (.int x :: S) σ = if x = nI 0 then exec d mX6_drawn 10 [l0, l1, l2, l3, l4, l5, l6] S σ else exec d mX6_drawn 13 [l0, l1, l2, l3, l4, l5, l6] S σ) ∧
  (∀ (d : Nat) (σ : Sg) (S : List Value) (l0 l1 l2 l3 l4 l5 l6 : Value), exec d mX6_drawn 10 [l0, l1, l2, l3, l4, l5, l6] S σ = exec d mX6_drawn 12 [l0, l1, l2, l3, l4, l5, l6] (.int ((-1000002)) :: S) σ) ∧
  (∀ (d : Nat) (σ : Sg) (l0 l1 l2 l3 l4 l5 l6 : Value) (x : Int32), exec d mX6_drawn 12 [l0, l1, l2, l3, l4, l5, l6] [.int x] σ = some (some (.int x), σ)) ∧
  (∀ (d : Nat) (σ : Sg) (S : List Value) (l0 l2 l3 l4 l5 l6 : Value) (x : Int32), exec d mX6_drawn 13 [l0, .int x, l2, l3, l4, l5, l6] S σ = exec d mX6_drawn 14 [l0, .int x, l2, l3, l4, l5, l6] (.int x :: S) σ) ∧
  (∀ (d : Nat) (σ : Sg) (S : List Value) (l0 l1 l2 l3 l4 l5 l6 : Value) (x : Int32), exec d mX6_drawn 14 [l0, l1, l2, l3, l4, l5, l6] (.int x :: S) σ = if x < nI 0 then exec d mX6_drawn 42 [l0, l1, l2, l3, l4, l5, l6] S σ else exec d mX6_drawn 17 [l0, l1, l2, l3, l4, l5, l6] S σ) ∧
  (∀ (d : Nat) (σ : Sg) (S : List Value) (l0 l2 l3 l4 l5 l6 : Value) (x : Int32), exec d mX6_drawn 17 [l0, .int x, l2, l3, l4, l5, l6] S σ = exec d mX6_drawn 18 [l0, .int x, l2, l3, l4, l5, l6] (.int x :: S) σ) ∧
  (∀ (d : Nat) (σ : Sg) (S : List Value) (l0 l1 l2 l3 l4 l5 l6 : Value), exec d mX6_drawn 18 [l0, l1, l2, l3, l4, l5, l6] S σ = exec d mX6_drawn 20 [l0, l1, l2, l3, l4, l5, l6] (.int (nI 30) :: S) σ) ∧
  (∀ (d : Nat) (σ : Sg) (S : List Value) (l0 l1 l2 l3 l4 l5 l6 : Value) (x y : Int32), exec d mX6_drawn 20 [l0, l1, l2, l3, l4, l5, l6] (.int y :: .int x :: S) σ = if y < x then exec d mX6_drawn 42 [l0, l1, l2, l3, l4, l5, l6] S σ else exec d mX6_drawn 23 [l0, l1, l2, l3, l4, l5, l6] S σ) ∧
  (∀ (d : Nat) (σ : Sg) (S : List Value) (l0 l1 l3 l4 l5 l6 : Value) (x : Int32), exec d mX6_drawn 23 [l0, l1, .int x, l3, l4, l5, l6] S σ = exec d mX6_drawn 24 [l0, l1, .int x, l3, l4, l5, l6] (.int x :: S) σ) ∧
  (∀ (d : Nat) (σ : Sg) (S : List Value) (l0 l1 l2 l3 l4 l5 l6 : Value), exec d mX6_drawn 24 [l0, l1, l2, l3, l4, l5, l6] S σ = exec d mX6_drawn 25 [l0, l1, l2, l3, l4, l5, l6] (.int (nI 1) :: S) σ) ∧
  (∀ (d : Nat) (σ : Sg) (S : List Value) (l0 l1 l2 l3 l4 l5 l6 : Value) (x y : Int32), exec d mX6_drawn 25 [l0, l1, l2, l3, l4, l5, l6] (.int y :: .int x :: S) σ = if x < y then exec d mX6_drawn 42 [l0, l1, l2, l3, l4, l5, l6] S σ else exec d mX6_drawn 28 [l0, l1, l2, l3, l4, l5, l6] S σ) ∧
  (∀ (d : Nat) (σ : Sg) (S : List Value) (l0 l1 l3 l4 l5 l6 : Value) (x : Int32), exec d mX6_drawn 28 [l0, l1, .int x, l3, l4, l5, l6] S σ = exec d mX6_drawn 29 [l0, l1, .int x, l3, l4, l5, l6] (.int x :: S) σ) ∧
  (∀ (d : Nat) (σ : Sg) (S : List Value) (l0 l1 l2 l3 l4 l5 l6 : Value), exec d mX6_drawn 29 [l0, l1, l2, l3, l4, l5, l6] S σ = exec d mX6_drawn 32 [l0, l1, l2, l3, l4, l5, l6] (.int (nI 999999) :: S) σ) ∧
  (∀ (d : Nat) (σ : Sg) (S : List Value) (l0 l1 l2 l3 l4 l5 l6 : Value) (x y : Int32), exec d mX6_drawn 32 [l0, l1, l2, l3, l4, l5, l6] (.int y :: .int x :: S) σ = if y < x then exec d mX6_drawn 42 [l0, l1, l2, l3, l4, l5, l6] S σ else exec d mX6_drawn 35 [l0, l1, l2, l3, l4, l5, l6] S σ) ∧
  (∀ (d : Nat) (σ : Sg) (S : List Value) (l0 l1 l2 l4 l5 l6 : Value) (x : Int32), exec d mX6_drawn 35 [l0, l1, l2, .int x, l4, l5, l6] S σ = exec d mX6_drawn 36 [l0, l1, l2, .int x, l4, l5, l6] (.int x :: S) σ) ∧
  (∀ (d : Nat) (σ : Sg) (l0 l1 l2 l3 l4 l5 l6 : Value) (x0 : Int32), exec d mX6_drawn 36 [l0, l1, l2, l3, l4, l5, l6] [.int x0] σ = kb (cal d mX6_isOneOfTwo [.int x0] σ) (fun rs σ2 => exec d mX6_drawn 39 [l0, l1, l2, l3, l4, l5, l6] (rs ++ []) σ2)) ∧
  (∀ (d : Nat) (σ : Sg) (S : List Value) (l0 l1 l2 l3 l4 l5 l6 : Value) (x : Int32), exec d mX6_drawn 39 [l0, l1, l2, l3, l4, l5, l6] (.int x :: S) σ = if x = nI 0 then exec d mX6_drawn 42 [l0, l1, l2, l3, l4, l5, l6] S σ else exec d mX6_drawn 45 [l0, l1, l2, l3, l4, l5, l6] S σ) ∧
  (∀ (d : Nat) (σ : Sg) (S : List Value) (l0 l1 l2 l3 l4 l5 l6 : Value), exec d mX6_drawn 42 [l0, l1, l2, l3, l4, l5, l6] S σ = exec d mX6_drawn 44 [l0, l1, l2, l3, l4, l5, l6] (.int ((-1000001)) :: S) σ) ∧
  (∀ (d : Nat) (σ : Sg) (l0 l1 l2 l3 l4 l5 l6 : Value) (x : Int32), exec d mX6_drawn 44 [l0, l1, l2, l3, l4, l5, l6] [.int x] σ = some (some (.int x), σ)) ∧
  (∀ (d : Nat) (σ : Sg) (S : List Value) (l1 l2 l3 l4 l5 l6 : Value) (k : Nat), exec d mX6_drawn 45 [.ref k, l1, l2, l3, l4, l5, l6] S σ = exec d mX6_drawn 46 [.ref k, l1, l2, l3, l4, l5, l6] (.ref k :: S) σ) ∧
  (∀ (d : Nat) (σ : Sg) (S : List Value) (l0 l1 l2 l3 l4 l5 l6 : Value), exec d mX6_drawn 46 [l0, l1, l2, l3, l4, l5, l6] (.ref 0 :: S) σ = exec d mX6_drawn 49 [l0, l1, l2, l3, l4, l5, l6] (.ref 35 :: S) σ) ∧
  (∀ (d : Nat) (σ : Sg) (S : List Value) (l1 l2 l3 l4 l5 l6 : Value) (k : Nat), exec d mX6_drawn 49 [.ref k, l1, l2, l3, l4, l5, l6] S σ = exec d mX6_drawn 50 [.ref k, l1, l2, l3, l4, l5, l6] (.ref k :: S) σ) ∧
  (∀ (d : Nat) (σ : Sg) (S : List Value) (l0 l1 l2 l3 l4 l5 l6 : Value), exec d mX6_drawn 50 [l0, l1, l2, l3, l4, l5, l6] (.ref 0 :: S) σ = exec d mX6_drawn 53 [l0, l1, l2, l3, l4, l5, l6] (.ref 8 :: S) σ) ∧
  (∀ (d : Nat) (σ : Sg) (l0 l1 l2 l3 l4 l5 l6 : Value), exec d mX6_drawn 53 [l0, l1, l2, l3, l4, l5, l6] [.ref 8, .ref 35] σ = kb (cal d mX5_copyFrom [.ref 35, .ref 8] σ) (fun rs σ2 => exec d mX6_drawn 56 [l0, l1, l2, l3, l4, l5, l6] (rs ++ []) σ2)) ∧
  (∀ (d : Nat) (σ : Sg) (S : List Value) (l0 l1 l3 l4 l5 l6 : Value) (x : Int32), exec d mX6_drawn 56 [l0, l1, .int x, l3, l4, l5, l6] S σ = exec d mX6_drawn 57 [l0, l1, .int x, l3, l4, l5, l6] (.int x :: S) σ) ∧
  (∀ (d : Nat) (σ : Sg) (S : List Value) (l0 l1 l2 l3 l4 l5 l6 : Value) (x : Int32), exec d mX6_drawn 57 [l0, l1, l2, l3, l4, l5, l6] (.int x :: S) σ = exec d mX6_drawn 58 [l0, l1, l2, l3, l4, l5, l6] (.long x.toInt64 :: S) σ) ∧
  (∀ (d : Nat) (σ : Sg) (S : List Value) (l0 l1 l2 l4 l5 l6 : Value) (y : Int32) (x : Int64), exec d mX6_drawn 58 [l0, l1, l2, .int y, l4, l5, l6] (.long x :: S) σ = exec d mX6_drawn 60 [l0, l1, l2, .int y, .long x, uu, l6] S σ) ∧
  (∀ (d : Nat) (σ : Sg) (S : List Value) (l0 l1 l2 l3 l4 l5 l6 : Value), exec d mX6_drawn 60 [l0, l1, l2, l3, l4, l5, l6] S σ = exec d mX6_drawn 61 [l0, l1, l2, l3, l4, l5, l6] (.int (nI 0) :: S) σ) ∧
  (∀ (d : Nat) (σ : Sg) (S : List Value) (l0 l1 l2 l3 l4 l6 : Value) (x : Int32), exec d mX6_drawn 61 [l0, l1, l2, l3, l4, uu, l6] (.int x :: S) σ = exec d mX6_drawn 63 [l0, l1, l2, l3, l4, uu, .int x] S σ) ∧
  (∀ (d : Nat) (σ : Sg) (S : List Value) (l0 l2 l3 l4 l5 l6 : Value) (x : Int32), exec d mX6_drawn 65 [l0, .int x, l2, l3, l4, l5, l6] S σ = exec d mX6_drawn 66 [l0, .int x, l2, l3, l4, l5, l6] (.int x :: S) σ) ∧
  (∀ (d : Nat) (σ : Sg) (S : List Value) (l0 l1 l2 l3 l4 l5 l6 : Value) (x y : Int32), exec d mX6_drawn 66 [l0, l1, l2, l3, l4, l5, l6] (.int y :: .int x :: S) σ = if y ≤ x then exec d mX6_drawn 96 [l0, l1, l2, l3, l4, l5, l6] S σ else exec d mX6_drawn 69 [l0, l1, l2, l3, l4, l5, l6] S σ) ∧
  (∀ (d : Nat) (σ : Sg) (S : List Value) (l0 l1 l2 l3 l5 l6 : Value) (x : Int64), exec d mX6_drawn 69 [l0, l1, l2, l3, .long x, l5, l6] S σ = exec d mX6_drawn 71 [l0, l1, l2, l3, .long x, l5, l6] (.long x :: S) σ) ∧
  (∀ (d : Nat) (σ : Sg) (S : List Value) (l0 l1 l2 l3 l4 l5 l6 : Value), exec d mX6_drawn 71 [l0, l1, l2, l3, l4, l5, l6] S σ = exec d mX6_drawn 74 [l0, l1, l2, l3, l4, l5, l6] (.long (lN 16807) :: S) σ) ∧
  (∀ (d : Nat) (σ : Sg) (S : List Value) (l0 l1 l2 l3 l4 l5 l6 : Value) (x y : Int64), exec d mX6_drawn 74 [l0, l1, l2, l3, l4, l5, l6] (.long y :: .long x :: S) σ = exec d mX6_drawn 75 [l0, l1, l2, l3, l4, l5, l6] (.long (x * y) :: S) σ) ∧
  (∀ (d : Nat) (σ : Sg) (S : List Value) (l0 l1 l2 l3 l4 l5 l6 : Value), exec d mX6_drawn 75 [l0, l1, l2, l3, l4, l5, l6] S σ = exec d mX6_drawn 78 [l0, l1, l2, l3, l4, l5, l6] (.long (lN 2147483647) :: S) σ) ∧
  (∀ (d : Nat) (σ : Sg) (S : List Value) (l0 l1 l2 l3 l4 l5 l6 : Value) (x y : Int64), exec d mX6_drawn 78 [l0, l1, l2, l3, l4, l5, l6] (.long y :: .long x :: S) σ = if y = 0 then none else exec d mX6_drawn 79 [l0, l1, l2, l3, l4, l5, l6] (.long (x - x / y * y) :: S) σ) ∧
  (∀ (d : Nat) (σ : Sg) (S : List Value) (l0 l1 l2 l4 l5 l6 : Value) (y : Int32) (x : Int64), exec d mX6_drawn 79 [l0, l1, l2, .int y, l4, l5, l6] (.long x :: S) σ = exec d mX6_drawn 81 [l0, l1, l2, .int y, .long x, uu, l6] S σ) :=
  ⟨fun d σ S l1 l2 l3 l4 l5 l6 k => ex_aload_n (show decode mX6_drawn.2.1 0 = .ok (.aload_n 0, 1) by decide +kernel) rfl,
  fun d σ S l0 l1 l2 l3 l4 l5 l6 => ex_getr (idx := 26) (ci := 6) (ff := 2) (n := 11) (hh := 348) (by decide +kernel),
  fun d σ S l0 l1 l2 l3 l4 l5 l6 => ex_get (idx := 176) (ci := 5) (ff := 0) (n := 17) (hh := 182) (by decide +kernel),
  fun d σ S l0 l1 l2 l3 l4 l5 l6 x => ex_zne (show decode mX6_drawn.2.1 7 = .ok (.ifCond .ne 6, 3) by decide +kernel) (by decide),
  fun d σ S l0 l1 l2 l3 l4 l5 l6 => ex_ldc (hh := 519) (show decode mX6_drawn.2.1 10 = .ok (.ldc 134, 2) by decide +kernel) (by decide +kernel),
  fun d σ l0 l1 l2 l3 l4 l5 l6 x => ex_iret (show decode mX6_drawn.2.1 12 = .ok (.ireturn, 1) by decide +kernel) rfl,
  fun d σ S l0 l2 l3 l4 l5 l6 x => ex_iload_n (show decode mX6_drawn.2.1 13 = .ok (.iload_n 1, 1) by decide +kernel) rfl,
  fun d σ S l0 l1 l2 l3 l4 l5 l6 x => ex_zlt (show decode mX6_drawn.2.1 14 = .ok (.ifCond .lt 28, 3) by decide +kernel) (by decide),
  fun d σ S l0 l2 l3 l4 l5 l6 x => ex_iload_n (show decode mX6_drawn.2.1 17 = .ok (.iload_n 1, 1) by decide +kernel) rfl,
  fun d σ S l0 l1 l2 l3 l4 l5 l6 => ex_bipush (show decode mX6_drawn.2.1 18 = .ok (.bipush 30, 2) by decide +kernel) (by decide +kernel),
  fun d σ S l0 l1 l2 l3 l4 l5 l6 x y => ex_cgt (show decode mX6_drawn.2.1 20 = .ok (.if_icmp .gt 22, 3) by decide +kernel) (by decide),
  fun d σ S l0 l1 l3 l4 l5 l6 x => ex_iload_n (show decode mX6_drawn.2.1 23 = .ok (.iload_n 2, 1) by decide +kernel) rfl,
  fun d σ S l0 l1 l2 l3 l4 l5 l6 => ex_iconst (show decode mX6_drawn.2.1 24 = .ok (.iconst 1, 1) by decide +kernel) (by decide +kernel),
  fun d σ S l0 l1 l2 l3 l4 l5 l6 x y => ex_clt (show decode mX6_drawn.2.1 25 = .ok (.if_icmp .lt 17, 3) by decide +kernel) (by decide),
  fun d σ S l0 l1 l3 l4 l5 l6 x => ex_iload_n (show decode mX6_drawn.2.1 28 = .ok (.iload_n 2, 1) by decide +kernel) rfl,
  fun d σ S l0 l1 l2 l3 l4 l5 l6 => ex_ldcw (hh := 752) (show decode mX6_drawn.2.1 29 = .ok (.ldc_w 288, 3) by decide +kernel) (by decide +kernel),
  fun d σ S l0 l1 l2 l3 l4 l5 l6 x y => ex_cgt (show decode mX6_drawn.2.1 32 = .ok (.if_icmp .gt 10, 3) by decide +kernel) (by decide),
  fun d σ S l0 l1 l2 l4 l5 l6 x => ex_iload_n (show decode mX6_drawn.2.1 35 = .ok (.iload_n 3, 1) by decide +kernel) rfl,
  fun d σ l0 l1 l2 l3 l4 l5 l6 x0 => ex_is (hs := [669, 670, 671, 94]) (show decode mX6_drawn.2.1 36 = .ok (.invokestatic 239, 3) by decide +kernel) lkS_6_239 ⟨rfl, Nat.le_of_ble_eq_true rfl, Nat.le_of_ble_eq_true rfl, fun q => nomatch q⟩ rfl rfl,
  fun d σ S l0 l1 l2 l3 l4 l5 l6 x => ex_zne (show decode mX6_drawn.2.1 39 = .ok (.ifCond .ne 6, 3) by decide +kernel) (by decide),
  fun d σ S l0 l1 l2 l3 l4 l5 l6 => ex_ldc (hh := 387) (show decode mX6_drawn.2.1 42 = .ok (.ldc 64, 2) by decide +kernel) (by decide +kernel),
  fun d σ l0 l1 l2 l3 l4 l5 l6 x => ex_iret (show decode mX6_drawn.2.1 44 = .ok (.ireturn, 1) by decide +kernel) rfl,
  fun d σ S l1 l2 l3 l4 l5 l6 k => ex_aload_n (show decode mX6_drawn.2.1 45 = .ok (.aload_n 0, 1) by decide +kernel) rfl,
  fun d σ S l0 l1 l2 l3 l4 l5 l6 => ex_getr (idx := 36) (ci := 6) (ff := 5) (n := 11) (hh := 351) (by decide +kernel),
  fun d σ S l1 l2 l3 l4 l5 l6 k => ex_aload_n (show decode mX6_drawn.2.1 49 = .ok (.aload_n 0, 1) by decide +kernel) rfl,
  fun d σ S l0 l1 l2 l3 l4 l5 l6 => ex_getr (idx := 26) (ci := 6) (ff := 2) (n := 11) (hh := 348) (by decide +kernel),
  fun d σ l0 l1 l2 l3 l4 l5 l6 => ex_iv (hs := [503, 505, 20, 506, 97]) (show decode mX6_drawn.2.1 53 = .ok (.invokevirtual 121, 3) by decide +kernel) lkV_6_121 ⟨rfl, Nat.le_of_ble_eq_true rfl, Nat.le_of_ble_eq_true rfl, fun _ => rfl⟩ rfl rfl,
  fun d σ S l0 l1 l3 l4 l5 l6 x => ex_iload_n (show decode mX6_drawn.2.1 56 = .ok (.iload_n 2, 1) by decide +kernel) rfl,
  fun d σ S l0 l1 l2 l3 l4 l5 l6 x => ex_i2l (show decode mX6_drawn.2.1 57 = .ok (.i2l, 1) by decide +kernel),
  fun d σ S l0 l1 l2 l4 l5 l6 y x => ex_lstore (show decode mX6_drawn.2.1 58 = .ok (.lstore 4, 2) by decide +kernel) (Nat.le_of_ble_eq_true rfl) rfl,
  fun d σ S l0 l1 l2 l3 l4 l5 l6 => ex_iconst (show decode mX6_drawn.2.1 60 = .ok (.iconst 0, 1) by decide +kernel) (by decide +kernel),
  fun d σ S l0 l1 l2 l3 l4 l6 x => ex_istore (show decode mX6_drawn.2.1 61 = .ok (.istore 6, 2) by decide +kernel) (Nat.le_of_ble_eq_true rfl) rfl,
  fun d σ S l0 l2 l3 l4 l5 l6 x => ex_iload_n (show decode mX6_drawn.2.1 65 = .ok (.iload_n 1, 1) by decide +kernel) rfl,
  fun d σ S l0 l1 l2 l3 l4 l5 l6 x y => ex_cge (show decode mX6_drawn.2.1 66 = .ok (.if_icmp .ge 30, 3) by decide +kernel) (by decide),
  fun d σ S l0 l1 l2 l3 l5 l6 x => ex_lload (show decode mX6_drawn.2.1 69 = .ok (.lload 4, 2) by decide +kernel) rfl,
  fun d σ S l0 l1 l2 l3 l4 l5 l6 => ex_ldc2 (hh := 753) (show decode mX6_drawn.2.1 71 = .ok (.ldc2_w 289, 3) by decide +kernel) (by decide +kernel),
  fun d σ S l0 l1 l2 l3 l4 l5 l6 x y => ex_lmul (show decode mX6_drawn.2.1 74 = .ok (.lmul, 1) by decide +kernel),
  fun d σ S l0 l1 l2 l3 l4 l5 l6 => ex_ldc2 (hh := 754) (show decode mX6_drawn.2.1 75 = .ok (.ldc2_w 291, 3) by decide +kernel) (by decide +kernel),
  fun d σ S l0 l1 l2 l3 l4 l5 l6 x y => ex_lrem (show decode mX6_drawn.2.1 78 = .ok (.lrem, 1) by decide +kernel),
  fun d σ S l0 l1 l2 l4 l5 l6 y x => ex_lstore (show decode mX6_drawn.2.1 79 = .ok (.lstore 4, 2) by decide +kernel) (Nat.le_of_ble_eq_true rfl) rfl⟩
theorem kX6_drawn_1 : (∀ (d : Nat) (σ : Sg) (S : List Value) (l1 l2 l3 l4 l5 l6 : Value) (k : Nat), exec d mX6_drawn 81 [.ref k, l1, l2, l3, l4, l5, l6] S σ = exec d mX6_drawn 82 [.ref k, l1, l2, l3, l4, l5, l6] (.ref k :: S) σ) ∧
  (∀ (d : Nat) (σ : Sg) (S : List Value) (l0 l1 l2 l3 l4 l5 l6 : Value), exec d mX6_drawn 82 [l0, l1, l2, l3, l4, l5, l6] (.ref 0 :: S) σ = exec d mX6_drawn 85 [l0, l1, l2, l3, l4, l5, l6] (.ref 35 :: S) σ) ∧
  (∀ (d : Nat) (σ : Sg) (S : List Value) (l0 l1 l2 l3 l5 l6 : Value) (x : Int64), exec d mX6_drawn 85 [l0, l1, l2, l3, .long x, l5, l6] S σ = exec d mX6_drawn 87 [l0, l1, l2, l3, .long x, l5, l6] (.long x :: S) σ) ∧
  (∀ (d : Nat) (σ : Sg) (l0 l1 l2 l3 l4 l5 l6 : Value) (x0 : Int64), exec d mX6_drawn 87 [l0, l1, l2, l3, l4, l5, l6] [.long x0, .ref 35] σ = kb (cal d mX5_buildDrawn [.ref 35, .long x0] σ) (fun rs σ2 => exec d mX6_drawn 90 [l0, l1, l2, l3, l4, l5, l6] (rs ++ []) σ2)) ∧
  (∀ (d : Nat) (σ : Sg) (S : List Value) (l0 l1 l2 l3 l4 : Value) (x : Int32), exec d mX6_drawn 90 [l0, l1, l2, l3, l4, uu, .int x] S σ = exec d mX6_drawn 93 [l0, l1, l2, l3, l4, uu, .int (x + nI 1)] S σ) ∧
  (∀ (d : Nat) (σ : Sg) (S : List Value) (l0 l1 l2 l3 l4 l5 l6 : Value), exec d mX6_drawn 93 [l0, l1, l2, l3, l4, l5, l6] S σ = exec d mX6_drawn 63 [l0, l1, l2, l3, l4, l5, l6] S σ) ∧
  (∀ (d : Nat) (σ : Sg) (S : List Value) (l0 l1 l2 l4 l5 l6 : Value) (x : Int32), exec d mX6_drawn 96 [l0, l1, l2, .int x, l4, l5, l6] S σ = exec d mX6_drawn 97 [l0, l1, l2, .int x, l4, l5, l6] (.int x :: S) σ) ∧
  (∀ (d : Nat) (σ : Sg) (S : List Value) (l0 l1 l2 l3 l4 l5 l6 : Value) (x : Int32), exec d mX6_drawn 97 [l0, l1, l2, l3, l4, l5, l6] (.int x :: S) σ = if x = nI 0 then exec d mX6_drawn 100 [l0, l1, l2, l3, l4, l5, l6] S σ else exec d mX6_drawn 110 [l0, l1, l2, l3, l4, l5, l6] S σ) ∧
  (∀ (d : Nat) (σ : Sg) (S : List Value) (l1 l2 l3 l4 l5 l6 : Value) (k : Nat), exec d mX6_drawn 100 [.ref k, l1, l2, l3, l4, l5, l6] S σ = exec d mX6_drawn 101 [.ref k, l1, l2, l3, l4, l5, l6] (.ref k :: S) σ) ∧
  (∀ (d : Nat) (σ : Sg) (S : List Value) (l0 l1 l2 l3 l4 l5 l6 : Value), exec d mX6_drawn 101 [l0, l1, l2, l3, l4, l5, l6] (.ref 0 :: S) σ = exec d mX6_drawn 104 [l0, l1, l2, l3, l4, l5, l6] (.ref 35 :: S) σ) ∧
  (∀ (d : Nat) (σ : Sg) (S : List Value) (l0 l1 l2 l3 l4 l5 l6 : Value), exec d mX6_drawn 104 [l0, l1, l2, l3, l4, l5, l6] (.ref 35 :: S) σ = exec d mX6_drawn 107 [l0, l1, l2, l3, l4, l5, l6] (.int (σ 35 6) :: S) σ) ∧
  (∀ (d : Nat) (σ : Sg) (S : List Value) (l0 l1 l2 l3 l4 l5 l6 : Value), exec d mX6_drawn 107 [l0, l1, l2, l3, l4, l5, l6] S σ = exec d mX6_drawn 120 [l0, l1, l2, l3, l4, l5, l6] S σ) ∧
  (∀ (d : Nat) (σ : Sg) (S : List Value) (l1 l2 l3 l4 l5 l6 : Value) (k : Nat), exec d mX6_drawn 110 [.ref k, l1, l2, l3, l4, l5, l6] S σ = exec d mX6_drawn 111 [.ref k, l1, l2, l3, l4, l5, l6] (.ref k :: S) σ) ∧
  (∀ (d : Nat) (σ : Sg) (S : List Value) (l0 l1 l2 l3 l4 l5 l6 : Value), exec d mX6_drawn 111 [l0, l1, l2, l3, l4, l5, l6] (.ref 0 :: S) σ = exec d mX6_drawn 114 [l0, l1, l2, l3, l4, l5, l6] (.ref 35 :: S) σ) ∧
  (∀ (d : Nat) (σ : Sg) (S : List Value) (l0 l1 l2 l3 l4 l5 l6 : Value), exec d mX6_drawn 114 [l0, l1, l2, l3, l4, l5, l6] (.ref 35 :: S) σ = exec d mX6_drawn 117 [l0, l1, l2, l3, l4, l5, l6] (.int (σ 35 7) :: S) σ) ∧
  (∀ (d : Nat) (σ : Sg) (l0 l1 l2 l3 l4 l5 l6 : Value) (x0 : Int32), exec d mX6_drawn 117 [l0, l1, l2, l3, l4, l5, l6] [.int x0] σ = kb (cal d mJ6_bitCount_0f7a4 [.int x0] σ) (fun rs σ2 => exec d mX6_drawn 120 [l0, l1, l2, l3, l4, l5, l6] (rs ++ []) σ2)) ∧
  (∀ (d : Nat) (σ : Sg) (l0 l1 l2 l3 l4 l5 l6 : Value) (x : Int32), exec d mX6_drawn 120 [l0, l1, l2, l3, l4, l5, l6] [.int x] σ = some (some (.int x), σ)) :=
  ⟨fun d σ S l1 l2 l3 l4 l5 l6 k => ex_aload_n (show decode mX6_drawn.2.1 81 = .ok (.aload_n 0, 1) by decide +kernel) rfl,
  fun d σ S l0 l1 l2 l3 l4 l5 l6 => ex_getr (idx := 36) (ci := 6) (ff := 5) (n := 11) (hh := 351) (by decide +kernel),
  fun d σ S l0 l1 l2 l3 l5 l6 x => ex_lload (show decode mX6_drawn.2.1 85 = .ok (.lload 4, 2) by decide +kernel) rfl,
  fun d σ l0 l1 l2 l3 l4 l5 l6 x0 => ex_iv (hs := [755, 757, 48, 758, 97]) (show decode mX6_drawn.2.1 87 = .ok (.invokevirtual 293, 3) by decide +kernel) lkV_6_293 ⟨rfl, Nat.le_of_ble_eq_true rfl, Nat.le_of_ble_eq_true rfl, fun _ => rfl⟩ rfl rfl,
  fun d σ S l0 l1 l2 l3 l4 x => ex_iinc (show decode mX6_drawn.2.1 90 = .ok (.iinc 6 1, 3) by decide +kernel) rfl (by decide +kernel) (Nat.le_of_ble_eq_true rfl) rfl,
  fun d σ S l0 l1 l2 l3 l4 l5 l6 => ex_goto (show decode mX6_drawn.2.1 93 = .ok (.goto (-30), 3) by decide +kernel) (by decide),
  fun d σ S l0 l1 l2 l4 l5 l6 x => ex_iload_n (show decode mX6_drawn.2.1 96 = .ok (.iload_n 3, 1) by decide +kernel) rfl,
  fun d σ S l0 l1 l2 l3 l4 l5 l6 x => ex_zne (show decode mX6_drawn.2.1 97 = .ok (.ifCond .ne 13, 3) by decide +kernel) (by decide),
  fun d σ S l1 l2 l3 l4 l5 l6 k => ex_aload_n (show decode mX6_drawn.2.1 100 = .ok (.aload_n 0, 1) by decide +kernel) rfl,
  fun d σ S l0 l1 l2 l3 l4 l5 l6 => ex_getr (idx := 36) (ci := 6) (ff := 5) (n := 11) (hh := 351) (by decide +kernel),
  fun d σ S l0 l1 l2 l3 l4 l5 l6 => ex_get (idx := 193) (ci := 5) (ff := 6) (n := 17) (hh := 208) (by decide +kernel),
  fun d σ S l0 l1 l2 l3 l4 l5 l6 => ex_goto (show decode mX6_drawn.2.1 107 = .ok (.goto 13, 3) by decide +kernel) (by decide),
  fun d σ S l1 l2 l3 l4 l5 l6 k => ex_aload_n (show decode mX6_drawn.2.1 110 = .ok (.aload_n 0, 1) by decide +kernel) rfl,
  fun d σ S l0 l1 l2 l3 l4 l5 l6 => ex_getr (idx := 36) (ci := 6) (ff := 5) (n := 11) (hh := 351) (by decide +kernel),
  fun d σ S l0 l1 l2 l3 l4 l5 l6 => ex_get (idx := 151) (ci := 5) (ff := 7) (n := 17) (hh := 212) (by decide +kernel),
  fun d σ l0 l1 l2 l3 l4 l5 l6 x0 => ex_is (hs := [676, 605, 606, 104]) (show decode mX6_drawn.2.1 117 = .ok (.invokestatic 246, 3) by decide +kernel) lkS_6_246 ⟨rfl, Nat.le_of_ble_eq_true rfl, Nat.le_of_ble_eq_true rfl, fun q => nomatch q⟩ rfl rfl,
  fun d σ l0 l1 l2 l3 l4 l5 l6 x => ex_iret (show decode mX6_drawn.2.1 120 = .ok (.ireturn, 1) by decide +kernel) rfl⟩
theorem hX6_drawn_63 : ∀ (d : Nat) (σ : Sg) (S : List Value) (l0 l1 l2 l3 l4 l5 : Value) (x : Int32), exec d mX6_drawn 63 [l0, l1, l2, l3, l4, l5, .int x] S σ = exec d mX6_drawn 65 [l0, l1, l2, l3, l4, l5, .int x] (.int x :: S) σ := fun d σ S l0 l1 l2 l3 l4 l5 x => ex_iload (show decode mX6_drawn.2.1 63 = .ok (.iload 6, 2) by decide +kernel) rfl
theorem aX6_drawn_0 : ∀ (d : Nat) (a1 : Int32) (a2 : Int32) (a3 : Int32) (σ : Sg), cal (d + 1) mX6_drawn [.ref 0, .int a1, .int a2, .int a3] σ = exec d mX6_drawn 0 [.ref 0, .int a1, .int a2, .int a3, uu, uu, uu] [] σ := fun _ _ _ _ _ => rfl
theorem kX6_image : (∀ (d : Nat) (σ : Sg) (S : List Value) (l0 : Value) (x : Int32), exec d mX6_image 0 [l0, .int x] S σ = exec d mX6_image 1 [l0, .int x] (.int x :: S) σ) ∧
  (∀ (d : Nat) (σ : Sg) (l0 l1 : Value) (x0 : Int32), exec d mX6_image 1 [l0, l1] [.int x0] σ = kb (cal d mX6_isOneOfTwo [.int x0] σ) (fun rs σ2 => exec d mX6_image 4 [l0, l1] (rs ++ []) σ2)) ∧
  (∀ (d : Nat) (σ : Sg) (S : List Value) (l0 l1 : Value) (x : Int32), exec d mX6_image 4 [l0, l1] (.int x :: S) σ = if x = nI 0 then exec d mX6_image 7 [l0, l1] S σ else exec d mX6_image 10 [l0, l1] S σ) ∧
  (∀ (d : Nat) (σ : Sg) (S : List Value) (l0 l1 : Value), exec d mX6_image 7 [l0, l1] S σ = exec d mX6_image 9 [l0, l1] (.int ((-1000001)) :: S) σ) ∧
  (∀ (d : Nat) (σ : Sg) (l0 l1 : Value) (x : Int32), exec d mX6_image 9 [l0, l1] [.int x] σ = some (some (.int x), σ)) ∧
  (∀ (d : Nat) (σ : Sg) (S : List Value) (l1 : Value) (k : Nat), exec d mX6_image 10 [.ref k, l1] S σ = exec d mX6_image 11 [.ref k, l1] (.ref k :: S) σ) ∧
  (∀ (d : Nat) (σ : Sg) (S : List Value) (l0 l1 : Value), exec d mX6_image 11 [l0, l1] (.ref 0 :: S) σ = exec d mX6_image 14 [l0, l1] (.ref 8 :: S) σ) ∧
  (∀ (d : Nat) (σ : Sg) (S : List Value) (l0 l1 : Value), exec d mX6_image 14 [l0, l1] (.ref 8 :: S) σ = exec d mX6_image 17 [l0, l1] (.int (σ 8 0) :: S) σ) ∧
  (∀ (d : Nat) (σ : Sg) (S : List Value) (l0 l1 : Value) (x : Int32), exec d mX6_image 17 [l0, l1] (.int x :: S) σ = if x = nI 0 then exec d mX6_image 20 [l0, l1] S σ else exec d mX6_image 23 [l0, l1] S σ) ∧
  (∀ (d : Nat) (σ : Sg) (S : List Value) (l0 l1 : Value), exec d mX6_image 20 [l0, l1] S σ = exec d mX6_image 22 [l0, l1] (.int ((-1000002)) :: S) σ) ∧
  (∀ (d : Nat) (σ : Sg) (l0 l1 : Value) (x : Int32), exec d mX6_image 22 [l0, l1] [.int x] σ = some (some (.int x), σ)) ∧
  (∀ (d : Nat) (σ : Sg) (S : List Value) (l1 : Value) (k : Nat), exec d mX6_image 23 [.ref k, l1] S σ = exec d mX6_image 24 [.ref k, l1] (.ref k :: S) σ) ∧
  (∀ (d : Nat) (σ : Sg) (S : List Value) (l0 : Value) (x : Int32), exec d mX6_image 24 [l0, .int x] S σ = exec d mX6_image 25 [l0, .int x] (.int x :: S) σ) ∧
  (∀ (d : Nat) (σ : Sg) (l0 l1 : Value) (x0 : Int32), exec d mX6_image 25 [l0, l1] [.int x0, .ref 0] σ = kb (cal d mX6_imageOf [.ref 0, .int x0] σ) (fun rs σ2 => exec d mX6_image 28 [l0, l1] (rs ++ []) σ2)) ∧
  (∀ (d : Nat) (σ : Sg) (S : List Value) (l1 : Value) (k : Nat), exec d mX6_image 28 [.ref k, l1] S σ = exec d mX6_image 29 [.ref k, l1] (.ref k :: S) σ) ∧
  (∀ (d : Nat) (σ : Sg) (S : List Value) (l0 l1 : Value), exec d mX6_image 29 [l0, l1] (.ref 0 :: S) σ = exec d mX6_image 32 [l0, l1] (.ref 8 :: S) σ) ∧
  (∀ (d : Nat) (σ : Sg) (l0 l1 : Value), exec d mX6_image 32 [l0, l1] [.ref 8, .ref 17] σ = kb (cal d mX5_copyFrom [.ref 17, .ref 8] σ) (fun rs σ2 => exec d mX6_image 35 [l0, l1] (rs ++ []) σ2)) ∧
  (∀ (d : Nat) (σ : Sg) (l0 l1 : Value), exec d mX6_image 32 [l0, l1] [.ref 8, .ref 26] σ = kb (cal d mX5_copyFrom [.ref 26, .ref 8] σ) (fun rs σ2 => exec d mX6_image 35 [l0, l1] (rs ++ []) σ2)) ∧
  (∀ (d : Nat) (σ : Sg) (S : List Value) (l0 l1 : Value), exec d mX6_image 35 [l0, l1] S σ = exec d mX6_image 36 [l0, l1] (.int (nI 1) :: S) σ) ∧
  (∀ (d : Nat) (σ : Sg) (l0 l1 : Value) (x : Int32), exec d mX6_image 36 [l0, l1] [.int x] σ = some (some (.int x), σ)) :=
  ⟨fun d σ S l0 x => ex_iload_n (show decode mX6_image.2.1 0 = .ok (.iload_n 1, 1) by decide +kernel) rfl,
  fun d σ l0 l1 x0 => ex_is (hs := [669, 670, 671, 94]) (show decode mX6_image.2.1 1 = .ok (.invokestatic 239, 3) by decide +kernel) lkS_6_239 ⟨rfl, Nat.le_of_ble_eq_true rfl, Nat.le_of_ble_eq_true rfl, fun q => nomatch q⟩ rfl rfl,
  fun d σ S l0 l1 x => ex_zne (show decode mX6_image.2.1 4 = .ok (.ifCond .ne 6, 3) by decide +kernel) (by decide),
  fun d σ S l0 l1 => ex_ldc (hh := 387) (show decode mX6_image.2.1 7 = .ok (.ldc 64, 2) by decide +kernel) (by decide +kernel),
  fun d σ l0 l1 x => ex_iret (show decode mX6_image.2.1 9 = .ok (.ireturn, 1) by decide +kernel) rfl,
  fun d σ S l1 k => ex_aload_n (show decode mX6_image.2.1 10 = .ok (.aload_n 0, 1) by decide +kernel) rfl,
  fun d σ S l0 l1 => ex_getr (idx := 26) (ci := 6) (ff := 2) (n := 11) (hh := 348) (by decide +kernel),
  fun d σ S l0 l1 => ex_get (idx := 176) (ci := 5) (ff := 0) (n := 17) (hh := 182) (by decide +kernel),
  fun d σ S l0 l1 x => ex_zne (show decode mX6_image.2.1 17 = .ok (.ifCond .ne 6, 3) by decide +kernel) (by decide),
  fun d σ S l0 l1 => ex_ldc (hh := 519) (show decode mX6_image.2.1 20 = .ok (.ldc 134, 2) by decide +kernel) (by decide +kernel),
  fun d σ l0 l1 x => ex_iret (show decode mX6_image.2.1 22 = .ok (.ireturn, 1) by decide +kernel) rfl,
  fun d σ S l1 k => ex_aload_n (show decode mX6_image.2.1 23 = .ok (.aload_n 0, 1) by decide +kernel) rfl,
  fun d σ S l0 x => ex_iload_n (show decode mX6_image.2.1 24 = .ok (.iload_n 1, 1) by decide +kernel) rfl,
  fun d σ l0 l1 x0 => ex_iv (hs := [766, 768, 49, 769, 94]) (show decode mX6_image.2.1 25 = .ok (.invokevirtual 297, 3) by decide +kernel) lkV_6_297 ⟨rfl, Nat.le_of_ble_eq_true rfl, Nat.le_of_ble_eq_true rfl, fun _ => rfl⟩ rfl rfl,
  fun d σ S l1 k => ex_aload_n (show decode mX6_image.2.1 28 = .ok (.aload_n 0, 1) by decide +kernel) rfl,
  fun d σ S l0 l1 => ex_getr (idx := 26) (ci := 6) (ff := 2) (n := 11) (hh := 348) (by decide +kernel),
  fun d σ l0 l1 => ex_iv (hs := [503, 505, 20, 506, 97]) (show decode mX6_image.2.1 32 = .ok (.invokevirtual 121, 3) by decide +kernel) lkV_6_121 ⟨rfl, Nat.le_of_ble_eq_true rfl, Nat.le_of_ble_eq_true rfl, fun _ => rfl⟩ rfl rfl,
  fun d σ l0 l1 => ex_iv (hs := [503, 505, 20, 506, 97]) (show decode mX6_image.2.1 32 = .ok (.invokevirtual 121, 3) by decide +kernel) lkV_6_121 ⟨rfl, Nat.le_of_ble_eq_true rfl, Nat.le_of_ble_eq_true rfl, fun _ => rfl⟩ rfl rfl,
  fun d σ S l0 l1 => ex_iconst (show decode mX6_image.2.1 35 = .ok (.iconst 1, 1) by decide +kernel) (by decide +kernel),
  fun d σ l0 l1 x => ex_iret (show decode mX6_image.2.1 36 = .ok (.ireturn, 1) by decide +kernel) rfl⟩
theorem aX6_image_0 : ∀ (d : Nat) (a1 : Int32) (σ : Sg), cal (d + 1) mX6_image [.ref 0, .int a1] σ = exec d mX6_image 0 [.ref 0, .int a1] [] σ := fun _ _ _ => rfl
theorem kX6_restore : (∀ (d : Nat) (σ : Sg) (S : List Value) (l0 : Value) (x : Int32), exec d mX6_restore 0 [l0, .int x] S σ = exec d mX6_restore 1 [l0, .int x] (.int x :: S) σ) ∧
  (∀ (d : Nat) (σ : Sg) (l0 l1 : Value) (x0 : Int32), exec d mX6_restore 1 [l0, l1] [.int x0] σ = kb (cal d mX6_isOneOfTwo [.int x0] σ) (fun rs σ2 => exec d mX6_restore 4 [l0, l1] (rs ++ []) σ2)) ∧
  (∀ (d : Nat) (σ : Sg) (S : List Value) (l0 l1 : Value) (x : Int32), exec d mX6_restore 4 [l0, l1] (.int x :: S) σ = if x = nI 0 then exec d mX6_restore 7 [l0, l1] S σ else exec d mX6_restore 10 [l0, l1] S σ) ∧
  (∀ (d : Nat) (σ : Sg) (S : List Value) (l0 l1 : Value), exec d mX6_restore 7 [l0, l1] S σ = exec d mX6_restore 9 [l0, l1] (.int ((-1000001)) :: S) σ) ∧
  (∀ (d : Nat) (σ : Sg) (l0 l1 : Value) (x : Int32), exec d mX6_restore 9 [l0, l1] [.int x] σ = some (some (.int x), σ)) ∧
  (∀ (d : Nat) (σ : Sg) (S : List Value) (l1 : Value) (k : Nat), exec d mX6_restore 10 [.ref k, l1] S σ = exec d mX6_restore 11 [.ref k, l1] (.ref k :: S) σ) ∧
  (∀ (d : Nat) (σ : Sg) (S : List Value) (l0 : Value) (x : Int32), exec d mX6_restore 11 [l0, .int x] S σ = exec d mX6_restore 12 [l0, .int x] (.int x :: S) σ) ∧
  (∀ (d : Nat) (σ : Sg) (l0 l1 : Value) (x0 : Int32), exec d mX6_restore 12 [l0, l1] [.int x0, .ref 0] σ = kb (cal d mX6_imageOf [.ref 0, .int x0] σ) (fun rs σ2 => exec d mX6_restore 15 [l0, l1] (rs ++ []) σ2)) ∧
  (∀ (d : Nat) (σ : Sg) (S : List Value) (l0 l1 : Value), exec d mX6_restore 15 [l0, l1] (.ref 17 :: S) σ = exec d mX6_restore 18 [l0, l1] (.int (σ 17 0) :: S) σ) ∧
  (∀ (d : Nat) (σ : Sg) (S : List Value) (l0 l1 : Value), exec d mX6_restore 15 [l0, l1] (.ref 26 :: S) σ = exec d mX6_restore 18 [l0, l1] (.int (σ 26 0) :: S) σ) ∧
  (∀ (d : Nat) (σ : Sg) (S : List Value) (l0 l1 : Value) (x : Int32), exec d mX6_restore 18 [l0, l1] (.int x :: S) σ = if x = nI 0 then exec d mX6_restore 21 [l0, l1] S σ else exec d mX6_restore 24 [l0, l1] S σ) ∧
  (∀ (d : Nat) (σ : Sg) (S : List Value) (l0 l1 : Value), exec d mX6_restore 21 [l0, l1] S σ = exec d mX6_restore 23 [l0, l1] (.int ((-1000002)) :: S) σ) ∧
  (∀ (d : Nat) (σ : Sg) (l0 l1 : Value) (x : Int32), exec d mX6_restore 23 [l0, l1] [.int x] σ = some (some (.int x), σ)) ∧
  (∀ (d : Nat) (σ : Sg) (S : List Value) (l1 : Value) (k : Nat), exec d mX6_restore 24 [.ref k, l1] S σ = exec d mX6_restore 25 [.ref k, l1] (.ref k :: S) σ) ∧
  (∀ (d : Nat) (σ : Sg) (S : List Value) (l0 l1 : Value), exec d mX6_restore 25 [l0, l1] (.ref 0 :: S) σ = exec d mX6_restore 28 [l0, l1] (.ref 8 :: S) σ) ∧
  (∀ (d : Nat) (σ : Sg) (S : List Value) (l1 : Value) (k : Nat), exec d mX6_restore 28 [.ref k, l1] S σ = exec d mX6_restore 29 [.ref k, l1] (.ref k :: S) σ) ∧
  (∀ (d : Nat) (σ : Sg) (S : List Value) (l0 : Value) (x : Int32), exec d mX6_restore 29 [l0, .int x] S σ = exec d mX6_restore 30 [l0, .int x] (.int x :: S) σ) ∧
  (∀ (d : Nat) (σ : Sg) (l0 l1 : Value) (x0 : Int32), exec d mX6_restore 30 [l0, l1] [.int x0, .ref 0, .ref 8] σ = kb (cal d mX6_imageOf [.ref 0, .int x0] σ) (fun rs σ2 => exec d mX6_restore 33 [l0, l1] (rs ++ [.ref 8]) σ2)) ∧
  (∀ (d : Nat) (σ : Sg) (l0 l1 : Value), exec d mX6_restore 33 [l0, l1] [.ref 17, .ref 8] σ = kb (cal d mX5_copyFrom [.ref 8, .ref 17] σ) (fun rs σ2 => exec d mX6_restore 36 [l0, l1] (rs ++ []) σ2)) ∧
  (∀ (d : Nat) (σ : Sg) (l0 l1 : Value), exec d mX6_restore 33 [l0, l1] [.ref 26, .ref 8] σ = kb (cal d mX5_copyFrom [.ref 8, .ref 26] σ) (fun rs σ2 => exec d mX6_restore 36 [l0, l1] (rs ++ []) σ2)) ∧
  (∀ (d : Nat) (σ : Sg) (S : List Value) (l1 : Value) (k : Nat), exec d mX6_restore 36 [.ref k, l1] S σ = exec d mX6_restore 37 [.ref k, l1] (.ref k :: S) σ) ∧
  (∀ (d : Nat) (σ : Sg) (S : List Value) (l0 l1 : Value), exec d mX6_restore 37 [l0, l1] (.ref 0 :: S) σ = exec d mX6_restore 40 [l0, l1] (.ref 44 :: S) σ) ∧
  (∀ (d : Nat) (σ : Sg) (l0 l1 : Value), exec d mX6_restore 40 [l0, l1] [.ref 44] σ = kb (cal d mX0_forget [.ref 44] σ) (fun rs σ2 => exec d mX6_restore 43 [l0, l1] (rs ++ []) σ2)) ∧
  (∀ (d : Nat) (σ : Sg) (S : List Value) (l0 l1 : Value), exec d mX6_restore 43 [l0, l1] S σ = exec d mX6_restore 44 [l0, l1] (.int (nI 1) :: S) σ) ∧
  (∀ (d : Nat) (σ : Sg) (l0 l1 : Value) (x : Int32), exec d mX6_restore 44 [l0, l1] [.int x] σ = some (some (.int x), σ)) :=
  ⟨fun d σ S l0 x => ex_iload_n (show decode mX6_restore.2.1 0 = .ok (.iload_n 1, 1) by decide +kernel) rfl,
  fun d σ l0 l1 x0 => ex_is (hs := [669, 670, 671, 94]) (show decode mX6_restore.2.1 1 = .ok (.invokestatic 239, 3) by decide +kernel) lkS_6_239 ⟨rfl, Nat.le_of_ble_eq_true rfl, Nat.le_of_ble_eq_true rfl, fun q => nomatch q⟩ rfl rfl,
  fun d σ S l0 l1 x => ex_zne (show decode mX6_restore.2.1 4 = .ok (.ifCond .ne 6, 3) by decide +kernel) (by decide),
  fun d σ S l0 l1 => ex_ldc (hh := 387) (show decode mX6_restore.2.1 7 = .ok (.ldc 64, 2) by decide +kernel) (by decide +kernel),
  fun d σ l0 l1 x => ex_iret (show decode mX6_restore.2.1 9 = .ok (.ireturn, 1) by decide +kernel) rfl,
  fun d σ S l1 k => ex_aload_n (show decode mX6_restore.2.1 10 = .ok (.aload_n 0, 1) by decide +kernel) rfl,
  fun d σ S l0 x => ex_iload_n (show decode mX6_restore.2.1 11 = .ok (.iload_n 1, 1) by decide +kernel) rfl,
  fun d σ l0 l1 x0 => ex_iv (hs := [766, 768, 49, 769, 94]) (show decode mX6_restore.2.1 12 = .ok (.invokevirtual 297, 3) by decide +kernel) lkV_6_297 ⟨rfl, Nat.le_of_ble_eq_true rfl, Nat.le_of_ble_eq_true rfl, fun _ => rfl⟩ rfl rfl,
  fun d σ S l0 l1 => ex_get (idx := 176) (ci := 5) (ff := 0) (n := 17) (hh := 182) (by decide +kernel),
  fun d σ S l0 l1 => ex_get (idx := 176) (ci := 5) (ff := 0) (n := 17) (hh := 182) (by decide +kernel),
  fun d σ S l0 l1 x => ex_zne (show decode mX6_restore.2.1 18 = .ok (.ifCond .ne 6, 3) by decide +kernel) (by decide),
  fun d σ S l0 l1 => ex_ldc (hh := 519) (show decode mX6_restore.2.1 21 = .ok (.ldc 134, 2) by decide +kernel) (by decide +kernel),
  fun d σ l0 l1 x => ex_iret (show decode mX6_restore.2.1 23 = .ok (.ireturn, 1) by decide +kernel) rfl,
  fun d σ S l1 k => ex_aload_n (show decode mX6_restore.2.1 24 = .ok (.aload_n 0, 1) by decide +kernel) rfl,
  fun d σ S l0 l1 => ex_getr (idx := 26) (ci := 6) (ff := 2) (n := 11) (hh := 348) (by decide +kernel),
  fun d σ S l1 k => ex_aload_n (show decode mX6_restore.2.1 28 = .ok (.aload_n 0, 1) by decide +kernel) rfl,
  fun d σ S l0 x => ex_iload_n (show decode mX6_restore.2.1 29 = .ok (.iload_n 1, 1) by decide +kernel) rfl,
  fun d σ l0 l1 x0 => ex_iv (hs := [766, 768, 49, 769, 94]) (show decode mX6_restore.2.1 30 = .ok (.invokevirtual 297, 3) by decide +kernel) lkV_6_297 ⟨rfl, Nat.le_of_ble_eq_true rfl, Nat.le_of_ble_eq_true rfl, fun _ => rfl⟩ rfl rfl,
  fun d σ l0 l1 => ex_iv (hs := [503, 505, 20, 506, 97]) (show decode mX6_restore.2.1 33 = .ok (.invokevirtual 121, 3) by decide +kernel) lkV_6_121 ⟨rfl, Nat.le_of_ble_eq_true rfl, Nat.le_of_ble_eq_true rfl, fun _ => rfl⟩ rfl rfl,
  fun d σ l0 l1 => ex_iv (hs := [503, 505, 20, 506, 97]) (show decode mX6_restore.2.1 33 = .ok (.invokevirtual 121, 3) by decide +kernel) lkV_6_121 ⟨rfl, Nat.le_of_ble_eq_true rfl, Nat.le_of_ble_eq_true rfl, fun _ => rfl⟩ rfl rfl,
  fun d σ S l1 k => ex_aload_n (show decode mX6_restore.2.1 36 = .ok (.aload_n 0, 1) by decide +kernel) rfl,
  fun d σ S l0 l1 => ex_getr (idx := 42) (ci := 6) (ff := 6) (n := 11) (hh := 352) (by decide +kernel),
  fun d σ l0 l1 => ex_iv (hs := [507, 509, 21, 510, 98]) (show decode mX6_restore.2.1 40 = .ok (.invokevirtual 125, 3) by decide +kernel) lkV_6_125 ⟨rfl, Nat.le_of_ble_eq_true rfl, Nat.le_of_ble_eq_true rfl, fun _ => rfl⟩ rfl rfl,
  fun d σ S l0 l1 => ex_iconst (show decode mX6_restore.2.1 43 = .ok (.iconst 1, 1) by decide +kernel) (by decide +kernel),
  fun d σ l0 l1 x => ex_iret (show decode mX6_restore.2.1 44 = .ok (.ireturn, 1) by decide +kernel) rfl⟩
theorem aX6_restore_0 : ∀ (d : Nat) (a1 : Int32) (σ : Sg), cal (d + 1) mX6_restore [.ref 0, .int a1] σ = exec d mX6_restore 0 [.ref 0, .int a1] [] σ := fun _ _ _ => rfl
theorem kX6_kind : (∀ (d : Nat) (σ : Sg) (S : List Value) (l1 : Value) (k : Nat), exec d mX6_kind 0 [.ref k, l1] S σ = exec d mX6_kind 1 [.ref k, l1] (.ref k :: S) σ) ∧
  (∀ (d : Nat) (σ : Sg) (S : List Value) (l0 : Value) (x : Int32), exec d mX6_kind 1 [l0, .int x] S σ = exec d mX6_kind 2 [l0, .int x] (.int x :: S) σ) ∧
  (∀ (d : Nat) (σ : Sg) (l0 l1 : Value) (x0 : Int32), exec d mX6_kind 2 [l0, l1] [.int x0, .ref 0] σ = kb (cal d mX6_isPart [.ref 0, .int x0] σ) (fun rs σ2 => exec d mX6_kind 5 [l0, l1] (rs ++ []) σ2)) ∧
  (∀ (d : Nat) (σ : Sg) (S : List Value) (l0 l1 : Value) (x : Int32), exec d mX6_kind 5 [l0, l1] (.int x :: S) σ = if x = nI 0 then exec d mX6_kind 20 [l0, l1] S σ else exec d mX6_kind 8 [l0, l1] S σ) ∧
  (∀ (d : Nat) (σ : Sg) (S : List Value) (l1 : Value) (k : Nat), exec d mX6_kind 8 [.ref k, l1] S σ = exec d mX6_kind 9 [.ref k, l1] (.ref k :: S) σ) ∧
  (∀ (d : Nat) (σ : Sg) (S : List Value) (l0 l1 : Value), exec d mX6_kind 9 [l0, l1] (.ref 0 :: S) σ = exec d mX6_kind 12 [l0, l1] (.ref 8 :: S) σ) ∧
  (∀ (d : Nat) (σ : Sg) (S : List Value) (l0 l1 : Value), exec d mX6_kind 12 [l0, l1] (.ref 8 :: S) σ = exec d mX6_kind 15 [l0, l1] (.ref 9 :: S) σ) ∧
  (∀ (d : Nat) (σ : Sg) (S : List Value) (l0 : Value) (x : Int32), exec d mX6_kind 15 [l0, .int x] S σ = exec d mX6_kind 16 [l0, .int x] (.int x :: S) σ) ∧
  (∀ (d : Nat) (σ : Sg) (S : List Value) (l0 l1 : Value) (x : Int32), exec d mX6_kind 16 [l0, l1] (.int x :: .ref 9 :: S) σ = if inb x 7 = true then exec d mX6_kind 17 [l0, l1] (.int (σ 9 x.toNatClampNeg) :: S) σ else none) ∧
  (∀ (d : Nat) (σ : Sg) (S : List Value) (l0 l1 : Value), exec d mX6_kind 17 [l0, l1] S σ = exec d mX6_kind 22 [l0, l1] S σ) ∧
  (∀ (d : Nat) (σ : Sg) (S : List Value) (l0 l1 : Value), exec d mX6_kind 20 [l0, l1] S σ = exec d mX6_kind 22 [l0, l1] (.int ((-1000001)) :: S) σ) ∧
  (∀ (d : Nat) (σ : Sg) (l0 l1 : Value) (x : Int32), exec d mX6_kind 22 [l0, l1] [.int x] σ = some (some (.int x), σ)) :=
  ⟨fun d σ S l1 k => ex_aload_n (show decode mX6_kind.2.1 0 = .ok (.aload_n 0, 1) by decide +kernel) rfl,
  fun d σ S l0 x => ex_iload_n (show decode mX6_kind.2.1 1 = .ok (.iload_n 1, 1) by decide +kernel) rfl,
  fun d σ l0 l1 x0 => ex_iv (hs := [528, 530, 23, 531, 94]) (show decode mX6_kind.2.1 2 = .ok (.invokevirtual 139, 3) by decide +kernel) lkV_6_139 ⟨rfl, Nat.le_of_ble_eq_true rfl, Nat.le_of_ble_eq_true rfl, fun _ => rfl⟩ rfl rfl,
  fun d σ S l0 l1 x => ex_zeq (show decode mX6_kind.2.1 5 = .ok (.ifCond .eq 15, 3) by decide +kernel) (by decide),
  fun d σ S l1 k => ex_aload_n (show decode mX6_kind.2.1 8 = .ok (.aload_n 0, 1) by decide +kernel) rfl,
  fun d σ S l0 l1 => ex_getr (idx := 26) (ci := 6) (ff := 2) (n := 11) (hh := 348) (by decide +kernel),
  fun d σ S l0 l1 => ex_getr (idx := 196) (ci := 5) (ff := 9) (n := 17) (hh := 219) (by decide +kernel),
  fun d σ S l0 x => ex_iload_n (show decode mX6_kind.2.1 15 = .ok (.iload_n 1, 1) by decide +kernel) rfl,
  fun d σ S l0 l1 x => ex_iald (by decide +kernel),
  fun d σ S l0 l1 => ex_goto (show decode mX6_kind.2.1 17 = .ok (.goto 5, 3) by decide +kernel) (by decide),
  fun d σ S l0 l1 => ex_ldc (hh := 387) (show decode mX6_kind.2.1 20 = .ok (.ldc 64, 2) by decide +kernel) (by decide +kernel),
  fun d σ l0 l1 x => ex_iret (show decode mX6_kind.2.1 22 = .ok (.ireturn, 1) by decide +kernel) rfl⟩
theorem aX6_kind_0 : ∀ (d : Nat) (a1 : Int32) (σ : Sg), cal (d + 1) mX6_kind [.ref 0, .int a1] σ = exec d mX6_kind 0 [.ref 0, .int a1] [] σ := fun _ _ _ => rfl
theorem kX6_as : (∀ (d : Nat) (σ : Sg) (S : List Value) (l1 l2 : Value) (k : Nat), exec d mX6_as 0 [.ref k, l1, l2] S σ = exec d mX6_as 1 [.ref k, l1, l2] (.ref k :: S) σ) ∧
  (∀ (d : Nat) (σ : Sg) (S : List Value) (l0 l2 : Value) (x : Int32), exec d mX6_as 1 [l0, .int x, l2] S σ = exec d mX6_as 2 [l0, .int x, l2] (.int x :: S) σ) ∧
  (∀ (d : Nat) (σ : Sg) (l0 l1 l2 : Value) (x0 : Int32), exec d mX6_as 2 [l0, l1, l2] [.int x0, .ref 0] σ = kb (cal d mX6_isPart [.ref 0, .int x0] σ) (fun rs σ2 => exec d mX6_as 5 [l0, l1, l2] (rs ++ []) σ2)) ∧
  (∀ (d : Nat) (σ : Sg) (S : List Value) (l0 l1 l2 : Value) (x : Int32), exec d mX6_as 5 [l0, l1, l2] (.int x :: S) σ = if x = nI 0 then exec d mX6_as 17 [l0, l1, l2] S σ else exec d mX6_as 8 [l0, l1, l2] S σ) ∧
  (∀ (d : Nat) (σ : Sg) (S : List Value) (l0 l1 : Value) (x : Int32), exec d mX6_as 8 [l0, l1, .int x] S σ = exec d mX6_as 9 [l0, l1, .int x] (.int x :: S) σ) ∧
  (∀ (d : Nat) (σ : Sg) (S : List Value) (l0 l1 l2 : Value) (x : Int32), exec d mX6_as 9 [l0, l1, l2] (.int x :: S) σ = if x < nI 0 then exec d mX6_as 17 [l0, l1, l2] S σ else exec d mX6_as 12 [l0, l1, l2] S σ) ∧
  (∀ (d : Nat) (σ : Sg) (S : List Value) (l0 l1 : Value) (x : Int32), exec d mX6_as 12 [l0, l1, .int x] S σ = exec d mX6_as 13 [l0, l1, .int x] (.int x :: S) σ) ∧
  (∀ (d : Nat) (σ : Sg) (S : List Value) (l0 l1 l2 : Value), exec d mX6_as 13 [l0, l1, l2] S σ = exec d mX6_as 14 [l0, l1, l2] (.int (nI 5) :: S) σ) ∧
  (∀ (d : Nat) (σ : Sg) (S : List Value) (l0 l1 l2 : Value) (x y : Int32), exec d mX6_as 14 [l0, l1, l2] (.int y :: .int x :: S) σ = if x ≤ y then exec d mX6_as 20 [l0, l1, l2] S σ else exec d mX6_as 17 [l0, l1, l2] S σ) ∧
  (∀ (d : Nat) (σ : Sg) (S : List Value) (l0 l1 l2 : Value), exec d mX6_as 17 [l0, l1, l2] S σ = exec d mX6_as 19 [l0, l1, l2] (.int ((-1000001)) :: S) σ) ∧
  (∀ (d : Nat) (σ : Sg) (l0 l1 l2 : Value) (x : Int32), exec d mX6_as 19 [l0, l1, l2] [.int x] σ = some (some (.int x), σ)) ∧
  (∀ (d : Nat) (σ : Sg) (S : List Value) (l1 l2 : Value) (k : Nat), exec d mX6_as 20 [.ref k, l1, l2] S σ = exec d mX6_as 21 [.ref k, l1, l2] (.ref k :: S) σ) ∧
  (∀ (d : Nat) (σ : Sg) (S : List Value) (l0 l1 l2 : Value), exec d mX6_as 21 [l0, l1, l2] (.ref 0 :: S) σ = exec d mX6_as 24 [l0, l1, l2] (.ref 8 :: S) σ) ∧
  (∀ (d : Nat) (σ : Sg) (S : List Value) (l0 l1 l2 : Value), exec d mX6_as 24 [l0, l1, l2] (.ref 8 :: S) σ = exec d mX6_as 27 [l0, l1, l2] (.ref 9 :: S) σ) ∧
  (∀ (d : Nat) (σ : Sg) (S : List Value) (l0 l2 : Value) (x : Int32), exec d mX6_as 27 [l0, .int x, l2] S σ = exec d mX6_as 28 [l0, .int x, l2] (.int x :: S) σ) ∧
  (∀ (d : Nat) (σ : Sg) (S : List Value) (l0 l1 l2 : Value) (x : Int32), exec d mX6_as 28 [l0, l1, l2] (.int x :: .ref 9 :: S) σ = if inb x 7 = true then exec d mX6_as 29 [l0, l1, l2] (.int (σ 9 x.toNatClampNeg) :: S) σ else none) ∧
  (∀ (d : Nat) (σ : Sg) (l0 l1 l2 : Value) (x0 : Int32), exec d mX6_as 29 [l0, l1, l2] [.int x0] σ = kb (cal d mX6_kindsThatAre [.int x0] σ) (fun rs σ2 => exec d mX6_as 32 [l0, l1, l2] (rs ++ []) σ2)) ∧
  (∀ (d : Nat) (σ : Sg) (S : List Value) (l0 l1 : Value) (x : Int32), exec d mX6_as 32 [l0, l1, .int x] S σ = exec d mX6_as 33 [l0, l1, .int x] (.int x :: S) σ) ∧
  (∀ (d : Nat) (σ : Sg) (l0 l1 l2 : Value) (x0 x1 : Int32), exec d mX6_as 33 [l0, l1, l2] [.int x0, .int x1] σ = kb (cal d mX6_bit [.int x1, .int x0] σ) (fun rs σ2 => exec d mX6_as 36 [l0, l1, l2] (rs ++ []) σ2)) ∧
  (∀ (d : Nat) (σ : Sg) (S : List Value) (l0 l1 l2 : Value), exec d mX6_as 36 [l0, l1, l2] S σ = exec d mX6_as 37 [l0, l1, l2] (.int (nI 1) :: S) σ) ∧
  (∀ (d : Nat) (σ : Sg) (S : List Value) (l0 l1 l2 : Value) (x y : Int32), exec d mX6_as 37 [l0, l1, l2] (.int y :: .int x :: S) σ = if x = y then exec d mX6_as 40 [l0, l1, l2] S σ else exec d mX6_as 48 [l0, l1, l2] S σ) ∧
  (∀ (d : Nat) (σ : Sg) (S : List Value) (l1 l2 : Value) (k : Nat), exec d mX6_as 40 [.ref k, l1, l2] S σ = exec d mX6_as 41 [.ref k, l1, l2] (.ref k :: S) σ) ∧
  (∀ (d : Nat) (σ : Sg) (S : List Value) (l0 l2 : Value) (x : Int32), exec d mX6_as 41 [l0, .int x, l2] S σ = exec d mX6_as 42 [l0, .int x, l2] (.int x :: S) σ) ∧
  (∀ (d : Nat) (σ : Sg) (l0 l1 l2 : Value) (x0 : Int32), exec d mX6_as 42 [l0, l1, l2] [.int x0, .ref 0] σ = kb (cal d mX6_clean [.ref 0, .int x0] σ) (fun rs σ2 => exec d mX6_as 45 [l0, l1, l2] (rs ++ []) σ2)) ∧
  (∀ (d : Nat) (σ : Sg) (S : List Value) (l0 l1 l2 : Value), exec d mX6_as 45 [l0, l1, l2] S σ = exec d mX6_as 53 [l0, l1, l2] S σ) ∧
  (∀ (d : Nat) (σ : Sg) (S : List Value) (l1 l2 : Value) (k : Nat), exec d mX6_as 48 [.ref k, l1, l2] S σ = exec d mX6_as 49 [.ref k, l1, l2] (.ref k :: S) σ) ∧
  (∀ (d : Nat) (σ : Sg) (S : List Value) (l0 l1 l2 : Value), exec d mX6_as 49 [l0, l1, l2] S σ = exec d mX6_as 50 [l0, l1, l2] (.int (nI 3) :: S) σ) ∧
  (∀ (d : Nat) (σ : Sg) (l0 l1 l2 : Value) (x0 : Int32), exec d mX6_as 50 [l0, l1, l2] [.int x0, .ref 0] σ = kb (cal d mX6_finding [.ref 0, .int x0] σ) (fun rs σ2 => exec d mX6_as 53 [l0, l1, l2] (rs ++ []) σ2)) ∧
  (∀ (d : Nat) (σ : Sg) (l0 l1 l2 : Value) (x : Int32), exec d mX6_as 53 [l0, l1, l2] [.int x] σ = some (some (.int x), σ)) :=
  ⟨fun d σ S l1 l2 k => ex_aload_n (show decode mX6_as.2.1 0 = .ok (.aload_n 0, 1) by decide +kernel) rfl,
  fun d σ S l0 l2 x => ex_iload_n (show decode mX6_as.2.1 1 = .ok (.iload_n 1, 1) by decide +kernel) rfl,
  fun d σ l0 l1 l2 x0 => ex_iv (hs := [528, 530, 23, 531, 94]) (show decode mX6_as.2.1 2 = .ok (.invokevirtual 139, 3) by decide +kernel) lkV_6_139 ⟨rfl, Nat.le_of_ble_eq_true rfl, Nat.le_of_ble_eq_true rfl, fun _ => rfl⟩ rfl rfl,
  fun d σ S l0 l1 l2 x => ex_zeq (show decode mX6_as.2.1 5 = .ok (.ifCond .eq 12, 3) by decide +kernel) (by decide),
  fun d σ S l0 l1 x => ex_iload_n (show decode mX6_as.2.1 8 = .ok (.iload_n 2, 1) by decide +kernel) rfl,
  fun d σ S l0 l1 l2 x => ex_zlt (show decode mX6_as.2.1 9 = .ok (.ifCond .lt 8, 3) by decide +kernel) (by decide),
  fun d σ S l0 l1 x => ex_iload_n (show decode mX6_as.2.1 12 = .ok (.iload_n 2, 1) by decide +kernel) rfl,
  fun d σ S l0 l1 l2 => ex_iconst (show decode mX6_as.2.1 13 = .ok (.iconst 5, 1) by decide +kernel) (by decide +kernel),
  fun d σ S l0 l1 l2 x y => ex_cle (show decode mX6_as.2.1 14 = .ok (.if_icmp .le 6, 3) by decide +kernel) (by decide),
  fun d σ S l0 l1 l2 => ex_ldc (hh := 387) (show decode mX6_as.2.1 17 = .ok (.ldc 64, 2) by decide +kernel) (by decide +kernel),
  fun d σ l0 l1 l2 x => ex_iret (show decode mX6_as.2.1 19 = .ok (.ireturn, 1) by decide +kernel) rfl,
  fun d σ S l1 l2 k => ex_aload_n (show decode mX6_as.2.1 20 = .ok (.aload_n 0, 1) by decide +kernel) rfl,
  fun d σ S l0 l1 l2 => ex_getr (idx := 26) (ci := 6) (ff := 2) (n := 11) (hh := 348) (by decide +kernel),
  fun d σ S l0 l1 l2 => ex_getr (idx := 196) (ci := 5) (ff := 9) (n := 17) (hh := 219) (by decide +kernel),
  fun d σ S l0 l2 x => ex_iload_n (show decode mX6_as.2.1 27 = .ok (.iload_n 1, 1) by decide +kernel) rfl,
  fun d σ S l0 l1 l2 x => ex_iald (by decide +kernel),
  fun d σ l0 l1 l2 x0 => ex_is (hs := [782, 783, 784, 94]) (show decode mX6_as.2.1 29 = .ok (.invokestatic 301, 3) by decide +kernel) lkS_6_301 ⟨rfl, Nat.le_of_ble_eq_true rfl, Nat.le_of_ble_eq_true rfl, fun q => nomatch q⟩ rfl rfl,
  fun d σ S l0 l1 x => ex_iload_n (show decode mX6_as.2.1 32 = .ok (.iload_n 2, 1) by decide +kernel) rfl,
  fun d σ l0 l1 l2 x0 x1 => ex_is (hs := [568, 537, 538, 94]) (show decode mX6_as.2.1 33 = .ok (.invokestatic 154, 3) by decide +kernel) lkS_6_154 ⟨rfl, Nat.le_of_ble_eq_true rfl, Nat.le_of_ble_eq_true rfl, fun q => nomatch q⟩ rfl rfl,
  fun d σ S l0 l1 l2 => ex_iconst (show decode mX6_as.2.1 36 = .ok (.iconst 1, 1) by decide +kernel) (by decide +kernel),
  fun d σ S l0 l1 l2 x y => ex_cne (show decode mX6_as.2.1 37 = .ok (.if_icmp .ne 11, 3) by decide +kernel) (by decide),
  fun d σ S l1 l2 k => ex_aload_n (show decode mX6_as.2.1 40 = .ok (.aload_n 0, 1) by decide +kernel) rfl,
  fun d σ S l0 l2 x => ex_iload_n (show decode mX6_as.2.1 41 = .ok (.iload_n 1, 1) by decide +kernel) rfl,
  fun d σ l0 l1 l2 x0 => ex_iv (hs := [397, 399, 2, 400, 94]) (show decode mX6_as.2.1 42 = .ok (.invokevirtual 73, 3) by decide +kernel) lkV_6_73 ⟨rfl, Nat.le_of_ble_eq_true rfl, Nat.le_of_ble_eq_true rfl, fun _ => rfl⟩ rfl rfl,
  fun d σ S l0 l1 l2 => ex_goto (show decode mX6_as.2.1 45 = .ok (.goto 8, 3) by decide +kernel) (by decide),
  fun d σ S l1 l2 k => ex_aload_n (show decode mX6_as.2.1 48 = .ok (.aload_n 0, 1) by decide +kernel) rfl,
  fun d σ S l0 l1 l2 => ex_iconst (show decode mX6_as.2.1 49 = .ok (.iconst 3, 1) by decide +kernel) (by decide +kernel),
  fun d σ l0 l1 l2 x0 => ex_iv (hs := [388, 390, 0, 391, 94]) (show decode mX6_as.2.1 50 = .ok (.invokevirtual 65, 3) by decide +kernel) lkV_6_65 ⟨rfl, Nat.le_of_ble_eq_true rfl, Nat.le_of_ble_eq_true rfl, fun _ => rfl⟩ rfl rfl,
  fun d σ l0 l1 l2 x => ex_iret (show decode mX6_as.2.1 53 = .ok (.ireturn, 1) by decide +kernel) rfl⟩
theorem aX6_as_0 : ∀ (d : Nat) (a1 : Int32) (a2 : Int32) (σ : Sg), cal (d + 1) mX6_as [.ref 0, .int a1, .int a2] σ = exec d mX6_as 0 [.ref 0, .int a1, .int a2] [] σ := fun _ _ _ _ => rfl
theorem kX6_ask : (∀ (d : Nat) (σ : Sg) (S : List Value) (l1 l2 l3 : Value) (k : Nat), exec d mX6_ask 0 [.ref k, l1, l2, l3] S σ = exec d mX6_ask 1 [.ref k, l1, l2, l3] (.ref k :: S) σ) ∧
  (∀ (d : Nat) (σ : Sg) (S : List Value) (l0 l2 l3 : Value) (x : Int32), exec d mX6_ask 1 [l0, .int x, l2, l3] S σ = exec d mX6_ask 2 [l0, .int x, l2, l3] (.int x :: S) σ) ∧
  (∀ (d : Nat) (σ : Sg) (l0 l1 l2 l3 : Value) (x0 : Int32), exec d mX6_ask 2 [l0, l1, l2, l3] [.int x0, .ref 0] σ = kb (cal d mX6_isPart [.ref 0, .int x0] σ) (fun rs σ2 => exec d mX6_ask 5 [l0, l1, l2, l3] (rs ++ []) σ2)) ∧
  (∀ (d : Nat) (σ : Sg) (S : List Value) (l0 l1 l2 l3 : Value) (x : Int32), exec d mX6_ask 5 [l0, l1, l2, l3] (.int x :: S) σ = if x = nI 0 then exec d mX6_ask 15 [l0, l1, l2, l3] S σ else exec d mX6_ask 8 [l0, l1, l2, l3] S σ) ∧
  (∀ (d : Nat) (σ : Sg) (S : List Value) (l0 l1 l3 : Value) (x : Int32), exec d mX6_ask 8 [l0, l1, .int x, l3] S σ = exec d mX6_ask 9 [l0, l1, .int x, l3] (.int x :: S) σ) ∧
  (∀ (d : Nat) (σ : Sg) (l0 l1 l2 l3 : Value) (x0 : Int32), exec d mX6_ask 9 [l0, l1, l2, l3] [.int x0] σ = kb (cal d mX6_isOneOfTwo [.int x0] σ) (fun rs σ2 => exec d mX6_ask 12 [l0, l1, l2, l3] (rs ++ []) σ2)) ∧
  (∀ (d : Nat) (σ : Sg) (S : List Value) (l0 l1 l2 l3 : Value) (x : Int32), exec d mX6_ask 12 [l0, l1, l2, l3] (.int x :: S) σ = if x = nI 0 then exec d mX6_ask 15 [l0, l1, l2, l3] S σ else exec d mX6_ask 18 [l0, l1, l2, l3] S σ) ∧
  (∀ (d : Nat) (σ : Sg) (S : List Value) (l0 l1 l2 l3 : Value), exec d mX6_ask 15 [l0, l1, l2, l3] S σ = exec d mX6_ask 17 [l0, l1, l2, l3] (.int ((-1000001)) :: S) σ) ∧
  (∀ (d : Nat) (σ : Sg) (l0 l1 l2 l3 : Value) (x : Int32), exec d mX6_ask 17 [l0, l1, l2, l3] [.int x] σ = some (some (.int x), σ)) ∧
  (∀ (d : Nat) (σ : Sg) (S : List Value) (l1 l2 l3 : Value) (k : Nat), exec d mX6_ask 18 [.ref k, l1, l2, l3] S σ = exec d mX6_ask 19 [.ref k, l1, l2, l3] (.ref k :: S) σ) ∧
  (∀ (d : Nat) (σ : Sg) (S : List Value) (l0 l1 l2 l3 : Value), exec d mX6_ask 19 [l0, l1, l2, l3] (.ref 0 :: S) σ = exec d mX6_ask 22 [l0, l1, l2, l3] (.ref 48 :: S) σ) ∧
  (∀ (d : Nat) (σ : Sg) (S : List Value) (l1 l2 l3 : Value) (k : Nat), exec d mX6_ask 22 [.ref k, l1, l2, l3] S σ = exec d mX6_ask 23 [.ref k, l1, l2, l3] (.ref k :: S) σ) ∧
  (∀ (d : Nat) (σ : Sg) (S : List Value) (l0 l1 l2 l3 : Value), exec d mX6_ask 23 [l0, l1, l2, l3] (.ref 0 :: S) σ = exec d mX6_ask 26 [l0, l1, l2, l3] (.ref 8 :: S) σ) ∧
  (∀ (d : Nat) (σ : Sg) (S : List Value) (l0 l2 l3 : Value) (x : Int32), exec d mX6_ask 26 [l0, .int x, l2, l3] S σ = exec d mX6_ask 27 [l0, .int x, l2, l3] (.int x :: S) σ) ∧
  (∀ (d : Nat) (σ : Sg) (l0 l1 l2 l3 : Value) (x0 : Int32), exec d mX6_ask 27 [l0, l1, l2, l3] [.int x0, .ref 8, .ref 48] σ = kb (cal d mX1_takeUp [.ref 48, .ref 8, .int x0] σ) (fun rs σ2 => exec d mX6_ask 30 [l0, l1, l2, l3] (rs ++ []) σ2)) ∧
  (∀ (d : Nat) (σ : Sg) (S : List Value) (l0 l1 l3 : Value) (x : Int32), exec d mX6_ask 30 [l0, l1, .int x, l3] S σ = exec d mX6_ask 31 [l0, l1, .int x, l3] (.int x :: S) σ) ∧
  (∀ (d : Nat) (σ : Sg) (S : List Value) (l0 l1 l2 l3 : Value) (x : Int32), exec d mX6_ask 31 [l0, l1, l2, l3] (.int x :: S) σ = if x = nI 0 then exec d mX6_ask 34 [l0, l1, l2, l3] S σ else exec d mX6_ask 49 [l0, l1, l2, l3] S σ) ∧
  (∀ (d : Nat) (σ : Sg) (S : List Value) (l1 l2 l3 : Value) (k : Nat), exec d mX6_ask 34 [.ref k, l1, l2, l3] S σ = exec d mX6_ask 35 [.ref k, l1, l2, l3] (.ref k :: S) σ) ∧
  (∀ (d : Nat) (σ : Sg) (S : List Value) (l0 l1 l2 l3 : Value), exec d mX6_ask 35 [l0, l1, l2, l3] (.ref 0 :: S) σ = exec d mX6_ask 38 [l0, l1, l2, l3] (.ref 8 :: S) σ) ∧
  (∀ (d : Nat) (σ : Sg) (S : List Value) (l0 l1 l2 l3 : Value), exec d mX6_ask 38 [l0, l1, l2, l3] (.ref 8 :: S) σ = exec d mX6_ask 41 [l0, l1, l2, l3] (.ref 9 :: S) σ) ∧
  (∀ (d : Nat) (σ : Sg) (S : List Value) (l0 l2 l3 : Value) (x : Int32), exec d mX6_ask 41 [l0, .int x, l2, l3] S σ = exec d mX6_ask 42 [l0, .int x, l2, l3] (.int x :: S) σ) ∧
  (∀ (d : Nat) (σ : Sg) (S : List Value) (l0 l1 l2 l3 : Value) (x : Int32), exec d mX6_ask 42 [l0, l1, l2, l3] (.int x :: .ref 9 :: S) σ = if inb x 7 = true then exec d mX6_ask 43 [l0, l1, l2, l3] (.int (σ 9 x.toNatClampNeg) :: S) σ else none) ∧
  (∀ (d : Nat) (σ : Sg) (l0 l1 l2 l3 : Value) (x0 : Int32), exec d mX6_ask 43 [l0, l1, l2, l3] [.int x0] σ = kb (cal d mX1_ofSize [.int x0] σ) (fun rs σ2 => exec d mX6_ask 46 [l0, l1, l2, l3] (rs ++ []) σ2)) ∧
  (∀ (d : Nat) (σ : Sg) (S : List Value) (l0 l1 l2 l3 : Value), exec d mX6_ask 46 [l0, l1, l2, l3] S σ = exec d mX6_ask 61 [l0, l1, l2, l3] S σ) ∧
  (∀ (d : Nat) (σ : Sg) (S : List Value) (l1 l2 l3 : Value) (k : Nat), exec d mX6_ask 49 [.ref k, l1, l2, l3] S σ = exec d mX6_ask 50 [.ref k, l1, l2, l3] (.ref k :: S) σ) ∧
  (∀ (d : Nat) (σ : Sg) (S : List Value) (l0 l1 l2 l3 : Value), exec d mX6_ask 50 [l0, l1, l2, l3] (.ref 0 :: S) σ = exec d mX6_ask 53 [l0, l1, l2, l3] (.ref 8 :: S) σ) ∧
  (∀ (d : Nat) (σ : Sg) (S : List Value) (l0 l1 l2 l3 : Value), exec d mX6_ask 53 [l0, l1, l2, l3] (.ref 8 :: S) σ = exec d mX6_ask 56 [l0, l1, l2, l3] (.ref 9 :: S) σ) ∧
  (∀ (d : Nat) (σ : Sg) (S : List Value) (l0 l2 l3 : Value) (x : Int32), exec d mX6_ask 56 [l0, .int x, l2, l3] S σ = exec d mX6_ask 57 [l0, .int x, l2, l3] (.int x :: S) σ) ∧
  (∀ (d : Nat) (σ : Sg) (S : List Value) (l0 l1 l2 l3 : Value) (x : Int32), exec d mX6_ask 57 [l0, l1, l2, l3] (.int x :: .ref 9 :: S) σ = if inb x 7 = true then exec d mX6_ask 58 [l0, l1, l2, l3] (.int (σ 9 x.toNatClampNeg) :: S) σ else none) ∧
  (∀ (d : Nat) (σ : Sg) (l0 l1 l2 l3 : Value) (x0 : Int32), exec d mX6_ask 58 [l0, l1, l2, l3] [.int x0] σ = kb (cal d mX1_ofMark [.int x0] σ) (fun rs σ2 => exec d mX6_ask 61 [l0, l1, l2, l3] (rs ++ []) σ2)) ∧
  (∀ (d : Nat) (σ : Sg) (S : List Value) (l0 l1 l3 : Value) (x y : Int32), exec d mX6_ask 61 [l0, l1, .int y, l3] (.int x :: S) σ = exec d mX6_ask 62 [l0, l1, .int y, .int x] S σ) ∧
  (∀ (d : Nat) (σ : Sg) (S : List Value) (l1 l2 l3 : Value) (k : Nat), exec d mX6_ask 62 [.ref k, l1, l2, l3] S σ = exec d mX6_ask 63 [.ref k, l1, l2, l3] (.ref k :: S) σ) ∧
  (∀ (d : Nat) (σ : Sg) (S : List Value) (l0 l1 l2 l3 : Value), exec d mX6_ask 63 [l0, l1, l2, l3] (.ref 0 :: S) σ = exec d mX6_ask 66 [l0, l1, l2, l3] (.ref 48 :: S) σ) ∧
  (∀ (d : Nat) (σ : Sg) (S : List Value) (l0 l1 l2 : Value) (x : Int32), exec d mX6_ask 66 [l0, l1, l2, .int x] S σ = exec d mX6_ask 67 [l0, l1, l2, .int x] (.int x :: S) σ) ∧
  (∀ (d : Nat) (σ : Sg) (S : List Value) (l0 l1 l2 l3 : Value), exec d mX6_ask 67 [l0, l1, l2, l3] S σ = exec d mX6_ask 68 [l0, l1, l2, l3] (.int (nI 0) :: S) σ) ∧
  (∀ (d : Nat) (σ : Sg) (l0 l1 l2 l3 : Value) (x0 x1 : Int32), exec d mX6_ask 68 [l0, l1, l2, l3] [.int x0, .int x1, .ref 48] σ = kb (cal d mX1_give [.ref 48, .int x1, .int x0] σ) (fun rs σ2 => exec d mX6_ask 71 [l0, l1, l2, l3] (rs ++ []) σ2)) ∧
  (∀ (d : Nat) (σ : Sg) (l0 l1 l2 l3 : Value) (x : Int32), exec d mX6_ask 71 [l0, l1, l2, l3] [.int x] σ = some (some (.int x), σ)) :=
  ⟨fun d σ S l1 l2 l3 k => ex_aload_n (show decode mX6_ask.2.1 0 = .ok (.aload_n 0, 1) by decide +kernel) rfl,
  fun d σ S l0 l2 l3 x => ex_iload_n (show decode mX6_ask.2.1 1 = .ok (.iload_n 1, 1) by decide +kernel) rfl,
  fun d σ l0 l1 l2 l3 x0 => ex_iv (hs := [528, 530, 23, 531, 94]) (show decode mX6_ask.2.1 2 = .ok (.invokevirtual 139, 3) by decide +kernel) lkV_6_139 ⟨rfl, Nat.le_of_ble_eq_true rfl, Nat.le_of_ble_eq_true rfl, fun _ => rfl⟩ rfl rfl,
  fun d σ S l0 l1 l2 l3 x => ex_zeq (show decode mX6_ask.2.1 5 = .ok (.ifCond .eq 10, 3) by decide +kernel) (by decide),
  fun d σ S l0 l1 l3 x => ex_iload_n (show decode mX6_ask.2.1 8 = .ok (.iload_n 2, 1) by decide +kernel) rfl,
  fun d σ l0 l1 l2 l3 x0 => ex_is (hs := [669, 670, 671, 94]) (show decode mX6_ask.2.1 9 = .ok (.invokestatic 239, 3) by decide +kernel) lkS_6_239 ⟨rfl, Nat.le_of_ble_eq_true rfl, Nat.le_of_ble_eq_true rfl, fun q => nomatch q⟩ rfl rfl,
  fun d σ S l0 l1 l2 l3 x => ex_zne (show decode mX6_ask.2.1 12 = .ok (.ifCond .ne 6, 3) by decide +kernel) (by decide),
  fun d σ S l0 l1 l2 l3 => ex_ldc (hh := 387) (show decode mX6_ask.2.1 15 = .ok (.ldc 64, 2) by decide +kernel) (by decide +kernel),
  fun d σ l0 l1 l2 l3 x => ex_iret (show decode mX6_ask.2.1 17 = .ok (.ireturn, 1) by decide +kernel) rfl,
  fun d σ S l1 l2 l3 k => ex_aload_n (show decode mX6_ask.2.1 18 = .ok (.aload_n 0, 1) by decide +kernel) rfl,
  fun d σ S l0 l1 l2 l3 => ex_getr (idx := 56) (ci := 6) (ff := 8) (n := 11) (hh := 354) (by decide +kernel),
  fun d σ S l1 l2 l3 k => ex_aload_n (show decode mX6_ask.2.1 22 = .ok (.aload_n 0, 1) by decide +kernel) rfl,
  fun d σ S l0 l1 l2 l3 => ex_getr (idx := 26) (ci := 6) (ff := 2) (n := 11) (hh := 348) (by decide +kernel),
  fun d σ S l0 l2 l3 x => ex_iload_n (show decode mX6_ask.2.1 26 = .ok (.iload_n 1, 1) by decide +kernel) rfl,
  fun d σ l0 l1 l2 l3 x0 => ex_iv (hs := [789, 791, 50, 792, 100]) (show decode mX6_ask.2.1 27 = .ok (.invokevirtual 304, 3) by decide +kernel) lkV_6_304 ⟨rfl, Nat.le_of_ble_eq_true rfl, Nat.le_of_ble_eq_true rfl, fun _ => rfl⟩ rfl rfl,
  fun d σ S l0 l1 l3 x => ex_iload_n (show decode mX6_ask.2.1 30 = .ok (.iload_n 2, 1) by decide +kernel) rfl,
  fun d σ S l0 l1 l2 l3 x => ex_zne (show decode mX6_ask.2.1 31 = .ok (.ifCond .ne 18, 3) by decide +kernel) (by decide),
  fun d σ S l1 l2 l3 k => ex_aload_n (show decode mX6_ask.2.1 34 = .ok (.aload_n 0, 1) by decide +kernel) rfl,
  fun d σ S l0 l1 l2 l3 => ex_getr (idx := 26) (ci := 6) (ff := 2) (n := 11) (hh := 348) (by decide +kernel),
  fun d σ S l0 l1 l2 l3 => ex_getr (idx := 196) (ci := 5) (ff := 9) (n := 17) (hh := 219) (by decide +kernel),
  fun d σ S l0 l2 l3 x => ex_iload_n (show decode mX6_ask.2.1 41 = .ok (.iload_n 1, 1) by decide +kernel) rfl,
  fun d σ S l0 l1 l2 l3 x => ex_iald (by decide +kernel),
  fun d σ l0 l1 l2 l3 x0 => ex_is (hs := [793, 794, 795, 100]) (show decode mX6_ask.2.1 43 = .ok (.invokestatic 307, 3) by decide +kernel) lkS_6_307 ⟨rfl, Nat.le_of_ble_eq_true rfl, Nat.le_of_ble_eq_true rfl, fun q => nomatch q⟩ rfl rfl,
  fun d σ S l0 l1 l2 l3 => ex_goto (show decode mX6_ask.2.1 46 = .ok (.goto 15, 3) by decide +kernel) (by decide),
  fun d σ S l1 l2 l3 k => ex_aload_n (show decode mX6_ask.2.1 49 = .ok (.aload_n 0, 1) by decide +kernel) rfl,
  fun d σ S l0 l1 l2 l3 => ex_getr (idx := 26) (ci := 6) (ff := 2) (n := 11) (hh := 348) (by decide +kernel),
  fun d σ S l0 l1 l2 l3 => ex_getr (idx := 196) (ci := 5) (ff := 9) (n := 17) (hh := 219) (by decide +kernel),
  fun d σ S l0 l2 l3 x => ex_iload_n (show decode mX6_ask.2.1 56 = .ok (.iload_n 1, 1) by decide +kernel) rfl,
  fun d σ S l0 l1 l2 l3 x => ex_iald (by decide +kernel),
  fun d σ l0 l1 l2 l3 x0 => ex_is (hs := [796, 797, 798, 100]) (show decode mX6_ask.2.1 58 = .ok (.invokestatic 310, 3) by decide +kernel) lkS_6_310 ⟨rfl, Nat.le_of_ble_eq_true rfl, Nat.le_of_ble_eq_true rfl, fun q => nomatch q⟩ rfl rfl,
  fun d σ S l0 l1 l3 x y => ex_istore_n (show decode mX6_ask.2.1 61 = .ok (.istore_n 3, 1) by decide +kernel) (Nat.le_of_ble_eq_true rfl) rfl,
  fun d σ S l1 l2 l3 k => ex_aload_n (show decode mX6_ask.2.1 62 = .ok (.aload_n 0, 1) by decide +kernel) rfl,
  fun d σ S l0 l1 l2 l3 => ex_getr (idx := 56) (ci := 6) (ff := 8) (n := 11) (hh := 354) (by decide +kernel),
  fun d σ S l0 l1 l2 x => ex_iload_n (show decode mX6_ask.2.1 66 = .ok (.iload_n 3, 1) by decide +kernel) rfl,
  fun d σ S l0 l1 l2 l3 => ex_iconst (show decode mX6_ask.2.1 67 = .ok (.iconst 0, 1) by decide +kernel) (by decide +kernel),
  fun d σ l0 l1 l2 l3 x0 x1 => ex_iv (hs := [799, 801, 51, 802, 100]) (show decode mX6_ask.2.1 68 = .ok (.invokevirtual 313, 3) by decide +kernel) lkV_6_313 ⟨rfl, Nat.le_of_ble_eq_true rfl, Nat.le_of_ble_eq_true rfl, fun _ => rfl⟩ rfl rfl,
  fun d σ l0 l1 l2 l3 x => ex_iret (show decode mX6_ask.2.1 71 = .ok (.ireturn, 1) by decide +kernel) rfl⟩
theorem aX6_ask_0 : ∀ (d : Nat) (a1 : Int32) (a2 : Int32) (σ : Sg), cal (d + 1) mX6_ask [.ref 0, .int a1, .int a2] σ = exec d mX6_ask 0 [.ref 0, .int a1, .int a2, uu] [] σ := fun _ _ _ _ => rfl
theorem kX6_trace : (∀ (d : Nat) (σ : Sg) (S : List Value) (l0 : Value) (x : Int32), exec d mX6_trace 0 [l0, .int x] S σ = exec d mX6_trace 1 [l0, .int x] (.int x :: S) σ) ∧
  (∀ (d : Nat) (σ : Sg) (S : List Value) (l0 l1 : Value) (x : Int32), exec d mX6_trace 1 [l0, l1] (.int x :: S) σ = if x < nI 0 then exec d mX6_trace 27 [l0, l1] S σ else exec d mX6_trace 4 [l0, l1] S σ) ∧
  (∀ (d : Nat) (σ : Sg) (S : List Value) (l0 : Value) (x : Int32), exec d mX6_trace 4 [l0, .int x] S σ = exec d mX6_trace 5 [l0, .int x] (.int x :: S) σ) ∧
  (∀ (d : Nat) (σ : Sg) (S : List Value) (l1 : Value) (k : Nat), exec d mX6_trace 5 [.ref k, l1] S σ = exec d mX6_trace 6 [.ref k, l1] (.ref k :: S) σ) ∧
  (∀ (d : Nat) (σ : Sg) (S : List Value) (l0 l1 : Value), exec d mX6_trace 6 [l0, l1] (.ref 0 :: S) σ = exec d mX6_trace 9 [l0, l1] (.ref 48 :: S) σ) ∧
  (∀ (d : Nat) (σ : Sg) (S : List Value) (l0 l1 : Value), exec d mX6_trace 9 [l0, l1] (.ref 48 :: S) σ = exec d mX6_trace 12 [l0, l1] (.int (σ 48 1) :: S) σ) ∧
  (∀ (d : Nat) (σ : Sg) (S : List Value) (l0 l1 : Value) (x y : Int32), exec d mX6_trace 12 [l0, l1] (.int y :: .int x :: S) σ = if y ≤ x then exec d mX6_trace 27 [l0, l1] S σ else exec d mX6_trace 15 [l0, l1] S σ) ∧
  (∀ (d : Nat) (σ : Sg) (S : List Value) (l1 : Value) (k : Nat), exec d mX6_trace 15 [.ref k, l1] S σ = exec d mX6_trace 16 [.ref k, l1] (.ref k :: S) σ) ∧
  (∀ (d : Nat) (σ : Sg) (S : List Value) (l0 l1 : Value), exec d mX6_trace 16 [l0, l1] (.ref 0 :: S) σ = exec d mX6_trace 19 [l0, l1] (.ref 48 :: S) σ) ∧
  (∀ (d : Nat) (σ : Sg) (S : List Value) (l0 l1 : Value), exec d mX6_trace 19 [l0, l1] (.ref 48 :: S) σ = exec d mX6_trace 22 [l0, l1] (.ref 49 :: S) σ) ∧
  (∀ (d : Nat) (σ : Sg) (S : List Value) (l0 : Value) (x : Int32), exec d mX6_trace 22 [l0, .int x] S σ = exec d mX6_trace 23 [l0, .int x] (.int x :: S) σ) ∧
  (∀ (d : Nat) (σ : Sg) (S : List Value) (l0 l1 : Value) (x : Int32), exec d mX6_trace 23 [l0, l1] (.int x :: .ref 49 :: S) σ = if inb x 16 = true then exec d mX6_trace 24 [l0, l1] (.int (σ 49 x.toNatClampNeg) :: S) σ else none) ∧
  (∀ (d : Nat) (σ : Sg) (S : List Value) (l0 l1 : Value), exec d mX6_trace 24 [l0, l1] S σ = exec d mX6_trace 29 [l0, l1] S σ) ∧
  (∀ (d : Nat) (σ : Sg) (S : List Value) (l0 l1 : Value), exec d mX6_trace 27 [l0, l1] S σ = exec d mX6_trace 29 [l0, l1] (.int ((-1000000)) :: S) σ) ∧
  (∀ (d : Nat) (σ : Sg) (l0 l1 : Value) (x : Int32), exec d mX6_trace 29 [l0, l1] [.int x] σ = some (some (.int x), σ)) :=
  ⟨fun d σ S l0 x => ex_iload_n (show decode mX6_trace.2.1 0 = .ok (.iload_n 1, 1) by decide +kernel) rfl,
  fun d σ S l0 l1 x => ex_zlt (show decode mX6_trace.2.1 1 = .ok (.ifCond .lt 26, 3) by decide +kernel) (by decide),
  fun d σ S l0 x => ex_iload_n (show decode mX6_trace.2.1 4 = .ok (.iload_n 1, 1) by decide +kernel) rfl,
  fun d σ S l1 k => ex_aload_n (show decode mX6_trace.2.1 5 = .ok (.aload_n 0, 1) by decide +kernel) rfl,
  fun d σ S l0 l1 => ex_getr (idx := 56) (ci := 6) (ff := 8) (n := 11) (hh := 354) (by decide +kernel),
  fun d σ S l0 l1 => ex_get (idx := 316) (ci := 1) (ff := 1) (n := 6) (hh := 328) (by decide +kernel),
  fun d σ S l0 l1 x y => ex_cge (show decode mX6_trace.2.1 12 = .ok (.if_icmp .ge 15, 3) by decide +kernel) (by decide),
  fun d σ S l1 k => ex_aload_n (show decode mX6_trace.2.1 15 = .ok (.aload_n 0, 1) by decide +kernel) rfl,
  fun d σ S l0 l1 => ex_getr (idx := 56) (ci := 6) (ff := 8) (n := 11) (hh := 354) (by decide +kernel),
  fun d σ S l0 l1 => ex_getr (idx := 317) (ci := 1) (ff := 0) (n := 6) (hh := 326) (by decide +kernel),
  fun d σ S l0 x => ex_iload_n (show decode mX6_trace.2.1 22 = .ok (.iload_n 1, 1) by decide +kernel) rfl,
  fun d σ S l0 l1 x => ex_iald (by decide +kernel),
  fun d σ S l0 l1 => ex_goto (show decode mX6_trace.2.1 24 = .ok (.goto 5, 3) by decide +kernel) (by decide),
  fun d σ S l0 l1 => ex_ldc (hh := 593) (show decode mX6_trace.2.1 27 = .ok (.ldc 192, 2) by decide +kernel) (by decide +kernel),
  fun d σ l0 l1 x => ex_iret (show decode mX6_trace.2.1 29 = .ok (.ireturn, 1) by decide +kernel) rfl⟩
theorem aX6_trace_0 : ∀ (d : Nat) (a1 : Int32) (σ : Sg), cal (d + 1) mX6_trace [.ref 0, .int a1] σ = exec d mX6_trace 0 [.ref 0, .int a1] [] σ := fun _ _ _ => rfl
theorem kX6_count : (∀ (d : Nat) (σ : Sg) (S : List Value) (l0 : Value) (x : Int32), exec d mX6_count 0 [l0, .int x] S σ = exec d mX6_count 1 [l0, .int x] (.int x :: S) σ) ∧
  (∀ (d : Nat) (σ : Sg) (S : List Value) (l0 l1 : Value) (x : Int32), exec d mX6_count 1 [l0, l1] (.int x :: S) σ = (if x = nI 0 then exec d mX6_count 48 [l0, l1] S σ else (if x = nI 1 then exec d mX6_count 56 [l0, l1] S σ else (if x = nI 2 then exec d mX6_count 64 [l0, l1] S σ else (if x = nI 3 then exec d mX6_count 72 [l0, l1] S σ else (if x = nI 4 then exec d mX6_count 80 [l0, l1] S σ else (if x = nI 5 then exec d mX6_count 88 [l0, l1] S σ else (if x = nI 6 then exec d mX6_count 96 [l0, l1] S σ else (if x = nI 7 then exec d mX6_count 104 [l0, l1] S σ else exec d mX6_count 112 [l0, l1] S σ))))))))) ∧
  (∀ (d : Nat) (σ : Sg) (S : List Value) (l1 : Value) (k : Nat), exec d mX6_count 48 [.ref k, l1] S σ = exec d mX6_count 49 [.ref k, l1] (.ref k :: S) σ) ∧
  (∀ (d : Nat) (σ : Sg) (S : List Value) (l0 l1 : Value), exec d mX6_count 49 [l0, l1] (.ref 0 :: S) σ = exec d mX6_count 52 [l0, l1] (.ref 1 :: S) σ) ∧
  (∀ (d : Nat) (σ : Sg) (l0 l1 : Value), exec d mX6_count 52 [l0, l1] [.ref 1] σ = kb (cal d mX3_howMany [.ref 1] σ) (fun rs σ2 => exec d mX6_count 55 [l0, l1] (rs ++ []) σ2)) ∧
  (∀ (d : Nat) (σ : Sg) (l0 l1 : Value) (x : Int32), exec d mX6_count 55 [l0, l1] [.int x] σ = some (some (.int x), σ)) ∧
  (∀ (d : Nat) (σ : Sg) (S : List Value) (l1 : Value) (k : Nat), exec d mX6_count 56 [.ref k, l1] S σ = exec d mX6_count 57 [.ref k, l1] (.ref k :: S) σ) ∧
  (∀ (d : Nat) (σ : Sg) (S : List Value) (l0 l1 : Value), exec d mX6_count 57 [l0, l1] (.ref 0 :: S) σ = exec d mX6_count 60 [l0, l1] (.ref 8 :: S) σ) ∧
  (∀ (d : Nat) (σ : Sg) (S : List Value) (l0 l1 : Value), exec d mX6_count 60 [l0, l1] (.ref 8 :: S) σ = exec d mX6_count 63 [l0, l1] (.int (σ 8 4) :: S) σ) ∧
  (∀ (d : Nat) (σ : Sg) (l0 l1 : Value) (x : Int32), exec d mX6_count 63 [l0, l1] [.int x] σ = some (some (.int x), σ)) ∧
  (∀ (d : Nat) (σ : Sg) (S : List Value) (l1 : Value) (k : Nat), exec d mX6_count 64 [.ref k, l1] S σ = exec d mX6_count 65 [.ref k, l1] (.ref k :: S) σ) ∧
  (∀ (d : Nat) (σ : Sg) (S : List Value) (l0 l1 : Value), exec d mX6_count 65 [l0, l1] (.ref 0 :: S) σ = exec d mX6_count 68 [l0, l1] (.ref 8 :: S) σ) ∧
  (∀ (d : Nat) (σ : Sg) (S : List Value) (l0 l1 : Value), exec d mX6_count 68 [l0, l1] (.ref 8 :: S) σ = exec d mX6_count 71 [l0, l1] (.int (σ 8 5) :: S) σ) ∧
  (∀ (d : Nat) (σ : Sg) (l0 l1 : Value) (x : Int32), exec d mX6_count 71 [l0, l1] [.int x] σ = some (some (.int x), σ)) ∧
  (∀ (d : Nat) (σ : Sg) (S : List Value) (l1 : Value) (k : Nat), exec d mX6_count 72 [.ref k, l1] S σ = exec d mX6_count 73 [.ref k, l1] (.ref k :: S) σ) ∧
  (∀ (d : Nat) (σ : Sg) (S : List Value) (l0 l1 : Value), exec d mX6_count 73 [l0, l1] (.ref 0 :: S) σ = exec d mX6_count 76 [l0, l1] (.ref 8 :: S) σ) ∧
  (∀ (d : Nat) (σ : Sg) (S : List Value) (l0 l1 : Value), exec d mX6_count 76 [l0, l1] (.ref 8 :: S) σ = exec d mX6_count 79 [l0, l1] (.int (σ 8 6) :: S) σ) ∧
  (∀ (d : Nat) (σ : Sg) (l0 l1 : Value) (x : Int32), exec d mX6_count 79 [l0, l1] [.int x] σ = some (some (.int x), σ)) ∧
  (∀ (d : Nat) (σ : Sg) (S : List Value) (l1 : Value) (k : Nat), exec d mX6_count 80 [.ref k, l1] S σ = exec d mX6_count 81 [.ref k, l1] (.ref k :: S) σ) ∧
  (∀ (d : Nat) (σ : Sg) (S : List Value) (l0 l1 : Value), exec d mX6_count 81 [l0, l1] (.ref 0 :: S) σ = exec d mX6_count 84 [l0, l1] (.ref 8 :: S) σ) ∧
  (∀ (d : Nat) (σ : Sg) (S : List Value) (l0 l1 : Value), exec d mX6_count 84 [l0, l1] (.ref 8 :: S) σ = exec d mX6_count 87 [l0, l1] (.int (σ 8 2) :: S) σ) ∧
  (∀ (d : Nat) (σ : Sg) (l0 l1 : Value) (x : Int32), exec d mX6_count 87 [l0, l1] [.int x] σ = some (some (.int x), σ)) ∧
  (∀ (d : Nat) (σ : Sg) (S : List Value) (l1 : Value) (k : Nat), exec d mX6_count 88 [.ref k, l1] S σ = exec d mX6_count 89 [.ref k, l1] (.ref k :: S) σ) ∧
  (∀ (d : Nat) (σ : Sg) (S : List Value) (l0 l1 : Value), exec d mX6_count 89 [l0, l1] (.ref 0 :: S) σ = exec d mX6_count 92 [l0, l1] (.ref 8 :: S) σ) ∧
  (∀ (d : Nat) (σ : Sg) (S : List Value) (l0 l1 : Value), exec d mX6_count 92 [l0, l1] (.ref 8 :: S) σ = exec d mX6_count 95 [l0, l1] (.int (σ 8 3) :: S) σ) ∧
  (∀ (d : Nat) (σ : Sg) (l0 l1 : Value) (x : Int32), exec d mX6_count 95 [l0, l1] [.int x] σ = some (some (.int x), σ)) ∧
  (∀ (d : Nat) (σ : Sg) (S : List Value) (l1 : Value) (k : Nat), exec d mX6_count 96 [.ref k, l1] S σ = exec d mX6_count 97 [.ref k, l1] (.ref k :: S) σ) ∧
  (∀ (d : Nat) (σ : Sg) (S : List Value) (l0 l1 : Value), exec d mX6_count 97 [l0, l1] (.ref 0 :: S) σ = exec d mX6_count 100 [l0, l1] (.ref 44 :: S) σ) ∧
  (∀ (d : Nat) (σ : Sg) (S : List Value) (l0 l1 : Value), exec d mX6_count 100 [l0, l1] (.ref 44 :: S) σ = exec d mX6_count 103 [l0, l1] (.int (σ 44 1) :: S) σ) ∧
  (∀ (d : Nat) (σ : Sg) (l0 l1 : Value) (x : Int32), exec d mX6_count 103 [l0, l1] [.int x] σ = some (some (.int x), σ)) ∧
  (∀ (d : Nat) (σ : Sg) (S : List Value) (l1 : Value) (k : Nat), exec d mX6_count 104 [.ref k, l1] S σ = exec d mX6_count 105 [.ref k, l1] (.ref k :: S) σ) ∧
  (∀ (d : Nat) (σ : Sg) (S : List Value) (l0 l1 : Value), exec d mX6_count 105 [l0, l1] (.ref 0 :: S) σ = exec d mX6_count 108 [l0, l1] (.ref 6 :: S) σ) ∧
  (∀ (d : Nat) (σ : Sg) (S : List Value) (l0 l1 : Value), exec d mX6_count 108 [l0, l1] (.ref 6 :: S) σ = exec d mX6_count 111 [l0, l1] (.int (σ 6 1) :: S) σ) ∧
  (∀ (d : Nat) (σ : Sg) (l0 l1 : Value) (x : Int32), exec d mX6_count 111 [l0, l1] [.int x] σ = some (some (.int x), σ)) ∧
  (∀ (d : Nat) (σ : Sg) (S : List Value) (l0 l1 : Value), exec d mX6_count 112 [l0, l1] S σ = exec d mX6_count 114 [l0, l1] (.int ((-1000001)) :: S) σ) ∧
  (∀ (d : Nat) (σ : Sg) (l0 l1 : Value) (x : Int32), exec d mX6_count 114 [l0, l1] [.int x] σ = some (some (.int x), σ)) :=
  ⟨fun d σ S l0 x => ex_iload_n (show decode mX6_count.2.1 0 = .ok (.iload_n 1, 1) by decide +kernel) rfl,
  fun d σ S l0 l1 x => ex_tsw (lo := 0) (df := 112) (ts := [48, 56, 64, 72, 80, 88, 96, 104]) (show decode mX6_count.2.1 1 = .ok (.tableswitch 111 0 7 #[47, 55, 63, 71, 79, 87, 95, 103], 47) by decide +kernel) (by decide) (by decide) (by decide) (by decide),
  fun d σ S l1 k => ex_aload_n (show decode mX6_count.2.1 48 = .ok (.aload_n 0, 1) by decide +kernel) rfl,
  fun d σ S l0 l1 => ex_getr (idx := 10) (ci := 6) (ff := 0) (n := 11) (hh := 346) (by decide +kernel),
  fun d σ l0 l1 => ex_iv (hs := [819, 821, 53, 822, 95]) (show decode mX6_count.2.1 52 = .ok (.invokevirtual 320, 3) by decide +kernel) lkV_6_320 ⟨rfl, Nat.le_of_ble_eq_true rfl, Nat.le_of_ble_eq_true rfl, fun _ => rfl⟩ rfl rfl,
  fun d σ l0 l1 x => ex_iret (show decode mX6_count.2.1 55 = .ok (.ireturn, 1) by decide +kernel) rfl,
  fun d σ S l1 k => ex_aload_n (show decode mX6_count.2.1 56 = .ok (.aload_n 0, 1) by decide +kernel) rfl,
  fun d σ S l0 l1 => ex_getr (idx := 26) (ci := 6) (ff := 2) (n := 11) (hh := 348) (by decide +kernel),
  fun d σ S l0 l1 => ex_get (idx := 128) (ci := 5) (ff := 4) (n := 17) (hh := 201) (by decide +kernel),
  fun d σ l0 l1 x => ex_iret (show decode mX6_count.2.1 63 = .ok (.ireturn, 1) by decide +kernel) rfl,
  fun d σ S l1 k => ex_aload_n (show decode mX6_count.2.1 64 = .ok (.aload_n 0, 1) by decide +kernel) rfl,
  fun d σ S l0 l1 => ex_getr (idx := 26) (ci := 6) (ff := 2) (n := 11) (hh := 348) (by decide +kernel),
  fun d σ S l0 l1 => ex_get (idx := 257) (ci := 5) (ff := 5) (n := 17) (hh := 204) (by decide +kernel),
  fun d σ l0 l1 x => ex_iret (show decode mX6_count.2.1 71 = .ok (.ireturn, 1) by decide +kernel) rfl,
  fun d σ S l1 k => ex_aload_n (show decode mX6_count.2.1 72 = .ok (.aload_n 0, 1) by decide +kernel) rfl,
  fun d σ S l0 l1 => ex_getr (idx := 26) (ci := 6) (ff := 2) (n := 11) (hh := 348) (by decide +kernel),
  fun d σ S l0 l1 => ex_get (idx := 193) (ci := 5) (ff := 6) (n := 17) (hh := 208) (by decide +kernel),
  fun d σ l0 l1 x => ex_iret (show decode mX6_count.2.1 79 = .ok (.ireturn, 1) by decide +kernel) rfl,
  fun d σ S l1 k => ex_aload_n (show decode mX6_count.2.1 80 = .ok (.aload_n 0, 1) by decide +kernel) rfl,
  fun d σ S l0 l1 => ex_getr (idx := 26) (ci := 6) (ff := 2) (n := 11) (hh := 348) (by decide +kernel),
  fun d σ S l0 l1 => ex_get (idx := 158) (ci := 5) (ff := 2) (n := 17) (hh := 192) (by decide +kernel),
  fun d σ l0 l1 x => ex_iret (show decode mX6_count.2.1 87 = .ok (.ireturn, 1) by decide +kernel) rfl,
  fun d σ S l1 k => ex_aload_n (show decode mX6_count.2.1 88 = .ok (.aload_n 0, 1) by decide +kernel) rfl,
  fun d σ S l0 l1 => ex_getr (idx := 26) (ci := 6) (ff := 2) (n := 11) (hh := 348) (by decide +kernel),
  fun d σ S l0 l1 => ex_get (idx := 170) (ci := 5) (ff := 3) (n := 17) (hh := 197) (by decide +kernel),
  fun d σ l0 l1 x => ex_iret (show decode mX6_count.2.1 95 = .ok (.ireturn, 1) by decide +kernel) rfl,
  fun d σ S l1 k => ex_aload_n (show decode mX6_count.2.1 96 = .ok (.aload_n 0, 1) by decide +kernel) rfl,
  fun d σ S l0 l1 => ex_getr (idx := 42) (ci := 6) (ff := 6) (n := 11) (hh := 352) (by decide +kernel),
  fun d σ S l0 l1 => ex_get (idx := 131) (ci := 0) (ff := 1) (n := 3) (hh := 280) (by decide +kernel),
  fun d σ l0 l1 x => ex_iret (show decode mX6_count.2.1 103 = .ok (.ireturn, 1) by decide +kernel) rfl,
  fun d σ S l1 k => ex_aload_n (show decode mX6_count.2.1 104 = .ok (.aload_n 0, 1) by decide +kernel) rfl,
  fun d σ S l0 l1 => ex_getr (idx := 19) (ci := 6) (ff := 1) (n := 11) (hh := 347) (by decide +kernel),
  fun d σ S l0 l1 => ex_get (idx := 99) (ci := 4) (ff := 1) (n := 9) (hh := 145) (by decide +kernel),
  fun d σ l0 l1 x => ex_iret (show decode mX6_count.2.1 111 = .ok (.ireturn, 1) by decide +kernel) rfl,
  fun d σ S l0 l1 => ex_ldc (hh := 387) (show decode mX6_count.2.1 112 = .ok (.ldc 64, 2) by decide +kernel) (by decide +kernel),
  fun d σ l0 l1 x => ex_iret (show decode mX6_count.2.1 114 = .ok (.ireturn, 1) by decide +kernel) rfl⟩
theorem aX6_count_0 : ∀ (d : Nat) (a1 : Int32) (σ : Sg), cal (d + 1) mX6_count [.ref 0, .int a1] σ = exec d mX6_count 0 [.ref 0, .int a1] [] σ := fun _ _ _ => rfl
theorem kX6_status : (∀ (d : Nat) (σ : Sg) (S : List Value) (k : Nat), exec d mX6_status 0 [.ref k] S σ = exec d mX6_status 1 [.ref k] (.ref k :: S) σ) ∧
  (∀ (d : Nat) (σ : Sg) (S : List Value) (l0 : Value), exec d mX6_status 1 [l0] (.ref 0 :: S) σ = exec d mX6_status 4 [l0] (.int (σ 0 10) :: S) σ) ∧
  (∀ (d : Nat) (σ : Sg) (l0 : Value) (x : Int32), exec d mX6_status 4 [l0] [.int x] σ = some (some (.int x), σ)) :=
  ⟨fun d σ S k => ex_aload_n (show decode mX6_status.2.1 0 = .ok (.aload_n 0, 1) by decide +kernel) rfl,
  fun d σ S l0 => ex_get (idx := 323) (ci := 6) (ff := 10) (n := 11) (hh := 356) (by decide +kernel),
  fun d σ l0 x => ex_iret (show decode mX6_status.2.1 4 = .ok (.ireturn, 1) by decide +kernel) rfl⟩
theorem aX6_status_0 : ∀ (d : Nat)  (σ : Sg), cal (d + 1) mX6_status [.ref 0] σ = exec d mX6_status 0 [.ref 0] [] σ := fun _ _ => rfl
theorem kX6_finding : (∀ (d : Nat) (σ : Sg) (S : List Value) (l1 : Value) (k : Nat), exec d mX6_finding 0 [.ref k, l1] S σ = exec d mX6_finding 1 [.ref k, l1] (.ref k :: S) σ) ∧
  (∀ (d : Nat) (σ : Sg) (S : List Value) (l0 : Value) (x : Int32), exec d mX6_finding 1 [l0, .int x] S σ = exec d mX6_finding 2 [l0, .int x] (.int x :: S) σ) ∧
  (∀ (d : Nat) (σ : Sg) (S : List Value) (l0 l1 : Value) (x : Int32), exec d mX6_finding 2 [l0, l1] (.int x :: .ref 0 :: S) σ = exec d mX6_finding 5 [l0, l1] S (up σ 0 10 x)) ∧
  (∀ (d : Nat) (σ : Sg) (S : List Value) (l0 l1 : Value), exec d mX6_finding 5 [l0, l1] S σ = exec d mX6_finding 8 [l0, l1] (.int ((-1000010)) :: S) σ) ∧
  (∀ (d : Nat) (σ : Sg) (S : List Value) (l0 : Value) (x : Int32), exec d mX6_finding 8 [l0, .int x] S σ = exec d mX6_finding 9 [l0, .int x] (.int x :: S) σ) ∧
  (∀ (d : Nat) (σ : Sg) (S : List Value) (l0 l1 : Value) (x y : Int32), exec d mX6_finding 9 [l0, l1] (.int y :: .int x :: S) σ = exec d mX6_finding 10 [l0, l1] (.int (x - y) :: S) σ) ∧
  (∀ (d : Nat) (σ : Sg) (l0 l1 : Value) (x : Int32), exec d mX6_finding 10 [l0, l1] [.int x] σ = some (some (.int x), σ)) :=
  ⟨fun d σ S l1 k => ex_aload_n (show decode mX6_finding.2.1 0 = .ok (.aload_n 0, 1) by decide +kernel) rfl,
  fun d σ S l0 x => ex_iload_n (show decode mX6_finding.2.1 1 = .ok (.iload_n 1, 1) by decide +kernel) rfl,
  fun d σ S l0 l1 x => ex_put (idx := 323) (ci := 6) (ff := 10) (n := 11) (hh := 356) (by decide +kernel),
  fun d σ S l0 l1 => ex_ldcw (hh := 392) (show decode mX6_finding.2.1 5 = .ok (.ldc_w 326, 3) by decide +kernel) (by decide +kernel),
  fun d σ S l0 x => ex_iload_n (show decode mX6_finding.2.1 8 = .ok (.iload_n 1, 1) by decide +kernel) rfl,
  fun d σ S l0 l1 x y => ex_isub (show decode mX6_finding.2.1 9 = .ok (.isub, 1) by decide +kernel),
  fun d σ l0 l1 x => ex_iret (show decode mX6_finding.2.1 10 = .ok (.ireturn, 1) by decide +kernel) rfl⟩
theorem aX6_finding_0 : ∀ (d : Nat) (a1 : Int32) (σ : Sg), cal (d + 1) mX6_finding [.ref 0, .int a1] σ = exec d mX6_finding 0 [.ref 0, .int a1] [] σ := fun _ _ _ => rfl
theorem kX6_clean : (∀ (d : Nat) (σ : Sg) (S : List Value) (l1 : Value) (k : Nat), exec d mX6_clean 0 [.ref k, l1] S σ = exec d mX6_clean 1 [.ref k, l1] (.ref k :: S) σ) ∧
  (∀ (d : Nat) (σ : Sg) (S : List Value) (l0 l1 : Value), exec d mX6_clean 1 [l0, l1] S σ = exec d mX6_clean 2 [l0, l1] (.int (nI 0) :: S) σ) ∧
  (∀ (d : Nat) (σ : Sg) (S : List Value) (l0 l1 : Value) (x : Int32), exec d mX6_clean 2 [l0, l1] (.int x :: .ref 0 :: S) σ = exec d mX6_clean 5 [l0, l1] S (up σ 0 10 x)) ∧
  (∀ (d : Nat) (σ : Sg) (S : List Value) (l0 : Value) (x : Int32), exec d mX6_clean 5 [l0, .int x] S σ = exec d mX6_clean 6 [l0, .int x] (.int x :: S) σ) ∧
  (∀ (d : Nat) (σ : Sg) (l0 l1 : Value) (x : Int32), exec d mX6_clean 6 [l0, l1] [.int x] σ = some (some (.int x), σ)) :=
  ⟨fun d σ S l1 k => ex_aload_n (show decode mX6_clean.2.1 0 = .ok (.aload_n 0, 1) by decide +kernel) rfl,
  fun d σ S l0 l1 => ex_iconst (show decode mX6_clean.2.1 1 = .ok (.iconst 0, 1) by decide +kernel) (by decide +kernel),
  fun d σ S l0 l1 x => ex_put (idx := 323) (ci := 6) (ff := 10) (n := 11) (hh := 356) (by decide +kernel),
  fun d σ S l0 x => ex_iload_n (show decode mX6_clean.2.1 5 = .ok (.iload_n 1, 1) by decide +kernel) rfl,
  fun d σ l0 l1 x => ex_iret (show decode mX6_clean.2.1 6 = .ok (.ireturn, 1) by decide +kernel) rfl⟩
theorem aX6_clean_0 : ∀ (d : Nat) (a1 : Int32) (σ : Sg), cal (d + 1) mX6_clean [.ref 0, .int a1] σ = exec d mX6_clean 0 [.ref 0, .int a1] [] σ := fun _ _ _ => rfl
theorem kX6_isRow : (∀ (d : Nat) (σ : Sg) (S : List Value) (x : Int32), exec d mX6_isRow 0 [.int x] S σ = exec d mX6_isRow 1 [.int x] (.int x :: S) σ) ∧
  (∀ (d : Nat) (σ : Sg) (S : List Value) (l0 : Value) (x : Int32), exec d mX6_isRow 1 [l0] (.int x :: S) σ = if x < nI 0 then exec d mX6_isRow 14 [l0] S σ else exec d mX6_isRow 4 [l0] S σ) ∧
  (∀ (d : Nat) (σ : Sg) (S : List Value) (x : Int32), exec d mX6_isRow 4 [.int x] S σ = exec d mX6_isRow 5 [.int x] (.int x :: S) σ) ∧
  (∀ (d : Nat) (σ : Sg) (S : List Value) (l0 : Value), exec d mX6_isRow 5 [l0] S σ = exec d mX6_isRow 7 [l0] (.int (nI 8) :: S) σ) ∧
  (∀ (d : Nat) (σ : Sg) (S : List Value) (l0 : Value) (x y : Int32), exec d mX6_isRow 7 [l0] (.int y :: .int x :: S) σ = if y ≤ x then exec d mX6_isRow 14 [l0] S σ else exec d mX6_isRow 10 [l0] S σ) ∧
  (∀ (d : Nat) (σ : Sg) (S : List Value) (l0 : Value), exec d mX6_isRow 10 [l0] S σ = exec d mX6_isRow 11 [l0] (.int (nI 1) :: S) σ) ∧
  (∀ (d : Nat) (σ : Sg) (S : List Value) (l0 : Value), exec d mX6_isRow 11 [l0] S σ = exec d mX6_isRow 15 [l0] S σ) ∧
  (∀ (d : Nat) (σ : Sg) (S : List Value) (l0 : Value), exec d mX6_isRow 14 [l0] S σ = exec d mX6_isRow 15 [l0] (.int (nI 0) :: S) σ) ∧
  (∀ (d : Nat) (σ : Sg) (l0 : Value) (x : Int32), exec d mX6_isRow 15 [l0] [.int x] σ = if b01 x = true then some (some (.int x), σ) else none) :=
  ⟨fun d σ S x => ex_iload_n (show decode mX6_isRow.2.1 0 = .ok (.iload_n 0, 1) by decide +kernel) rfl,
  fun d σ S l0 x => ex_zlt (show decode mX6_isRow.2.1 1 = .ok (.ifCond .lt 13, 3) by decide +kernel) (by decide),
  fun d σ S x => ex_iload_n (show decode mX6_isRow.2.1 4 = .ok (.iload_n 0, 1) by decide +kernel) rfl,
  fun d σ S l0 => ex_bipush (show decode mX6_isRow.2.1 5 = .ok (.bipush 8, 2) by decide +kernel) (by decide +kernel),
  fun d σ S l0 x y => ex_cge (show decode mX6_isRow.2.1 7 = .ok (.if_icmp .ge 7, 3) by decide +kernel) (by decide),
  fun d σ S l0 => ex_iconst (show decode mX6_isRow.2.1 10 = .ok (.iconst 1, 1) by decide +kernel) (by decide +kernel),
  fun d σ S l0 => ex_goto (show decode mX6_isRow.2.1 11 = .ok (.goto 4, 3) by decide +kernel) (by decide),
  fun d σ S l0 => ex_iconst (show decode mX6_isRow.2.1 14 = .ok (.iconst 0, 1) by decide +kernel) (by decide +kernel),
  fun d σ l0 x => ex_zret (show decode mX6_isRow.2.1 15 = .ok (.ireturn, 1) by decide +kernel) rfl⟩
theorem aX6_isRow : ∀ (d : Nat) (a0 : Int32) (σ : Sg), cal (d + 1) mX6_isRow [.int a0] σ = exec d mX6_isRow 0 [.int a0] [] σ := fun _ _ _ => rfl
theorem kX6_isOneOfTwo : (∀ (d : Nat) (σ : Sg) (S : List Value) (x : Int32), exec d mX6_isOneOfTwo 0 [.int x] S σ = exec d mX6_isOneOfTwo 1 [.int x] (.int x :: S) σ) ∧
  (∀ (d : Nat) (σ : Sg) (S : List Value) (l0 : Value) (x : Int32), exec d mX6_isOneOfTwo 1 [l0] (.int x :: S) σ = if x = nI 0 then exec d mX6_isOneOfTwo 9 [l0] S σ else exec d mX6_isOneOfTwo 4 [l0] S σ) ∧
  (∀ (d : Nat) (σ : Sg) (S : List Value) (x : Int32), exec d mX6_isOneOfTwo 4 [.int x] S σ = exec d mX6_isOneOfTwo 5 [.int x] (.int x :: S) σ) ∧
  (∀ (d : Nat) (σ : Sg) (S : List Value) (l0 : Value), exec d mX6_isOneOfTwo 5 [l0] S σ = exec d mX6_isOneOfTwo 6 [l0] (.int (nI 1) :: S) σ) ∧
  (∀ (d : Nat) (σ : Sg) (S : List Value) (l0 : Value) (x y : Int32), exec d mX6_isOneOfTwo 6 [l0] (.int y :: .int x :: S) σ = if x = y then exec d mX6_isOneOfTwo 9 [l0] S σ else exec d mX6_isOneOfTwo 13 [l0] S σ) ∧
  (∀ (d : Nat) (σ : Sg) (S : List Value) (l0 : Value), exec d mX6_isOneOfTwo 9 [l0] S σ = exec d mX6_isOneOfTwo 10 [l0] (.int (nI 1) :: S) σ) ∧
  (∀ (d : Nat) (σ : Sg) (S : List Value) (l0 : Value), exec d mX6_isOneOfTwo 10 [l0] S σ = exec d mX6_isOneOfTwo 14 [l0] S σ) ∧
  (∀ (d : Nat) (σ : Sg) (S : List Value) (l0 : Value), exec d mX6_isOneOfTwo 13 [l0] S σ = exec d mX6_isOneOfTwo 14 [l0] (.int (nI 0) :: S) σ) ∧
  (∀ (d : Nat) (σ : Sg) (l0 : Value) (x : Int32), exec d mX6_isOneOfTwo 14 [l0] [.int x] σ = if b01 x = true then some (some (.int x), σ) else none) :=
  ⟨fun d σ S x => ex_iload_n (show decode mX6_isOneOfTwo.2.1 0 = .ok (.iload_n 0, 1) by decide +kernel) rfl,
  fun d σ S l0 x => ex_zeq (show decode mX6_isOneOfTwo.2.1 1 = .ok (.ifCond .eq 8, 3) by decide +kernel) (by decide),
  fun d σ S x => ex_iload_n (show decode mX6_isOneOfTwo.2.1 4 = .ok (.iload_n 0, 1) by decide +kernel) rfl,
  fun d σ S l0 => ex_iconst (show decode mX6_isOneOfTwo.2.1 5 = .ok (.iconst 1, 1) by decide +kernel) (by decide +kernel),
  fun d σ S l0 x y => ex_cne (show decode mX6_isOneOfTwo.2.1 6 = .ok (.if_icmp .ne 7, 3) by decide +kernel) (by decide),
  fun d σ S l0 => ex_iconst (show decode mX6_isOneOfTwo.2.1 9 = .ok (.iconst 1, 1) by decide +kernel) (by decide +kernel),
  fun d σ S l0 => ex_goto (show decode mX6_isOneOfTwo.2.1 10 = .ok (.goto 4, 3) by decide +kernel) (by decide),
  fun d σ S l0 => ex_iconst (show decode mX6_isOneOfTwo.2.1 13 = .ok (.iconst 0, 1) by decide +kernel) (by decide +kernel),
  fun d σ l0 x => ex_zret (show decode mX6_isOneOfTwo.2.1 14 = .ok (.ireturn, 1) by decide +kernel) rfl⟩
theorem aX6_isOneOfTwo : ∀ (d : Nat) (a0 : Int32) (σ : Sg), cal (d + 1) mX6_isOneOfTwo [.int a0] σ = exec d mX6_isOneOfTwo 0 [.int a0] [] σ := fun _ _ _ => rfl
theorem kX6_isPart : (∀ (d : Nat) (σ : Sg) (S : List Value) (l0 : Value) (x : Int32), exec d mX6_isPart 0 [l0, .int x] S σ = exec d mX6_isPart 1 [l0, .int x] (.int x :: S) σ) ∧
  (∀ (d : Nat) (σ : Sg) (S : List Value) (l0 l1 : Value) (x : Int32), exec d mX6_isPart 1 [l0, l1] (.int x :: S) σ = if x < nI 0 then exec d mX6_isPart 19 [l0, l1] S σ else exec d mX6_isPart 4 [l0, l1] S σ) ∧
  (∀ (d : Nat) (σ : Sg) (S : List Value) (l0 : Value) (x : Int32), exec d mX6_isPart 4 [l0, .int x] S σ = exec d mX6_isPart 5 [l0, .int x] (.int x :: S) σ) ∧
  (∀ (d : Nat) (σ : Sg) (S : List Value) (l1 : Value) (k : Nat), exec d mX6_isPart 5 [.ref k, l1] S σ = exec d mX6_isPart 6 [.ref k, l1] (.ref k :: S) σ) ∧
  (∀ (d : Nat) (σ : Sg) (S : List Value) (l0 l1 : Value), exec d mX6_isPart 6 [l0, l1] (.ref 0 :: S) σ = exec d mX6_isPart 9 [l0, l1] (.ref 8 :: S) σ) ∧
  (∀ (d : Nat) (σ : Sg) (S : List Value) (l0 l1 : Value), exec d mX6_isPart 9 [l0, l1] (.ref 8 :: S) σ = exec d mX6_isPart 12 [l0, l1] (.int (σ 8 4) :: S) σ) ∧
  (∀ (d : Nat) (σ : Sg) (S : List Value) (l0 l1 : Value) (x y : Int32), exec d mX6_isPart 12 [l0, l1] (.int y :: .int x :: S) σ = if y ≤ x then exec d mX6_isPart 19 [l0, l1] S σ else exec d mX6_isPart 15 [l0, l1] S σ) ∧
  (∀ (d : Nat) (σ : Sg) (S : List Value) (l0 l1 : Value), exec d mX6_isPart 15 [l0, l1] S σ = exec d mX6_isPart 16 [l0, l1] (.int (nI 1) :: S) σ) ∧
  (∀ (d : Nat) (σ : Sg) (S : List Value) (l0 l1 : Value), exec d mX6_isPart 16 [l0, l1] S σ = exec d mX6_isPart 20 [l0, l1] S σ) ∧
  (∀ (d : Nat) (σ : Sg) (S : List Value) (l0 l1 : Value), exec d mX6_isPart 19 [l0, l1] S σ = exec d mX6_isPart 20 [l0, l1] (.int (nI 0) :: S) σ) ∧
  (∀ (d : Nat) (σ : Sg) (l0 l1 : Value) (x : Int32), exec d mX6_isPart 20 [l0, l1] [.int x] σ = if b01 x = true then some (some (.int x), σ) else none) :=
  ⟨fun d σ S l0 x => ex_iload_n (show decode mX6_isPart.2.1 0 = .ok (.iload_n 1, 1) by decide +kernel) rfl,
  fun d σ S l0 l1 x => ex_zlt (show decode mX6_isPart.2.1 1 = .ok (.ifCond .lt 18, 3) by decide +kernel) (by decide),
  fun d σ S l0 x => ex_iload_n (show decode mX6_isPart.2.1 4 = .ok (.iload_n 1, 1) by decide +kernel) rfl,
  fun d σ S l1 k => ex_aload_n (show decode mX6_isPart.2.1 5 = .ok (.aload_n 0, 1) by decide +kernel) rfl,
  fun d σ S l0 l1 => ex_getr (idx := 26) (ci := 6) (ff := 2) (n := 11) (hh := 348) (by decide +kernel),
  fun d σ S l0 l1 => ex_get (idx := 128) (ci := 5) (ff := 4) (n := 17) (hh := 201) (by decide +kernel),
  fun d σ S l0 l1 x y => ex_cge (show decode mX6_isPart.2.1 12 = .ok (.if_icmp .ge 7, 3) by decide +kernel) (by decide),
  fun d σ S l0 l1 => ex_iconst (show decode mX6_isPart.2.1 15 = .ok (.iconst 1, 1) by decide +kernel) (by decide +kernel),
  fun d σ S l0 l1 => ex_goto (show decode mX6_isPart.2.1 16 = .ok (.goto 4, 3) by decide +kernel) (by decide),
  fun d σ S l0 l1 => ex_iconst (show decode mX6_isPart.2.1 19 = .ok (.iconst 0, 1) by decide +kernel) (by decide +kernel),
  fun d σ l0 l1 x => ex_zret (show decode mX6_isPart.2.1 20 = .ok (.ireturn, 1) by decide +kernel) rfl⟩
theorem aX6_isPart_0 : ∀ (d : Nat) (a1 : Int32) (σ : Sg), cal (d + 1) mX6_isPart [.ref 0, .int a1] σ = exec d mX6_isPart 0 [.ref 0, .int a1] [] σ := fun _ _ _ => rfl
theorem kX6_isElder : (∀ (d : Nat) (σ : Sg) (S : List Value) (l0 : Value) (x : Int32), exec d mX6_isElder 0 [l0, .int x] S σ = exec d mX6_isElder 1 [l0, .int x] (.int x :: S) σ) ∧
  (∀ (d : Nat) (σ : Sg) (S : List Value) (l0 l1 : Value) (x : Int32), exec d mX6_isElder 1 [l0, l1] (.int x :: S) σ = if x < nI 0 then exec d mX6_isElder 19 [l0, l1] S σ else exec d mX6_isElder 4 [l0, l1] S σ) ∧
  (∀ (d : Nat) (σ : Sg) (S : List Value) (l0 : Value) (x : Int32), exec d mX6_isElder 4 [l0, .int x] S σ = exec d mX6_isElder 5 [l0, .int x] (.int x :: S) σ) ∧
  (∀ (d : Nat) (σ : Sg) (S : List Value) (l1 : Value) (k : Nat), exec d mX6_isElder 5 [.ref k, l1] S σ = exec d mX6_isElder 6 [.ref k, l1] (.ref k :: S) σ) ∧
  (∀ (d : Nat) (σ : Sg) (S : List Value) (l0 l1 : Value), exec d mX6_isElder 6 [l0, l1] (.ref 0 :: S) σ = exec d mX6_isElder 9 [l0, l1] (.ref 8 :: S) σ) ∧
  (∀ (d : Nat) (σ : Sg) (S : List Value) (l0 l1 : Value), exec d mX6_isElder 9 [l0, l1] (.ref 8 :: S) σ = exec d mX6_isElder 12 [l0, l1] (.int (σ 8 5) :: S) σ) ∧
  (∀ (d : Nat) (σ : Sg) (S : List Value) (l0 l1 : Value) (x y : Int32), exec d mX6_isElder 12 [l0, l1] (.int y :: .int x :: S) σ = if y ≤ x then exec d mX6_isElder 19 [l0, l1] S σ else exec d mX6_isElder 15 [l0, l1] S σ) ∧
  (∀ (d : Nat) (σ : Sg) (S : List Value) (l0 l1 : Value), exec d mX6_isElder 15 [l0, l1] S σ = exec d mX6_isElder 16 [l0, l1] (.int (nI 1) :: S) σ) ∧
  (∀ (d : Nat) (σ : Sg) (S : List Value) (l0 l1 : Value), exec d mX6_isElder 16 [l0, l1] S σ = exec d mX6_isElder 20 [l0, l1] S σ) ∧
  (∀ (d : Nat) (σ : Sg) (S : List Value) (l0 l1 : Value), exec d mX6_isElder 19 [l0, l1] S σ = exec d mX6_isElder 20 [l0, l1] (.int (nI 0) :: S) σ) ∧
  (∀ (d : Nat) (σ : Sg) (l0 l1 : Value) (x : Int32), exec d mX6_isElder 20 [l0, l1] [.int x] σ = if b01 x = true then some (some (.int x), σ) else none) :=
  ⟨fun d σ S l0 x => ex_iload_n (show decode mX6_isElder.2.1 0 = .ok (.iload_n 1, 1) by decide +kernel) rfl,
  fun d σ S l0 l1 x => ex_zlt (show decode mX6_isElder.2.1 1 = .ok (.ifCond .lt 18, 3) by decide +kernel) (by decide),
  fun d σ S l0 x => ex_iload_n (show decode mX6_isElder.2.1 4 = .ok (.iload_n 1, 1) by decide +kernel) rfl,
  fun d σ S l1 k => ex_aload_n (show decode mX6_isElder.2.1 5 = .ok (.aload_n 0, 1) by decide +kernel) rfl,
  fun d σ S l0 l1 => ex_getr (idx := 26) (ci := 6) (ff := 2) (n := 11) (hh := 348) (by decide +kernel),
  fun d σ S l0 l1 => ex_get (idx := 257) (ci := 5) (ff := 5) (n := 17) (hh := 204) (by decide +kernel),
  fun d σ S l0 l1 x y => ex_cge (show decode mX6_isElder.2.1 12 = .ok (.if_icmp .ge 7, 3) by decide +kernel) (by decide),
  fun d σ S l0 l1 => ex_iconst (show decode mX6_isElder.2.1 15 = .ok (.iconst 1, 1) by decide +kernel) (by decide +kernel),
  fun d σ S l0 l1 => ex_goto (show decode mX6_isElder.2.1 16 = .ok (.goto 4, 3) by decide +kernel) (by decide),
  fun d σ S l0 l1 => ex_iconst (show decode mX6_isElder.2.1 19 = .ok (.iconst 0, 1) by decide +kernel) (by decide +kernel),
  fun d σ l0 l1 x => ex_zret (show decode mX6_isElder.2.1 20 = .ok (.ireturn, 1) by decide +kernel) rfl⟩
theorem aX6_isElder_0 : ∀ (d : Nat) (a1 : Int32) (σ : Sg), cal (d + 1) mX6_isElder [.ref 0, .int a1] σ = exec d mX6_isElder 0 [.ref 0, .int a1] [] σ := fun _ _ _ => rfl
theorem kX6_bit : (∀ (d : Nat) (σ : Sg) (S : List Value) (l1 : Value) (x : Int32), exec d mX6_bit 0 [.int x, l1] S σ = exec d mX6_bit 1 [.int x, l1] (.int x :: S) σ) ∧
  (∀ (d : Nat) (σ : Sg) (S : List Value) (l0 : Value) (x : Int32), exec d mX6_bit 1 [l0, .int x] S σ = exec d mX6_bit 2 [l0, .int x] (.int x :: S) σ) ∧
  (∀ (d : Nat) (σ : Sg) (S : List Value) (l0 l1 : Value) (x y : Int32), exec d mX6_bit 2 [l0, l1] (.int y :: .int x :: S) σ = exec d mX6_bit 3 [l0, l1] (.int (x >>> (y &&& 31)) :: S) σ) ∧
  (∀ (d : Nat) (σ : Sg) (S : List Value) (l0 l1 : Value), exec d mX6_bit 3 [l0, l1] S σ = exec d mX6_bit 4 [l0, l1] (.int (nI 1) :: S) σ) ∧
  (∀ (d : Nat) (σ : Sg) (S : List Value) (l0 l1 : Value) (x y : Int32), exec d mX6_bit 4 [l0, l1] (.int y :: .int x :: S) σ = exec d mX6_bit 5 [l0, l1] (.int (x &&& y) :: S) σ) ∧
  (∀ (d : Nat) (σ : Sg) (l0 l1 : Value) (x : Int32), exec d mX6_bit 5 [l0, l1] [.int x] σ = some (some (.int x), σ)) :=
  ⟨fun d σ S l1 x => ex_iload_n (show decode mX6_bit.2.1 0 = .ok (.iload_n 0, 1) by decide +kernel) rfl,
  fun d σ S l0 x => ex_iload_n (show decode mX6_bit.2.1 1 = .ok (.iload_n 1, 1) by decide +kernel) rfl,
  fun d σ S l0 l1 x y => ex_ishr (show decode mX6_bit.2.1 2 = .ok (.ishr, 1) by decide +kernel),
  fun d σ S l0 l1 => ex_iconst (show decode mX6_bit.2.1 3 = .ok (.iconst 1, 1) by decide +kernel) (by decide +kernel),
  fun d σ S l0 l1 x y => ex_iand (show decode mX6_bit.2.1 4 = .ok (.iand, 1) by decide +kernel),
  fun d σ l0 l1 x => ex_iret (show decode mX6_bit.2.1 5 = .ok (.ireturn, 1) by decide +kernel) rfl⟩
theorem aX6_bit : ∀ (d : Nat) (a0 : Int32) (a1 : Int32) (σ : Sg), cal (d + 1) mX6_bit [.int a0, .int a1] σ = exec d mX6_bit 0 [.int a0, .int a1] [] σ := fun _ _ _ _ => rfl
theorem kX6_imageOf : (∀ (d : Nat) (σ : Sg) (S : List Value) (l0 : Value) (x : Int32), exec d mX6_imageOf 0 [l0, .int x] S σ = exec d mX6_imageOf 1 [l0, .int x] (.int x :: S) σ) ∧
  (∀ (d : Nat) (σ : Sg) (S : List Value) (l0 l1 : Value) (x : Int32), exec d mX6_imageOf 1 [l0, l1] (.int x :: S) σ = if x = nI 0 then exec d mX6_imageOf 4 [l0, l1] S σ else exec d mX6_imageOf 11 [l0, l1] S σ) ∧
  (∀ (d : Nat) (σ : Sg) (S : List Value) (l1 : Value) (k : Nat), exec d mX6_imageOf 4 [.ref k, l1] S σ = exec d mX6_imageOf 5 [.ref k, l1] (.ref k :: S) σ) ∧
  (∀ (d : Nat) (σ : Sg) (S : List Value) (l0 l1 : Value), exec d mX6_imageOf 5 [l0, l1] (.ref 0 :: S) σ = exec d mX6_imageOf 8 [l0, l1] (.ref 17 :: S) σ) ∧
  (∀ (d : Nat) (σ : Sg) (S : List Value) (l0 l1 : Value), exec d mX6_imageOf 8 [l0, l1] S σ = exec d mX6_imageOf 15 [l0, l1] S σ) ∧
  (∀ (d : Nat) (σ : Sg) (S : List Value) (l1 : Value) (k : Nat), exec d mX6_imageOf 11 [.ref k, l1] S σ = exec d mX6_imageOf 12 [.ref k, l1] (.ref k :: S) σ) ∧
  (∀ (d : Nat) (σ : Sg) (S : List Value) (l0 l1 : Value), exec d mX6_imageOf 12 [l0, l1] (.ref 0 :: S) σ = exec d mX6_imageOf 15 [l0, l1] (.ref 26 :: S) σ) ∧
  (∀ (d : Nat) (σ : Sg) (l0 l1 : Value) (k : Nat), exec d mX6_imageOf 15 [l0, l1] [.ref k] σ = some (some (.ref k), σ)) :=
  ⟨fun d σ S l0 x => ex_iload_n (show decode mX6_imageOf.2.1 0 = .ok (.iload_n 1, 1) by decide +kernel) rfl,
  fun d σ S l0 l1 x => ex_zne (show decode mX6_imageOf.2.1 1 = .ok (.ifCond .ne 10, 3) by decide +kernel) (by decide),
  fun d σ S l1 k => ex_aload_n (show decode mX6_imageOf.2.1 4 = .ok (.aload_n 0, 1) by decide +kernel) rfl,
  fun d σ S l0 l1 => ex_getr (idx := 30) (ci := 6) (ff := 3) (n := 11) (hh := 349) (by decide +kernel),
  fun d σ S l0 l1 => ex_goto (show decode mX6_imageOf.2.1 8 = .ok (.goto 7, 3) by decide +kernel) (by decide),
  fun d σ S l1 k => ex_aload_n (show decode mX6_imageOf.2.1 11 = .ok (.aload_n 0, 1) by decide +kernel) rfl,
  fun d σ S l0 l1 => ex_getr (idx := 33) (ci := 6) (ff := 4) (n := 11) (hh := 350) (by decide +kernel),
  fun d σ l0 l1 k => ex_aret (show decode mX6_imageOf.2.1 15 = .ok (.areturn, 1) by decide +kernel) rfl⟩
theorem aX6_imageOf_0 : ∀ (d : Nat) (a1 : Int32) (σ : Sg), cal (d + 1) mX6_imageOf [.ref 0, .int a1] σ = exec d mX6_imageOf 0 [.ref 0, .int a1] [] σ := fun _ _ _ => rfl
theorem kX6_kindsThatAre : (∀ (d : Nat) (σ : Sg) (S : List Value) (l0 l1 : Value), exec d mX6_kindsThatAre 0 [l0, l1] S σ = exec d mX6_kindsThatAre 1 [l0, l1] (.int (nI 1) :: S) σ) ∧
  (∀ (d : Nat) (σ : Sg) (S : List Value) (l1 : Value) (x y : Int32), exec d mX6_kindsThatAre 1 [.int y, l1] (.int x :: S) σ = exec d mX6_kindsThatAre 2 [.int y, .int x] S σ) ∧
  (∀ (d : Nat) (σ : Sg) (S : List Value) (l1 : Value) (x : Int32), exec d mX6_kindsThatAre 2 [.int x, l1] S σ = exec d mX6_kindsThatAre 3 [.int x, l1] (.int x :: S) σ) ∧
  (∀ (d : Nat) (σ : Sg) (S : List Value) (l0 l1 : Value) (x : Int32), exec d mX6_kindsThatAre 3 [l0, l1] (.int x :: S) σ = (if x = nI 1 then exec d mX6_kindsThatAre 36 [l0, l1] S σ else (if x = nI 2 then exec d mX6_kindsThatAre 40 [l0, l1] S σ else (if x = nI 3 then exec d mX6_kindsThatAre 46 [l0, l1] S σ else (if x = nI 4 then exec d mX6_kindsThatAre 53 [l0, l1] S σ else (if x = nI 5 then exec d mX6_kindsThatAre 58 [l0, l1] S σ else exec d mX6_kindsThatAre 66 [l0, l1] S σ)))))) ∧
  (∀ (d : Nat) (σ : Sg) (S : List Value) (l0 : Value) (x : Int32), exec d mX6_kindsThatAre 36 [l0, .int x] S σ = exec d mX6_kindsThatAre 37 [l0, .int x] (.int x :: S) σ) ∧
  (∀ (d : Nat) (σ : Sg) (S : List Value) (l0 l1 : Value), exec d mX6_kindsThatAre 37 [l0, l1] S σ = exec d mX6_kindsThatAre 38 [l0, l1] (.int (nI 2) :: S) σ) ∧
  (∀ (d : Nat) (σ : Sg) (S : List Value) (l0 l1 : Value) (x y : Int32), exec d mX6_kindsThatAre 38 [l0, l1] (.int y :: .int x :: S) σ = exec d mX6_kindsThatAre 39 [l0, l1] (.int (x ||| y) :: S) σ) ∧
  (∀ (d : Nat) (σ : Sg) (l0 l1 : Value) (x : Int32), exec d mX6_kindsThatAre 39 [l0, l1] [.int x] σ = some (some (.int x), σ)) ∧
  (∀ (d : Nat) (σ : Sg) (S : List Value) (l0 : Value) (x : Int32), exec d mX6_kindsThatAre 40 [l0, .int x] S σ = exec d mX6_kindsThatAre 41 [l0, .int x] (.int x :: S) σ) ∧
  (∀ (d : Nat) (σ : Sg) (S : List Value) (l0 l1 : Value), exec d mX6_kindsThatAre 41 [l0, l1] S σ = exec d mX6_kindsThatAre 42 [l0, l1] (.int (nI 2) :: S) σ) ∧
  (∀ (d : Nat) (σ : Sg) (S : List Value) (l0 l1 : Value) (x y : Int32), exec d mX6_kindsThatAre 42 [l0, l1] (.int y :: .int x :: S) σ = exec d mX6_kindsThatAre 43 [l0, l1] (.int (x ||| y) :: S) σ) ∧
  (∀ (d : Nat) (σ : Sg) (S : List Value) (l0 l1 : Value), exec d mX6_kindsThatAre 43 [l0, l1] S σ = exec d mX6_kindsThatAre 44 [l0, l1] (.int (nI 4) :: S) σ) ∧
  (∀ (d : Nat) (σ : Sg) (S : List Value) (l0 l1 : Value) (x y : Int32), exec d mX6_kindsThatAre 44 [l0, l1] (.int y :: .int x :: S) σ = exec d mX6_kindsThatAre 45 [l0, l1] (.int (x ||| y) :: S) σ) ∧
  (∀ (d : Nat) (σ : Sg) (l0 l1 : Value) (x : Int32), exec d mX6_kindsThatAre 45 [l0, l1] [.int x] σ = some (some (.int x), σ)) ∧
  (∀ (d : Nat) (σ : Sg) (S : List Value) (l0 : Value) (x : Int32), exec d mX6_kindsThatAre 46 [l0, .int x] S σ = exec d mX6_kindsThatAre 47 [l0, .int x] (.int x :: S) σ) ∧
  (∀ (d : Nat) (σ : Sg) (S : List Value) (l0 l1 : Value), exec d mX6_kindsThatAre 47 [l0, l1] S σ = exec d mX6_kindsThatAre 48 [l0, l1] (.int (nI 2) :: S) σ) ∧
  (∀ (d : Nat) (σ : Sg) (S : List Value) (l0 l1 : Value) (x y : Int32), exec d mX6_kindsThatAre 48 [l0, l1] (.int y :: .int x :: S) σ = exec d mX6_kindsThatAre 49 [l0, l1] (.int (x ||| y) :: S) σ) ∧
  (∀ (d : Nat) (σ : Sg) (S : List Value) (l0 l1 : Value), exec d mX6_kindsThatAre 49 [l0, l1] S σ = exec d mX6_kindsThatAre 51 [l0, l1] (.int (nI 8) :: S) σ) ∧
  (∀ (d : Nat) (σ : Sg) (S : List Value) (l0 l1 : Value) (x y : Int32), exec d mX6_kindsThatAre 51 [l0, l1] (.int y :: .int x :: S) σ = exec d mX6_kindsThatAre 52 [l0, l1] (.int (x ||| y) :: S) σ) ∧
  (∀ (d : Nat) (σ : Sg) (l0 l1 : Value) (x : Int32), exec d mX6_kindsThatAre 52 [l0, l1] [.int x] σ = some (some (.int x), σ)) ∧
  (∀ (d : Nat) (σ : Sg) (S : List Value) (l0 : Value) (x : Int32), exec d mX6_kindsThatAre 53 [l0, .int x] S σ = exec d mX6_kindsThatAre 54 [l0, .int x] (.int x :: S) σ) ∧
  (∀ (d : Nat) (σ : Sg) (S : List Value) (l0 l1 : Value), exec d mX6_kindsThatAre 54 [l0, l1] S σ = exec d mX6_kindsThatAre 56 [l0, l1] (.int (nI 16) :: S) σ) ∧
  (∀ (d : Nat) (σ : Sg) (S : List Value) (l0 l1 : Value) (x y : Int32), exec d mX6_kindsThatAre 56 [l0, l1] (.int y :: .int x :: S) σ = exec d mX6_kindsThatAre 57 [l0, l1] (.int (x ||| y) :: S) σ) ∧
  (∀ (d : Nat) (σ : Sg) (l0 l1 : Value) (x : Int32), exec d mX6_kindsThatAre 57 [l0, l1] [.int x] σ = some (some (.int x), σ)) ∧
  (∀ (d : Nat) (σ : Sg) (S : List Value) (l0 : Value) (x : Int32), exec d mX6_kindsThatAre 58 [l0, .int x] S σ = exec d mX6_kindsThatAre 59 [l0, .int x] (.int x :: S) σ) ∧
  (∀ (d : Nat) (σ : Sg) (S : List Value) (l0 l1 : Value), exec d mX6_kindsThatAre 59 [l0, l1] S σ = exec d mX6_kindsThatAre 61 [l0, l1] (.int (nI 16) :: S) σ) ∧
  (∀ (d : Nat) (σ : Sg) (S : List Value) (l0 l1 : Value) (x y : Int32), exec d mX6_kindsThatAre 61 [l0, l1] (.int y :: .int x :: S) σ = exec d mX6_kindsThatAre 62 [l0, l1] (.int (x ||| y) :: S) σ) ∧
  (∀ (d : Nat) (σ : Sg) (S : List Value) (l0 l1 : Value), exec d mX6_kindsThatAre 62 [l0, l1] S σ = exec d mX6_kindsThatAre 64 [l0, l1] (.int (nI 32) :: S) σ) ∧
  (∀ (d : Nat) (σ : Sg) (S : List Value) (l0 l1 : Value) (x y : Int32), exec d mX6_kindsThatAre 64 [l0, l1] (.int y :: .int x :: S) σ = exec d mX6_kindsThatAre 65 [l0, l1] (.int (x ||| y) :: S) σ) ∧
  (∀ (d : Nat) (σ : Sg) (l0 l1 : Value) (x : Int32), exec d mX6_kindsThatAre 65 [l0, l1] [.int x] σ = some (some (.int x), σ)) ∧
  (∀ (d : Nat) (σ : Sg) (S : List Value) (l0 : Value) (x : Int32), exec d mX6_kindsThatAre 66 [l0, .int x] S σ = exec d mX6_kindsThatAre 67 [l0, .int x] (.int x :: S) σ) ∧
  (∀ (d : Nat) (σ : Sg) (l0 l1 : Value) (x : Int32), exec d mX6_kindsThatAre 67 [l0, l1] [.int x] σ = some (some (.int x), σ)) :=
  ⟨fun d σ S l0 l1 => ex_iconst (show decode mX6_kindsThatAre.2.1 0 = .ok (.iconst 1, 1) by decide +kernel) (by decide +kernel),
  fun d σ S l1 x y => ex_istore_n (show decode mX6_kindsThatAre.2.1 1 = .ok (.istore_n 1, 1) by decide +kernel) (Nat.le_of_ble_eq_true rfl) rfl,
  fun d σ S l1 x => ex_iload_n (show decode mX6_kindsThatAre.2.1 2 = .ok (.iload_n 0, 1) by decide +kernel) rfl,
  fun d σ S l0 l1 x => ex_tsw (lo := 1) (df := 66) (ts := [36, 40, 46, 53, 58]) (show decode mX6_kindsThatAre.2.1 3 = .ok (.tableswitch 63 1 5 #[33, 37, 43, 50, 55], 33) by decide +kernel) (by decide) (by decide) (by decide) (by decide),
  fun d σ S l0 x => ex_iload_n (show decode mX6_kindsThatAre.2.1 36 = .ok (.iload_n 1, 1) by decide +kernel) rfl,
  fun d σ S l0 l1 => ex_iconst (show decode mX6_kindsThatAre.2.1 37 = .ok (.iconst 2, 1) by decide +kernel) (by decide +kernel),
  fun d σ S l0 l1 x y => ex_ior (show decode mX6_kindsThatAre.2.1 38 = .ok (.ior, 1) by decide +kernel),
  fun d σ l0 l1 x => ex_iret (show decode mX6_kindsThatAre.2.1 39 = .ok (.ireturn, 1) by decide +kernel) rfl,
  fun d σ S l0 x => ex_iload_n (show decode mX6_kindsThatAre.2.1 40 = .ok (.iload_n 1, 1) by decide +kernel) rfl,
  fun d σ S l0 l1 => ex_iconst (show decode mX6_kindsThatAre.2.1 41 = .ok (.iconst 2, 1) by decide +kernel) (by decide +kernel),
  fun d σ S l0 l1 x y => ex_ior (show decode mX6_kindsThatAre.2.1 42 = .ok (.ior, 1) by decide +kernel),
  fun d σ S l0 l1 => ex_iconst (show decode mX6_kindsThatAre.2.1 43 = .ok (.iconst 4, 1) by decide +kernel) (by decide +kernel),
  fun d σ S l0 l1 x y => ex_ior (show decode mX6_kindsThatAre.2.1 44 = .ok (.ior, 1) by decide +kernel),
  fun d σ l0 l1 x => ex_iret (show decode mX6_kindsThatAre.2.1 45 = .ok (.ireturn, 1) by decide +kernel) rfl,
  fun d σ S l0 x => ex_iload_n (show decode mX6_kindsThatAre.2.1 46 = .ok (.iload_n 1, 1) by decide +kernel) rfl,
  fun d σ S l0 l1 => ex_iconst (show decode mX6_kindsThatAre.2.1 47 = .ok (.iconst 2, 1) by decide +kernel) (by decide +kernel),
  fun d σ S l0 l1 x y => ex_ior (show decode mX6_kindsThatAre.2.1 48 = .ok (.ior, 1) by decide +kernel),
  fun d σ S l0 l1 => ex_bipush (show decode mX6_kindsThatAre.2.1 49 = .ok (.bipush 8, 2) by decide +kernel) (by decide +kernel),
  fun d σ S l0 l1 x y => ex_ior (show decode mX6_kindsThatAre.2.1 51 = .ok (.ior, 1) by decide +kernel),
  fun d σ l0 l1 x => ex_iret (show decode mX6_kindsThatAre.2.1 52 = .ok (.ireturn, 1) by decide +kernel) rfl,
  fun d σ S l0 x => ex_iload_n (show decode mX6_kindsThatAre.2.1 53 = .ok (.iload_n 1, 1) by decide +kernel) rfl,
  fun d σ S l0 l1 => ex_bipush (show decode mX6_kindsThatAre.2.1 54 = .ok (.bipush 16, 2) by decide +kernel) (by decide +kernel),
  fun d σ S l0 l1 x y => ex_ior (show decode mX6_kindsThatAre.2.1 56 = .ok (.ior, 1) by decide +kernel),
  fun d σ l0 l1 x => ex_iret (show decode mX6_kindsThatAre.2.1 57 = .ok (.ireturn, 1) by decide +kernel) rfl,
  fun d σ S l0 x => ex_iload_n (show decode mX6_kindsThatAre.2.1 58 = .ok (.iload_n 1, 1) by decide +kernel) rfl,
  fun d σ S l0 l1 => ex_bipush (show decode mX6_kindsThatAre.2.1 59 = .ok (.bipush 16, 2) by decide +kernel) (by decide +kernel),
  fun d σ S l0 l1 x y => ex_ior (show decode mX6_kindsThatAre.2.1 61 = .ok (.ior, 1) by decide +kernel),
  fun d σ S l0 l1 => ex_bipush (show decode mX6_kindsThatAre.2.1 62 = .ok (.bipush 32, 2) by decide +kernel) (by decide +kernel),
  fun d σ S l0 l1 x y => ex_ior (show decode mX6_kindsThatAre.2.1 64 = .ok (.ior, 1) by decide +kernel),
  fun d σ l0 l1 x => ex_iret (show decode mX6_kindsThatAre.2.1 65 = .ok (.ireturn, 1) by decide +kernel) rfl,
  fun d σ S l0 x => ex_iload_n (show decode mX6_kindsThatAre.2.1 66 = .ok (.iload_n 1, 1) by decide +kernel) rfl,
  fun d σ l0 l1 x => ex_iret (show decode mX6_kindsThatAre.2.1 67 = .ok (.ireturn, 1) by decide +kernel) rfl⟩
theorem aX6_kindsThatAre : ∀ (d : Nat) (a0 : Int32) (σ : Sg), cal (d + 1) mX6_kindsThatAre [.int a0] σ = exec d mX6_kindsThatAre 0 [.int a0, uu] [] σ := fun _ _ _ => rfl
theorem kX6_taken : (∀ (d : Nat) (σ : Sg) (S : List Value) (l1 l2 l3 : Value) (x : Int32), exec d mX6_taken 0 [.int x, l1, l2, l3] S σ = exec d mX6_taken 1 [.int x, l1, l2, l3] (.int x :: S) σ) ∧
  (∀ (d : Nat) (σ : Sg) (S : List Value) (l0 l1 l2 l3 : Value), exec d mX6_taken 1 [l0, l1, l2, l3] S σ = exec d mX6_taken 2 [l0, l1, l2, l3] (.int (nI 2) :: S) σ) ∧
  (∀ (d : Nat) (σ : Sg) (S : List Value) (l0 l1 l2 l3 : Value) (x y : Int32), exec d mX6_taken 2 [l0, l1, l2, l3] (.int y :: .int x :: S) σ = if x = y then exec d mX6_taken 5 [l0, l1, l2, l3] S σ else exec d mX6_taken 14 [l0, l1, l2, l3] S σ) ∧
  (∀ (d : Nat) (σ : Sg) (S : List Value) (l0 l1 l2 : Value) (x : Int32), exec d mX6_taken 5 [l0, l1, l2, .int x] S σ = exec d mX6_taken 6 [l0, l1, l2, .int x] (.int x :: S) σ) ∧
  (∀ (d : Nat) (σ : Sg) (S : List Value) (l0 l2 l3 : Value) (x : Int32), exec d mX6_taken 6 [l0, .int x, l2, l3] S σ = exec d mX6_taken 7 [l0, .int x, l2, l3] (.int x :: S) σ) ∧
  (∀ (d : Nat) (σ : Sg) (S : List Value) (l0 l1 l2 l3 : Value) (x y : Int32), exec d mX6_taken 7 [l0, l1, l2, l3] (.int y :: .int x :: S) σ = if y ≤ x then exec d mX6_taken 14 [l0, l1, l2, l3] S σ else exec d mX6_taken 10 [l0, l1, l2, l3] S σ) ∧
  (∀ (d : Nat) (σ : Sg) (S : List Value) (l0 l1 l2 l3 : Value), exec d mX6_taken 10 [l0, l1, l2, l3] S σ = exec d mX6_taken 11 [l0, l1, l2, l3] (.int (nI 2) :: S) σ) ∧
  (∀ (d : Nat) (σ : Sg) (S : List Value) (l0 l1 l3 : Value) (x : Int32), exec d mX6_taken 11 [l0, l1, .int x, l3] S σ = exec d mX6_taken 12 [l0, l1, .int x, l3] (.int x :: S) σ) ∧
  (∀ (d : Nat) (σ : Sg) (S : List Value) (l0 l1 l2 l3 : Value) (x y : Int32), exec d mX6_taken 12 [l0, l1, l2, l3] (.int y :: .int x :: S) σ = exec d mX6_taken 13 [l0, l1, l2, l3] (.int (x * y) :: S) σ) ∧
  (∀ (d : Nat) (σ : Sg) (l0 l1 l2 l3 : Value) (x : Int32), exec d mX6_taken 13 [l0, l1, l2, l3] [.int x] σ = some (some (.int x), σ)) ∧
  (∀ (d : Nat) (σ : Sg) (S : List Value) (l1 l2 l3 : Value) (x : Int32), exec d mX6_taken 14 [.int x, l1, l2, l3] S σ = exec d mX6_taken 15 [.int x, l1, l2, l3] (.int x :: S) σ) ∧
  (∀ (d : Nat) (σ : Sg) (S : List Value) (l0 l1 l2 l3 : Value), exec d mX6_taken 15 [l0, l1, l2, l3] S σ = exec d mX6_taken 16 [l0, l1, l2, l3] (.int (nI 4) :: S) σ) ∧
  (∀ (d : Nat) (σ : Sg) (S : List Value) (l0 l1 l2 l3 : Value) (x y : Int32), exec d mX6_taken 16 [l0, l1, l2, l3] (.int y :: .int x :: S) σ = if x = y then exec d mX6_taken 19 [l0, l1, l2, l3] S σ else exec d mX6_taken 27 [l0, l1, l2, l3] S σ) ∧
  (∀ (d : Nat) (σ : Sg) (S : List Value) (l0 l1 l3 : Value) (x : Int32), exec d mX6_taken 19 [l0, l1, .int x, l3] S σ = exec d mX6_taken 20 [l0, l1, .int x, l3] (.int x :: S) σ) ∧
  (∀ (d : Nat) (σ : Sg) (S : List Value) (l0 l1 l2 l3 : Value), exec d mX6_taken 20 [l0, l1, l2, l3] S σ = exec d mX6_taken 21 [l0, l1, l2, l3] (.int (nI 2) :: S) σ) ∧
  (∀ (d : Nat) (σ : Sg) (S : List Value) (l0 l1 l2 l3 : Value) (x y : Int32), exec d mX6_taken 21 [l0, l1, l2, l3] (.int y :: .int x :: S) σ = if y = 0 then none else exec d mX6_taken 22 [l0, l1, l2, l3] (.int (x / y) :: S) σ) ∧
  (∀ (d : Nat) (σ : Sg) (S : List Value) (l0 l1 l2 l3 : Value), exec d mX6_taken 22 [l0, l1, l2, l3] S σ = exec d mX6_taken 23 [l0, l1, l2, l3] (.int (nI 1) :: S) σ) ∧
  (∀ (d : Nat) (σ : Sg) (S : List Value) (l0 l1 l2 l3 : Value) (x y : Int32), exec d mX6_taken 23 [l0, l1, l2, l3] (.int y :: .int x :: S) σ = exec d mX6_taken 24 [l0, l1, l2, l3] (.int (x + y) :: S) σ) ∧
  (∀ (d : Nat) (σ : Sg) (S : List Value) (l0 l1 l2 l3 : Value), exec d mX6_taken 24 [l0, l1, l2, l3] S σ = exec d mX6_taken 28 [l0, l1, l2, l3] S σ) ∧
  (∀ (d : Nat) (σ : Sg) (S : List Value) (l0 l1 l3 : Value) (x : Int32), exec d mX6_taken 27 [l0, l1, .int x, l3] S σ = exec d mX6_taken 28 [l0, l1, .int x, l3] (.int x :: S) σ) ∧
  (∀ (d : Nat) (σ : Sg) (l0 l1 l2 l3 : Value) (x : Int32), exec d mX6_taken 28 [l0, l1, l2, l3] [.int x] σ = some (some (.int x), σ)) :=
  ⟨fun d σ S l1 l2 l3 x => ex_iload_n (show decode mX6_taken.2.1 0 = .ok (.iload_n 0, 1) by decide +kernel) rfl,
  fun d σ S l0 l1 l2 l3 => ex_iconst (show decode mX6_taken.2.1 1 = .ok (.iconst 2, 1) by decide +kernel) (by decide +kernel),
  fun d σ S l0 l1 l2 l3 x y => ex_cne (show decode mX6_taken.2.1 2 = .ok (.if_icmp .ne 12, 3) by decide +kernel) (by decide),
  fun d σ S l0 l1 l2 x => ex_iload_n (show decode mX6_taken.2.1 5 = .ok (.iload_n 3, 1) by decide +kernel) rfl,
  fun d σ S l0 l2 l3 x => ex_iload_n (show decode mX6_taken.2.1 6 = .ok (.iload_n 1, 1) by decide +kernel) rfl,
  fun d σ S l0 l1 l2 l3 x y => ex_cge (show decode mX6_taken.2.1 7 = .ok (.if_icmp .ge 7, 3) by decide +kernel) (by decide),
  fun d σ S l0 l1 l2 l3 => ex_iconst (show decode mX6_taken.2.1 10 = .ok (.iconst 2, 1) by decide +kernel) (by decide +kernel),
  fun d σ S l0 l1 l3 x => ex_iload_n (show decode mX6_taken.2.1 11 = .ok (.iload_n 2, 1) by decide +kernel) rfl,
  fun d σ S l0 l1 l2 l3 x y => ex_imul (show decode mX6_taken.2.1 12 = .ok (.imul, 1) by decide +kernel),
  fun d σ l0 l1 l2 l3 x => ex_iret (show decode mX6_taken.2.1 13 = .ok (.ireturn, 1) by decide +kernel) rfl,
  fun d σ S l1 l2 l3 x => ex_iload_n (show decode mX6_taken.2.1 14 = .ok (.iload_n 0, 1) by decide +kernel) rfl,
  fun d σ S l0 l1 l2 l3 => ex_iconst (show decode mX6_taken.2.1 15 = .ok (.iconst 4, 1) by decide +kernel) (by decide +kernel),
  fun d σ S l0 l1 l2 l3 x y => ex_cne (show decode mX6_taken.2.1 16 = .ok (.if_icmp .ne 11, 3) by decide +kernel) (by decide),
  fun d σ S l0 l1 l3 x => ex_iload_n (show decode mX6_taken.2.1 19 = .ok (.iload_n 2, 1) by decide +kernel) rfl,
  fun d σ S l0 l1 l2 l3 => ex_iconst (show decode mX6_taken.2.1 20 = .ok (.iconst 2, 1) by decide +kernel) (by decide +kernel),
  fun d σ S l0 l1 l2 l3 x y => ex_idiv (show decode mX6_taken.2.1 21 = .ok (.idiv, 1) by decide +kernel),
  fun d σ S l0 l1 l2 l3 => ex_iconst (show decode mX6_taken.2.1 22 = .ok (.iconst 1, 1) by decide +kernel) (by decide +kernel),
  fun d σ S l0 l1 l2 l3 x y => ex_iadd (show decode mX6_taken.2.1 23 = .ok (.iadd, 1) by decide +kernel),
  fun d σ S l0 l1 l2 l3 => ex_goto (show decode mX6_taken.2.1 24 = .ok (.goto 4, 3) by decide +kernel) (by decide),
  fun d σ S l0 l1 l3 x => ex_iload_n (show decode mX6_taken.2.1 27 = .ok (.iload_n 2, 1) by decide +kernel) rfl,
  fun d σ l0 l1 l2 l3 x => ex_iret (show decode mX6_taken.2.1 28 = .ok (.ireturn, 1) by decide +kernel) rfl⟩
theorem aX6_taken : ∀ (d : Nat) (a0 : Int32) (a1 : Int32) (a2 : Int32) (a3 : Int32) (σ : Sg), cal (d + 1) mX6_taken [.int a0, .int a1, .int a2, .int a3] σ = exec d mX6_taken 0 [.int a0, .int a1, .int a2, .int a3] [] σ := fun _ _ _ _ _ _ => rfl
theorem kX6_flawed : (∀ (d : Nat) (σ : Sg) (S : List Value) (l1 l2 : Value) (x : Int32), exec d mX6_flawed 0 [.int x, l1, l2] S σ = exec d mX6_flawed 1 [.int x, l1, l2] (.int x :: S) σ) ∧
  (∀ (d : Nat) (σ : Sg) (S : List Value) (l0 l1 l2 : Value) (x : Int32), exec d mX6_flawed 1 [l0, l1, l2] (.int x :: S) σ = (if x = nI 2 then exec d mX6_flawed 32 [l0, l1, l2] S σ else (if x = nI 3 then exec d mX6_flawed 59 [l0, l1, l2] S σ else (if x = nI 4 then exec d mX6_flawed 45 [l0, l1, l2] S σ else (if x = nI 5 then exec d mX6_flawed 47 [l0, l1, l2] S σ else exec d mX6_flawed 59 [l0, l1, l2] S σ))))) ∧
  (∀ (d : Nat) (σ : Sg) (S : List Value) (l0 l1 : Value) (x : Int32), exec d mX6_flawed 32 [l0, l1, .int x] S σ = exec d mX6_flawed 33 [l0, l1, .int x] (.int x :: S) σ) ∧
  (∀ (d : Nat) (σ : Sg) (S : List Value) (l0 l1 l2 : Value), exec d mX6_flawed 33 [l0, l1, l2] S σ = exec d mX6_flawed 34 [l0, l1, l2] (.int (nI 5) :: S) σ) ∧
  (∀ (d : Nat) (σ : Sg) (S : List Value) (l0 l1 l2 : Value) (x y : Int32), exec d mX6_flawed 34 [l0, l1, l2] (.int y :: .int x :: S) σ = exec d mX6_flawed 35 [l0, l1, l2] (.int (x + y) :: S) σ) ∧
  (∀ (d : Nat) (σ : Sg) (S : List Value) (l0 l2 : Value) (x : Int32), exec d mX6_flawed 35 [l0, .int x, l2] S σ = exec d mX6_flawed 36 [l0, .int x, l2] (.int x :: S) σ) ∧
  (∀ (d : Nat) (σ : Sg) (S : List Value) (l0 l1 l2 : Value) (x y : Int32), exec d mX6_flawed 36 [l0, l1, l2] (.int y :: .int x :: S) σ = if y ≤ x then exec d mX6_flawed 43 [l0, l1, l2] S σ else exec d mX6_flawed 39 [l0, l1, l2] S σ) ∧
  (∀ (d : Nat) (σ : Sg) (S : List Value) (l0 l1 l2 : Value), exec d mX6_flawed 39 [l0, l1, l2] S σ = exec d mX6_flawed 40 [l0, l1, l2] (.int (nI 1) :: S) σ) ∧
  (∀ (d : Nat) (σ : Sg) (S : List Value) (l0 l1 l2 : Value), exec d mX6_flawed 40 [l0, l1, l2] S σ = exec d mX6_flawed 44 [l0, l1, l2] S σ) ∧
  (∀ (d : Nat) (σ : Sg) (S : List Value) (l0 l1 l2 : Value), exec d mX6_flawed 43 [l0, l1, l2] S σ = exec d mX6_flawed 44 [l0, l1, l2] (.int (nI 0) :: S) σ) ∧
  (∀ (d : Nat) (σ : Sg) (l0 l1 l2 : Value) (x : Int32), exec d mX6_flawed 44 [l0, l1, l2] [.int x] σ = if b01 x = true then some (some (.int x), σ) else none) ∧
  (∀ (d : Nat) (σ : Sg) (S : List Value) (l0 l1 l2 : Value), exec d mX6_flawed 45 [l0, l1, l2] S σ = exec d mX6_flawed 46 [l0, l1, l2] (.int (nI 1) :: S) σ) ∧
  (∀ (d : Nat) (σ : Sg) (l0 l1 l2 : Value) (x : Int32), exec d mX6_flawed 46 [l0, l1, l2] [.int x] σ = if b01 x = true then some (some (.int x), σ) else none) ∧
  (∀ (d : Nat) (σ : Sg) (S : List Value) (l0 l2 : Value) (x : Int32), exec d mX6_flawed 47 [l0, .int x, l2] S σ = exec d mX6_flawed 48 [l0, .int x, l2] (.int x :: S) σ) ∧
  (∀ (d : Nat) (σ : Sg) (S : List Value) (l0 l1 l2 : Value), exec d mX6_flawed 48 [l0, l1, l2] S σ = exec d mX6_flawed 50 [l0, l1, l2] (.int (nI 10) :: S) σ) ∧
  (∀ (d : Nat) (σ : Sg) (S : List Value) (l0 l1 l2 : Value) (x y : Int32), exec d mX6_flawed 50 [l0, l1, l2] (.int y :: .int x :: S) σ = if x ≤ y then exec d mX6_flawed 57 [l0, l1, l2] S σ else exec d mX6_flawed 53 [l0, l1, l2] S σ) ∧
  (∀ (d : Nat) (σ : Sg) (S : List Value) (l0 l1 l2 : Value), exec d mX6_flawed 53 [l0, l1, l2] S σ = exec d mX6_flawed 54 [l0, l1, l2] (.int (nI 1) :: S) σ) ∧
  (∀ (d : Nat) (σ : Sg) (S : List Value) (l0 l1 l2 : Value), exec d mX6_flawed 54 [l0, l1, l2] S σ = exec d mX6_flawed 58 [l0, l1, l2] S σ) ∧
  (∀ (d : Nat) (σ : Sg) (S : List Value) (l0 l1 l2 : Value), exec d mX6_flawed 57 [l0, l1, l2] S σ = exec d mX6_flawed 58 [l0, l1, l2] (.int (nI 0) :: S) σ) ∧
  (∀ (d : Nat) (σ : Sg) (l0 l1 l2 : Value) (x : Int32), exec d mX6_flawed 58 [l0, l1, l2] [.int x] σ = if b01 x = true then some (some (.int x), σ) else none) ∧
  (∀ (d : Nat) (σ : Sg) (S : List Value) (l0 l1 : Value) (x : Int32), exec d mX6_flawed 59 [l0, l1, .int x] S σ = exec d mX6_flawed 60 [l0, l1, .int x] (.int x :: S) σ) ∧
  (∀ (d : Nat) (σ : Sg) (S : List Value) (l0 l2 : Value) (x : Int32), exec d mX6_flawed 60 [l0, .int x, l2] S σ = exec d mX6_flawed 61 [l0, .int x, l2] (.int x :: S) σ) ∧
  (∀ (d : Nat) (σ : Sg) (S : List Value) (l0 l1 l2 : Value) (x y : Int32), exec d mX6_flawed 61 [l0, l1, l2] (.int y :: .int x :: S) σ = if y ≤ x then exec d mX6_flawed 68 [l0, l1, l2] S σ else exec d mX6_flawed 64 [l0, l1, l2] S σ) ∧
  (∀ (d : Nat) (σ : Sg) (S : List Value) (l0 l1 l2 : Value), exec d mX6_flawed 64 [l0, l1, l2] S σ = exec d mX6_flawed 65 [l0, l1, l2] (.int (nI 1) :: S) σ) ∧
  (∀ (d : Nat) (σ : Sg) (S : List Value) (l0 l1 l2 : Value), exec d mX6_flawed 65 [l0, l1, l2] S σ = exec d mX6_flawed 69 [l0, l1, l2] S σ) ∧
  (∀ (d : Nat) (σ : Sg) (S : List Value) (l0 l1 l2 : Value), exec d mX6_flawed 68 [l0, l1, l2] S σ = exec d mX6_flawed 69 [l0, l1, l2] (.int (nI 0) :: S) σ) ∧
  (∀ (d : Nat) (σ : Sg) (l0 l1 l2 : Value) (x : Int32), exec d mX6_flawed 69 [l0, l1, l2] [.int x] σ = if b01 x = true then some (some (.int x), σ) else none) :=
  ⟨fun d σ S l1 l2 x => ex_iload_n (show decode mX6_flawed.2.1 0 = .ok (.iload_n 0, 1) by decide +kernel) rfl,
  fun d σ S l0 l1 l2 x => ex_tsw (lo := 2) (df := 59) (ts := [32, 59, 45, 47]) (show decode mX6_flawed.2.1 1 = .ok (.tableswitch 58 2 5 #[31, 58, 44, 46], 31) by decide +kernel) (by decide) (by decide) (by decide) (by decide),
  fun d σ S l0 l1 x => ex_iload_n (show decode mX6_flawed.2.1 32 = .ok (.iload_n 2, 1) by decide +kernel) rfl,
  fun d σ S l0 l1 l2 => ex_iconst (show decode mX6_flawed.2.1 33 = .ok (.iconst 5, 1) by decide +kernel) (by decide +kernel),
  fun d σ S l0 l1 l2 x y => ex_iadd (show decode mX6_flawed.2.1 34 = .ok (.iadd, 1) by decide +kernel),
  fun d σ S l0 l2 x => ex_iload_n (show decode mX6_flawed.2.1 35 = .ok (.iload_n 1, 1) by decide +kernel) rfl,
  fun d σ S l0 l1 l2 x y => ex_cge (show decode mX6_flawed.2.1 36 = .ok (.if_icmp .ge 7, 3) by decide +kernel) (by decide),
  fun d σ S l0 l1 l2 => ex_iconst (show decode mX6_flawed.2.1 39 = .ok (.iconst 1, 1) by decide +kernel) (by decide +kernel),
  fun d σ S l0 l1 l2 => ex_goto (show decode mX6_flawed.2.1 40 = .ok (.goto 4, 3) by decide +kernel) (by decide),
  fun d σ S l0 l1 l2 => ex_iconst (show decode mX6_flawed.2.1 43 = .ok (.iconst 0, 1) by decide +kernel) (by decide +kernel),
  fun d σ l0 l1 l2 x => ex_zret (show decode mX6_flawed.2.1 44 = .ok (.ireturn, 1) by decide +kernel) rfl,
  fun d σ S l0 l1 l2 => ex_iconst (show decode mX6_flawed.2.1 45 = .ok (.iconst 1, 1) by decide +kernel) (by decide +kernel),
  fun d σ l0 l1 l2 x => ex_zret (show decode mX6_flawed.2.1 46 = .ok (.ireturn, 1) by decide +kernel) rfl,
  fun d σ S l0 l2 x => ex_iload_n (show decode mX6_flawed.2.1 47 = .ok (.iload_n 1, 1) by decide +kernel) rfl,
  fun d σ S l0 l1 l2 => ex_bipush (show decode mX6_flawed.2.1 48 = .ok (.bipush 10, 2) by decide +kernel) (by decide +kernel),
  fun d σ S l0 l1 l2 x y => ex_cle (show decode mX6_flawed.2.1 50 = .ok (.if_icmp .le 7, 3) by decide +kernel) (by decide),
  fun d σ S l0 l1 l2 => ex_iconst (show decode mX6_flawed.2.1 53 = .ok (.iconst 1, 1) by decide +kernel) (by decide +kernel),
  fun d σ S l0 l1 l2 => ex_goto (show decode mX6_flawed.2.1 54 = .ok (.goto 4, 3) by decide +kernel) (by decide),
  fun d σ S l0 l1 l2 => ex_iconst (show decode mX6_flawed.2.1 57 = .ok (.iconst 0, 1) by decide +kernel) (by decide +kernel),
  fun d σ l0 l1 l2 x => ex_zret (show decode mX6_flawed.2.1 58 = .ok (.ireturn, 1) by decide +kernel) rfl,
  fun d σ S l0 l1 x => ex_iload_n (show decode mX6_flawed.2.1 59 = .ok (.iload_n 2, 1) by decide +kernel) rfl,
  fun d σ S l0 l2 x => ex_iload_n (show decode mX6_flawed.2.1 60 = .ok (.iload_n 1, 1) by decide +kernel) rfl,
  fun d σ S l0 l1 l2 x y => ex_cge (show decode mX6_flawed.2.1 61 = .ok (.if_icmp .ge 7, 3) by decide +kernel) (by decide),
  fun d σ S l0 l1 l2 => ex_iconst (show decode mX6_flawed.2.1 64 = .ok (.iconst 1, 1) by decide +kernel) (by decide +kernel),
  fun d σ S l0 l1 l2 => ex_goto (show decode mX6_flawed.2.1 65 = .ok (.goto 4, 3) by decide +kernel) (by decide),
  fun d σ S l0 l1 l2 => ex_iconst (show decode mX6_flawed.2.1 68 = .ok (.iconst 0, 1) by decide +kernel) (by decide +kernel),
  fun d σ l0 l1 l2 x => ex_zret (show decode mX6_flawed.2.1 69 = .ok (.ireturn, 1) by decide +kernel) rfl⟩
theorem aX6_flawed : ∀ (d : Nat) (a0 : Int32) (a1 : Int32) (a2 : Int32) (σ : Sg), cal (d + 1) mX6_flawed [.int a0, .int a1, .int a2] σ = exec d mX6_flawed 0 [.int a0, .int a1, .int a2] [] σ := fun _ _ _ _ _ => rfl
theorem kX6_seen : (∀ (d : Nat) (σ : Sg) (S : List Value) (l1 l2 : Value) (x : Int32), exec d mX6_seen 0 [.int x, l1, l2] S σ = exec d mX6_seen 1 [.int x, l1, l2] (.int x :: S) σ) ∧
  (∀ (d : Nat) (σ : Sg) (S : List Value) (l0 l1 l2 : Value) (x : Int32), exec d mX6_seen 1 [l0, l1, l2] (.int x :: S) σ = (if x = nI 3 then exec d mX6_seen 28 [l0, l1, l2] S σ else (if x = nI 4 then exec d mX6_seen 39 [l0, l1, l2] S σ else (if x = nI 5 then exec d mX6_seen 51 [l0, l1, l2] S σ else exec d mX6_seen 63 [l0, l1, l2] S σ)))) ∧
  (∀ (d : Nat) (σ : Sg) (S : List Value) (l0 l1 : Value) (x : Int32), exec d mX6_seen 28 [l0, l1, .int x] S σ = exec d mX6_seen 29 [l0, l1, .int x] (.int x :: S) σ) ∧
  (∀ (d : Nat) (σ : Sg) (S : List Value) (l0 l2 : Value) (x : Int32), exec d mX6_seen 29 [l0, .int x, l2] S σ = exec d mX6_seen 30 [l0, .int x, l2] (.int x :: S) σ) ∧
  (∀ (d : Nat) (σ : Sg) (S : List Value) (l0 l1 l2 : Value) (x y : Int32), exec d mX6_seen 30 [l0, l1, l2] (.int y :: .int x :: S) σ = if x < y then exec d mX6_seen 37 [l0, l1, l2] S σ else exec d mX6_seen 33 [l0, l1, l2] S σ) ∧
  (∀ (d : Nat) (σ : Sg) (S : List Value) (l0 l1 l2 : Value), exec d mX6_seen 33 [l0, l1, l2] S σ = exec d mX6_seen 34 [l0, l1, l2] (.int (nI 1) :: S) σ) ∧
  (∀ (d : Nat) (σ : Sg) (S : List Value) (l0 l1 l2 : Value), exec d mX6_seen 34 [l0, l1, l2] S σ = exec d mX6_seen 38 [l0, l1, l2] S σ) ∧
  (∀ (d : Nat) (σ : Sg) (S : List Value) (l0 l1 l2 : Value), exec d mX6_seen 37 [l0, l1, l2] S σ = exec d mX6_seen 38 [l0, l1, l2] (.int (nI 0) :: S) σ) ∧
  (∀ (d : Nat) (σ : Sg) (l0 l1 l2 : Value) (x : Int32), exec d mX6_seen 38 [l0, l1, l2] [.int x] σ = if b01 x = true then some (some (.int x), σ) else none) ∧
  (∀ (d : Nat) (σ : Sg) (S : List Value) (l0 l1 : Value) (x : Int32), exec d mX6_seen 39 [l0, l1, .int x] S σ = exec d mX6_seen 40 [l0, l1, .int x] (.int x :: S) σ) ∧
  (∀ (d : Nat) (σ : Sg) (S : List Value) (l0 l1 l2 : Value), exec d mX6_seen 40 [l0, l1, l2] S σ = exec d mX6_seen 42 [l0, l1, l2] (.int (nI 10) :: S) σ) ∧
  (∀ (d : Nat) (σ : Sg) (S : List Value) (l0 l1 l2 : Value) (x y : Int32), exec d mX6_seen 42 [l0, l1, l2] (.int y :: .int x :: S) σ = if x ≤ y then exec d mX6_seen 49 [l0, l1, l2] S σ else exec d mX6_seen 45 [l0, l1, l2] S σ) ∧
  (∀ (d : Nat) (σ : Sg) (S : List Value) (l0 l1 l2 : Value), exec d mX6_seen 45 [l0, l1, l2] S σ = exec d mX6_seen 46 [l0, l1, l2] (.int (nI 1) :: S) σ) ∧
  (∀ (d : Nat) (σ : Sg) (S : List Value) (l0 l1 l2 : Value), exec d mX6_seen 46 [l0, l1, l2] S σ = exec d mX6_seen 50 [l0, l1, l2] S σ) ∧
  (∀ (d : Nat) (σ : Sg) (S : List Value) (l0 l1 l2 : Value), exec d mX6_seen 49 [l0, l1, l2] S σ = exec d mX6_seen 50 [l0, l1, l2] (.int (nI 0) :: S) σ) ∧
  (∀ (d : Nat) (σ : Sg) (l0 l1 l2 : Value) (x : Int32), exec d mX6_seen 50 [l0, l1, l2] [.int x] σ = if b01 x = true then some (some (.int x), σ) else none) ∧
  (∀ (d : Nat) (σ : Sg) (S : List Value) (l0 l1 : Value) (x : Int32), exec d mX6_seen 51 [l0, l1, .int x] S σ = exec d mX6_seen 52 [l0, l1, .int x] (.int x :: S) σ) ∧
  (∀ (d : Nat) (σ : Sg) (S : List Value) (l0 l1 l2 : Value), exec d mX6_seen 52 [l0, l1, l2] S σ = exec d mX6_seen 54 [l0, l1, l2] (.int (nI 15) :: S) σ) ∧
  (∀ (d : Nat) (σ : Sg) (S : List Value) (l0 l1 l2 : Value) (x y : Int32), exec d mX6_seen 54 [l0, l1, l2] (.int y :: .int x :: S) σ = if x ≤ y then exec d mX6_seen 61 [l0, l1, l2] S σ else exec d mX6_seen 57 [l0, l1, l2] S σ) ∧
  (∀ (d : Nat) (σ : Sg) (S : List Value) (l0 l1 l2 : Value), exec d mX6_seen 57 [l0, l1, l2] S σ = exec d mX6_seen 58 [l0, l1, l2] (.int (nI 1) :: S) σ) ∧
  (∀ (d : Nat) (σ : Sg) (S : List Value) (l0 l1 l2 : Value), exec d mX6_seen 58 [l0, l1, l2] S σ = exec d mX6_seen 62 [l0, l1, l2] S σ) ∧
  (∀ (d : Nat) (σ : Sg) (S : List Value) (l0 l1 l2 : Value), exec d mX6_seen 61 [l0, l1, l2] S σ = exec d mX6_seen 62 [l0, l1, l2] (.int (nI 0) :: S) σ) ∧
  (∀ (d : Nat) (σ : Sg) (l0 l1 l2 : Value) (x : Int32), exec d mX6_seen 62 [l0, l1, l2] [.int x] σ = if b01 x = true then some (some (.int x), σ) else none) ∧
  (∀ (d : Nat) (σ : Sg) (S : List Value) (l0 l1 l2 : Value), exec d mX6_seen 63 [l0, l1, l2] S σ = exec d mX6_seen 64 [l0, l1, l2] (.int (nI 1) :: S) σ) ∧
  (∀ (d : Nat) (σ : Sg) (l0 l1 l2 : Value) (x : Int32), exec d mX6_seen 64 [l0, l1, l2] [.int x] σ = if b01 x = true then some (some (.int x), σ) else none) :=
  ⟨fun d σ S l1 l2 x => ex_iload_n (show decode mX6_seen.2.1 0 = .ok (.iload_n 0, 1) by decide +kernel) rfl,
  fun d σ S l0 l1 l2 x => ex_tsw (lo := 3) (df := 63) (ts := [28, 39, 51]) (show decode mX6_seen.2.1 1 = .ok (.tableswitch 62 3 5 #[27, 38, 50], 27) by decide +kernel) (by decide) (by decide) (by decide) (by decide),
  fun d σ S l0 l1 x => ex_iload_n (show decode mX6_seen.2.1 28 = .ok (.iload_n 2, 1) by decide +kernel) rfl,
  fun d σ S l0 l2 x => ex_iload_n (show decode mX6_seen.2.1 29 = .ok (.iload_n 1, 1) by decide +kernel) rfl,
  fun d σ S l0 l1 l2 x y => ex_clt (show decode mX6_seen.2.1 30 = .ok (.if_icmp .lt 7, 3) by decide +kernel) (by decide),
  fun d σ S l0 l1 l2 => ex_iconst (show decode mX6_seen.2.1 33 = .ok (.iconst 1, 1) by decide +kernel) (by decide +kernel),
  fun d σ S l0 l1 l2 => ex_goto (show decode mX6_seen.2.1 34 = .ok (.goto 4, 3) by decide +kernel) (by decide),
  fun d σ S l0 l1 l2 => ex_iconst (show decode mX6_seen.2.1 37 = .ok (.iconst 0, 1) by decide +kernel) (by decide +kernel),
  fun d σ l0 l1 l2 x => ex_zret (show decode mX6_seen.2.1 38 = .ok (.ireturn, 1) by decide +kernel) rfl,
  fun d σ S l0 l1 x => ex_iload_n (show decode mX6_seen.2.1 39 = .ok (.iload_n 2, 1) by decide +kernel) rfl,
  fun d σ S l0 l1 l2 => ex_bipush (show decode mX6_seen.2.1 40 = .ok (.bipush 10, 2) by decide +kernel) (by decide +kernel),
  fun d σ S l0 l1 l2 x y => ex_cle (show decode mX6_seen.2.1 42 = .ok (.if_icmp .le 7, 3) by decide +kernel) (by decide),
  fun d σ S l0 l1 l2 => ex_iconst (show decode mX6_seen.2.1 45 = .ok (.iconst 1, 1) by decide +kernel) (by decide +kernel),
  fun d σ S l0 l1 l2 => ex_goto (show decode mX6_seen.2.1 46 = .ok (.goto 4, 3) by decide +kernel) (by decide),
  fun d σ S l0 l1 l2 => ex_iconst (show decode mX6_seen.2.1 49 = .ok (.iconst 0, 1) by decide +kernel) (by decide +kernel),
  fun d σ l0 l1 l2 x => ex_zret (show decode mX6_seen.2.1 50 = .ok (.ireturn, 1) by decide +kernel) rfl,
  fun d σ S l0 l1 x => ex_iload_n (show decode mX6_seen.2.1 51 = .ok (.iload_n 2, 1) by decide +kernel) rfl,
  fun d σ S l0 l1 l2 => ex_bipush (show decode mX6_seen.2.1 52 = .ok (.bipush 15, 2) by decide +kernel) (by decide +kernel),
  fun d σ S l0 l1 l2 x y => ex_cle (show decode mX6_seen.2.1 54 = .ok (.if_icmp .le 7, 3) by decide +kernel) (by decide),
  fun d σ S l0 l1 l2 => ex_iconst (show decode mX6_seen.2.1 57 = .ok (.iconst 1, 1) by decide +kernel) (by decide +kernel),
  fun d σ S l0 l1 l2 => ex_goto (show decode mX6_seen.2.1 58 = .ok (.goto 4, 3) by decide +kernel) (by decide),
  fun d σ S l0 l1 l2 => ex_iconst (show decode mX6_seen.2.1 61 = .ok (.iconst 0, 1) by decide +kernel) (by decide +kernel),
  fun d σ l0 l1 l2 x => ex_zret (show decode mX6_seen.2.1 62 = .ok (.ireturn, 1) by decide +kernel) rfl,
  fun d σ S l0 l1 l2 => ex_iconst (show decode mX6_seen.2.1 63 = .ok (.iconst 1, 1) by decide +kernel) (by decide +kernel),
  fun d σ l0 l1 l2 x => ex_zret (show decode mX6_seen.2.1 64 = .ok (.ireturn, 1) by decide +kernel) rfl⟩
theorem aX6_seen : ∀ (d : Nat) (a0 : Int32) (a1 : Int32) (a2 : Int32) (σ : Sg), cal (d + 1) mX6_seen [.int a0, .int a1, .int a2] σ = exec d mX6_seen 0 [.int a0, .int a1, .int a2] [] σ := fun _ _ _ _ _ => rfl
theorem kX6_skillBehind : (∀ (d : Nat) (σ : Sg) (S : List Value) (l1 : Value) (x : Int32), exec d mX6_skillBehind 0 [.int x, l1] S σ = exec d mX6_skillBehind 1 [.int x, l1] (.int x :: S) σ) ∧
  (∀ (d : Nat) (σ : Sg) (S : List Value) (l0 l1 : Value), exec d mX6_skillBehind 1 [l0, l1] S σ = exec d mX6_skillBehind 2 [l0, l1] (.int (nI 5) :: S) σ) ∧
  (∀ (d : Nat) (σ : Sg) (S : List Value) (l0 l1 : Value) (x y : Int32), exec d mX6_skillBehind 2 [l0, l1] (.int y :: .int x :: S) σ = if x = y then exec d mX6_skillBehind 5 [l0, l1] S σ else exec d mX6_skillBehind 9 [l0, l1] S σ) ∧
  (∀ (d : Nat) (σ : Sg) (S : List Value) (l0 : Value) (x : Int32), exec d mX6_skillBehind 5 [l0, .int x] S σ = exec d mX6_skillBehind 6 [l0, .int x] (.int x :: S) σ) ∧
  (∀ (d : Nat) (σ : Sg) (S : List Value) (l0 l1 : Value), exec d mX6_skillBehind 6 [l0, l1] S σ = exec d mX6_skillBehind 17 [l0, l1] S σ) ∧
  (∀ (d : Nat) (σ : Sg) (S : List Value) (l0 l1 : Value), exec d mX6_skillBehind 9 [l0, l1] S σ = exec d mX6_skillBehind 11 [l0, l1] (.int (nI 20) :: S) σ) ∧
  (∀ (d : Nat) (σ : Sg) (S : List Value) (l0 : Value) (x : Int32), exec d mX6_skillBehind 11 [l0, .int x] S σ = exec d mX6_skillBehind 12 [l0, .int x] (.int x :: S) σ) ∧
  (∀ (d : Nat) (σ : Sg) (S : List Value) (l0 l1 : Value), exec d mX6_skillBehind 12 [l0, l1] S σ = exec d mX6_skillBehind 13 [l0, l1] (.int (nI 1) :: S) σ) ∧
  (∀ (d : Nat) (σ : Sg) (S : List Value) (l0 l1 : Value) (x y : Int32), exec d mX6_skillBehind 13 [l0, l1] (.int y :: .int x :: S) σ = exec d mX6_skillBehind 14 [l0, l1] (.int (x + y) :: S) σ) ∧
  (∀ (d : Nat) (σ : Sg) (l0 l1 : Value) (x y : Int32), exec d mX6_skillBehind 14 [l0, l1] (.int y :: .int x :: []) σ = exec d mX6_skillBehind 17 [l0, l1] (.int (if y < x then y else x) :: []) σ) ∧
  (∀ (d : Nat) (σ : Sg) (l0 l1 : Value) (x : Int32), exec d mX6_skillBehind 17 [l0, l1] [.int x] σ = some (some (.int x), σ)) :=
  ⟨fun d σ S l1 x => ex_iload_n (show decode mX6_skillBehind.2.1 0 = .ok (.iload_n 0, 1) by decide +kernel) rfl,
  fun d σ S l0 l1 => ex_iconst (show decode mX6_skillBehind.2.1 1 = .ok (.iconst 5, 1) by decide +kernel) (by decide +kernel),
  fun d σ S l0 l1 x y => ex_cne (show decode mX6_skillBehind.2.1 2 = .ok (.if_icmp .ne 7, 3) by decide +kernel) (by decide),
  fun d σ S l0 x => ex_iload_n (show decode mX6_skillBehind.2.1 5 = .ok (.iload_n 1, 1) by decide +kernel) rfl,
  fun d σ S l0 l1 => ex_goto (show decode mX6_skillBehind.2.1 6 = .ok (.goto 11, 3) by decide +kernel) (by decide),
  fun d σ S l0 l1 => ex_bipush (show decode mX6_skillBehind.2.1 9 = .ok (.bipush 20, 2) by decide +kernel) (by decide +kernel),
  fun d σ S l0 x => ex_iload_n (show decode mX6_skillBehind.2.1 11 = .ok (.iload_n 1, 1) by decide +kernel) rfl,
  fun d σ S l0 l1 => ex_iconst (show decode mX6_skillBehind.2.1 12 = .ok (.iconst 1, 1) by decide +kernel) (by decide +kernel),
  fun d σ S l0 l1 x y => ex_iadd (show decode mX6_skillBehind.2.1 13 = .ok (.iadd, 1) by decide +kernel),
  fun d σ l0 l1 x y => ex_min (hh := 563) (show decode mX6_skillBehind.2.1 14 = .ok (.invokestatic 327, 3) by decide +kernel) (by decide +kernel) (by decide +kernel) (Nat.le_of_ble_eq_true rfl),
  fun d σ l0 l1 x => ex_iret (show decode mX6_skillBehind.2.1 17 = .ok (.ireturn, 1) by decide +kernel) rfl⟩
theorem aX6_skillBehind : ∀ (d : Nat) (a0 : Int32) (a1 : Int32) (σ : Sg), cal (d + 1) mX6_skillBehind [.int a0, .int a1] σ = exec d mX6_skillBehind 0 [.int a0, .int a1] [] σ := fun _ _ _ _ => rfl
theorem kX6_cheapestFeasts_0 : (∀ (d : Nat) (σ : Sg) (S : List Value) (l0 l1 l2 l3 l4 l5 l6 l7 : Value), exec d mX6_cheapestFeasts 0 [l0, l1, l2, l3, l4, l5, l6, l7] S σ = exec d mX6_cheapestFeasts 2 [l0, l1, l2, l3, l4, l5, l6, l7] (.int ((-1000000)) :: S) σ) ∧
  (∀ (d : Nat) (σ : Sg) (S : List Value) (l1 l2 l3 l4 l5 l6 l7 : Value) (k : Nat) (x : Int32), exec d mX6_cheapestFeasts 2 [.ref k, l1, l2, l3, l4, l5, l6, l7] (.int x :: S) σ = exec d mX6_cheapestFeasts 3 [.ref k, .int x, l2, l3, l4, l5, l6, l7] S σ) ∧
  (∀ (d : Nat) (σ : Sg) (S : List Value) (l0 l1 l2 l3 l4 l5 l6 l7 : Value), exec d mX6_cheapestFeasts 3 [l0, l1, l2, l3, l4, l5, l6, l7] S σ = exec d mX6_cheapestFeasts 4 [l0, l1, l2, l3, l4, l5, l6, l7] (.int (nI 0) :: S) σ) ∧
  (∀ (d : Nat) (σ : Sg) (S : List Value) (l0 l2 l3 l4 l5 l6 l7 : Value) (x y : Int32), exec d mX6_cheapestFeasts 4 [l0, .int y, l2, l3, l4, l5, l6, l7] (.int x :: S) σ = exec d mX6_cheapestFeasts 5 [l0, .int y, .int x, l3, l4, l5, l6, l7] S σ) ∧
  (∀ (d : Nat) (σ : Sg) (S : List Value) (l0 l1 l2 l3 l4 l5 l6 l7 : Value), exec d mX6_cheapestFeasts 5 [l0, l1, l2, l3, l4, l5, l6, l7] S σ = exec d mX6_cheapestFeasts 6 [l0, l1, l2, l3, l4, l5, l6, l7] (.int (nI 0) :: S) σ) ∧
  (∀ (d : Nat) (σ : Sg) (S : List Value) (l0 l1 l3 l4 l5 l6 l7 : Value) (x y : Int32), exec d mX6_cheapestFeasts 6 [l0, l1, .int y, l3, l4, l5, l6, l7] (.int x :: S) σ = exec d mX6_cheapestFeasts 7 [l0, l1, .int y, .int x, l4, l5, l6, l7] S σ) ∧
  (∀ (d : Nat) (σ : Sg) (S : List Value) (l0 l1 l2 l3 l4 l5 l6 l7 : Value), exec d mX6_cheapestFeasts 7 [l0, l1, l2, l3, l4, l5, l6, l7] S σ = exec d mX6_cheapestFeasts 8 [l0, l1, l2, l3, l4, l5, l6, l7] (.int (nI 0) :: S) σ) ∧
  (∀ (d : Nat) (σ : Sg) (S : List Value) (l0 l1 l2 l4 l5 l6 l7 : Value) (x y : Int32), exec d mX6_cheapestFeasts 8 [l0, l1, l2, .int y, l4, l5, l6, l7] (.int x :: S) σ = exec d mX6_cheapestFeasts 10 [l0, l1, l2, .int y, .int x, l5, l6, l7] S σ) ∧
  (∀ (d : Nat) (σ : Sg) (S : List Value) (l0 l1 l2 l3 l4 l5 l6 l7 : Value), exec d mX6_cheapestFeasts 12 [l0, l1, l2, l3, l4, l5, l6, l7] S σ = exec d mX6_cheapestFeasts 13 [l0, l1, l2, l3, l4, l5, l6, l7] (.int (nI 1) :: S) σ) ∧
  (∀ (d : Nat) (σ : Sg) (S : List Value) (l1 l2 l3 l4 l5 l6 l7 : Value) (k : Nat), exec d mX6_cheapestFeasts 13 [.ref k, l1, l2, l3, l4, l5, l6, l7] S σ = exec d mX6_cheapestFeasts 14 [.ref k, l1, l2, l3, l4, l5, l6, l7] (.ref k :: S) σ) ∧
  (∀ (d : Nat) (σ : Sg) (S : List Value) (l0 l1 l2 l3 l4 l5 l6 l7 : Value), exec d mX6_cheapestFeasts 14 [l0, l1, l2, l3, l4, l5, l6, l7] (.ref 0 :: S) σ = exec d mX6_cheapestFeasts 17 [l0, l1, l2, l3, l4, l5, l6, l7] (.ref 8 :: S) σ) ∧
  (∀ (d : Nat) (σ : Sg) (S : List Value) (l0 l1 l2 l3 l4 l5 l6 l7 : Value), exec d mX6_cheapestFeasts 17 [l0, l1, l2, l3, l4, l5, l6, l7] (.ref 8 :: S) σ = exec d mX6_cheapestFeasts 20 [l0, l1, l2, l3, l4, l5, l6, l7] (.int (σ 8 5) :: S) σ) ∧
  (∀ (d : Nat) (σ : Sg) (S : List Value) (l0 l1 l2 l3 l4 l5 l6 l7 : Value) (x y : Int32), exec d mX6_cheapestFeasts 20 [l0, l1, l2, l3, l4, l5, l6, l7] (.int y :: .int x :: S) σ = exec d mX6_cheapestFeasts 21 [l0, l1, l2, l3, l4, l5, l6, l7] (.int (x <<< (y &&& 31)) :: S) σ) ∧
  (∀ (d : Nat) (σ : Sg) (S : List Value) (l0 l1 l2 l3 l4 l5 l6 l7 : Value) (x y : Int32), exec d mX6_cheapestFeasts 21 [l0, l1, l2, l3, l4, l5, l6, l7] (.int y :: .int x :: S) σ = if y ≤ x then exec d mX6_cheapestFeasts 152 [l0, l1, l2, l3, l4, l5, l6, l7] S σ else exec d mX6_cheapestFeasts 24 [l0, l1, l2, l3, l4, l5, l6, l7] S σ) ∧
  (∀ (d : Nat) (σ : Sg) (S : List Value) (l0 l1 l2 l3 l5 l6 l7 : Value) (x : Int32), exec d mX6_cheapestFeasts 24 [l0, l1, l2, l3, .int x, l5, l6, l7] S σ = exec d mX6_cheapestFeasts 26 [l0, l1, l2, l3, .int x, l5, l6, l7] (.int x :: S) σ) ∧
  (∀ (d : Nat) (σ : Sg) (l0 l1 l2 l3 l4 l5 l6 l7 : Value) (x0 : Int32), exec d mX6_cheapestFeasts 26 [l0, l1, l2, l3, l4, l5, l6, l7] [.int x0] σ = kb (cal d mJ6_bitCount_0f7a4 [.int x0] σ) (fun rs σ2 => exec d mX6_cheapestFeasts 29 [l0, l1, l2, l3, l4, l5, l6, l7] (rs ++ []) σ2)) ∧
  (∀ (d : Nat) (σ : Sg) (S : List Value) (l0 l1 l2 l3 l5 l6 l7 : Value) (x y : Int32), exec d mX6_cheapestFeasts 29 [l0, l1, l2, l3, .int y, l5, l6, l7] (.int x :: S) σ = exec d mX6_cheapestFeasts 31 [l0, l1, l2, l3, .int y, .int x, l6, l7] S σ) ∧
  (∀ (d : Nat) (σ : Sg) (S : List Value) (l1 l2 l3 l4 l5 l6 l7 : Value) (k : Nat), exec d mX6_cheapestFeasts 31 [.ref k, l1, l2, l3, l4, l5, l6, l7] S σ = exec d mX6_cheapestFeasts 32 [.ref k, l1, l2, l3, l4, l5, l6, l7] (.ref k :: S) σ) ∧
  (∀ (d : Nat) (σ : Sg) (S : List Value) (l0 l1 l2 l3 l4 l5 l6 l7 : Value), exec d mX6_cheapestFeasts 32 [l0, l1, l2, l3, l4, l5, l6, l7] (.ref 0 :: S) σ = exec d mX6_cheapestFeasts 35 [l0, l1, l2, l3, l4, l5, l6, l7] (.ref 8 :: S) σ) ∧
  (∀ (d : Nat) (σ : Sg) (S : List Value) (l0 l1 l2 l3 l5 l6 l7 : Value) (x : Int32), exec d mX6_cheapestFeasts 35 [l0, l1, l2, l3, .int x, l5, l6, l7] S σ = exec d mX6_cheapestFeasts 37 [l0, l1, l2, l3, .int x, l5, l6, l7] (.int x :: S) σ) ∧
  (∀ (d : Nat) (σ : Sg) (l0 l1 l2 l3 l4 l5 l6 l7 : Value) (x0 : Int32), exec d mX6_cheapestFeasts 37 [l0, l1, l2, l3, l4, l5, l6, l7] [.int x0, .ref 8] σ = kb (cal d mX5_feastingMoney [.ref 8, .int x0] σ) (fun rs σ2 => exec d mX6_cheapestFeasts 40 [l0, l1, l2, l3, l4, l5, l6, l7] (rs ++ []) σ2)) ∧
  (∀ (d : Nat) (σ : Sg) (S : List Value) (l0 l1 l2 l3 l4 l6 l7 : Value) (x y : Int32), exec d mX6_cheapestFeasts 40 [l0, l1, l2, l3, l4, .int y, l6, l7] (.int x :: S) σ = exec d mX6_cheapestFeasts 42 [l0, l1, l2, l3, l4, .int y, .int x, l7] S σ) ∧
  (∀ (d : Nat) (σ : Sg) (S : List Value) (l0 l2 l3 l4 l5 l6 l7 : Value) (x : Int32), exec d mX6_cheapestFeasts 42 [l0, .int x, l2, l3, l4, l5, l6, l7] S σ = exec d mX6_cheapestFeasts 43 [l0, .int x, l2, l3, l4, l5, l6, l7] (.int x :: S) σ) ∧
  (∀ (d : Nat) (σ : Sg) (S : List Value) (l0 l1 l2 l3 l4 l5 l6 l7 : Value), exec d mX6_cheapestFeasts 43 [l0, l1, l2, l3, l4, l5, l6, l7] S σ = exec d mX6_cheapestFeasts 45 [l0, l1, l2, l3, l4, l5, l6, l7] (.int ((-1000000)) :: S) σ) ∧
  (∀ (d : Nat) (σ : Sg) (S : List Value) (l0 l1 l2 l3 l4 l5 l6 l7 : Value) (x y : Int32), exec d mX6_cheapestFeasts 45 [l0, l1, l2, l3, l4, l5, l6, l7] (.int y :: .int x :: S) σ = if x = y then exec d mX6_cheapestFeasts 66 [l0, l1, l2, l3, l4, l5, l6, l7] S σ else exec d mX6_cheapestFeasts 48 [l0, l1, l2, l3, l4, l5, l6, l7] S σ) ∧
  (∀ (d : Nat) (σ : Sg) (S : List Value) (l0 l1 l2 l3 l4 l6 l7 : Value) (x : Int32), exec d mX6_cheapestFeasts 48 [l0, l1, l2, l3, l4, .int x, l6, l7] S σ = exec d mX6_cheapestFeasts 50 [l0, l1, l2, l3, l4, .int x, l6, l7] (.int x :: S) σ) ∧
  (∀ (d : Nat) (σ : Sg) (S : List Value) (l0 l1 l3 l4 l5 l6 l7 : Value) (x : Int32), exec d mX6_cheapestFeasts 50 [l0, l1, .int x, l3, l4, l5, l6, l7] S σ = exec d mX6_cheapestFeasts 51 [l0, l1, .int x, l3, l4, l5, l6, l7] (.int x :: S) σ) ∧
  (∀ (d : Nat) (σ : Sg) (S : List Value) (l0 l1 l2 l3 l4 l5 l6 l7 : Value) (x y : Int32), exec d mX6_cheapestFeasts 51 [l0, l1, l2, l3, l4, l5, l6, l7] (.int y :: .int x :: S) σ = if x < y then exec d mX6_cheapestFeasts 66 [l0, l1, l2, l3, l4, l5, l6, l7] S σ else exec d mX6_cheapestFeasts 54 [l0, l1, l2, l3, l4, l5, l6, l7] S σ) ∧
  (∀ (d : Nat) (σ : Sg) (S : List Value) (l0 l1 l2 l3 l4 l6 l7 : Value) (x : Int32), exec d mX6_cheapestFeasts 54 [l0, l1, l2, l3, l4, .int x, l6, l7] S σ = exec d mX6_cheapestFeasts 56 [l0, l1, l2, l3, l4, .int x, l6, l7] (.int x :: S) σ) ∧
  (∀ (d : Nat) (σ : Sg) (S : List Value) (l0 l1 l3 l4 l5 l6 l7 : Value) (x : Int32), exec d mX6_cheapestFeasts 56 [l0, l1, .int x, l3, l4, l5, l6, l7] S σ = exec d mX6_cheapestFeasts 57 [l0, l1, .int x, l3, l4, l5, l6, l7] (.int x :: S) σ) ∧
  (∀ (d : Nat) (σ : Sg) (S : List Value) (l0 l1 l2 l3 l4 l5 l6 l7 : Value) (x y : Int32), exec d mX6_cheapestFeasts 57 [l0, l1, l2, l3, l4, l5, l6, l7] (.int y :: .int x :: S) σ = if x = y then exec d mX6_cheapestFeasts 60 [l0, l1, l2, l3, l4, l5, l6, l7] S σ else exec d mX6_cheapestFeasts 70 [l0, l1, l2, l3, l4, l5, l6, l7] S σ) ∧
  (∀ (d : Nat) (σ : Sg) (S : List Value) (l0 l1 l2 l3 l4 l5 l7 : Value) (x : Int32), exec d mX6_cheapestFeasts 60 [l0, l1, l2, l3, l4, l5, .int x, l7] S σ = exec d mX6_cheapestFeasts 62 [l0, l1, l2, l3, l4, l5, .int x, l7] (.int x :: S) σ) ∧
  (∀ (d : Nat) (σ : Sg) (S : List Value) (l0 l1 l2 l4 l5 l6 l7 : Value) (x : Int32), exec d mX6_cheapestFeasts 62 [l0, l1, l2, .int x, l4, l5, l6, l7] S σ = exec d mX6_cheapestFeasts 63 [l0, l1, l2, .int x, l4, l5, l6, l7] (.int x :: S) σ) ∧
  (∀ (d : Nat) (σ : Sg) (S : List Value) (l0 l1 l2 l3 l4 l5 l6 l7 : Value) (x y : Int32), exec d mX6_cheapestFeasts 63 [l0, l1, l2, l3, l4, l5, l6, l7] (.int y :: .int x :: S) σ = if y ≤ x then exec d mX6_cheapestFeasts 70 [l0, l1, l2, l3, l4, l5, l6, l7] S σ else exec d mX6_cheapestFeasts 66 [l0, l1, l2, l3, l4, l5, l6, l7] S σ) ∧
  (∀ (d : Nat) (σ : Sg) (S : List Value) (l0 l1 l2 l3 l4 l5 l6 l7 : Value), exec d mX6_cheapestFeasts 66 [l0, l1, l2, l3, l4, l5, l6, l7] S σ = exec d mX6_cheapestFeasts 67 [l0, l1, l2, l3, l4, l5, l6, l7] (.int (nI 1) :: S) σ) ∧
  (∀ (d : Nat) (σ : Sg) (S : List Value) (l0 l1 l2 l3 l4 l5 l6 l7 : Value), exec d mX6_cheapestFeasts 67 [l0, l1, l2, l3, l4, l5, l6, l7] S σ = exec d mX6_cheapestFeasts 71 [l0, l1, l2, l3, l4, l5, l6, l7] S σ) ∧
  (∀ (d : Nat) (σ : Sg) (S : List Value) (l0 l1 l2 l3 l4 l5 l6 l7 : Value), exec d mX6_cheapestFeasts 70 [l0, l1, l2, l3, l4, l5, l6, l7] S σ = exec d mX6_cheapestFeasts 71 [l0, l1, l2, l3, l4, l5, l6, l7] (.int (nI 0) :: S) σ) ∧
  (∀ (d : Nat) (σ : Sg) (S : List Value) (l0 l1 l2 l3 l4 l5 l7 : Value) (x y : Int32), exec d mX6_cheapestFeasts 71 [l0, l1, l2, l3, l4, l5, .int y, l7] (.int x :: S) σ = exec d mX6_cheapestFeasts 73 [l0, l1, l2, l3, l4, l5, .int y, .int x] S σ) ∧
  (∀ (d : Nat) (σ : Sg) (S : List Value) (l0 l1 l2 l3 l4 l5 l6 : Value) (x : Int32), exec d mX6_cheapestFeasts 73 [l0, l1, l2, l3, l4, l5, l6, .int x] S σ = exec d mX6_cheapestFeasts 75 [l0, l1, l2, l3, l4, l5, l6, .int x] (.int x :: S) σ) ∧
  (∀ (d : Nat) (σ : Sg) (S : List Value) (l0 l1 l2 l3 l4 l5 l6 l7 : Value) (x : Int32), exec d mX6_cheapestFeasts 75 [l0, l1, l2, l3, l4, l5, l6, l7] (.int x :: S) σ = if x = nI 0 then exec d mX6_cheapestFeasts 146 [l0, l1, l2, l3, l4, l5, l6, l7] S σ else exec d mX6_cheapestFeasts 78 [l0, l1, l2, l3, l4, l5, l6, l7] S σ) :=
  ⟨fun d σ S l0 l1 l2 l3 l4 l5 l6 l7 => ex_ldc (hh := 593) (show decode mX6_cheapestFeasts.2.1 0 = .ok (.ldc 192, 2) by decide +kernel) (by decide +kernel),
  fun d σ S l1 l2 l3 l4 l5 l6 l7 k x => ex_istore_n (show decode mX6_cheapestFeasts.2.1 2 = .ok (.istore_n 1, 1) by decide +kernel) (Nat.le_of_ble_eq_true rfl) rfl,
  fun d σ S l0 l1 l2 l3 l4 l5 l6 l7 => ex_iconst (show decode mX6_cheapestFeasts.2.1 3 = .ok (.iconst 0, 1) by decide +kernel) (by decide +kernel),
  fun d σ S l0 l2 l3 l4 l5 l6 l7 x y => ex_istore_n (show decode mX6_cheapestFeasts.2.1 4 = .ok (.istore_n 2, 1) by decide +kernel) (Nat.le_of_ble_eq_true rfl) rfl,
  fun d σ S l0 l1 l2 l3 l4 l5 l6 l7 => ex_iconst (show decode mX6_cheapestFeasts.2.1 5 = .ok (.iconst 0, 1) by decide +kernel) (by decide +kernel),
  fun d σ S l0 l1 l3 l4 l5 l6 l7 x y => ex_istore_n (show decode mX6_cheapestFeasts.2.1 6 = .ok (.istore_n 3, 1) by decide +kernel) (Nat.le_of_ble_eq_true rfl) rfl,
  fun d σ S l0 l1 l2 l3 l4 l5 l6 l7 => ex_iconst (show decode mX6_cheapestFeasts.2.1 7 = .ok (.iconst 0, 1) by decide +kernel) (by decide +kernel),
  fun d σ S l0 l1 l2 l4 l5 l6 l7 x y => ex_istore (show decode mX6_cheapestFeasts.2.1 8 = .ok (.istore 4, 2) by decide +kernel) (Nat.le_of_ble_eq_true rfl) rfl,
  fun d σ S l0 l1 l2 l3 l4 l5 l6 l7 => ex_iconst (show decode mX6_cheapestFeasts.2.1 12 = .ok (.iconst 1, 1) by decide +kernel) (by decide +kernel),
  fun d σ S l1 l2 l3 l4 l5 l6 l7 k => ex_aload_n (show decode mX6_cheapestFeasts.2.1 13 = .ok (.aload_n 0, 1) by decide +kernel) rfl,
  fun d σ S l0 l1 l2 l3 l4 l5 l6 l7 => ex_getr (idx := 26) (ci := 6) (ff := 2) (n := 11) (hh := 348) (by decide +kernel),
  fun d σ S l0 l1 l2 l3 l4 l5 l6 l7 => ex_get (idx := 257) (ci := 5) (ff := 5) (n := 17) (hh := 204) (by decide +kernel),
  fun d σ S l0 l1 l2 l3 l4 l5 l6 l7 x y => ex_ishl (show decode mX6_cheapestFeasts.2.1 20 = .ok (.ishl, 1) by decide +kernel),
  fun d σ S l0 l1 l2 l3 l4 l5 l6 l7 x y => ex_cge (show decode mX6_cheapestFeasts.2.1 21 = .ok (.if_icmp .ge 131, 3) by decide +kernel) (by decide),
  fun d σ S l0 l1 l2 l3 l5 l6 l7 x => ex_iload (show decode mX6_cheapestFeasts.2.1 24 = .ok (.iload 4, 2) by decide +kernel) rfl,
  fun d σ l0 l1 l2 l3 l4 l5 l6 l7 x0 => ex_is (hs := [676, 605, 606, 104]) (show decode mX6_cheapestFeasts.2.1 26 = .ok (.invokestatic 246, 3) by decide +kernel) lkS_6_246 ⟨rfl, Nat.le_of_ble_eq_true rfl, Nat.le_of_ble_eq_true rfl, fun q => nomatch q⟩ rfl rfl,
  fun d σ S l0 l1 l2 l3 l5 l6 l7 x y => ex_istore (show decode mX6_cheapestFeasts.2.1 29 = .ok (.istore 5, 2) by decide +kernel) (Nat.le_of_ble_eq_true rfl) rfl,
  fun d σ S l1 l2 l3 l4 l5 l6 l7 k => ex_aload_n (show decode mX6_cheapestFeasts.2.1 31 = .ok (.aload_n 0, 1) by decide +kernel) rfl,
  fun d σ S l0 l1 l2 l3 l4 l5 l6 l7 => ex_getr (idx := 26) (ci := 6) (ff := 2) (n := 11) (hh := 348) (by decide +kernel),
  fun d σ S l0 l1 l2 l3 l5 l6 l7 x => ex_iload (show decode mX6_cheapestFeasts.2.1 35 = .ok (.iload 4, 2) by decide +kernel) rfl,
  fun d σ l0 l1 l2 l3 l4 l5 l6 l7 x0 => ex_iv (hs := [677, 679, 40, 680, 97]) (show decode mX6_cheapestFeasts.2.1 37 = .ok (.invokevirtual 332, 3) by decide +kernel) lkV_6_332 ⟨rfl, Nat.le_of_ble_eq_true rfl, Nat.le_of_ble_eq_true rfl, fun _ => rfl⟩ rfl rfl,
  fun d σ S l0 l1 l2 l3 l4 l6 l7 x y => ex_istore (show decode mX6_cheapestFeasts.2.1 40 = .ok (.istore 6, 2) by decide +kernel) (Nat.le_of_ble_eq_true rfl) rfl,
  fun d σ S l0 l2 l3 l4 l5 l6 l7 x => ex_iload_n (show decode mX6_cheapestFeasts.2.1 42 = .ok (.iload_n 1, 1) by decide +kernel) rfl,
  fun d σ S l0 l1 l2 l3 l4 l5 l6 l7 => ex_ldc (hh := 593) (show decode mX6_cheapestFeasts.2.1 43 = .ok (.ldc 192, 2) by decide +kernel) (by decide +kernel),
  fun d σ S l0 l1 l2 l3 l4 l5 l6 l7 x y => ex_ceq (show decode mX6_cheapestFeasts.2.1 45 = .ok (.if_icmp .eq 21, 3) by decide +kernel) (by decide),
  fun d σ S l0 l1 l2 l3 l4 l6 l7 x => ex_iload (show decode mX6_cheapestFeasts.2.1 48 = .ok (.iload 5, 2) by decide +kernel) rfl,
  fun d σ S l0 l1 l3 l4 l5 l6 l7 x => ex_iload_n (show decode mX6_cheapestFeasts.2.1 50 = .ok (.iload_n 2, 1) by decide +kernel) rfl,
  fun d σ S l0 l1 l2 l3 l4 l5 l6 l7 x y => ex_clt (show decode mX6_cheapestFeasts.2.1 51 = .ok (.if_icmp .lt 15, 3) by decide +kernel) (by decide),
  fun d σ S l0 l1 l2 l3 l4 l6 l7 x => ex_iload (show decode mX6_cheapestFeasts.2.1 54 = .ok (.iload 5, 2) by decide +kernel) rfl,
  fun d σ S l0 l1 l3 l4 l5 l6 l7 x => ex_iload_n (show decode mX6_cheapestFeasts.2.1 56 = .ok (.iload_n 2, 1) by decide +kernel) rfl,
  fun d σ S l0 l1 l2 l3 l4 l5 l6 l7 x y => ex_cne (show decode mX6_cheapestFeasts.2.1 57 = .ok (.if_icmp .ne 13, 3) by decide +kernel) (by decide),
  fun d σ S l0 l1 l2 l3 l4 l5 l7 x => ex_iload (show decode mX6_cheapestFeasts.2.1 60 = .ok (.iload 6, 2) by decide +kernel) rfl,
  fun d σ S l0 l1 l2 l4 l5 l6 l7 x => ex_iload_n (show decode mX6_cheapestFeasts.2.1 62 = .ok (.iload_n 3, 1) by decide +kernel) rfl,
  fun d σ S l0 l1 l2 l3 l4 l5 l6 l7 x y => ex_cge (show decode mX6_cheapestFeasts.2.1 63 = .ok (.if_icmp .ge 7, 3) by decide +kernel) (by decide),
  fun d σ S l0 l1 l2 l3 l4 l5 l6 l7 => ex_iconst (show decode mX6_cheapestFeasts.2.1 66 = .ok (.iconst 1, 1) by decide +kernel) (by decide +kernel),
  fun d σ S l0 l1 l2 l3 l4 l5 l6 l7 => ex_goto (show decode mX6_cheapestFeasts.2.1 67 = .ok (.goto 4, 3) by decide +kernel) (by decide),
  fun d σ S l0 l1 l2 l3 l4 l5 l6 l7 => ex_iconst (show decode mX6_cheapestFeasts.2.1 70 = .ok (.iconst 0, 1) by decide +kernel) (by decide +kernel),
  fun d σ S l0 l1 l2 l3 l4 l5 l7 x y => ex_istore (show decode mX6_cheapestFeasts.2.1 71 = .ok (.istore 7, 2) by decide +kernel) (Nat.le_of_ble_eq_true rfl) rfl,
  fun d σ S l0 l1 l2 l3 l4 l5 l6 x => ex_iload (show decode mX6_cheapestFeasts.2.1 73 = .ok (.iload 7, 2) by decide +kernel) rfl,
  fun d σ S l0 l1 l2 l3 l4 l5 l6 l7 x => ex_zeq (show decode mX6_cheapestFeasts.2.1 75 = .ok (.ifCond .eq 71, 3) by decide +kernel) (by decide)⟩
theorem kX6_cheapestFeasts_1 : (∀ (d : Nat) (σ : Sg) (S : List Value) (l0 l1 l2 l3 l5 l6 l7 : Value) (x : Int32), exec d mX6_cheapestFeasts 78 [l0, l1, l2, l3, .int x, l5, l6, l7] S σ = exec d mX6_cheapestFeasts 80 [l0, l1, l2, l3, .int x, l5, l6, l7] (.int x :: S) σ) ∧
  (∀ (d : Nat) (σ : Sg) (S : List Value) (l1 l2 l3 l4 l5 l6 l7 : Value) (k : Nat), exec d mX6_cheapestFeasts 80 [.ref k, l1, l2, l3, l4, l5, l6, l7] S σ = exec d mX6_cheapestFeasts 81 [.ref k, l1, l2, l3, l4, l5, l6, l7] (.ref k :: S) σ) ∧
  (∀ (d : Nat) (σ : Sg) (S : List Value) (l0 l1 l2 l3 l4 l5 l6 l7 : Value), exec d mX6_cheapestFeasts 81 [l0, l1, l2, l3, l4, l5, l6, l7] (.ref 0 :: S) σ = exec d mX6_cheapestFeasts 84 [l0, l1, l2, l3, l4, l5, l6, l7] (.ref 8 :: S) σ) ∧
  (∀ (d : Nat) (σ : Sg) (S : List Value) (l0 l1 l2 l3 l4 l5 l6 l7 : Value), exec d mX6_cheapestFeasts 84 [l0, l1, l2, l3, l4, l5, l6, l7] (.ref 8 :: S) σ = exec d mX6_cheapestFeasts 87 [l0, l1, l2, l3, l4, l5, l6, l7] (.int (σ 8 8) :: S) σ) ∧
  (∀ (d : Nat) (σ : Sg) (S : List Value) (l0 l1 l2 l3 l4 l5 l6 l7 : Value) (x y : Int32), exec d mX6_cheapestFeasts 87 [l0, l1, l2, l3, l4, l5, l6, l7] (.int y :: .int x :: S) σ = exec d mX6_cheapestFeasts 88 [l0, l1, l2, l3, l4, l5, l6, l7] (.int (x &&& y) :: S) σ) ∧
  (∀ (d : Nat) (σ : Sg) (S : List Value) (l0 l1 l2 l3 l4 l5 l6 l7 : Value) (x : Int32), exec d mX6_cheapestFeasts 88 [l0, l1, l2, l3, l4, l5, l6, l7] (.int x :: S) σ = if x = nI 0 then exec d mX6_cheapestFeasts 91 [l0, l1, l2, l3, l4, l5, l6, l7] S σ else exec d mX6_cheapestFeasts 146 [l0, l1, l2, l3, l4, l5, l6, l7] S σ) ∧
  (∀ (d : Nat) (σ : Sg) (S : List Value) (l0 l1 l2 l3 l4 l5 l7 : Value) (x : Int32), exec d mX6_cheapestFeasts 91 [l0, l1, l2, l3, l4, l5, .int x, l7] S σ = exec d mX6_cheapestFeasts 93 [l0, l1, l2, l3, l4, l5, .int x, l7] (.int x :: S) σ) ∧
  (∀ (d : Nat) (σ : Sg) (S : List Value) (l1 l2 l3 l4 l5 l6 l7 : Value) (k : Nat), exec d mX6_cheapestFeasts 93 [.ref k, l1, l2, l3, l4, l5, l6, l7] S σ = exec d mX6_cheapestFeasts 94 [.ref k, l1, l2, l3, l4, l5, l6, l7] (.ref k :: S) σ) ∧
  (∀ (d : Nat) (σ : Sg) (S : List Value) (l0 l1 l2 l3 l4 l5 l6 l7 : Value), exec d mX6_cheapestFeasts 94 [l0, l1, l2, l3, l4, l5, l6, l7] (.ref 0 :: S) σ = exec d mX6_cheapestFeasts 97 [l0, l1, l2, l3, l4, l5, l6, l7] (.ref 8 :: S) σ) ∧
  (∀ (d : Nat) (σ : Sg) (S : List Value) (l0 l1 l2 l3 l4 l5 l6 l7 : Value), exec d mX6_cheapestFeasts 97 [l0, l1, l2, l3, l4, l5, l6, l7] (.ref 8 :: S) σ = exec d mX6_cheapestFeasts 100 [l0, l1, l2, l3, l4, l5, l6, l7] (.int (σ 8 3) :: S) σ) ∧
  (∀ (d : Nat) (σ : Sg) (S : List Value) (l0 l1 l2 l3 l4 l5 l6 l7 : Value) (x y : Int32), exec d mX6_cheapestFeasts 100 [l0, l1, l2, l3, l4, l5, l6, l7] (.int y :: .int x :: S) σ = if y < x then exec d mX6_cheapestFeasts 146 [l0, l1, l2, l3, l4, l5, l6, l7] S σ else exec d mX6_cheapestFeasts 103 [l0, l1, l2, l3, l4, l5, l6, l7] S σ) ∧
  (∀ (d : Nat) (σ : Sg) (S : List Value) (l1 l2 l3 l4 l5 l6 l7 : Value) (k : Nat), exec d mX6_cheapestFeasts 103 [.ref k, l1, l2, l3, l4, l5, l6, l7] S σ = exec d mX6_cheapestFeasts 104 [.ref k, l1, l2, l3, l4, l5, l6, l7] (.ref k :: S) σ) ∧
  (∀ (d : Nat) (σ : Sg) (S : List Value) (l0 l1 l2 l3 l4 l5 l6 l7 : Value), exec d mX6_cheapestFeasts 104 [l0, l1, l2, l3, l4, l5, l6, l7] (.ref 0 :: S) σ = exec d mX6_cheapestFeasts 107 [l0, l1, l2, l3, l4, l5, l6, l7] (.ref 8 :: S) σ) ∧
  (∀ (d : Nat) (σ : Sg) (S : List Value) (l1 l2 l3 l4 l5 l6 l7 : Value) (k : Nat), exec d mX6_cheapestFeasts 107 [.ref k, l1, l2, l3, l4, l5, l6, l7] S σ = exec d mX6_cheapestFeasts 108 [.ref k, l1, l2, l3, l4, l5, l6, l7] (.ref k :: S) σ) ∧
  (∀ (d : Nat) (σ : Sg) (S : List Value) (l0 l1 l2 l3 l4 l5 l6 l7 : Value), exec d mX6_cheapestFeasts 108 [l0, l1, l2, l3, l4, l5, l6, l7] (.ref 0 :: S) σ = exec d mX6_cheapestFeasts 111 [l0, l1, l2, l3, l4, l5, l6, l7] (.ref 8 :: S) σ) ∧
  (∀ (d : Nat) (σ : Sg) (S : List Value) (l1 l2 l3 l4 l5 l6 l7 : Value) (k : Nat), exec d mX6_cheapestFeasts 111 [.ref k, l1, l2, l3, l4, l5, l6, l7] S σ = exec d mX6_cheapestFeasts 112 [.ref k, l1, l2, l3, l4, l5, l6, l7] (.ref k :: S) σ) ∧
  (∀ (d : Nat) (σ : Sg) (S : List Value) (l0 l1 l2 l3 l4 l5 l6 l7 : Value), exec d mX6_cheapestFeasts 112 [l0, l1, l2, l3, l4, l5, l6, l7] (.ref 0 :: S) σ = exec d mX6_cheapestFeasts 115 [l0, l1, l2, l3, l4, l5, l6, l7] (.ref 8 :: S) σ) ∧
  (∀ (d : Nat) (σ : Sg) (S : List Value) (l0 l1 l2 l3 l4 l5 l6 l7 : Value), exec d mX6_cheapestFeasts 115 [l0, l1, l2, l3, l4, l5, l6, l7] (.ref 8 :: S) σ = exec d mX6_cheapestFeasts 118 [l0, l1, l2, l3, l4, l5, l6, l7] (.int (σ 8 7) :: S) σ) ∧
  (∀ (d : Nat) (σ : Sg) (S : List Value) (l1 l2 l3 l4 l5 l6 l7 : Value) (k : Nat), exec d mX6_cheapestFeasts 118 [.ref k, l1, l2, l3, l4, l5, l6, l7] S σ = exec d mX6_cheapestFeasts 119 [.ref k, l1, l2, l3, l4, l5, l6, l7] (.ref k :: S) σ) ∧
  (∀ (d : Nat) (σ : Sg) (S : List Value) (l0 l1 l2 l3 l4 l5 l6 l7 : Value), exec d mX6_cheapestFeasts 119 [l0, l1, l2, l3, l4, l5, l6, l7] (.ref 0 :: S) σ = exec d mX6_cheapestFeasts 122 [l0, l1, l2, l3, l4, l5, l6, l7] (.ref 8 :: S) σ) ∧
  (∀ (d : Nat) (σ : Sg) (S : List Value) (l0 l1 l2 l3 l4 l5 l6 l7 : Value), exec d mX6_cheapestFeasts 122 [l0, l1, l2, l3, l4, l5, l6, l7] (.ref 8 :: S) σ = exec d mX6_cheapestFeasts 125 [l0, l1, l2, l3, l4, l5, l6, l7] (.int (σ 8 8) :: S) σ) ∧
  (∀ (d : Nat) (σ : Sg) (S : List Value) (l0 l1 l2 l3 l5 l6 l7 : Value) (x : Int32), exec d mX6_cheapestFeasts 125 [l0, l1, l2, l3, .int x, l5, l6, l7] S σ = exec d mX6_cheapestFeasts 127 [l0, l1, l2, l3, .int x, l5, l6, l7] (.int x :: S) σ) ∧
  (∀ (d : Nat) (σ : Sg) (S : List Value) (l0 l1 l2 l3 l4 l5 l6 l7 : Value) (x y : Int32), exec d mX6_cheapestFeasts 127 [l0, l1, l2, l3, l4, l5, l6, l7] (.int y :: .int x :: S) σ = exec d mX6_cheapestFeasts 128 [l0, l1, l2, l3, l4, l5, l6, l7] (.int (x ||| y) :: S) σ) ∧
  (∀ (d : Nat) (σ : Sg) (l0 l1 l2 l3 l4 l5 l6 l7 : Value) (x0 x1 : Int32), exec d mX6_cheapestFeasts 128 [l0, l1, l2, l3, l4, l5, l6, l7] [.int x0, .int x1, .ref 8, .ref 8] σ = kb (cal d mX5_votes [.ref 8, .int x1, .int x0] σ) (fun rs σ2 => exec d mX6_cheapestFeasts 131 [l0, l1, l2, l3, l4, l5, l6, l7] (rs ++ [.ref 8]) σ2)) ∧
  (∀ (d : Nat) (σ : Sg) (l0 l1 l2 l3 l4 l5 l6 l7 : Value) (x0 : Int32), exec d mX6_cheapestFeasts 131 [l0, l1, l2, l3, l4, l5, l6, l7] [.int x0, .ref 8] σ = kb (cal d mX5_wins [.ref 8, .int x0] σ) (fun rs σ2 => exec d mX6_cheapestFeasts 134 [l0, l1, l2, l3, l4, l5, l6, l7] (rs ++ []) σ2)) ∧
  (∀ (d : Nat) (σ : Sg) (S : List Value) (l0 l1 l2 l3 l4 l5 l6 l7 : Value) (x : Int32), exec d mX6_cheapestFeasts 134 [l0, l1, l2, l3, l4, l5, l6, l7] (.int x :: S) σ = if x = nI 0 then exec d mX6_cheapestFeasts 146 [l0, l1, l2, l3, l4, l5, l6, l7] S σ else exec d mX6_cheapestFeasts 137 [l0, l1, l2, l3, l4, l5, l6, l7] S σ) ∧
  (∀ (d : Nat) (σ : Sg) (S : List Value) (l0 l1 l2 l3 l5 l6 l7 : Value) (x : Int32), exec d mX6_cheapestFeasts 137 [l0, l1, l2, l3, .int x, l5, l6, l7] S σ = exec d mX6_cheapestFeasts 139 [l0, l1, l2, l3, .int x, l5, l6, l7] (.int x :: S) σ) ∧
  (∀ (d : Nat) (σ : Sg) (S : List Value) (l1 l2 l3 l4 l5 l6 l7 : Value) (k : Nat) (x : Int32), exec d mX6_cheapestFeasts 139 [.ref k, l1, l2, l3, l4, l5, l6, l7] (.int x :: S) σ = exec d mX6_cheapestFeasts 140 [.ref k, .int x, l2, l3, l4, l5, l6, l7] S σ) ∧
  (∀ (d : Nat) (σ : Sg) (S : List Value) (l0 l1 l2 l3 l4 l6 l7 : Value) (x : Int32), exec d mX6_cheapestFeasts 140 [l0, l1, l2, l3, l4, .int x, l6, l7] S σ = exec d mX6_cheapestFeasts 142 [l0, l1, l2, l3, l4, .int x, l6, l7] (.int x :: S) σ) ∧
  (∀ (d : Nat) (σ : Sg) (S : List Value) (l0 l2 l3 l4 l5 l6 l7 : Value) (x y : Int32), exec d mX6_cheapestFeasts 142 [l0, .int y, l2, l3, l4, l5, l6, l7] (.int x :: S) σ = exec d mX6_cheapestFeasts 143 [l0, .int y, .int x, l3, l4, l5, l6, l7] S σ) ∧
  (∀ (d : Nat) (σ : Sg) (S : List Value) (l0 l1 l2 l3 l4 l5 l7 : Value) (x : Int32), exec d mX6_cheapestFeasts 143 [l0, l1, l2, l3, l4, l5, .int x, l7] S σ = exec d mX6_cheapestFeasts 145 [l0, l1, l2, l3, l4, l5, .int x, l7] (.int x :: S) σ) ∧
  (∀ (d : Nat) (σ : Sg) (S : List Value) (l0 l1 l3 l4 l5 l6 l7 : Value) (x y : Int32), exec d mX6_cheapestFeasts 145 [l0, l1, .int y, l3, l4, l5, l6, l7] (.int x :: S) σ = exec d mX6_cheapestFeasts 146 [l0, l1, .int y, .int x, l4, l5, l6, l7] S σ) ∧
  (∀ (d : Nat) (σ : Sg) (S : List Value) (l0 l1 l2 l5 l6 l7 : Value) (x y : Int32), exec d mX6_cheapestFeasts 146 [l0, l1, l2, .int y, .int x, l5, l6, l7] S σ = exec d mX6_cheapestFeasts 149 [l0, l1, l2, .int y, .int (x + nI 1), l5, l6, l7] S σ) ∧
  (∀ (d : Nat) (σ : Sg) (S : List Value) (l0 l1 l2 l3 l4 l5 l6 l7 : Value), exec d mX6_cheapestFeasts 149 [l0, l1, l2, l3, l4, l5, l6, l7] S σ = exec d mX6_cheapestFeasts 10 [l0, l1, l2, l3, l4, l5, l6, l7] S σ) ∧
  (∀ (d : Nat) (σ : Sg) (S : List Value) (l0 l2 l3 l4 l5 l6 l7 : Value) (x : Int32), exec d mX6_cheapestFeasts 152 [l0, .int x, l2, l3, l4, l5, l6, l7] S σ = exec d mX6_cheapestFeasts 153 [l0, .int x, l2, l3, l4, l5, l6, l7] (.int x :: S) σ) ∧
  (∀ (d : Nat) (σ : Sg) (l0 l1 l2 l3 l4 l5 l6 l7 : Value) (x : Int32), exec d mX6_cheapestFeasts 153 [l0, l1, l2, l3, l4, l5, l6, l7] [.int x] σ = some (some (.int x), σ)) :=
  ⟨fun d σ S l0 l1 l2 l3 l5 l6 l7 x => ex_iload (show decode mX6_cheapestFeasts.2.1 78 = .ok (.iload 4, 2) by decide +kernel) rfl,
  fun d σ S l1 l2 l3 l4 l5 l6 l7 k => ex_aload_n (show decode mX6_cheapestFeasts.2.1 80 = .ok (.aload_n 0, 1) by decide +kernel) rfl,
  fun d σ S l0 l1 l2 l3 l4 l5 l6 l7 => ex_getr (idx := 26) (ci := 6) (ff := 2) (n := 11) (hh := 348) (by decide +kernel),
  fun d σ S l0 l1 l2 l3 l4 l5 l6 l7 => ex_get (idx := 167) (ci := 5) (ff := 8) (n := 17) (hh := 215) (by decide +kernel),
  fun d σ S l0 l1 l2 l3 l4 l5 l6 l7 x y => ex_iand (show decode mX6_cheapestFeasts.2.1 87 = .ok (.iand, 1) by decide +kernel),
  fun d σ S l0 l1 l2 l3 l4 l5 l6 l7 x => ex_zne (show decode mX6_cheapestFeasts.2.1 88 = .ok (.ifCond .ne 58, 3) by decide +kernel) (by decide),
  fun d σ S l0 l1 l2 l3 l4 l5 l7 x => ex_iload (show decode mX6_cheapestFeasts.2.1 91 = .ok (.iload 6, 2) by decide +kernel) rfl,
  fun d σ S l1 l2 l3 l4 l5 l6 l7 k => ex_aload_n (show decode mX6_cheapestFeasts.2.1 93 = .ok (.aload_n 0, 1) by decide +kernel) rfl,
  fun d σ S l0 l1 l2 l3 l4 l5 l6 l7 => ex_getr (idx := 26) (ci := 6) (ff := 2) (n := 11) (hh := 348) (by decide +kernel),
  fun d σ S l0 l1 l2 l3 l4 l5 l6 l7 => ex_get (idx := 170) (ci := 5) (ff := 3) (n := 17) (hh := 197) (by decide +kernel),
  fun d σ S l0 l1 l2 l3 l4 l5 l6 l7 x y => ex_cgt (show decode mX6_cheapestFeasts.2.1 100 = .ok (.if_icmp .gt 46, 3) by decide +kernel) (by decide),
  fun d σ S l1 l2 l3 l4 l5 l6 l7 k => ex_aload_n (show decode mX6_cheapestFeasts.2.1 103 = .ok (.aload_n 0, 1) by decide +kernel) rfl,
  fun d σ S l0 l1 l2 l3 l4 l5 l6 l7 => ex_getr (idx := 26) (ci := 6) (ff := 2) (n := 11) (hh := 348) (by decide +kernel),
  fun d σ S l1 l2 l3 l4 l5 l6 l7 k => ex_aload_n (show decode mX6_cheapestFeasts.2.1 107 = .ok (.aload_n 0, 1) by decide +kernel) rfl,
  fun d σ S l0 l1 l2 l3 l4 l5 l6 l7 => ex_getr (idx := 26) (ci := 6) (ff := 2) (n := 11) (hh := 348) (by decide +kernel),
  fun d σ S l1 l2 l3 l4 l5 l6 l7 k => ex_aload_n (show decode mX6_cheapestFeasts.2.1 111 = .ok (.aload_n 0, 1) by decide +kernel) rfl,
  fun d σ S l0 l1 l2 l3 l4 l5 l6 l7 => ex_getr (idx := 26) (ci := 6) (ff := 2) (n := 11) (hh := 348) (by decide +kernel),
  fun d σ S l0 l1 l2 l3 l4 l5 l6 l7 => ex_get (idx := 151) (ci := 5) (ff := 7) (n := 17) (hh := 212) (by decide +kernel),
  fun d σ S l1 l2 l3 l4 l5 l6 l7 k => ex_aload_n (show decode mX6_cheapestFeasts.2.1 118 = .ok (.aload_n 0, 1) by decide +kernel) rfl,
  fun d σ S l0 l1 l2 l3 l4 l5 l6 l7 => ex_getr (idx := 26) (ci := 6) (ff := 2) (n := 11) (hh := 348) (by decide +kernel),
  fun d σ S l0 l1 l2 l3 l4 l5 l6 l7 => ex_get (idx := 167) (ci := 5) (ff := 8) (n := 17) (hh := 215) (by decide +kernel),
  fun d σ S l0 l1 l2 l3 l5 l6 l7 x => ex_iload (show decode mX6_cheapestFeasts.2.1 125 = .ok (.iload 4, 2) by decide +kernel) rfl,
  fun d σ S l0 l1 l2 l3 l4 l5 l6 l7 x y => ex_ior (show decode mX6_cheapestFeasts.2.1 127 = .ok (.ior, 1) by decide +kernel),
  fun d σ l0 l1 l2 l3 l4 l5 l6 l7 x0 x1 => ex_iv (hs := [610, 612, 31, 613, 97]) (show decode mX6_cheapestFeasts.2.1 128 = .ok (.invokevirtual 215, 3) by decide +kernel) lkV_6_215 ⟨rfl, Nat.le_of_ble_eq_true rfl, Nat.le_of_ble_eq_true rfl, fun _ => rfl⟩ rfl rfl,
  fun d σ l0 l1 l2 l3 l4 l5 l6 l7 x0 => ex_iv (hs := [681, 626, 33, 627, 97]) (show decode mX6_cheapestFeasts.2.1 131 = .ok (.invokevirtual 254, 3) by decide +kernel) lkV_6_254 ⟨rfl, Nat.le_of_ble_eq_true rfl, Nat.le_of_ble_eq_true rfl, fun _ => rfl⟩ rfl rfl,
  fun d σ S l0 l1 l2 l3 l4 l5 l6 l7 x => ex_zeq (show decode mX6_cheapestFeasts.2.1 134 = .ok (.ifCond .eq 12, 3) by decide +kernel) (by decide),
  fun d σ S l0 l1 l2 l3 l5 l6 l7 x => ex_iload (show decode mX6_cheapestFeasts.2.1 137 = .ok (.iload 4, 2) by decide +kernel) rfl,
  fun d σ S l1 l2 l3 l4 l5 l6 l7 k x => ex_istore_n (show decode mX6_cheapestFeasts.2.1 139 = .ok (.istore_n 1, 1) by decide +kernel) (Nat.le_of_ble_eq_true rfl) rfl,
  fun d σ S l0 l1 l2 l3 l4 l6 l7 x => ex_iload (show decode mX6_cheapestFeasts.2.1 140 = .ok (.iload 5, 2) by decide +kernel) rfl,
  fun d σ S l0 l2 l3 l4 l5 l6 l7 x y => ex_istore_n (show decode mX6_cheapestFeasts.2.1 142 = .ok (.istore_n 2, 1) by decide +kernel) (Nat.le_of_ble_eq_true rfl) rfl,
  fun d σ S l0 l1 l2 l3 l4 l5 l7 x => ex_iload (show decode mX6_cheapestFeasts.2.1 143 = .ok (.iload 6, 2) by decide +kernel) rfl,
  fun d σ S l0 l1 l3 l4 l5 l6 l7 x y => ex_istore_n (show decode mX6_cheapestFeasts.2.1 145 = .ok (.istore_n 3, 1) by decide +kernel) (Nat.le_of_ble_eq_true rfl) rfl,
  fun d σ S l0 l1 l2 l5 l6 l7 x y => ex_iinc (show decode mX6_cheapestFeasts.2.1 146 = .ok (.iinc 4 1, 3) by decide +kernel) rfl (by decide +kernel) (Nat.le_of_ble_eq_true rfl) rfl,
  fun d σ S l0 l1 l2 l3 l4 l5 l6 l7 => ex_goto (show decode mX6_cheapestFeasts.2.1 149 = .ok (.goto (-139), 3) by decide +kernel) (by decide),
  fun d σ S l0 l2 l3 l4 l5 l6 l7 x => ex_iload_n (show decode mX6_cheapestFeasts.2.1 152 = .ok (.iload_n 1, 1) by decide +kernel) rfl,
  fun d σ l0 l1 l2 l3 l4 l5 l6 l7 x => ex_iret (show decode mX6_cheapestFeasts.2.1 153 = .ok (.ireturn, 1) by decide +kernel) rfl⟩
theorem hX6_cheapestFeasts_10 : ∀ (d : Nat) (σ : Sg) (S : List Value) (l0 l1 l2 l3 l5 l6 l7 : Value) (x : Int32), exec d mX6_cheapestFeasts 10 [l0, l1, l2, l3, .int x, l5, l6, l7] S σ = exec d mX6_cheapestFeasts 12 [l0, l1, l2, l3, .int x, l5, l6, l7] (.int x :: S) σ := fun d σ S l0 l1 l2 l3 l5 l6 l7 x => ex_iload (show decode mX6_cheapestFeasts.2.1 10 = .ok (.iload 4, 2) by decide +kernel) rfl
theorem aX6_cheapestFeasts_0 : ∀ (d : Nat)  (σ : Sg), cal (d + 1) mX6_cheapestFeasts [.ref 0] σ = exec d mX6_cheapestFeasts 0 [.ref 0, uu, uu, uu, uu, uu, uu, uu] [] σ := fun _ _ => rfl
theorem kX6_leastMends_0 : (∀ (d : Nat) (σ : Sg) (S : List Value) (l0 l1 l2 l3 l4 l5 : Value), exec d mX6_leastMends 0 [l0, l1, l2, l3, l4, l5] S σ = exec d mX6_leastMends 2 [l0, l1, l2, l3, l4, l5] (.int ((-1000000)) :: S) σ) ∧
  (∀ (d : Nat) (σ : Sg) (S : List Value) (l1 l2 l3 l4 l5 : Value) (k : Nat) (x : Int32), exec d mX6_leastMends 2 [.ref k, l1, l2, l3, l4, l5] (.int x :: S) σ = exec d mX6_leastMends 3 [.ref k, .int x, l2, l3, l4, l5] S σ) ∧
  (∀ (d : Nat) (σ : Sg) (S : List Value) (l0 l1 l2 l3 l4 l5 : Value), exec d mX6_leastMends 3 [l0, l1, l2, l3, l4, l5] S σ = exec d mX6_leastMends 4 [l0, l1, l2, l3, l4, l5] (.int (nI 0) :: S) σ) ∧
  (∀ (d : Nat) (σ : Sg) (S : List Value) (l0 l2 l3 l4 l5 : Value) (x y : Int32), exec d mX6_leastMends 4 [l0, .int y, l2, l3, l4, l5] (.int x :: S) σ = exec d mX6_leastMends 5 [l0, .int y, .int x, l3, l4, l5] S σ) ∧
  (∀ (d : Nat) (σ : Sg) (S : List Value) (l0 l1 l2 l3 l4 l5 : Value), exec d mX6_leastMends 5 [l0, l1, l2, l3, l4, l5] S σ = exec d mX6_leastMends 6 [l0, l1, l2, l3, l4, l5] (.int (nI 0) :: S) σ) ∧
  (∀ (d : Nat) (σ : Sg) (S : List Value) (l0 l1 l3 l4 l5 : Value) (x y : Int32), exec d mX6_leastMends 6 [l0, l1, .int y, l3, l4, l5] (.int x :: S) σ = exec d mX6_leastMends 7 [l0, l1, .int y, .int x, l4, l5] S σ) ∧
  (∀ (d : Nat) (σ : Sg) (S : List Value) (l1 l2 l3 l4 l5 : Value) (k : Nat), exec d mX6_leastMends 8 [.ref k, l1, l2, l3, l4, l5] S σ = exec d mX6_leastMends 9 [.ref k, l1, l2, l3, l4, l5] (.ref k :: S) σ) ∧
  (∀ (d : Nat) (σ : Sg) (S : List Value) (l0 l1 l2 l3 l4 l5 : Value), exec d mX6_leastMends 9 [l0, l1, l2, l3, l4, l5] (.ref 0 :: S) σ = exec d mX6_leastMends 12 [l0, l1, l2, l3, l4, l5] (.ref 8 :: S) σ) ∧
  (∀ (d : Nat) (σ : Sg) (S : List Value) (l0 l1 l2 l3 l4 l5 : Value), exec d mX6_leastMends 12 [l0, l1, l2, l3, l4, l5] (.ref 8 :: S) σ = exec d mX6_leastMends 15 [l0, l1, l2, l3, l4, l5] (.int (σ 8 7) :: S) σ) ∧
  (∀ (d : Nat) (σ : Sg) (S : List Value) (l0 l1 l2 l3 l4 l5 : Value) (x y : Int32), exec d mX6_leastMends 15 [l0, l1, l2, l3, l4, l5] (.int y :: .int x :: S) σ = if y < x then exec d mX6_leastMends 126 [l0, l1, l2, l3, l4, l5] S σ else exec d mX6_leastMends 18 [l0, l1, l2, l3, l4, l5] S σ) ∧
  (∀ (d : Nat) (σ : Sg) (S : List Value) (l0 l1 l2 l4 l5 : Value) (x : Int32), exec d mX6_leastMends 18 [l0, l1, l2, .int x, l4, l5] S σ = exec d mX6_leastMends 19 [l0, l1, l2, .int x, l4, l5] (.int x :: S) σ) ∧
  (∀ (d : Nat) (σ : Sg) (l0 l1 l2 l3 l4 l5 : Value) (x0 : Int32), exec d mX6_leastMends 19 [l0, l1, l2, l3, l4, l5] [.int x0] σ = kb (cal d mJ6_bitCount_0f7a4 [.int x0] σ) (fun rs σ2 => exec d mX6_leastMends 22 [l0, l1, l2, l3, l4, l5] (rs ++ []) σ2)) ∧
  (∀ (d : Nat) (σ : Sg) (S : List Value) (l0 l1 l2 l4 l5 : Value) (x y : Int32), exec d mX6_leastMends 22 [l0, l1, l2, .int y, l4, l5] (.int x :: S) σ = exec d mX6_leastMends 24 [l0, l1, l2, .int y, .int x, l5] S σ) ∧
  (∀ (d : Nat) (σ : Sg) (S : List Value) (l0 l2 l3 l4 l5 : Value) (x : Int32), exec d mX6_leastMends 24 [l0, .int x, l2, l3, l4, l5] S σ = exec d mX6_leastMends 25 [l0, .int x, l2, l3, l4, l5] (.int x :: S) σ) ∧
  (∀ (d : Nat) (σ : Sg) (S : List Value) (l0 l1 l2 l3 l4 l5 : Value), exec d mX6_leastMends 25 [l0, l1, l2, l3, l4, l5] S σ = exec d mX6_leastMends 27 [l0, l1, l2, l3, l4, l5] (.int ((-1000000)) :: S) σ) ∧
  (∀ (d : Nat) (σ : Sg) (S : List Value) (l0 l1 l2 l3 l4 l5 : Value) (x y : Int32), exec d mX6_leastMends 27 [l0, l1, l2, l3, l4, l5] (.int y :: .int x :: S) σ = if x = y then exec d mX6_leastMends 36 [l0, l1, l2, l3, l4, l5] S σ else exec d mX6_leastMends 30 [l0, l1, l2, l3, l4, l5] S σ) ∧
  (∀ (d : Nat) (σ : Sg) (S : List Value) (l0 l1 l2 l3 l5 : Value) (x : Int32), exec d mX6_leastMends 30 [l0, l1, l2, l3, .int x, l5] S σ = exec d mX6_leastMends 32 [l0, l1, l2, l3, .int x, l5] (.int x :: S) σ) ∧
  (∀ (d : Nat) (σ : Sg) (S : List Value) (l0 l1 l3 l4 l5 : Value) (x : Int32), exec d mX6_leastMends 32 [l0, l1, .int x, l3, l4, l5] S σ = exec d mX6_leastMends 33 [l0, l1, .int x, l3, l4, l5] (.int x :: S) σ) ∧
  (∀ (d : Nat) (σ : Sg) (S : List Value) (l0 l1 l2 l3 l4 l5 : Value) (x y : Int32), exec d mX6_leastMends 33 [l0, l1, l2, l3, l4, l5] (.int y :: .int x :: S) σ = if y ≤ x then exec d mX6_leastMends 40 [l0, l1, l2, l3, l4, l5] S σ else exec d mX6_leastMends 36 [l0, l1, l2, l3, l4, l5] S σ) ∧
  (∀ (d : Nat) (σ : Sg) (S : List Value) (l0 l1 l2 l3 l4 l5 : Value), exec d mX6_leastMends 36 [l0, l1, l2, l3, l4, l5] S σ = exec d mX6_leastMends 37 [l0, l1, l2, l3, l4, l5] (.int (nI 1) :: S) σ) ∧
  (∀ (d : Nat) (σ : Sg) (S : List Value) (l0 l1 l2 l3 l4 l5 : Value), exec d mX6_leastMends 37 [l0, l1, l2, l3, l4, l5] S σ = exec d mX6_leastMends 41 [l0, l1, l2, l3, l4, l5] S σ) ∧
  (∀ (d : Nat) (σ : Sg) (S : List Value) (l0 l1 l2 l3 l4 l5 : Value), exec d mX6_leastMends 40 [l0, l1, l2, l3, l4, l5] S σ = exec d mX6_leastMends 41 [l0, l1, l2, l3, l4, l5] (.int (nI 0) :: S) σ) ∧
  (∀ (d : Nat) (σ : Sg) (S : List Value) (l0 l1 l2 l3 l5 : Value) (x y : Int32), exec d mX6_leastMends 41 [l0, l1, l2, l3, .int y, l5] (.int x :: S) σ = exec d mX6_leastMends 43 [l0, l1, l2, l3, .int y, .int x] S σ) ∧
  (∀ (d : Nat) (σ : Sg) (S : List Value) (l0 l1 l2 l3 l4 : Value) (x : Int32), exec d mX6_leastMends 43 [l0, l1, l2, l3, l4, .int x] S σ = exec d mX6_leastMends 45 [l0, l1, l2, l3, l4, .int x] (.int x :: S) σ) ∧
  (∀ (d : Nat) (σ : Sg) (S : List Value) (l0 l1 l2 l3 l4 l5 : Value) (x : Int32), exec d mX6_leastMends 45 [l0, l1, l2, l3, l4, l5] (.int x :: S) σ = if x = nI 0 then exec d mX6_leastMends 120 [l0, l1, l2, l3, l4, l5] S σ else exec d mX6_leastMends 48 [l0, l1, l2, l3, l4, l5] S σ) ∧
  (∀ (d : Nat) (σ : Sg) (S : List Value) (l0 l1 l2 l4 l5 : Value) (x : Int32), exec d mX6_leastMends 48 [l0, l1, l2, .int x, l4, l5] S σ = exec d mX6_leastMends 49 [l0, l1, l2, .int x, l4, l5] (.int x :: S) σ) ∧
  (∀ (d : Nat) (σ : Sg) (S : List Value) (l1 l2 l3 l4 l5 : Value) (k : Nat), exec d mX6_leastMends 49 [.ref k, l1, l2, l3, l4, l5] S σ = exec d mX6_leastMends 50 [.ref k, l1, l2, l3, l4, l5] (.ref k :: S) σ) ∧
  (∀ (d : Nat) (σ : Sg) (S : List Value) (l0 l1 l2 l3 l4 l5 : Value), exec d mX6_leastMends 50 [l0, l1, l2, l3, l4, l5] (.ref 0 :: S) σ = exec d mX6_leastMends 53 [l0, l1, l2, l3, l4, l5] (.ref 8 :: S) σ) ∧
  (∀ (d : Nat) (σ : Sg) (S : List Value) (l0 l1 l2 l3 l4 l5 : Value), exec d mX6_leastMends 53 [l0, l1, l2, l3, l4, l5] (.ref 8 :: S) σ = exec d mX6_leastMends 56 [l0, l1, l2, l3, l4, l5] (.int (σ 8 7) :: S) σ) ∧
  (∀ (d : Nat) (σ : Sg) (S : List Value) (l0 l1 l2 l3 l4 l5 : Value), exec d mX6_leastMends 56 [l0, l1, l2, l3, l4, l5] S σ = exec d mX6_leastMends 57 [l0, l1, l2, l3, l4, l5] (.int ((-1)) :: S) σ) ∧
  (∀ (d : Nat) (σ : Sg) (S : List Value) (l0 l1 l2 l3 l4 l5 : Value) (x y : Int32), exec d mX6_leastMends 57 [l0, l1, l2, l3, l4, l5] (.int y :: .int x :: S) σ = exec d mX6_leastMends 58 [l0, l1, l2, l3, l4, l5] (.int (x ^^^ y) :: S) σ) ∧
  (∀ (d : Nat) (σ : Sg) (S : List Value) (l0 l1 l2 l3 l4 l5 : Value) (x y : Int32), exec d mX6_leastMends 58 [l0, l1, l2, l3, l4, l5] (.int y :: .int x :: S) σ = exec d mX6_leastMends 59 [l0, l1, l2, l3, l4, l5] (.int (x &&& y) :: S) σ) ∧
  (∀ (d : Nat) (σ : Sg) (S : List Value) (l0 l1 l2 l3 l4 l5 : Value) (x : Int32), exec d mX6_leastMends 59 [l0, l1, l2, l3, l4, l5] (.int x :: S) σ = if x = nI 0 then exec d mX6_leastMends 62 [l0, l1, l2, l3, l4, l5] S σ else exec d mX6_leastMends 120 [l0, l1, l2, l3, l4, l5] S σ) ∧
  (∀ (d : Nat) (σ : Sg) (S : List Value) (l1 l2 l3 l4 l5 : Value) (k : Nat), exec d mX6_leastMends 62 [.ref k, l1, l2, l3, l4, l5] S σ = exec d mX6_leastMends 63 [.ref k, l1, l2, l3, l4, l5] (.ref k :: S) σ) ∧
  (∀ (d : Nat) (σ : Sg) (S : List Value) (l0 l1 l2 l3 l4 l5 : Value), exec d mX6_leastMends 63 [l0, l1, l2, l3, l4, l5] (.ref 0 :: S) σ = exec d mX6_leastMends 66 [l0, l1, l2, l3, l4, l5] (.ref 8 :: S) σ) ∧
  (∀ (d : Nat) (σ : Sg) (S : List Value) (l0 l1 l2 l4 l5 : Value) (x : Int32), exec d mX6_leastMends 66 [l0, l1, l2, .int x, l4, l5] S σ = exec d mX6_leastMends 67 [l0, l1, l2, .int x, l4, l5] (.int x :: S) σ) ∧
  (∀ (d : Nat) (σ : Sg) (l0 l1 l2 l3 l4 l5 : Value) (x0 : Int32), exec d mX6_leastMends 67 [l0, l1, l2, l3, l4, l5] [.int x0, .ref 8] σ = kb (cal d mX5_mendingDaysOf [.ref 8, .int x0] σ) (fun rs σ2 => exec d mX6_leastMends 70 [l0, l1, l2, l3, l4, l5] (rs ++ []) σ2)) ∧
  (∀ (d : Nat) (σ : Sg) (S : List Value) (l1 l2 l3 l4 l5 : Value) (k : Nat), exec d mX6_leastMends 70 [.ref k, l1, l2, l3, l4, l5] S σ = exec d mX6_leastMends 71 [.ref k, l1, l2, l3, l4, l5] (.ref k :: S) σ) ∧
  (∀ (d : Nat) (σ : Sg) (S : List Value) (l0 l1 l2 l3 l4 l5 : Value), exec d mX6_leastMends 71 [l0, l1, l2, l3, l4, l5] (.ref 0 :: S) σ = exec d mX6_leastMends 74 [l0, l1, l2, l3, l4, l5] (.ref 8 :: S) σ) ∧
  (∀ (d : Nat) (σ : Sg) (S : List Value) (l0 l1 l2 l3 l4 l5 : Value), exec d mX6_leastMends 74 [l0, l1, l2, l3, l4, l5] (.ref 8 :: S) σ = exec d mX6_leastMends 77 [l0, l1, l2, l3, l4, l5] (.int (σ 8 2) :: S) σ) :=
  ⟨fun d σ S l0 l1 l2 l3 l4 l5 => ex_ldc (hh := 593) (show decode mX6_leastMends.2.1 0 = .ok (.ldc 192, 2) by decide +kernel) (by decide +kernel),
  fun d σ S l1 l2 l3 l4 l5 k x => ex_istore_n (show decode mX6_leastMends.2.1 2 = .ok (.istore_n 1, 1) by decide +kernel) (Nat.le_of_ble_eq_true rfl) rfl,
  fun d σ S l0 l1 l2 l3 l4 l5 => ex_iconst (show decode mX6_leastMends.2.1 3 = .ok (.iconst 0, 1) by decide +kernel) (by decide +kernel),
  fun d σ S l0 l2 l3 l4 l5 x y => ex_istore_n (show decode mX6_leastMends.2.1 4 = .ok (.istore_n 2, 1) by decide +kernel) (Nat.le_of_ble_eq_true rfl) rfl,
  fun d σ S l0 l1 l2 l3 l4 l5 => ex_iconst (show decode mX6_leastMends.2.1 5 = .ok (.iconst 0, 1) by decide +kernel) (by decide +kernel),
  fun d σ S l0 l1 l3 l4 l5 x y => ex_istore_n (show decode mX6_leastMends.2.1 6 = .ok (.istore_n 3, 1) by decide +kernel) (Nat.le_of_ble_eq_true rfl) rfl,
  fun d σ S l1 l2 l3 l4 l5 k => ex_aload_n (show decode mX6_leastMends.2.1 8 = .ok (.aload_n 0, 1) by decide +kernel) rfl,
  fun d σ S l0 l1 l2 l3 l4 l5 => ex_getr (idx := 26) (ci := 6) (ff := 2) (n := 11) (hh := 348) (by decide +kernel),
  fun d σ S l0 l1 l2 l3 l4 l5 => ex_get (idx := 151) (ci := 5) (ff := 7) (n := 17) (hh := 212) (by decide +kernel),
  fun d σ S l0 l1 l2 l3 l4 l5 x y => ex_cgt (show decode mX6_leastMends.2.1 15 = .ok (.if_icmp .gt 111, 3) by decide +kernel) (by decide),
  fun d σ S l0 l1 l2 l4 l5 x => ex_iload_n (show decode mX6_leastMends.2.1 18 = .ok (.iload_n 3, 1) by decide +kernel) rfl,
  fun d σ l0 l1 l2 l3 l4 l5 x0 => ex_is (hs := [676, 605, 606, 104]) (show decode mX6_leastMends.2.1 19 = .ok (.invokestatic 246, 3) by decide +kernel) lkS_6_246 ⟨rfl, Nat.le_of_ble_eq_true rfl, Nat.le_of_ble_eq_true rfl, fun q => nomatch q⟩ rfl rfl,
  fun d σ S l0 l1 l2 l4 l5 x y => ex_istore (show decode mX6_leastMends.2.1 22 = .ok (.istore 4, 2) by decide +kernel) (Nat.le_of_ble_eq_true rfl) rfl,
  fun d σ S l0 l2 l3 l4 l5 x => ex_iload_n (show decode mX6_leastMends.2.1 24 = .ok (.iload_n 1, 1) by decide +kernel) rfl,
  fun d σ S l0 l1 l2 l3 l4 l5 => ex_ldc (hh := 593) (show decode mX6_leastMends.2.1 25 = .ok (.ldc 192, 2) by decide +kernel) (by decide +kernel),
  fun d σ S l0 l1 l2 l3 l4 l5 x y => ex_ceq (show decode mX6_leastMends.2.1 27 = .ok (.if_icmp .eq 9, 3) by decide +kernel) (by decide),
  fun d σ S l0 l1 l2 l3 l5 x => ex_iload (show decode mX6_leastMends.2.1 30 = .ok (.iload 4, 2) by decide +kernel) rfl,
  fun d σ S l0 l1 l3 l4 l5 x => ex_iload_n (show decode mX6_leastMends.2.1 32 = .ok (.iload_n 2, 1) by decide +kernel) rfl,
  fun d σ S l0 l1 l2 l3 l4 l5 x y => ex_cge (show decode mX6_leastMends.2.1 33 = .ok (.if_icmp .ge 7, 3) by decide +kernel) (by decide),
  fun d σ S l0 l1 l2 l3 l4 l5 => ex_iconst (show decode mX6_leastMends.2.1 36 = .ok (.iconst 1, 1) by decide +kernel) (by decide +kernel),
  fun d σ S l0 l1 l2 l3 l4 l5 => ex_goto (show decode mX6_leastMends.2.1 37 = .ok (.goto 4, 3) by decide +kernel) (by decide),
  fun d σ S l0 l1 l2 l3 l4 l5 => ex_iconst (show decode mX6_leastMends.2.1 40 = .ok (.iconst 0, 1) by decide +kernel) (by decide +kernel),
  fun d σ S l0 l1 l2 l3 l5 x y => ex_istore (show decode mX6_leastMends.2.1 41 = .ok (.istore 5, 2) by decide +kernel) (Nat.le_of_ble_eq_true rfl) rfl,
  fun d σ S l0 l1 l2 l3 l4 x => ex_iload (show decode mX6_leastMends.2.1 43 = .ok (.iload 5, 2) by decide +kernel) rfl,
  fun d σ S l0 l1 l2 l3 l4 l5 x => ex_zeq (show decode mX6_leastMends.2.1 45 = .ok (.ifCond .eq 75, 3) by decide +kernel) (by decide),
  fun d σ S l0 l1 l2 l4 l5 x => ex_iload_n (show decode mX6_leastMends.2.1 48 = .ok (.iload_n 3, 1) by decide +kernel) rfl,
  fun d σ S l1 l2 l3 l4 l5 k => ex_aload_n (show decode mX6_leastMends.2.1 49 = .ok (.aload_n 0, 1) by decide +kernel) rfl,
  fun d σ S l0 l1 l2 l3 l4 l5 => ex_getr (idx := 26) (ci := 6) (ff := 2) (n := 11) (hh := 348) (by decide +kernel),
  fun d σ S l0 l1 l2 l3 l4 l5 => ex_get (idx := 151) (ci := 5) (ff := 7) (n := 17) (hh := 212) (by decide +kernel),
  fun d σ S l0 l1 l2 l3 l4 l5 => ex_iconst (show decode mX6_leastMends.2.1 56 = .ok (.iconst (-1), 1) by decide +kernel) (by decide +kernel),
  fun d σ S l0 l1 l2 l3 l4 l5 x y => ex_ixor (show decode mX6_leastMends.2.1 57 = .ok (.ixor, 1) by decide +kernel),
  fun d σ S l0 l1 l2 l3 l4 l5 x y => ex_iand (show decode mX6_leastMends.2.1 58 = .ok (.iand, 1) by decide +kernel),
  fun d σ S l0 l1 l2 l3 l4 l5 x => ex_zne (show decode mX6_leastMends.2.1 59 = .ok (.ifCond .ne 61, 3) by decide +kernel) (by decide),
  fun d σ S l1 l2 l3 l4 l5 k => ex_aload_n (show decode mX6_leastMends.2.1 62 = .ok (.aload_n 0, 1) by decide +kernel) rfl,
  fun d σ S l0 l1 l2 l3 l4 l5 => ex_getr (idx := 26) (ci := 6) (ff := 2) (n := 11) (hh := 348) (by decide +kernel),
  fun d σ S l0 l1 l2 l4 l5 x => ex_iload_n (show decode mX6_leastMends.2.1 66 = .ok (.iload_n 3, 1) by decide +kernel) rfl,
  fun d σ l0 l1 l2 l3 l4 l5 x0 => ex_iv (hs := [690, 692, 42, 693, 97]) (show decode mX6_leastMends.2.1 67 = .ok (.invokevirtual 335, 3) by decide +kernel) lkV_6_335 ⟨rfl, Nat.le_of_ble_eq_true rfl, Nat.le_of_ble_eq_true rfl, fun _ => rfl⟩ rfl rfl,
  fun d σ S l1 l2 l3 l4 l5 k => ex_aload_n (show decode mX6_leastMends.2.1 70 = .ok (.aload_n 0, 1) by decide +kernel) rfl,
  fun d σ S l0 l1 l2 l3 l4 l5 => ex_getr (idx := 26) (ci := 6) (ff := 2) (n := 11) (hh := 348) (by decide +kernel),
  fun d σ S l0 l1 l2 l3 l4 l5 => ex_get (idx := 158) (ci := 5) (ff := 2) (n := 17) (hh := 192) (by decide +kernel)⟩
theorem kX6_leastMends_1 : (∀ (d : Nat) (σ : Sg) (S : List Value) (l0 l1 l2 l3 l4 l5 : Value) (x y : Int32), exec d mX6_leastMends 77 [l0, l1, l2, l3, l4, l5] (.int y :: .int x :: S) σ = if y < x then exec d mX6_leastMends 120 [l0, l1, l2, l3, l4, l5] S σ else exec d mX6_leastMends 80 [l0, l1, l2, l3, l4, l5] S σ) ∧
  (∀ (d : Nat) (σ : Sg) (S : List Value) (l1 l2 l3 l4 l5 : Value) (k : Nat), exec d mX6_leastMends 80 [.ref k, l1, l2, l3, l4, l5] S σ = exec d mX6_leastMends 81 [.ref k, l1, l2, l3, l4, l5] (.ref k :: S) σ) ∧
  (∀ (d : Nat) (σ : Sg) (S : List Value) (l0 l1 l2 l3 l4 l5 : Value), exec d mX6_leastMends 81 [l0, l1, l2, l3, l4, l5] (.ref 0 :: S) σ = exec d mX6_leastMends 84 [l0, l1, l2, l3, l4, l5] (.ref 8 :: S) σ) ∧
  (∀ (d : Nat) (σ : Sg) (S : List Value) (l1 l2 l3 l4 l5 : Value) (k : Nat), exec d mX6_leastMends 84 [.ref k, l1, l2, l3, l4, l5] S σ = exec d mX6_leastMends 85 [.ref k, l1, l2, l3, l4, l5] (.ref k :: S) σ) ∧
  (∀ (d : Nat) (σ : Sg) (S : List Value) (l0 l1 l2 l3 l4 l5 : Value), exec d mX6_leastMends 85 [l0, l1, l2, l3, l4, l5] (.ref 0 :: S) σ = exec d mX6_leastMends 88 [l0, l1, l2, l3, l4, l5] (.ref 8 :: S) σ) ∧
  (∀ (d : Nat) (σ : Sg) (S : List Value) (l1 l2 l3 l4 l5 : Value) (k : Nat), exec d mX6_leastMends 88 [.ref k, l1, l2, l3, l4, l5] S σ = exec d mX6_leastMends 89 [.ref k, l1, l2, l3, l4, l5] (.ref k :: S) σ) ∧
  (∀ (d : Nat) (σ : Sg) (S : List Value) (l0 l1 l2 l3 l4 l5 : Value), exec d mX6_leastMends 89 [l0, l1, l2, l3, l4, l5] (.ref 0 :: S) σ = exec d mX6_leastMends 92 [l0, l1, l2, l3, l4, l5] (.ref 8 :: S) σ) ∧
  (∀ (d : Nat) (σ : Sg) (S : List Value) (l0 l1 l2 l3 l4 l5 : Value), exec d mX6_leastMends 92 [l0, l1, l2, l3, l4, l5] (.ref 8 :: S) σ = exec d mX6_leastMends 95 [l0, l1, l2, l3, l4, l5] (.int (σ 8 7) :: S) σ) ∧
  (∀ (d : Nat) (σ : Sg) (S : List Value) (l0 l1 l2 l4 l5 : Value) (x : Int32), exec d mX6_leastMends 95 [l0, l1, l2, .int x, l4, l5] S σ = exec d mX6_leastMends 96 [l0, l1, l2, .int x, l4, l5] (.int x :: S) σ) ∧
  (∀ (d : Nat) (σ : Sg) (S : List Value) (l0 l1 l2 l3 l4 l5 : Value), exec d mX6_leastMends 96 [l0, l1, l2, l3, l4, l5] S σ = exec d mX6_leastMends 97 [l0, l1, l2, l3, l4, l5] (.int ((-1)) :: S) σ) ∧
  (∀ (d : Nat) (σ : Sg) (S : List Value) (l0 l1 l2 l3 l4 l5 : Value) (x y : Int32), exec d mX6_leastMends 97 [l0, l1, l2, l3, l4, l5] (.int y :: .int x :: S) σ = exec d mX6_leastMends 98 [l0, l1, l2, l3, l4, l5] (.int (x ^^^ y) :: S) σ) ∧
  (∀ (d : Nat) (σ : Sg) (S : List Value) (l0 l1 l2 l3 l4 l5 : Value) (x y : Int32), exec d mX6_leastMends 98 [l0, l1, l2, l3, l4, l5] (.int y :: .int x :: S) σ = exec d mX6_leastMends 99 [l0, l1, l2, l3, l4, l5] (.int (x &&& y) :: S) σ) ∧
  (∀ (d : Nat) (σ : Sg) (S : List Value) (l1 l2 l3 l4 l5 : Value) (k : Nat), exec d mX6_leastMends 99 [.ref k, l1, l2, l3, l4, l5] S σ = exec d mX6_leastMends 100 [.ref k, l1, l2, l3, l4, l5] (.ref k :: S) σ) ∧
  (∀ (d : Nat) (σ : Sg) (S : List Value) (l0 l1 l2 l3 l4 l5 : Value), exec d mX6_leastMends 100 [l0, l1, l2, l3, l4, l5] (.ref 0 :: S) σ = exec d mX6_leastMends 103 [l0, l1, l2, l3, l4, l5] (.ref 8 :: S) σ) ∧
  (∀ (d : Nat) (σ : Sg) (S : List Value) (l0 l1 l2 l3 l4 l5 : Value), exec d mX6_leastMends 103 [l0, l1, l2, l3, l4, l5] (.ref 8 :: S) σ = exec d mX6_leastMends 106 [l0, l1, l2, l3, l4, l5] (.int (σ 8 8) :: S) σ) ∧
  (∀ (d : Nat) (σ : Sg) (l0 l1 l2 l3 l4 l5 : Value) (x0 x1 : Int32), exec d mX6_leastMends 106 [l0, l1, l2, l3, l4, l5] [.int x0, .int x1, .ref 8, .ref 8] σ = kb (cal d mX5_votes [.ref 8, .int x1, .int x0] σ) (fun rs σ2 => exec d mX6_leastMends 109 [l0, l1, l2, l3, l4, l5] (rs ++ [.ref 8]) σ2)) ∧
  (∀ (d : Nat) (σ : Sg) (l0 l1 l2 l3 l4 l5 : Value) (x0 : Int32), exec d mX6_leastMends 109 [l0, l1, l2, l3, l4, l5] [.int x0, .ref 8] σ = kb (cal d mX5_wins [.ref 8, .int x0] σ) (fun rs σ2 => exec d mX6_leastMends 112 [l0, l1, l2, l3, l4, l5] (rs ++ []) σ2)) ∧
  (∀ (d : Nat) (σ : Sg) (S : List Value) (l0 l1 l2 l3 l4 l5 : Value) (x : Int32), exec d mX6_leastMends 112 [l0, l1, l2, l3, l4, l5] (.int x :: S) σ = if x = nI 0 then exec d mX6_leastMends 120 [l0, l1, l2, l3, l4, l5] S σ else exec d mX6_leastMends 115 [l0, l1, l2, l3, l4, l5] S σ) ∧
  (∀ (d : Nat) (σ : Sg) (S : List Value) (l0 l1 l2 l4 l5 : Value) (x : Int32), exec d mX6_leastMends 115 [l0, l1, l2, .int x, l4, l5] S σ = exec d mX6_leastMends 116 [l0, l1, l2, .int x, l4, l5] (.int x :: S) σ) ∧
  (∀ (d : Nat) (σ : Sg) (S : List Value) (l1 l2 l3 l4 l5 : Value) (k : Nat) (x : Int32), exec d mX6_leastMends 116 [.ref k, l1, l2, l3, l4, l5] (.int x :: S) σ = exec d mX6_leastMends 117 [.ref k, .int x, l2, l3, l4, l5] S σ) ∧
  (∀ (d : Nat) (σ : Sg) (S : List Value) (l0 l1 l2 l3 l5 : Value) (x : Int32), exec d mX6_leastMends 117 [l0, l1, l2, l3, .int x, l5] S σ = exec d mX6_leastMends 119 [l0, l1, l2, l3, .int x, l5] (.int x :: S) σ) ∧
  (∀ (d : Nat) (σ : Sg) (S : List Value) (l0 l2 l3 l4 l5 : Value) (x y : Int32), exec d mX6_leastMends 119 [l0, .int y, l2, l3, l4, l5] (.int x :: S) σ = exec d mX6_leastMends 120 [l0, .int y, .int x, l3, l4, l5] S σ) ∧
  (∀ (d : Nat) (σ : Sg) (S : List Value) (l0 l1 l4 l5 : Value) (x y : Int32), exec d mX6_leastMends 120 [l0, l1, .int y, .int x, l4, l5] S σ = exec d mX6_leastMends 123 [l0, l1, .int y, .int (x + nI 1), l4, l5] S σ) ∧
  (∀ (d : Nat) (σ : Sg) (S : List Value) (l0 l1 l2 l3 l4 l5 : Value), exec d mX6_leastMends 123 [l0, l1, l2, l3, l4, l5] S σ = exec d mX6_leastMends 7 [l0, l1, l2, l3, l4, l5] S σ) ∧
  (∀ (d : Nat) (σ : Sg) (S : List Value) (l0 l2 l3 l4 l5 : Value) (x : Int32), exec d mX6_leastMends 126 [l0, .int x, l2, l3, l4, l5] S σ = exec d mX6_leastMends 127 [l0, .int x, l2, l3, l4, l5] (.int x :: S) σ) ∧
  (∀ (d : Nat) (σ : Sg) (l0 l1 l2 l3 l4 l5 : Value) (x : Int32), exec d mX6_leastMends 127 [l0, l1, l2, l3, l4, l5] [.int x] σ = some (some (.int x), σ)) :=
  ⟨fun d σ S l0 l1 l2 l3 l4 l5 x y => ex_cgt (show decode mX6_leastMends.2.1 77 = .ok (.if_icmp .gt 43, 3) by decide +kernel) (by decide),
  fun d σ S l1 l2 l3 l4 l5 k => ex_aload_n (show decode mX6_leastMends.2.1 80 = .ok (.aload_n 0, 1) by decide +kernel) rfl,
  fun d σ S l0 l1 l2 l3 l4 l5 => ex_getr (idx := 26) (ci := 6) (ff := 2) (n := 11) (hh := 348) (by decide +kernel),
  fun d σ S l1 l2 l3 l4 l5 k => ex_aload_n (show decode mX6_leastMends.2.1 84 = .ok (.aload_n 0, 1) by decide +kernel) rfl,
  fun d σ S l0 l1 l2 l3 l4 l5 => ex_getr (idx := 26) (ci := 6) (ff := 2) (n := 11) (hh := 348) (by decide +kernel),
  fun d σ S l1 l2 l3 l4 l5 k => ex_aload_n (show decode mX6_leastMends.2.1 88 = .ok (.aload_n 0, 1) by decide +kernel) rfl,
  fun d σ S l0 l1 l2 l3 l4 l5 => ex_getr (idx := 26) (ci := 6) (ff := 2) (n := 11) (hh := 348) (by decide +kernel),
  fun d σ S l0 l1 l2 l3 l4 l5 => ex_get (idx := 151) (ci := 5) (ff := 7) (n := 17) (hh := 212) (by decide +kernel),
  fun d σ S l0 l1 l2 l4 l5 x => ex_iload_n (show decode mX6_leastMends.2.1 95 = .ok (.iload_n 3, 1) by decide +kernel) rfl,
  fun d σ S l0 l1 l2 l3 l4 l5 => ex_iconst (show decode mX6_leastMends.2.1 96 = .ok (.iconst (-1), 1) by decide +kernel) (by decide +kernel),
  fun d σ S l0 l1 l2 l3 l4 l5 x y => ex_ixor (show decode mX6_leastMends.2.1 97 = .ok (.ixor, 1) by decide +kernel),
  fun d σ S l0 l1 l2 l3 l4 l5 x y => ex_iand (show decode mX6_leastMends.2.1 98 = .ok (.iand, 1) by decide +kernel),
  fun d σ S l1 l2 l3 l4 l5 k => ex_aload_n (show decode mX6_leastMends.2.1 99 = .ok (.aload_n 0, 1) by decide +kernel) rfl,
  fun d σ S l0 l1 l2 l3 l4 l5 => ex_getr (idx := 26) (ci := 6) (ff := 2) (n := 11) (hh := 348) (by decide +kernel),
  fun d σ S l0 l1 l2 l3 l4 l5 => ex_get (idx := 167) (ci := 5) (ff := 8) (n := 17) (hh := 215) (by decide +kernel),
  fun d σ l0 l1 l2 l3 l4 l5 x0 x1 => ex_iv (hs := [610, 612, 31, 613, 97]) (show decode mX6_leastMends.2.1 106 = .ok (.invokevirtual 215, 3) by decide +kernel) lkV_6_215 ⟨rfl, Nat.le_of_ble_eq_true rfl, Nat.le_of_ble_eq_true rfl, fun _ => rfl⟩ rfl rfl,
  fun d σ l0 l1 l2 l3 l4 l5 x0 => ex_iv (hs := [681, 626, 33, 627, 97]) (show decode mX6_leastMends.2.1 109 = .ok (.invokevirtual 254, 3) by decide +kernel) lkV_6_254 ⟨rfl, Nat.le_of_ble_eq_true rfl, Nat.le_of_ble_eq_true rfl, fun _ => rfl⟩ rfl rfl,
  fun d σ S l0 l1 l2 l3 l4 l5 x => ex_zeq (show decode mX6_leastMends.2.1 112 = .ok (.ifCond .eq 8, 3) by decide +kernel) (by decide),
  fun d σ S l0 l1 l2 l4 l5 x => ex_iload_n (show decode mX6_leastMends.2.1 115 = .ok (.iload_n 3, 1) by decide +kernel) rfl,
  fun d σ S l1 l2 l3 l4 l5 k x => ex_istore_n (show decode mX6_leastMends.2.1 116 = .ok (.istore_n 1, 1) by decide +kernel) (Nat.le_of_ble_eq_true rfl) rfl,
  fun d σ S l0 l1 l2 l3 l5 x => ex_iload (show decode mX6_leastMends.2.1 117 = .ok (.iload 4, 2) by decide +kernel) rfl,
  fun d σ S l0 l2 l3 l4 l5 x y => ex_istore_n (show decode mX6_leastMends.2.1 119 = .ok (.istore_n 2, 1) by decide +kernel) (Nat.le_of_ble_eq_true rfl) rfl,
  fun d σ S l0 l1 l4 l5 x y => ex_iinc (show decode mX6_leastMends.2.1 120 = .ok (.iinc 3 1, 3) by decide +kernel) rfl (by decide +kernel) (Nat.le_of_ble_eq_true rfl) rfl,
  fun d σ S l0 l1 l2 l3 l4 l5 => ex_goto (show decode mX6_leastMends.2.1 123 = .ok (.goto (-116), 3) by decide +kernel) (by decide),
  fun d σ S l0 l2 l3 l4 l5 x => ex_iload_n (show decode mX6_leastMends.2.1 126 = .ok (.iload_n 1, 1) by decide +kernel) rfl,
  fun d σ l0 l1 l2 l3 l4 l5 x => ex_iret (show decode mX6_leastMends.2.1 127 = .ok (.ireturn, 1) by decide +kernel) rfl⟩
theorem hX6_leastMends_7 : ∀ (d : Nat) (σ : Sg) (S : List Value) (l0 l1 l2 l4 l5 : Value) (x : Int32), exec d mX6_leastMends 7 [l0, l1, l2, .int x, l4, l5] S σ = exec d mX6_leastMends 8 [l0, l1, l2, .int x, l4, l5] (.int x :: S) σ := fun d σ S l0 l1 l2 l4 l5 x => ex_iload_n (show decode mX6_leastMends.2.1 7 = .ok (.iload_n 3, 1) by decide +kernel) rfl
theorem aX6_leastMends_0 : ∀ (d : Nat)  (σ : Sg), cal (d + 1) mX6_leastMends [.ref 0] σ = exec d mX6_leastMends 0 [.ref 0, uu, uu, uu, uu, uu] [] σ := fun _ _ => rfl
theorem kX6_isFoundAsTold : (∀ (d : Nat) (σ : Sg) (S : List Value) (l0 l1 l2 l3 l4 : Value), exec d mX6_isFoundAsTold 0 [l0, l1, l2, l3, l4] S σ = exec d mX6_isFoundAsTold 1 [l0, l1, l2, l3, l4] (.int (nI 0) :: S) σ) ∧
  (∀ (d : Nat) (σ : Sg) (S : List Value) (l0 l1 l2 l4 : Value) (x y : Int32), exec d mX6_isFoundAsTold 1 [l0, l1, l2, .int y, l4] (.int x :: S) σ = exec d mX6_isFoundAsTold 3 [l0, l1, l2, .int y, .int x] S σ) ∧
  (∀ (d : Nat) (σ : Sg) (S : List Value) (l1 l2 l3 l4 : Value) (k : Nat), exec d mX6_isFoundAsTold 5 [.ref k, l1, l2, l3, l4] S σ = exec d mX6_isFoundAsTold 6 [.ref k, l1, l2, l3, l4] (.ref k :: S) σ) ∧
  (∀ (d : Nat) (σ : Sg) (S : List Value) (l0 l1 l2 l3 l4 : Value), exec d mX6_isFoundAsTold 6 [l0, l1, l2, l3, l4] (.ref 0 :: S) σ = exec d mX6_isFoundAsTold 9 [l0, l1, l2, l3, l4] (.ref 8 :: S) σ) ∧
  (∀ (d : Nat) (σ : Sg) (S : List Value) (l0 l1 l2 l3 l4 : Value), exec d mX6_isFoundAsTold 9 [l0, l1, l2, l3, l4] (.ref 8 :: S) σ = exec d mX6_isFoundAsTold 12 [l0, l1, l2, l3, l4] (.int (σ 8 5) :: S) σ) ∧
  (∀ (d : Nat) (σ : Sg) (S : List Value) (l0 l1 l2 l3 l4 : Value) (x y : Int32), exec d mX6_isFoundAsTold 12 [l0, l1, l2, l3, l4] (.int y :: .int x :: S) σ = if y ≤ x then exec d mX6_isFoundAsTold 48 [l0, l1, l2, l3, l4] S σ else exec d mX6_isFoundAsTold 15 [l0, l1, l2, l3, l4] S σ) ∧
  (∀ (d : Nat) (σ : Sg) (S : List Value) (l1 l2 l3 l4 : Value) (k : Nat), exec d mX6_isFoundAsTold 15 [.ref k, l1, l2, l3, l4] S σ = exec d mX6_isFoundAsTold 16 [.ref k, l1, l2, l3, l4] (.ref k :: S) σ) ∧
  (∀ (d : Nat) (σ : Sg) (S : List Value) (l0 l1 l2 l3 l4 : Value), exec d mX6_isFoundAsTold 16 [l0, l1, l2, l3, l4] (.ref 0 :: S) σ = exec d mX6_isFoundAsTold 19 [l0, l1, l2, l3, l4] (.ref 8 :: S) σ) ∧
  (∀ (d : Nat) (σ : Sg) (S : List Value) (l0 l1 l2 l3 : Value) (x : Int32), exec d mX6_isFoundAsTold 19 [l0, l1, l2, l3, .int x] S σ = exec d mX6_isFoundAsTold 21 [l0, l1, l2, l3, .int x] (.int x :: S) σ) ∧
  (∀ (d : Nat) (σ : Sg) (S : List Value) (l0 l1 l2 l4 : Value) (x : Int32), exec d mX6_isFoundAsTold 21 [l0, l1, l2, .int x, l4] S σ = exec d mX6_isFoundAsTold 22 [l0, l1, l2, .int x, l4] (.int x :: S) σ) ∧
  (∀ (d : Nat) (σ : Sg) (l0 l1 l2 l3 l4 : Value) (x0 x1 : Int32), exec d mX6_isFoundAsTold 22 [l0, l1, l2, l3, l4] [.int x0, .int x1, .ref 8] σ = kb (cal d mX5_finds [.ref 8, .int x1, .int x0] σ) (fun rs σ2 => exec d mX6_isFoundAsTold 25 [l0, l1, l2, l3, l4] (rs ++ []) σ2)) ∧
  (∀ (d : Nat) (σ : Sg) (S : List Value) (l1 l2 l3 l4 : Value) (k : Nat), exec d mX6_isFoundAsTold 25 [.ref k, l1, l2, l3, l4] S σ = exec d mX6_isFoundAsTold 26 [.ref k, l1, l2, l3, l4] (.ref k :: S) σ) ∧
  (∀ (d : Nat) (σ : Sg) (S : List Value) (l0 l1 l2 l3 l4 : Value), exec d mX6_isFoundAsTold 26 [l0, l1, l2, l3, l4] (.ref 0 :: S) σ = exec d mX6_isFoundAsTold 29 [l0, l1, l2, l3, l4] (.ref 1 :: S) σ) ∧
  (∀ (d : Nat) (σ : Sg) (S : List Value) (l0 l2 l3 l4 : Value) (x : Int32), exec d mX6_isFoundAsTold 29 [l0, .int x, l2, l3, l4] S σ = exec d mX6_isFoundAsTold 30 [l0, .int x, l2, l3, l4] (.int x :: S) σ) ∧
  (∀ (d : Nat) (σ : Sg) (S : List Value) (l0 l1 l3 l4 : Value) (x : Int32), exec d mX6_isFoundAsTold 30 [l0, l1, .int x, l3, l4] S σ = exec d mX6_isFoundAsTold 31 [l0, l1, .int x, l3, l4] (.int x :: S) σ) ∧
  (∀ (d : Nat) (σ : Sg) (S : List Value) (l0 l1 l2 l3 : Value) (x : Int32), exec d mX6_isFoundAsTold 31 [l0, l1, l2, l3, .int x] S σ = exec d mX6_isFoundAsTold 33 [l0, l1, l2, l3, .int x] (.int x :: S) σ) ∧
  (∀ (d : Nat) (σ : Sg) (S : List Value) (l0 l1 l2 l3 l4 : Value) (x y : Int32), exec d mX6_isFoundAsTold 33 [l0, l1, l2, l3, l4] (.int y :: .int x :: S) σ = exec d mX6_isFoundAsTold 34 [l0, l1, l2, l3, l4] (.int (x + y) :: S) σ) ∧
  (∀ (d : Nat) (σ : Sg) (l0 l1 l2 l3 l4 : Value) (x0 x1 x3 : Int32), exec d mX6_isFoundAsTold 34 [l0, l1, l2, l3, l4] [.int x0, .int x1, .ref 1, .int x3] σ = kb (cal d mX3_item [.ref 1, .int x1, .int x0] σ) (fun rs σ2 => exec d mX6_isFoundAsTold 37 [l0, l1, l2, l3, l4] (rs ++ [.int x3]) σ2)) ∧
  (∀ (d : Nat) (σ : Sg) (S : List Value) (l0 l1 l2 l3 l4 : Value) (x y : Int32), exec d mX6_isFoundAsTold 37 [l0, l1, l2, l3, l4] (.int y :: .int x :: S) σ = if x = y then exec d mX6_isFoundAsTold 42 [l0, l1, l2, l3, l4] S σ else exec d mX6_isFoundAsTold 40 [l0, l1, l2, l3, l4] S σ) ∧
  (∀ (d : Nat) (σ : Sg) (S : List Value) (l0 l1 l2 l3 l4 : Value), exec d mX6_isFoundAsTold 40 [l0, l1, l2, l3, l4] S σ = exec d mX6_isFoundAsTold 41 [l0, l1, l2, l3, l4] (.int (nI 0) :: S) σ) ∧
  (∀ (d : Nat) (σ : Sg) (l0 l1 l2 l3 l4 : Value) (x : Int32), exec d mX6_isFoundAsTold 41 [l0, l1, l2, l3, l4] [.int x] σ = if b01 x = true then some (some (.int x), σ) else none) ∧
  (∀ (d : Nat) (σ : Sg) (S : List Value) (l0 l1 l2 : Value) (x y : Int32), exec d mX6_isFoundAsTold 42 [l0, l1, l2, .int y, .int x] S σ = exec d mX6_isFoundAsTold 45 [l0, l1, l2, .int y, .int (x + nI 1)] S σ) ∧
  (∀ (d : Nat) (σ : Sg) (S : List Value) (l0 l1 l2 l3 l4 : Value), exec d mX6_isFoundAsTold 45 [l0, l1, l2, l3, l4] S σ = exec d mX6_isFoundAsTold 3 [l0, l1, l2, l3, l4] S σ) ∧
  (∀ (d : Nat) (σ : Sg) (S : List Value) (l0 l1 l2 l3 l4 : Value), exec d mX6_isFoundAsTold 48 [l0, l1, l2, l3, l4] S σ = exec d mX6_isFoundAsTold 49 [l0, l1, l2, l3, l4] (.int (nI 1) :: S) σ) ∧
  (∀ (d : Nat) (σ : Sg) (l0 l1 l2 l3 l4 : Value) (x : Int32), exec d mX6_isFoundAsTold 49 [l0, l1, l2, l3, l4] [.int x] σ = if b01 x = true then some (some (.int x), σ) else none) :=
  ⟨fun d σ S l0 l1 l2 l3 l4 => ex_iconst (show decode mX6_isFoundAsTold.2.1 0 = .ok (.iconst 0, 1) by decide +kernel) (by decide +kernel),
  fun d σ S l0 l1 l2 l4 x y => ex_istore (show decode mX6_isFoundAsTold.2.1 1 = .ok (.istore 4, 2) by decide +kernel) (Nat.le_of_ble_eq_true rfl) rfl,
  fun d σ S l1 l2 l3 l4 k => ex_aload_n (show decode mX6_isFoundAsTold.2.1 5 = .ok (.aload_n 0, 1) by decide +kernel) rfl,
  fun d σ S l0 l1 l2 l3 l4 => ex_getr (idx := 26) (ci := 6) (ff := 2) (n := 11) (hh := 348) (by decide +kernel),
  fun d σ S l0 l1 l2 l3 l4 => ex_get (idx := 257) (ci := 5) (ff := 5) (n := 17) (hh := 204) (by decide +kernel),
  fun d σ S l0 l1 l2 l3 l4 x y => ex_cge (show decode mX6_isFoundAsTold.2.1 12 = .ok (.if_icmp .ge 36, 3) by decide +kernel) (by decide),
  fun d σ S l1 l2 l3 l4 k => ex_aload_n (show decode mX6_isFoundAsTold.2.1 15 = .ok (.aload_n 0, 1) by decide +kernel) rfl,
  fun d σ S l0 l1 l2 l3 l4 => ex_getr (idx := 26) (ci := 6) (ff := 2) (n := 11) (hh := 348) (by decide +kernel),
  fun d σ S l0 l1 l2 l3 x => ex_iload (show decode mX6_isFoundAsTold.2.1 19 = .ok (.iload 4, 2) by decide +kernel) rfl,
  fun d σ S l0 l1 l2 l4 x => ex_iload_n (show decode mX6_isFoundAsTold.2.1 21 = .ok (.iload_n 3, 1) by decide +kernel) rfl,
  fun d σ l0 l1 l2 l3 l4 x0 x1 => ex_iv (hs := [600, 602, 30, 603, 97]) (show decode mX6_isFoundAsTold.2.1 22 = .ok (.invokevirtual 212, 3) by decide +kernel) lkV_6_212 ⟨rfl, Nat.le_of_ble_eq_true rfl, Nat.le_of_ble_eq_true rfl, fun _ => rfl⟩ rfl rfl,
  fun d σ S l1 l2 l3 l4 k => ex_aload_n (show decode mX6_isFoundAsTold.2.1 25 = .ok (.aload_n 0, 1) by decide +kernel) rfl,
  fun d σ S l0 l1 l2 l3 l4 => ex_getr (idx := 10) (ci := 6) (ff := 0) (n := 11) (hh := 346) (by decide +kernel),
  fun d σ S l0 l2 l3 l4 x => ex_iload_n (show decode mX6_isFoundAsTold.2.1 29 = .ok (.iload_n 1, 1) by decide +kernel) rfl,
  fun d σ S l0 l1 l3 l4 x => ex_iload_n (show decode mX6_isFoundAsTold.2.1 30 = .ok (.iload_n 2, 1) by decide +kernel) rfl,
  fun d σ S l0 l1 l2 l3 x => ex_iload (show decode mX6_isFoundAsTold.2.1 31 = .ok (.iload 4, 2) by decide +kernel) rfl,
  fun d σ S l0 l1 l2 l3 l4 x y => ex_iadd (show decode mX6_isFoundAsTold.2.1 33 = .ok (.iadd, 1) by decide +kernel),
  fun d σ l0 l1 l2 l3 l4 x0 x1 x3 => ex_iv (hs := [707, 709, 44, 710, 95]) (show decode mX6_isFoundAsTold.2.1 34 = .ok (.invokevirtual 263, 3) by decide +kernel) lkV_6_263 ⟨rfl, Nat.le_of_ble_eq_true rfl, Nat.le_of_ble_eq_true rfl, fun _ => rfl⟩ rfl rfl,
  fun d σ S l0 l1 l2 l3 l4 x y => ex_ceq (show decode mX6_isFoundAsTold.2.1 37 = .ok (.if_icmp .eq 5, 3) by decide +kernel) (by decide),
  fun d σ S l0 l1 l2 l3 l4 => ex_iconst (show decode mX6_isFoundAsTold.2.1 40 = .ok (.iconst 0, 1) by decide +kernel) (by decide +kernel),
  fun d σ l0 l1 l2 l3 l4 x => ex_zret (show decode mX6_isFoundAsTold.2.1 41 = .ok (.ireturn, 1) by decide +kernel) rfl,
  fun d σ S l0 l1 l2 x y => ex_iinc (show decode mX6_isFoundAsTold.2.1 42 = .ok (.iinc 4 1, 3) by decide +kernel) rfl (by decide +kernel) (Nat.le_of_ble_eq_true rfl) rfl,
  fun d σ S l0 l1 l2 l3 l4 => ex_goto (show decode mX6_isFoundAsTold.2.1 45 = .ok (.goto (-42), 3) by decide +kernel) (by decide),
  fun d σ S l0 l1 l2 l3 l4 => ex_iconst (show decode mX6_isFoundAsTold.2.1 48 = .ok (.iconst 1, 1) by decide +kernel) (by decide +kernel),
  fun d σ l0 l1 l2 l3 l4 x => ex_zret (show decode mX6_isFoundAsTold.2.1 49 = .ok (.ireturn, 1) by decide +kernel) rfl⟩
theorem hX6_isFoundAsTold_3 : ∀ (d : Nat) (σ : Sg) (S : List Value) (l0 l1 l2 l3 : Value) (x : Int32), exec d mX6_isFoundAsTold 3 [l0, l1, l2, l3, .int x] S σ = exec d mX6_isFoundAsTold 5 [l0, l1, l2, l3, .int x] (.int x :: S) σ := fun d σ S l0 l1 l2 l3 x => ex_iload (show decode mX6_isFoundAsTold.2.1 3 = .ok (.iload 4, 2) by decide +kernel) rfl
theorem aX6_isFoundAsTold_0 : ∀ (d : Nat) (a1 : Int32) (a2 : Int32) (a3 : Int32) (σ : Sg), cal (d + 1) mX6_isFoundAsTold [.ref 0, .int a1, .int a2, .int a3] σ = exec d mX6_isFoundAsTold 0 [.ref 0, .int a1, .int a2, .int a3, uu] [] σ := fun _ _ _ _ _ => rfl
theorem kX6_isMadeAsTold_0 : (∀ (d : Nat) (σ : Sg) (S : List Value) (l0 l1 l2 l3 l5 l6 l7 l8 l9 l10 : Value) (x : Int32), exec d mX6_isMadeAsTold 0 [l0, l1, l2, l3, .int x, l5, l6, l7, l8, l9, l10] S σ = exec d mX6_isMadeAsTold 2 [l0, l1, l2, l3, .int x, l5, l6, l7, l8, l9, l10] (.int x :: S) σ) ∧
  (∀ (d : Nat) (σ : Sg) (S : List Value) (l0 l1 l2 l3 l5 l6 l7 l8 l9 l10 : Value) (x y : Int32), exec d mX6_isMadeAsTold 2 [l0, l1, l2, l3, .int y, l5, l6, l7, l8, l9, l10] (.int x :: S) σ = exec d mX6_isMadeAsTold 4 [l0, l1, l2, l3, .int y, .int x, l6, l7, l8, l9, l10] S σ) ∧
  (∀ (d : Nat) (σ : Sg) (S : List Value) (l1 l2 l3 l4 l5 l6 l7 l8 l9 l10 : Value) (k : Nat), exec d mX6_isMadeAsTold 4 [.ref k, l1, l2, l3, l4, l5, l6, l7, l8, l9, l10] S σ = exec d mX6_isMadeAsTold 5 [.ref k, l1, l2, l3, l4, l5, l6, l7, l8, l9, l10] (.ref k :: S) σ) ∧
  (∀ (d : Nat) (σ : Sg) (S : List Value) (l0 l1 l2 l3 l4 l5 l6 l7 l8 l9 l10 : Value), exec d mX6_isMadeAsTold 5 [l0, l1, l2, l3, l4, l5, l6, l7, l8, l9, l10] (.ref 0 :: S) σ = exec d mX6_isMadeAsTold 8 [l0, l1, l2, l3, l4, l5, l6, l7, l8, l9, l10] (.ref 8 :: S) σ) ∧
  (∀ (d : Nat) (σ : Sg) (S : List Value) (l0 l1 l2 l3 l4 l5 l6 l7 l8 l9 l10 : Value), exec d mX6_isMadeAsTold 8 [l0, l1, l2, l3, l4, l5, l6, l7, l8, l9, l10] (.ref 8 :: S) σ = exec d mX6_isMadeAsTold 11 [l0, l1, l2, l3, l4, l5, l6, l7, l8, l9, l10] (.int (σ 8 6) :: S) σ) ∧
  (∀ (d : Nat) (σ : Sg) (S : List Value) (l0 l1 l2 l3 l4 l6 l7 l8 l9 l10 : Value) (x y : Int32), exec d mX6_isMadeAsTold 11 [l0, l1, l2, l3, l4, .int y, l6, l7, l8, l9, l10] (.int x :: S) σ = exec d mX6_isMadeAsTold 13 [l0, l1, l2, l3, l4, .int y, .int x, l7, l8, l9, l10] S σ) ∧
  (∀ (d : Nat) (σ : Sg) (S : List Value) (l0 l1 l2 l3 l4 l5 l6 l7 l8 l9 l10 : Value), exec d mX6_isMadeAsTold 13 [l0, l1, l2, l3, l4, l5, l6, l7, l8, l9, l10] S σ = exec d mX6_isMadeAsTold 14 [l0, l1, l2, l3, l4, l5, l6, l7, l8, l9, l10] (.int (nI 0) :: S) σ) ∧
  (∀ (d : Nat) (σ : Sg) (S : List Value) (l0 l1 l2 l3 l4 l5 l7 l8 l9 l10 : Value) (x y : Int32), exec d mX6_isMadeAsTold 14 [l0, l1, l2, l3, l4, l5, .int y, l7, l8, l9, l10] (.int x :: S) σ = exec d mX6_isMadeAsTold 16 [l0, l1, l2, l3, l4, l5, .int y, .int x, l8, l9, l10] S σ) ∧
  (∀ (d : Nat) (σ : Sg) (S : List Value) (l0 l1 l2 l4 l5 l6 l7 l8 l9 l10 : Value) (x : Int32), exec d mX6_isMadeAsTold 18 [l0, l1, l2, .int x, l4, l5, l6, l7, l8, l9, l10] S σ = exec d mX6_isMadeAsTold 19 [l0, l1, l2, .int x, l4, l5, l6, l7, l8, l9, l10] (.int x :: S) σ) ∧
  (∀ (d : Nat) (σ : Sg) (S : List Value) (l0 l1 l2 l3 l4 l5 l6 l7 l8 l9 l10 : Value) (x y : Int32), exec d mX6_isMadeAsTold 19 [l0, l1, l2, l3, l4, l5, l6, l7, l8, l9, l10] (.int y :: .int x :: S) σ = if y ≤ x then exec d mX6_isMadeAsTold 160 [l0, l1, l2, l3, l4, l5, l6, l7, l8, l9, l10] S σ else exec d mX6_isMadeAsTold 22 [l0, l1, l2, l3, l4, l5, l6, l7, l8, l9, l10] S σ) ∧
  (∀ (d : Nat) (σ : Sg) (S : List Value) (l1 l2 l3 l4 l5 l6 l7 l8 l9 l10 : Value) (k : Nat), exec d mX6_isMadeAsTold 22 [.ref k, l1, l2, l3, l4, l5, l6, l7, l8, l9, l10] S σ = exec d mX6_isMadeAsTold 23 [.ref k, l1, l2, l3, l4, l5, l6, l7, l8, l9, l10] (.ref k :: S) σ) ∧
  (∀ (d : Nat) (σ : Sg) (S : List Value) (l0 l1 l2 l3 l4 l5 l6 l7 l8 l9 l10 : Value), exec d mX6_isMadeAsTold 23 [l0, l1, l2, l3, l4, l5, l6, l7, l8, l9, l10] (.ref 0 :: S) σ = exec d mX6_isMadeAsTold 26 [l0, l1, l2, l3, l4, l5, l6, l7, l8, l9, l10] (.ref 1 :: S) σ) ∧
  (∀ (d : Nat) (σ : Sg) (S : List Value) (l0 l2 l3 l4 l5 l6 l7 l8 l9 l10 : Value) (x : Int32), exec d mX6_isMadeAsTold 26 [l0, .int x, l2, l3, l4, l5, l6, l7, l8, l9, l10] S σ = exec d mX6_isMadeAsTold 27 [l0, .int x, l2, l3, l4, l5, l6, l7, l8, l9, l10] (.int x :: S) σ) ∧
  (∀ (d : Nat) (σ : Sg) (S : List Value) (l0 l1 l3 l4 l5 l6 l7 l8 l9 l10 : Value) (x : Int32), exec d mX6_isMadeAsTold 27 [l0, l1, .int x, l3, l4, l5, l6, l7, l8, l9, l10] S σ = exec d mX6_isMadeAsTold 28 [l0, l1, .int x, l3, l4, l5, l6, l7, l8, l9, l10] (.int x :: S) σ) ∧
  (∀ (d : Nat) (σ : Sg) (S : List Value) (l0 l1 l2 l3 l4 l5 l6 l7 l8 l9 l10 : Value), exec d mX6_isMadeAsTold 28 [l0, l1, l2, l3, l4, l5, l6, l7, l8, l9, l10] S σ = exec d mX6_isMadeAsTold 29 [l0, l1, l2, l3, l4, l5, l6, l7, l8, l9, l10] (.int (nI 2) :: S) σ) ∧
  (∀ (d : Nat) (σ : Sg) (S : List Value) (l0 l1 l2 l3 l4 l5 l6 l8 l9 l10 : Value) (x : Int32), exec d mX6_isMadeAsTold 29 [l0, l1, l2, l3, l4, l5, l6, .int x, l8, l9, l10] S σ = exec d mX6_isMadeAsTold 31 [l0, l1, l2, l3, l4, l5, l6, .int x, l8, l9, l10] (.int x :: S) σ) ∧
  (∀ (d : Nat) (σ : Sg) (S : List Value) (l0 l1 l2 l3 l4 l5 l6 l7 l8 l9 l10 : Value) (x y : Int32), exec d mX6_isMadeAsTold 31 [l0, l1, l2, l3, l4, l5, l6, l7, l8, l9, l10] (.int y :: .int x :: S) σ = exec d mX6_isMadeAsTold 32 [l0, l1, l2, l3, l4, l5, l6, l7, l8, l9, l10] (.int (x * y) :: S) σ) ∧
  (∀ (d : Nat) (σ : Sg) (S : List Value) (l0 l1 l2 l3 l4 l5 l6 l7 l8 l9 l10 : Value) (x y : Int32), exec d mX6_isMadeAsTold 32 [l0, l1, l2, l3, l4, l5, l6, l7, l8, l9, l10] (.int y :: .int x :: S) σ = exec d mX6_isMadeAsTold 33 [l0, l1, l2, l3, l4, l5, l6, l7, l8, l9, l10] (.int (x + y) :: S) σ) ∧
  (∀ (d : Nat) (σ : Sg) (l0 l1 l2 l3 l4 l5 l6 l7 l8 l9 l10 : Value) (x0 x1 : Int32), exec d mX6_isMadeAsTold 33 [l0, l1, l2, l3, l4, l5, l6, l7, l8, l9, l10] [.int x0, .int x1, .ref 1] σ = kb (cal d mX3_item [.ref 1, .int x1, .int x0] σ) (fun rs σ2 => exec d mX6_isMadeAsTold 36 [l0, l1, l2, l3, l4, l5, l6, l7, l8, l9, l10] (rs ++ []) σ2)) ∧
  (∀ (d : Nat) (σ : Sg) (S : List Value) (l0 l1 l2 l3 l4 l5 l6 l8 l9 l10 : Value) (x y : Int32), exec d mX6_isMadeAsTold 36 [l0, l1, l2, l3, l4, l5, l6, .int y, l8, l9, l10] (.int x :: S) σ = exec d mX6_isMadeAsTold 38 [l0, l1, l2, l3, l4, l5, l6, .int y, .int x, l9, l10] S σ) ∧
  (∀ (d : Nat) (σ : Sg) (S : List Value) (l1 l2 l3 l4 l5 l6 l7 l8 l9 l10 : Value) (k : Nat), exec d mX6_isMadeAsTold 38 [.ref k, l1, l2, l3, l4, l5, l6, l7, l8, l9, l10] S σ = exec d mX6_isMadeAsTold 39 [.ref k, l1, l2, l3, l4, l5, l6, l7, l8, l9, l10] (.ref k :: S) σ) ∧
  (∀ (d : Nat) (σ : Sg) (S : List Value) (l0 l1 l2 l3 l4 l5 l6 l7 l9 l10 : Value) (x : Int32), exec d mX6_isMadeAsTold 39 [l0, l1, l2, l3, l4, l5, l6, l7, .int x, l9, l10] S σ = exec d mX6_isMadeAsTold 41 [l0, l1, l2, l3, l4, l5, l6, l7, .int x, l9, l10] (.int x :: S) σ) ∧
  (∀ (d : Nat) (σ : Sg) (l0 l1 l2 l3 l4 l5 l6 l7 l8 l9 l10 : Value) (x0 : Int32), exec d mX6_isMadeAsTold 41 [l0, l1, l2, l3, l4, l5, l6, l7, l8, l9, l10] [.int x0, .ref 0] σ = kb (cal d mX6_isPart [.ref 0, .int x0] σ) (fun rs σ2 => exec d mX6_isMadeAsTold 44 [l0, l1, l2, l3, l4, l5, l6, l7, l8, l9, l10] (rs ++ []) σ2)) ∧
  (∀ (d : Nat) (σ : Sg) (S : List Value) (l0 l1 l2 l3 l4 l5 l6 l7 l8 l9 l10 : Value) (x : Int32), exec d mX6_isMadeAsTold 44 [l0, l1, l2, l3, l4, l5, l6, l7, l8, l9, l10] (.int x :: S) σ = if x = nI 0 then exec d mX6_isMadeAsTold 72 [l0, l1, l2, l3, l4, l5, l6, l7, l8, l9, l10] S σ else exec d mX6_isMadeAsTold 47 [l0, l1, l2, l3, l4, l5, l6, l7, l8, l9, l10] S σ) ∧
  (∀ (d : Nat) (σ : Sg) (S : List Value) (l0 l1 l2 l3 l4 l5 l7 l8 l9 l10 : Value) (x : Int32), exec d mX6_isMadeAsTold 47 [l0, l1, l2, l3, l4, l5, .int x, l7, l8, l9, l10] S σ = exec d mX6_isMadeAsTold 49 [l0, l1, l2, l3, l4, l5, .int x, l7, l8, l9, l10] (.int x :: S) σ) ∧
  (∀ (d : Nat) (σ : Sg) (S : List Value) (l0 l1 l2 l3 l4 l5 l6 l7 l9 l10 : Value) (x : Int32), exec d mX6_isMadeAsTold 49 [l0, l1, l2, l3, l4, l5, l6, l7, .int x, l9, l10] S σ = exec d mX6_isMadeAsTold 51 [l0, l1, l2, l3, l4, l5, l6, l7, .int x, l9, l10] (.int x :: S) σ) ∧
  (∀ (d : Nat) (σ : Sg) (l0 l1 l2 l3 l4 l5 l6 l7 l8 l9 l10 : Value) (x0 x1 : Int32), exec d mX6_isMadeAsTold 51 [l0, l1, l2, l3, l4, l5, l6, l7, l8, l9, l10] [.int x0, .int x1] σ = kb (cal d mX6_bit [.int x1, .int x0] σ) (fun rs σ2 => exec d mX6_isMadeAsTold 54 [l0, l1, l2, l3, l4, l5, l6, l7, l8, l9, l10] (rs ++ []) σ2)) ∧
  (∀ (d : Nat) (σ : Sg) (S : List Value) (l0 l1 l2 l3 l4 l5 l6 l7 l8 l9 l10 : Value), exec d mX6_isMadeAsTold 54 [l0, l1, l2, l3, l4, l5, l6, l7, l8, l9, l10] S σ = exec d mX6_isMadeAsTold 55 [l0, l1, l2, l3, l4, l5, l6, l7, l8, l9, l10] (.int (nI 1) :: S) σ) ∧
  (∀ (d : Nat) (σ : Sg) (S : List Value) (l0 l1 l2 l3 l4 l5 l6 l7 l8 l9 l10 : Value) (x y : Int32), exec d mX6_isMadeAsTold 55 [l0, l1, l2, l3, l4, l5, l6, l7, l8, l9, l10] (.int y :: .int x :: S) σ = if x = y then exec d mX6_isMadeAsTold 72 [l0, l1, l2, l3, l4, l5, l6, l7, l8, l9, l10] S σ else exec d mX6_isMadeAsTold 58 [l0, l1, l2, l3, l4, l5, l6, l7, l8, l9, l10] S σ) ∧
  (∀ (d : Nat) (σ : Sg) (S : List Value) (l1 l2 l3 l4 l5 l6 l7 l8 l9 l10 : Value) (k : Nat), exec d mX6_isMadeAsTold 58 [.ref k, l1, l2, l3, l4, l5, l6, l7, l8, l9, l10] S σ = exec d mX6_isMadeAsTold 59 [.ref k, l1, l2, l3, l4, l5, l6, l7, l8, l9, l10] (.ref k :: S) σ) ∧
  (∀ (d : Nat) (σ : Sg) (S : List Value) (l0 l1 l2 l3 l4 l5 l6 l7 l8 l9 l10 : Value), exec d mX6_isMadeAsTold 59 [l0, l1, l2, l3, l4, l5, l6, l7, l8, l9, l10] (.ref 0 :: S) σ = exec d mX6_isMadeAsTold 62 [l0, l1, l2, l3, l4, l5, l6, l7, l8, l9, l10] (.ref 8 :: S) σ) ∧
  (∀ (d : Nat) (σ : Sg) (S : List Value) (l0 l1 l2 l3 l4 l5 l6 l7 l9 l10 : Value) (x : Int32), exec d mX6_isMadeAsTold 62 [l0, l1, l2, l3, l4, l5, l6, l7, .int x, l9, l10] S σ = exec d mX6_isMadeAsTold 64 [l0, l1, l2, l3, l4, l5, l6, l7, .int x, l9, l10] (.int x :: S) σ) ∧
  (∀ (d : Nat) (σ : Sg) (S : List Value) (l0 l1 l2 l3 l4 l5 l7 l8 l9 l10 : Value) (x : Int32), exec d mX6_isMadeAsTold 64 [l0, l1, l2, l3, l4, l5, .int x, l7, l8, l9, l10] S σ = exec d mX6_isMadeAsTold 66 [l0, l1, l2, l3, l4, l5, .int x, l7, l8, l9, l10] (.int x :: S) σ) ∧
  (∀ (d : Nat) (σ : Sg) (l0 l1 l2 l3 l4 l5 l6 l7 l8 l9 l10 : Value) (x0 x1 : Int32), exec d mX6_isMadeAsTold 66 [l0, l1, l2, l3, l4, l5, l6, l7, l8, l9, l10] [.int x0, .int x1, .ref 8] σ = kb (cal d mX5_isReady [.ref 8, .int x1, .int x0] σ) (fun rs σ2 => exec d mX6_isMadeAsTold 69 [l0, l1, l2, l3, l4, l5, l6, l7, l8, l9, l10] (rs ++ []) σ2)) ∧
  (∀ (d : Nat) (σ : Sg) (S : List Value) (l0 l1 l2 l3 l4 l5 l6 l7 l8 l9 l10 : Value) (x : Int32), exec d mX6_isMadeAsTold 69 [l0, l1, l2, l3, l4, l5, l6, l7, l8, l9, l10] (.int x :: S) σ = if x = nI 0 then exec d mX6_isMadeAsTold 72 [l0, l1, l2, l3, l4, l5, l6, l7, l8, l9, l10] S σ else exec d mX6_isMadeAsTold 74 [l0, l1, l2, l3, l4, l5, l6, l7, l8, l9, l10] S σ) ∧
  (∀ (d : Nat) (σ : Sg) (S : List Value) (l0 l1 l2 l3 l4 l5 l6 l7 l8 l9 l10 : Value), exec d mX6_isMadeAsTold 72 [l0, l1, l2, l3, l4, l5, l6, l7, l8, l9, l10] S σ = exec d mX6_isMadeAsTold 73 [l0, l1, l2, l3, l4, l5, l6, l7, l8, l9, l10] (.int (nI 0) :: S) σ) ∧
  (∀ (d : Nat) (σ : Sg) (l0 l1 l2 l3 l4 l5 l6 l7 l8 l9 l10 : Value) (x : Int32), exec d mX6_isMadeAsTold 73 [l0, l1, l2, l3, l4, l5, l6, l7, l8, l9, l10] [.int x] σ = if b01 x = true then some (some (.int x), σ) else none) ∧
  (∀ (d : Nat) (σ : Sg) (S : List Value) (l1 l2 l3 l4 l5 l6 l7 l8 l9 l10 : Value) (k : Nat), exec d mX6_isMadeAsTold 74 [.ref k, l1, l2, l3, l4, l5, l6, l7, l8, l9, l10] S σ = exec d mX6_isMadeAsTold 75 [.ref k, l1, l2, l3, l4, l5, l6, l7, l8, l9, l10] (.ref k :: S) σ) ∧
  (∀ (d : Nat) (σ : Sg) (S : List Value) (l0 l1 l2 l3 l4 l5 l6 l7 l8 l9 l10 : Value), exec d mX6_isMadeAsTold 75 [l0, l1, l2, l3, l4, l5, l6, l7, l8, l9, l10] (.ref 0 :: S) σ = exec d mX6_isMadeAsTold 78 [l0, l1, l2, l3, l4, l5, l6, l7, l8, l9, l10] (.ref 8 :: S) σ) ∧
  (∀ (d : Nat) (σ : Sg) (S : List Value) (l0 l1 l2 l3 l4 l5 l6 l7 l8 l9 l10 : Value), exec d mX6_isMadeAsTold 78 [l0, l1, l2, l3, l4, l5, l6, l7, l8, l9, l10] (.ref 8 :: S) σ = exec d mX6_isMadeAsTold 81 [l0, l1, l2, l3, l4, l5, l6, l7, l8, l9, l10] (.ref 9 :: S) σ) :=
  ⟨fun d σ S l0 l1 l2 l3 l5 l6 l7 l8 l9 l10 x => ex_iload (show decode mX6_isMadeAsTold.2.1 0 = .ok (.iload 4, 2) by decide +kernel) rfl,
  fun d σ S l0 l1 l2 l3 l5 l6 l7 l8 l9 l10 x y => ex_istore (show decode mX6_isMadeAsTold.2.1 2 = .ok (.istore 5, 2) by decide +kernel) (Nat.le_of_ble_eq_true rfl) rfl,
  fun d σ S l1 l2 l3 l4 l5 l6 l7 l8 l9 l10 k => ex_aload_n (show decode mX6_isMadeAsTold.2.1 4 = .ok (.aload_n 0, 1) by decide +kernel) rfl,
  fun d σ S l0 l1 l2 l3 l4 l5 l6 l7 l8 l9 l10 => ex_getr (idx := 26) (ci := 6) (ff := 2) (n := 11) (hh := 348) (by decide +kernel),
  fun d σ S l0 l1 l2 l3 l4 l5 l6 l7 l8 l9 l10 => ex_get (idx := 193) (ci := 5) (ff := 6) (n := 17) (hh := 208) (by decide +kernel),
  fun d σ S l0 l1 l2 l3 l4 l6 l7 l8 l9 l10 x y => ex_istore (show decode mX6_isMadeAsTold.2.1 11 = .ok (.istore 6, 2) by decide +kernel) (Nat.le_of_ble_eq_true rfl) rfl,
  fun d σ S l0 l1 l2 l3 l4 l5 l6 l7 l8 l9 l10 => ex_iconst (show decode mX6_isMadeAsTold.2.1 13 = .ok (.iconst 0, 1) by decide +kernel) (by decide +kernel),
  fun d σ S l0 l1 l2 l3 l4 l5 l7 l8 l9 l10 x y => ex_istore (show decode mX6_isMadeAsTold.2.1 14 = .ok (.istore 7, 2) by decide +kernel) (Nat.le_of_ble_eq_true rfl) rfl,
  fun d σ S l0 l1 l2 l4 l5 l6 l7 l8 l9 l10 x => ex_iload_n (show decode mX6_isMadeAsTold.2.1 18 = .ok (.iload_n 3, 1) by decide +kernel) rfl,
  fun d σ S l0 l1 l2 l3 l4 l5 l6 l7 l8 l9 l10 x y => ex_cge (show decode mX6_isMadeAsTold.2.1 19 = .ok (.if_icmp .ge 141, 3) by decide +kernel) (by decide),
  fun d σ S l1 l2 l3 l4 l5 l6 l7 l8 l9 l10 k => ex_aload_n (show decode mX6_isMadeAsTold.2.1 22 = .ok (.aload_n 0, 1) by decide +kernel) rfl,
  fun d σ S l0 l1 l2 l3 l4 l5 l6 l7 l8 l9 l10 => ex_getr (idx := 10) (ci := 6) (ff := 0) (n := 11) (hh := 346) (by decide +kernel),
  fun d σ S l0 l2 l3 l4 l5 l6 l7 l8 l9 l10 x => ex_iload_n (show decode mX6_isMadeAsTold.2.1 26 = .ok (.iload_n 1, 1) by decide +kernel) rfl,
  fun d σ S l0 l1 l3 l4 l5 l6 l7 l8 l9 l10 x => ex_iload_n (show decode mX6_isMadeAsTold.2.1 27 = .ok (.iload_n 2, 1) by decide +kernel) rfl,
  fun d σ S l0 l1 l2 l3 l4 l5 l6 l7 l8 l9 l10 => ex_iconst (show decode mX6_isMadeAsTold.2.1 28 = .ok (.iconst 2, 1) by decide +kernel) (by decide +kernel),
  fun d σ S l0 l1 l2 l3 l4 l5 l6 l8 l9 l10 x => ex_iload (show decode mX6_isMadeAsTold.2.1 29 = .ok (.iload 7, 2) by decide +kernel) rfl,
  fun d σ S l0 l1 l2 l3 l4 l5 l6 l7 l8 l9 l10 x y => ex_imul (show decode mX6_isMadeAsTold.2.1 31 = .ok (.imul, 1) by decide +kernel),
  fun d σ S l0 l1 l2 l3 l4 l5 l6 l7 l8 l9 l10 x y => ex_iadd (show decode mX6_isMadeAsTold.2.1 32 = .ok (.iadd, 1) by decide +kernel),
  fun d σ l0 l1 l2 l3 l4 l5 l6 l7 l8 l9 l10 x0 x1 => ex_iv (hs := [707, 709, 44, 710, 95]) (show decode mX6_isMadeAsTold.2.1 33 = .ok (.invokevirtual 263, 3) by decide +kernel) lkV_6_263 ⟨rfl, Nat.le_of_ble_eq_true rfl, Nat.le_of_ble_eq_true rfl, fun _ => rfl⟩ rfl rfl,
  fun d σ S l0 l1 l2 l3 l4 l5 l6 l8 l9 l10 x y => ex_istore (show decode mX6_isMadeAsTold.2.1 36 = .ok (.istore 8, 2) by decide +kernel) (Nat.le_of_ble_eq_true rfl) rfl,
  fun d σ S l1 l2 l3 l4 l5 l6 l7 l8 l9 l10 k => ex_aload_n (show decode mX6_isMadeAsTold.2.1 38 = .ok (.aload_n 0, 1) by decide +kernel) rfl,
  fun d σ S l0 l1 l2 l3 l4 l5 l6 l7 l9 l10 x => ex_iload (show decode mX6_isMadeAsTold.2.1 39 = .ok (.iload 8, 2) by decide +kernel) rfl,
  fun d σ l0 l1 l2 l3 l4 l5 l6 l7 l8 l9 l10 x0 => ex_iv (hs := [528, 530, 23, 531, 94]) (show decode mX6_isMadeAsTold.2.1 41 = .ok (.invokevirtual 139, 3) by decide +kernel) lkV_6_139 ⟨rfl, Nat.le_of_ble_eq_true rfl, Nat.le_of_ble_eq_true rfl, fun _ => rfl⟩ rfl rfl,
  fun d σ S l0 l1 l2 l3 l4 l5 l6 l7 l8 l9 l10 x => ex_zeq (show decode mX6_isMadeAsTold.2.1 44 = .ok (.ifCond .eq 28, 3) by decide +kernel) (by decide),
  fun d σ S l0 l1 l2 l3 l4 l5 l7 l8 l9 l10 x => ex_iload (show decode mX6_isMadeAsTold.2.1 47 = .ok (.iload 6, 2) by decide +kernel) rfl,
  fun d σ S l0 l1 l2 l3 l4 l5 l6 l7 l9 l10 x => ex_iload (show decode mX6_isMadeAsTold.2.1 49 = .ok (.iload 8, 2) by decide +kernel) rfl,
  fun d σ l0 l1 l2 l3 l4 l5 l6 l7 l8 l9 l10 x0 x1 => ex_is (hs := [568, 537, 538, 94]) (show decode mX6_isMadeAsTold.2.1 51 = .ok (.invokestatic 154, 3) by decide +kernel) lkS_6_154 ⟨rfl, Nat.le_of_ble_eq_true rfl, Nat.le_of_ble_eq_true rfl, fun q => nomatch q⟩ rfl rfl,
  fun d σ S l0 l1 l2 l3 l4 l5 l6 l7 l8 l9 l10 => ex_iconst (show decode mX6_isMadeAsTold.2.1 54 = .ok (.iconst 1, 1) by decide +kernel) (by decide +kernel),
  fun d σ S l0 l1 l2 l3 l4 l5 l6 l7 l8 l9 l10 x y => ex_ceq (show decode mX6_isMadeAsTold.2.1 55 = .ok (.if_icmp .eq 17, 3) by decide +kernel) (by decide),
  fun d σ S l1 l2 l3 l4 l5 l6 l7 l8 l9 l10 k => ex_aload_n (show decode mX6_isMadeAsTold.2.1 58 = .ok (.aload_n 0, 1) by decide +kernel) rfl,
  fun d σ S l0 l1 l2 l3 l4 l5 l6 l7 l8 l9 l10 => ex_getr (idx := 26) (ci := 6) (ff := 2) (n := 11) (hh := 348) (by decide +kernel),
  fun d σ S l0 l1 l2 l3 l4 l5 l6 l7 l9 l10 x => ex_iload (show decode mX6_isMadeAsTold.2.1 62 = .ok (.iload 8, 2) by decide +kernel) rfl,
  fun d σ S l0 l1 l2 l3 l4 l5 l7 l8 l9 l10 x => ex_iload (show decode mX6_isMadeAsTold.2.1 64 = .ok (.iload 6, 2) by decide +kernel) rfl,
  fun d σ l0 l1 l2 l3 l4 l5 l6 l7 l8 l9 l10 x0 x1 => ex_iv (hs := [720, 541, 25, 542, 97]) (show decode mX6_isMadeAsTold.2.1 66 = .ok (.invokevirtual 338, 3) by decide +kernel) lkV_6_338 ⟨rfl, Nat.le_of_ble_eq_true rfl, Nat.le_of_ble_eq_true rfl, fun _ => rfl⟩ rfl rfl,
  fun d σ S l0 l1 l2 l3 l4 l5 l6 l7 l8 l9 l10 x => ex_zne (show decode mX6_isMadeAsTold.2.1 69 = .ok (.ifCond .ne 5, 3) by decide +kernel) (by decide),
  fun d σ S l0 l1 l2 l3 l4 l5 l6 l7 l8 l9 l10 => ex_iconst (show decode mX6_isMadeAsTold.2.1 72 = .ok (.iconst 0, 1) by decide +kernel) (by decide +kernel),
  fun d σ l0 l1 l2 l3 l4 l5 l6 l7 l8 l9 l10 x => ex_zret (show decode mX6_isMadeAsTold.2.1 73 = .ok (.ireturn, 1) by decide +kernel) rfl,
  fun d σ S l1 l2 l3 l4 l5 l6 l7 l8 l9 l10 k => ex_aload_n (show decode mX6_isMadeAsTold.2.1 74 = .ok (.aload_n 0, 1) by decide +kernel) rfl,
  fun d σ S l0 l1 l2 l3 l4 l5 l6 l7 l8 l9 l10 => ex_getr (idx := 26) (ci := 6) (ff := 2) (n := 11) (hh := 348) (by decide +kernel),
  fun d σ S l0 l1 l2 l3 l4 l5 l6 l7 l8 l9 l10 => ex_getr (idx := 196) (ci := 5) (ff := 9) (n := 17) (hh := 219) (by decide +kernel)⟩
theorem kX6_isMadeAsTold_1 : (∀ (d : Nat) (σ : Sg) (S : List Value) (l0 l1 l2 l3 l4 l5 l6 l7 l9 l10 : Value) (x : Int32), exec d mX6_isMadeAsTold 81 [l0, l1, l2, l3, l4, l5, l6, l7, .int x, l9, l10] S σ = exec d mX6_isMadeAsTold 83 [l0, l1, l2, l3, l4, l5, l6, l7, .int x, l9, l10] (.int x :: S) σ) ∧
  (∀ (d : Nat) (σ : Sg) (S : List Value) (l0 l1 l2 l3 l4 l5 l6 l7 l8 l9 l10 : Value) (x : Int32), exec d mX6_isMadeAsTold 83 [l0, l1, l2, l3, l4, l5, l6, l7, l8, l9, l10] (.int x :: .ref 9 :: S) σ = if inb x 7 = true then exec d mX6_isMadeAsTold 84 [l0, l1, l2, l3, l4, l5, l6, l7, l8, l9, l10] (.int (σ 9 x.toNatClampNeg) :: S) σ else none) ∧
  (∀ (d : Nat) (σ : Sg) (S : List Value) (l0 l1 l2 l3 l4 l5 l6 l7 l9 l10 : Value) (x y : Int32), exec d mX6_isMadeAsTold 84 [l0, l1, l2, l3, l4, l5, l6, l7, .int y, l9, l10] (.int x :: S) σ = exec d mX6_isMadeAsTold 86 [l0, l1, l2, l3, l4, l5, l6, l7, .int y, .int x, l10] S σ) ∧
  (∀ (d : Nat) (σ : Sg) (S : List Value) (l0 l1 l2 l3 l4 l5 l6 l7 l8 l10 : Value) (x : Int32), exec d mX6_isMadeAsTold 86 [l0, l1, l2, l3, l4, l5, l6, l7, l8, .int x, l10] S σ = exec d mX6_isMadeAsTold 88 [l0, l1, l2, l3, l4, l5, l6, l7, l8, .int x, l10] (.int x :: S) σ) ∧
  (∀ (d : Nat) (σ : Sg) (S : List Value) (l1 l2 l3 l4 l5 l6 l7 l8 l9 l10 : Value) (k : Nat), exec d mX6_isMadeAsTold 88 [.ref k, l1, l2, l3, l4, l5, l6, l7, l8, l9, l10] S σ = exec d mX6_isMadeAsTold 89 [.ref k, l1, l2, l3, l4, l5, l6, l7, l8, l9, l10] (.ref k :: S) σ) ∧
  (∀ (d : Nat) (σ : Sg) (S : List Value) (l0 l1 l2 l3 l4 l5 l6 l7 l8 l9 l10 : Value), exec d mX6_isMadeAsTold 89 [l0, l1, l2, l3, l4, l5, l6, l7, l8, l9, l10] (.ref 0 :: S) σ = exec d mX6_isMadeAsTold 92 [l0, l1, l2, l3, l4, l5, l6, l7, l8, l9, l10] (.ref 8 :: S) σ) ∧
  (∀ (d : Nat) (σ : Sg) (S : List Value) (l0 l1 l2 l3 l4 l5 l6 l7 l8 l9 l10 : Value), exec d mX6_isMadeAsTold 92 [l0, l1, l2, l3, l4, l5, l6, l7, l8, l9, l10] (.ref 8 :: S) σ = exec d mX6_isMadeAsTold 95 [l0, l1, l2, l3, l4, l5, l6, l7, l8, l9, l10] (.ref 10 :: S) σ) ∧
  (∀ (d : Nat) (σ : Sg) (S : List Value) (l0 l1 l2 l3 l4 l5 l6 l7 l9 l10 : Value) (x : Int32), exec d mX6_isMadeAsTold 95 [l0, l1, l2, l3, l4, l5, l6, l7, .int x, l9, l10] S σ = exec d mX6_isMadeAsTold 97 [l0, l1, l2, l3, l4, l5, l6, l7, .int x, l9, l10] (.int x :: S) σ) ∧
  (∀ (d : Nat) (σ : Sg) (S : List Value) (l0 l1 l2 l3 l4 l5 l6 l7 l8 l9 l10 : Value) (x : Int32), exec d mX6_isMadeAsTold 97 [l0, l1, l2, l3, l4, l5, l6, l7, l8, l9, l10] (.int x :: .ref 10 :: S) σ = if inb x 7 = true then exec d mX6_isMadeAsTold 98 [l0, l1, l2, l3, l4, l5, l6, l7, l8, l9, l10] (.int (σ 10 x.toNatClampNeg) :: S) σ else none) ∧
  (∀ (d : Nat) (σ : Sg) (S : List Value) (l0 l1 l2 l3 l4 l6 l7 l8 l9 l10 : Value) (x : Int32), exec d mX6_isMadeAsTold 98 [l0, l1, l2, l3, l4, .int x, l6, l7, l8, l9, l10] S σ = exec d mX6_isMadeAsTold 100 [l0, l1, l2, l3, l4, .int x, l6, l7, l8, l9, l10] (.int x :: S) σ) ∧
  (∀ (d : Nat) (σ : Sg) (l0 l1 l2 l3 l4 l5 l6 l7 l8 l9 l10 : Value) (x0 x1 x2 : Int32), exec d mX6_isMadeAsTold 100 [l0, l1, l2, l3, l4, l5, l6, l7, l8, l9, l10] [.int x0, .int x1, .int x2] σ = kb (cal d mX6_flawed [.int x2, .int x1, .int x0] σ) (fun rs σ2 => exec d mX6_isMadeAsTold 103 [l0, l1, l2, l3, l4, l5, l6, l7, l8, l9, l10] (rs ++ []) σ2)) ∧
  (∀ (d : Nat) (σ : Sg) (S : List Value) (l0 l1 l2 l3 l4 l5 l6 l7 l8 l9 l10 : Value) (x : Int32), exec d mX6_isMadeAsTold 103 [l0, l1, l2, l3, l4, l5, l6, l7, l8, l9, l10] (.int x :: S) σ = if x = nI 0 then exec d mX6_isMadeAsTold 110 [l0, l1, l2, l3, l4, l5, l6, l7, l8, l9, l10] S σ else exec d mX6_isMadeAsTold 106 [l0, l1, l2, l3, l4, l5, l6, l7, l8, l9, l10] S σ) ∧
  (∀ (d : Nat) (σ : Sg) (S : List Value) (l0 l1 l2 l3 l4 l5 l6 l7 l8 l9 l10 : Value), exec d mX6_isMadeAsTold 106 [l0, l1, l2, l3, l4, l5, l6, l7, l8, l9, l10] S σ = exec d mX6_isMadeAsTold 107 [l0, l1, l2, l3, l4, l5, l6, l7, l8, l9, l10] (.int (nI 1) :: S) σ) ∧
  (∀ (d : Nat) (σ : Sg) (S : List Value) (l0 l1 l2 l3 l4 l5 l6 l7 l8 l9 l10 : Value), exec d mX6_isMadeAsTold 107 [l0, l1, l2, l3, l4, l5, l6, l7, l8, l9, l10] S σ = exec d mX6_isMadeAsTold 111 [l0, l1, l2, l3, l4, l5, l6, l7, l8, l9, l10] S σ) ∧
  (∀ (d : Nat) (σ : Sg) (S : List Value) (l0 l1 l2 l3 l4 l5 l6 l7 l8 l9 l10 : Value), exec d mX6_isMadeAsTold 110 [l0, l1, l2, l3, l4, l5, l6, l7, l8, l9, l10] S σ = exec d mX6_isMadeAsTold 111 [l0, l1, l2, l3, l4, l5, l6, l7, l8, l9, l10] (.int (nI 0) :: S) σ) ∧
  (∀ (d : Nat) (σ : Sg) (S : List Value) (l0 l1 l2 l3 l4 l5 l6 l7 l8 l10 : Value) (x y : Int32), exec d mX6_isMadeAsTold 111 [l0, l1, l2, l3, l4, l5, l6, l7, l8, .int y, l10] (.int x :: S) σ = exec d mX6_isMadeAsTold 113 [l0, l1, l2, l3, l4, l5, l6, l7, l8, .int y, .int x] S σ) ∧
  (∀ (d : Nat) (σ : Sg) (S : List Value) (l0 l1 l2 l3 l4 l5 l6 l7 l8 l9 : Value) (x : Int32), exec d mX6_isMadeAsTold 113 [l0, l1, l2, l3, l4, l5, l6, l7, l8, l9, .int x] S σ = exec d mX6_isMadeAsTold 115 [l0, l1, l2, l3, l4, l5, l6, l7, l8, l9, .int x] (.int x :: S) σ) ∧
  (∀ (d : Nat) (σ : Sg) (S : List Value) (l1 l2 l3 l4 l5 l6 l7 l8 l9 l10 : Value) (k : Nat), exec d mX6_isMadeAsTold 115 [.ref k, l1, l2, l3, l4, l5, l6, l7, l8, l9, l10] S σ = exec d mX6_isMadeAsTold 116 [.ref k, l1, l2, l3, l4, l5, l6, l7, l8, l9, l10] (.ref k :: S) σ) ∧
  (∀ (d : Nat) (σ : Sg) (S : List Value) (l0 l1 l2 l3 l4 l5 l6 l7 l8 l9 l10 : Value), exec d mX6_isMadeAsTold 116 [l0, l1, l2, l3, l4, l5, l6, l7, l8, l9, l10] (.ref 0 :: S) σ = exec d mX6_isMadeAsTold 119 [l0, l1, l2, l3, l4, l5, l6, l7, l8, l9, l10] (.ref 1 :: S) σ) ∧
  (∀ (d : Nat) (σ : Sg) (S : List Value) (l0 l2 l3 l4 l5 l6 l7 l8 l9 l10 : Value) (x : Int32), exec d mX6_isMadeAsTold 119 [l0, .int x, l2, l3, l4, l5, l6, l7, l8, l9, l10] S σ = exec d mX6_isMadeAsTold 120 [l0, .int x, l2, l3, l4, l5, l6, l7, l8, l9, l10] (.int x :: S) σ) ∧
  (∀ (d : Nat) (σ : Sg) (S : List Value) (l0 l1 l3 l4 l5 l6 l7 l8 l9 l10 : Value) (x : Int32), exec d mX6_isMadeAsTold 120 [l0, l1, .int x, l3, l4, l5, l6, l7, l8, l9, l10] S σ = exec d mX6_isMadeAsTold 121 [l0, l1, .int x, l3, l4, l5, l6, l7, l8, l9, l10] (.int x :: S) σ) ∧
  (∀ (d : Nat) (σ : Sg) (S : List Value) (l0 l1 l2 l3 l4 l5 l6 l7 l8 l9 l10 : Value), exec d mX6_isMadeAsTold 121 [l0, l1, l2, l3, l4, l5, l6, l7, l8, l9, l10] S σ = exec d mX6_isMadeAsTold 122 [l0, l1, l2, l3, l4, l5, l6, l7, l8, l9, l10] (.int (nI 2) :: S) σ) ∧
  (∀ (d : Nat) (σ : Sg) (S : List Value) (l0 l1 l2 l3 l4 l5 l6 l8 l9 l10 : Value) (x : Int32), exec d mX6_isMadeAsTold 122 [l0, l1, l2, l3, l4, l5, l6, .int x, l8, l9, l10] S σ = exec d mX6_isMadeAsTold 124 [l0, l1, l2, l3, l4, l5, l6, .int x, l8, l9, l10] (.int x :: S) σ) ∧
  (∀ (d : Nat) (σ : Sg) (S : List Value) (l0 l1 l2 l3 l4 l5 l6 l7 l8 l9 l10 : Value) (x y : Int32), exec d mX6_isMadeAsTold 124 [l0, l1, l2, l3, l4, l5, l6, l7, l8, l9, l10] (.int y :: .int x :: S) σ = exec d mX6_isMadeAsTold 125 [l0, l1, l2, l3, l4, l5, l6, l7, l8, l9, l10] (.int (x * y) :: S) σ) ∧
  (∀ (d : Nat) (σ : Sg) (S : List Value) (l0 l1 l2 l3 l4 l5 l6 l7 l8 l9 l10 : Value) (x y : Int32), exec d mX6_isMadeAsTold 125 [l0, l1, l2, l3, l4, l5, l6, l7, l8, l9, l10] (.int y :: .int x :: S) σ = exec d mX6_isMadeAsTold 126 [l0, l1, l2, l3, l4, l5, l6, l7, l8, l9, l10] (.int (x + y) :: S) σ) ∧
  (∀ (d : Nat) (σ : Sg) (S : List Value) (l0 l1 l2 l3 l4 l5 l6 l7 l8 l9 l10 : Value), exec d mX6_isMadeAsTold 126 [l0, l1, l2, l3, l4, l5, l6, l7, l8, l9, l10] S σ = exec d mX6_isMadeAsTold 127 [l0, l1, l2, l3, l4, l5, l6, l7, l8, l9, l10] (.int (nI 1) :: S) σ) ∧
  (∀ (d : Nat) (σ : Sg) (S : List Value) (l0 l1 l2 l3 l4 l5 l6 l7 l8 l9 l10 : Value) (x y : Int32), exec d mX6_isMadeAsTold 127 [l0, l1, l2, l3, l4, l5, l6, l7, l8, l9, l10] (.int y :: .int x :: S) σ = exec d mX6_isMadeAsTold 128 [l0, l1, l2, l3, l4, l5, l6, l7, l8, l9, l10] (.int (x + y) :: S) σ) ∧
  (∀ (d : Nat) (σ : Sg) (l0 l1 l2 l3 l4 l5 l6 l7 l8 l9 l10 : Value) (x0 x1 x3 : Int32), exec d mX6_isMadeAsTold 128 [l0, l1, l2, l3, l4, l5, l6, l7, l8, l9, l10] [.int x0, .int x1, .ref 1, .int x3] σ = kb (cal d mX3_item [.ref 1, .int x1, .int x0] σ) (fun rs σ2 => exec d mX6_isMadeAsTold 131 [l0, l1, l2, l3, l4, l5, l6, l7, l8, l9, l10] (rs ++ [.int x3]) σ2)) ∧
  (∀ (d : Nat) (σ : Sg) (S : List Value) (l0 l1 l2 l3 l4 l5 l6 l7 l8 l9 l10 : Value) (x y : Int32), exec d mX6_isMadeAsTold 131 [l0, l1, l2, l3, l4, l5, l6, l7, l8, l9, l10] (.int y :: .int x :: S) σ = if x = y then exec d mX6_isMadeAsTold 136 [l0, l1, l2, l3, l4, l5, l6, l7, l8, l9, l10] S σ else exec d mX6_isMadeAsTold 134 [l0, l1, l2, l3, l4, l5, l6, l7, l8, l9, l10] S σ) ∧
  (∀ (d : Nat) (σ : Sg) (S : List Value) (l0 l1 l2 l3 l4 l5 l6 l7 l8 l9 l10 : Value), exec d mX6_isMadeAsTold 134 [l0, l1, l2, l3, l4, l5, l6, l7, l8, l9, l10] S σ = exec d mX6_isMadeAsTold 135 [l0, l1, l2, l3, l4, l5, l6, l7, l8, l9, l10] (.int (nI 0) :: S) σ) ∧
  (∀ (d : Nat) (σ : Sg) (l0 l1 l2 l3 l4 l5 l6 l7 l8 l9 l10 : Value) (x : Int32), exec d mX6_isMadeAsTold 135 [l0, l1, l2, l3, l4, l5, l6, l7, l8, l9, l10] [.int x] σ = if b01 x = true then some (some (.int x), σ) else none) ∧
  (∀ (d : Nat) (σ : Sg) (S : List Value) (l0 l1 l2 l3 l4 l5 l7 l8 l9 l10 : Value) (x : Int32), exec d mX6_isMadeAsTold 136 [l0, l1, l2, l3, l4, l5, .int x, l7, l8, l9, l10] S σ = exec d mX6_isMadeAsTold 138 [l0, l1, l2, l3, l4, l5, .int x, l7, l8, l9, l10] (.int x :: S) σ) ∧
  (∀ (d : Nat) (σ : Sg) (S : List Value) (l0 l1 l2 l3 l4 l5 l6 l7 l8 l9 l10 : Value), exec d mX6_isMadeAsTold 138 [l0, l1, l2, l3, l4, l5, l6, l7, l8, l9, l10] S σ = exec d mX6_isMadeAsTold 139 [l0, l1, l2, l3, l4, l5, l6, l7, l8, l9, l10] (.int (nI 1) :: S) σ) ∧
  (∀ (d : Nat) (σ : Sg) (S : List Value) (l0 l1 l2 l3 l4 l5 l6 l7 l9 l10 : Value) (x : Int32), exec d mX6_isMadeAsTold 139 [l0, l1, l2, l3, l4, l5, l6, l7, .int x, l9, l10] S σ = exec d mX6_isMadeAsTold 141 [l0, l1, l2, l3, l4, l5, l6, l7, .int x, l9, l10] (.int x :: S) σ) ∧
  (∀ (d : Nat) (σ : Sg) (S : List Value) (l0 l1 l2 l3 l4 l5 l6 l7 l8 l9 l10 : Value) (x y : Int32), exec d mX6_isMadeAsTold 141 [l0, l1, l2, l3, l4, l5, l6, l7, l8, l9, l10] (.int y :: .int x :: S) σ = exec d mX6_isMadeAsTold 142 [l0, l1, l2, l3, l4, l5, l6, l7, l8, l9, l10] (.int (x <<< (y &&& 31)) :: S) σ) ∧
  (∀ (d : Nat) (σ : Sg) (S : List Value) (l0 l1 l2 l3 l4 l5 l6 l7 l8 l9 l10 : Value) (x y : Int32), exec d mX6_isMadeAsTold 142 [l0, l1, l2, l3, l4, l5, l6, l7, l8, l9, l10] (.int y :: .int x :: S) σ = exec d mX6_isMadeAsTold 143 [l0, l1, l2, l3, l4, l5, l6, l7, l8, l9, l10] (.int (x ||| y) :: S) σ) ∧
  (∀ (d : Nat) (σ : Sg) (S : List Value) (l0 l1 l2 l3 l4 l6 l7 l8 l9 l10 : Value) (x y : Int32), exec d mX6_isMadeAsTold 143 [l0, l1, l2, l3, l4, .int y, l6, l7, l8, l9, l10] (.int x :: S) σ = exec d mX6_isMadeAsTold 145 [l0, l1, l2, l3, l4, .int y, .int x, l7, l8, l9, l10] S σ) ∧
  (∀ (d : Nat) (σ : Sg) (S : List Value) (l0 l1 l2 l3 l4 l5 l6 l7 l8 l10 : Value) (x : Int32), exec d mX6_isMadeAsTold 145 [l0, l1, l2, l3, l4, l5, l6, l7, l8, .int x, l10] S σ = exec d mX6_isMadeAsTold 147 [l0, l1, l2, l3, l4, l5, l6, l7, l8, .int x, l10] (.int x :: S) σ) ∧
  (∀ (d : Nat) (σ : Sg) (S : List Value) (l0 l1 l2 l3 l4 l6 l7 l8 l9 l10 : Value) (x : Int32), exec d mX6_isMadeAsTold 147 [l0, l1, l2, l3, l4, .int x, l6, l7, l8, l9, l10] S σ = exec d mX6_isMadeAsTold 149 [l0, l1, l2, l3, l4, .int x, l6, l7, l8, l9, l10] (.int x :: S) σ) ∧
  (∀ (d : Nat) (σ : Sg) (l0 l1 l2 l3 l4 l5 l6 l7 l8 l9 l10 : Value) (x0 x1 : Int32), exec d mX6_isMadeAsTold 149 [l0, l1, l2, l3, l4, l5, l6, l7, l8, l9, l10] [.int x0, .int x1] σ = kb (cal d mX6_skillBehind [.int x1, .int x0] σ) (fun rs σ2 => exec d mX6_isMadeAsTold 152 [l0, l1, l2, l3, l4, l5, l6, l7, l8, l9, l10] (rs ++ []) σ2)) :=
  ⟨fun d σ S l0 l1 l2 l3 l4 l5 l6 l7 l9 l10 x => ex_iload (show decode mX6_isMadeAsTold.2.1 81 = .ok (.iload 8, 2) by decide +kernel) rfl,
  fun d σ S l0 l1 l2 l3 l4 l5 l6 l7 l8 l9 l10 x => ex_iald (by decide +kernel),
  fun d σ S l0 l1 l2 l3 l4 l5 l6 l7 l9 l10 x y => ex_istore (show decode mX6_isMadeAsTold.2.1 84 = .ok (.istore 9, 2) by decide +kernel) (Nat.le_of_ble_eq_true rfl) rfl,
  fun d σ S l0 l1 l2 l3 l4 l5 l6 l7 l8 l10 x => ex_iload (show decode mX6_isMadeAsTold.2.1 86 = .ok (.iload 9, 2) by decide +kernel) rfl,
  fun d σ S l1 l2 l3 l4 l5 l6 l7 l8 l9 l10 k => ex_aload_n (show decode mX6_isMadeAsTold.2.1 88 = .ok (.aload_n 0, 1) by decide +kernel) rfl,
  fun d σ S l0 l1 l2 l3 l4 l5 l6 l7 l8 l9 l10 => ex_getr (idx := 26) (ci := 6) (ff := 2) (n := 11) (hh := 348) (by decide +kernel),
  fun d σ S l0 l1 l2 l3 l4 l5 l6 l7 l8 l9 l10 => ex_getr (idx := 183) (ci := 5) (ff := 10) (n := 17) (hh := 223) (by decide +kernel),
  fun d σ S l0 l1 l2 l3 l4 l5 l6 l7 l9 l10 x => ex_iload (show decode mX6_isMadeAsTold.2.1 95 = .ok (.iload 8, 2) by decide +kernel) rfl,
  fun d σ S l0 l1 l2 l3 l4 l5 l6 l7 l8 l9 l10 x => ex_iald (by decide +kernel),
  fun d σ S l0 l1 l2 l3 l4 l6 l7 l8 l9 l10 x => ex_iload (show decode mX6_isMadeAsTold.2.1 98 = .ok (.iload 5, 2) by decide +kernel) rfl,
  fun d σ l0 l1 l2 l3 l4 l5 l6 l7 l8 l9 l10 x0 x1 x2 => ex_is (hs := [595, 558, 559, 94]) (show decode mX6_isMadeAsTold.2.1 100 = .ok (.invokestatic 203, 3) by decide +kernel) lkS_6_203 ⟨rfl, Nat.le_of_ble_eq_true rfl, Nat.le_of_ble_eq_true rfl, fun q => nomatch q⟩ rfl rfl,
  fun d σ S l0 l1 l2 l3 l4 l5 l6 l7 l8 l9 l10 x => ex_zeq (show decode mX6_isMadeAsTold.2.1 103 = .ok (.ifCond .eq 7, 3) by decide +kernel) (by decide),
  fun d σ S l0 l1 l2 l3 l4 l5 l6 l7 l8 l9 l10 => ex_iconst (show decode mX6_isMadeAsTold.2.1 106 = .ok (.iconst 1, 1) by decide +kernel) (by decide +kernel),
  fun d σ S l0 l1 l2 l3 l4 l5 l6 l7 l8 l9 l10 => ex_goto (show decode mX6_isMadeAsTold.2.1 107 = .ok (.goto 4, 3) by decide +kernel) (by decide),
  fun d σ S l0 l1 l2 l3 l4 l5 l6 l7 l8 l9 l10 => ex_iconst (show decode mX6_isMadeAsTold.2.1 110 = .ok (.iconst 0, 1) by decide +kernel) (by decide +kernel),
  fun d σ S l0 l1 l2 l3 l4 l5 l6 l7 l8 l10 x y => ex_istore (show decode mX6_isMadeAsTold.2.1 111 = .ok (.istore 10, 2) by decide +kernel) (Nat.le_of_ble_eq_true rfl) rfl,
  fun d σ S l0 l1 l2 l3 l4 l5 l6 l7 l8 l9 x => ex_iload (show decode mX6_isMadeAsTold.2.1 113 = .ok (.iload 10, 2) by decide +kernel) rfl,
  fun d σ S l1 l2 l3 l4 l5 l6 l7 l8 l9 l10 k => ex_aload_n (show decode mX6_isMadeAsTold.2.1 115 = .ok (.aload_n 0, 1) by decide +kernel) rfl,
  fun d σ S l0 l1 l2 l3 l4 l5 l6 l7 l8 l9 l10 => ex_getr (idx := 10) (ci := 6) (ff := 0) (n := 11) (hh := 346) (by decide +kernel),
  fun d σ S l0 l2 l3 l4 l5 l6 l7 l8 l9 l10 x => ex_iload_n (show decode mX6_isMadeAsTold.2.1 119 = .ok (.iload_n 1, 1) by decide +kernel) rfl,
  fun d σ S l0 l1 l3 l4 l5 l6 l7 l8 l9 l10 x => ex_iload_n (show decode mX6_isMadeAsTold.2.1 120 = .ok (.iload_n 2, 1) by decide +kernel) rfl,
  fun d σ S l0 l1 l2 l3 l4 l5 l6 l7 l8 l9 l10 => ex_iconst (show decode mX6_isMadeAsTold.2.1 121 = .ok (.iconst 2, 1) by decide +kernel) (by decide +kernel),
  fun d σ S l0 l1 l2 l3 l4 l5 l6 l8 l9 l10 x => ex_iload (show decode mX6_isMadeAsTold.2.1 122 = .ok (.iload 7, 2) by decide +kernel) rfl,
  fun d σ S l0 l1 l2 l3 l4 l5 l6 l7 l8 l9 l10 x y => ex_imul (show decode mX6_isMadeAsTold.2.1 124 = .ok (.imul, 1) by decide +kernel),
  fun d σ S l0 l1 l2 l3 l4 l5 l6 l7 l8 l9 l10 x y => ex_iadd (show decode mX6_isMadeAsTold.2.1 125 = .ok (.iadd, 1) by decide +kernel),
  fun d σ S l0 l1 l2 l3 l4 l5 l6 l7 l8 l9 l10 => ex_iconst (show decode mX6_isMadeAsTold.2.1 126 = .ok (.iconst 1, 1) by decide +kernel) (by decide +kernel),
  fun d σ S l0 l1 l2 l3 l4 l5 l6 l7 l8 l9 l10 x y => ex_iadd (show decode mX6_isMadeAsTold.2.1 127 = .ok (.iadd, 1) by decide +kernel),
  fun d σ l0 l1 l2 l3 l4 l5 l6 l7 l8 l9 l10 x0 x1 x3 => ex_iv (hs := [707, 709, 44, 710, 95]) (show decode mX6_isMadeAsTold.2.1 128 = .ok (.invokevirtual 263, 3) by decide +kernel) lkV_6_263 ⟨rfl, Nat.le_of_ble_eq_true rfl, Nat.le_of_ble_eq_true rfl, fun _ => rfl⟩ rfl rfl,
  fun d σ S l0 l1 l2 l3 l4 l5 l6 l7 l8 l9 l10 x y => ex_ceq (show decode mX6_isMadeAsTold.2.1 131 = .ok (.if_icmp .eq 5, 3) by decide +kernel) (by decide),
  fun d σ S l0 l1 l2 l3 l4 l5 l6 l7 l8 l9 l10 => ex_iconst (show decode mX6_isMadeAsTold.2.1 134 = .ok (.iconst 0, 1) by decide +kernel) (by decide +kernel),
  fun d σ l0 l1 l2 l3 l4 l5 l6 l7 l8 l9 l10 x => ex_zret (show decode mX6_isMadeAsTold.2.1 135 = .ok (.ireturn, 1) by decide +kernel) rfl,
  fun d σ S l0 l1 l2 l3 l4 l5 l7 l8 l9 l10 x => ex_iload (show decode mX6_isMadeAsTold.2.1 136 = .ok (.iload 6, 2) by decide +kernel) rfl,
  fun d σ S l0 l1 l2 l3 l4 l5 l6 l7 l8 l9 l10 => ex_iconst (show decode mX6_isMadeAsTold.2.1 138 = .ok (.iconst 1, 1) by decide +kernel) (by decide +kernel),
  fun d σ S l0 l1 l2 l3 l4 l5 l6 l7 l9 l10 x => ex_iload (show decode mX6_isMadeAsTold.2.1 139 = .ok (.iload 8, 2) by decide +kernel) rfl,
  fun d σ S l0 l1 l2 l3 l4 l5 l6 l7 l8 l9 l10 x y => ex_ishl (show decode mX6_isMadeAsTold.2.1 141 = .ok (.ishl, 1) by decide +kernel),
  fun d σ S l0 l1 l2 l3 l4 l5 l6 l7 l8 l9 l10 x y => ex_ior (show decode mX6_isMadeAsTold.2.1 142 = .ok (.ior, 1) by decide +kernel),
  fun d σ S l0 l1 l2 l3 l4 l6 l7 l8 l9 l10 x y => ex_istore (show decode mX6_isMadeAsTold.2.1 143 = .ok (.istore 6, 2) by decide +kernel) (Nat.le_of_ble_eq_true rfl) rfl,
  fun d σ S l0 l1 l2 l3 l4 l5 l6 l7 l8 l10 x => ex_iload (show decode mX6_isMadeAsTold.2.1 145 = .ok (.iload 9, 2) by decide +kernel) rfl,
  fun d σ S l0 l1 l2 l3 l4 l6 l7 l8 l9 l10 x => ex_iload (show decode mX6_isMadeAsTold.2.1 147 = .ok (.iload 5, 2) by decide +kernel) rfl,
  fun d σ l0 l1 l2 l3 l4 l5 l6 l7 l8 l9 l10 x0 x1 => ex_is (hs := [721, 561, 562, 94]) (show decode mX6_isMadeAsTold.2.1 149 = .ok (.invokestatic 342, 3) by decide +kernel) lkS_6_342 ⟨rfl, Nat.le_of_ble_eq_true rfl, Nat.le_of_ble_eq_true rfl, fun q => nomatch q⟩ rfl rfl⟩
theorem kX6_isMadeAsTold_2 : (∀ (d : Nat) (σ : Sg) (S : List Value) (l0 l1 l2 l3 l5 l6 l7 l8 l9 l10 : Value) (x y : Int32), exec d mX6_isMadeAsTold 152 [l0, l1, l2, l3, .int y, l5, l6, l7, l8, l9, l10] (.int x :: S) σ = exec d mX6_isMadeAsTold 154 [l0, l1, l2, l3, .int y, .int x, l6, l7, l8, l9, l10] S σ) ∧
  (∀ (d : Nat) (σ : Sg) (S : List Value) (l0 l1 l2 l3 l4 l5 l8 l9 l10 : Value) (x y : Int32), exec d mX6_isMadeAsTold 154 [l0, l1, l2, l3, l4, l5, .int y, .int x, l8, l9, l10] S σ = exec d mX6_isMadeAsTold 157 [l0, l1, l2, l3, l4, l5, .int y, .int (x + nI 1), l8, l9, l10] S σ) ∧
  (∀ (d : Nat) (σ : Sg) (S : List Value) (l0 l1 l2 l3 l4 l5 l6 l7 l8 l9 l10 : Value), exec d mX6_isMadeAsTold 157 [l0, l1, l2, l3, l4, l5, l6, l7, l8, l9, l10] S σ = exec d mX6_isMadeAsTold 16 [l0, l1, l2, l3, l4, l5, l6, l7, l8, l9, l10] S σ) ∧
  (∀ (d : Nat) (σ : Sg) (S : List Value) (l0 l1 l2 l3 l4 l5 l6 l7 l8 l9 l10 : Value), exec d mX6_isMadeAsTold 160 [l0, l1, l2, l3, l4, l5, l6, l7, l8, l9, l10] S σ = exec d mX6_isMadeAsTold 161 [l0, l1, l2, l3, l4, l5, l6, l7, l8, l9, l10] (.int (nI 1) :: S) σ) ∧
  (∀ (d : Nat) (σ : Sg) (l0 l1 l2 l3 l4 l5 l6 l7 l8 l9 l10 : Value) (x : Int32), exec d mX6_isMadeAsTold 161 [l0, l1, l2, l3, l4, l5, l6, l7, l8, l9, l10] [.int x] σ = if b01 x = true then some (some (.int x), σ) else none) :=
  ⟨fun d σ S l0 l1 l2 l3 l5 l6 l7 l8 l9 l10 x y => ex_istore (show decode mX6_isMadeAsTold.2.1 152 = .ok (.istore 5, 2) by decide +kernel) (Nat.le_of_ble_eq_true rfl) rfl,
  fun d σ S l0 l1 l2 l3 l4 l5 l8 l9 l10 x y => ex_iinc (show decode mX6_isMadeAsTold.2.1 154 = .ok (.iinc 7 1, 3) by decide +kernel) rfl (by decide +kernel) (Nat.le_of_ble_eq_true rfl) rfl,
  fun d σ S l0 l1 l2 l3 l4 l5 l6 l7 l8 l9 l10 => ex_goto (show decode mX6_isMadeAsTold.2.1 157 = .ok (.goto (-141), 3) by decide +kernel) (by decide),
  fun d σ S l0 l1 l2 l3 l4 l5 l6 l7 l8 l9 l10 => ex_iconst (show decode mX6_isMadeAsTold.2.1 160 = .ok (.iconst 1, 1) by decide +kernel) (by decide +kernel),
  fun d σ l0 l1 l2 l3 l4 l5 l6 l7 l8 l9 l10 x => ex_zret (show decode mX6_isMadeAsTold.2.1 161 = .ok (.ireturn, 1) by decide +kernel) rfl⟩
theorem hX6_isMadeAsTold_16 : ∀ (d : Nat) (σ : Sg) (S : List Value) (l0 l1 l2 l3 l4 l5 l6 l8 l9 l10 : Value) (x : Int32), exec d mX6_isMadeAsTold 16 [l0, l1, l2, l3, l4, l5, l6, .int x, l8, l9, l10] S σ = exec d mX6_isMadeAsTold 18 [l0, l1, l2, l3, l4, l5, l6, .int x, l8, l9, l10] (.int x :: S) σ := fun d σ S l0 l1 l2 l3 l4 l5 l6 l8 l9 l10 x => ex_iload (show decode mX6_isMadeAsTold.2.1 16 = .ok (.iload 7, 2) by decide +kernel) rfl
theorem aX6_isMadeAsTold_0 : ∀ (d : Nat) (a1 : Int32) (a2 : Int32) (a3 : Int32) (a4 : Int32) (σ : Sg), cal (d + 1) mX6_isMadeAsTold [.ref 0, .int a1, .int a2, .int a3, .int a4] σ = exec d mX6_isMadeAsTold 0 [.ref 0, .int a1, .int a2, .int a3, .int a4, uu, uu, uu, uu, uu, uu] [] σ := fun _ _ _ _ _ _ => rfl
