/-! generated: the instructions of GuildPiece$Trial -/
theorem kX5_clear : (∀ (d : Nat) (σ : Sg) (S : List Value) (k : Nat), exec d mX5_clear 0 [.ref k] S σ = exec d mX5_clear 1 [.ref k] (.ref k :: S) σ) ∧
  (∀ (d : Nat) (σ : Sg) (S : List Value) (l0 : Value), exec d mX5_clear 1 [l0] S σ = exec d mX5_clear 2 [l0] (.int (nI 0) :: S) σ) ∧
  (∀ (d : Nat) (σ : Sg) (S : List Value) (l0 : Value) (x : Int32), exec d mX5_clear 2 [l0] (.int x :: .ref 35 :: S) σ = if b01 x = true then exec d mX5_clear 5 [l0] S (up σ 35 0 x) else none) ∧
  (∀ (d : Nat) (σ : Sg) (S : List Value) (k : Nat), exec d mX5_clear 5 [.ref k] S σ = exec d mX5_clear 6 [.ref k] (.ref k :: S) σ) ∧
  (∀ (d : Nat) (σ : Sg) (S : List Value) (l0 : Value), exec d mX5_clear 6 [l0] S σ = exec d mX5_clear 7 [l0] (.int (nI 0) :: S) σ) ∧
  (∀ (d : Nat) (σ : Sg) (S : List Value) (l0 : Value) (x : Int32), exec d mX5_clear 7 [l0] (.int x :: .ref 35 :: S) σ = exec d mX5_clear 10 [l0] S (up σ 35 1 x)) ∧
  (∀ (d : Nat) (σ : Sg) (S : List Value) (k : Nat), exec d mX5_clear 10 [.ref k] S σ = exec d mX5_clear 11 [.ref k] (.ref k :: S) σ) ∧
  (∀ (d : Nat) (σ : Sg) (S : List Value) (l0 : Value), exec d mX5_clear 11 [l0] S σ = exec d mX5_clear 12 [l0] (.int (nI 0) :: S) σ) ∧
  (∀ (d : Nat) (σ : Sg) (S : List Value) (l0 : Value) (x : Int32), exec d mX5_clear 12 [l0] (.int x :: .ref 35 :: S) σ = exec d mX5_clear 15 [l0] S (up σ 35 2 x)) ∧
  (∀ (d : Nat) (σ : Sg) (S : List Value) (k : Nat), exec d mX5_clear 15 [.ref k] S σ = exec d mX5_clear 16 [.ref k] (.ref k :: S) σ) ∧
  (∀ (d : Nat) (σ : Sg) (S : List Value) (l0 : Value), exec d mX5_clear 16 [l0] S σ = exec d mX5_clear 17 [l0] (.int (nI 0) :: S) σ) ∧
  (∀ (d : Nat) (σ : Sg) (S : List Value) (l0 : Value) (x : Int32), exec d mX5_clear 17 [l0] (.int x :: .ref 35 :: S) σ = exec d mX5_clear 20 [l0] S (up σ 35 3 x)) ∧
  (∀ (d : Nat) (σ : Sg) (S : List Value) (k : Nat), exec d mX5_clear 20 [.ref k] S σ = exec d mX5_clear 21 [.ref k] (.ref k :: S) σ) ∧
  (∀ (d : Nat) (σ : Sg) (S : List Value) (l0 : Value), exec d mX5_clear 21 [l0] S σ = exec d mX5_clear 22 [l0] (.int (nI 0) :: S) σ) ∧
  (∀ (d : Nat) (σ : Sg) (S : List Value) (l0 : Value) (x : Int32), exec d mX5_clear 22 [l0] (.int x :: .ref 35 :: S) σ = exec d mX5_clear 25 [l0] S (up σ 35 4 x)) ∧
  (∀ (d : Nat) (σ : Sg) (S : List Value) (k : Nat), exec d mX5_clear 25 [.ref k] S σ = exec d mX5_clear 26 [.ref k] (.ref k :: S) σ) ∧
  (∀ (d : Nat) (σ : Sg) (S : List Value) (l0 : Value), exec d mX5_clear 26 [l0] S σ = exec d mX5_clear 27 [l0] (.int (nI 0) :: S) σ) ∧
  (∀ (d : Nat) (σ : Sg) (S : List Value) (l0 : Value) (x : Int32), exec d mX5_clear 27 [l0] (.int x :: .ref 35 :: S) σ = exec d mX5_clear 30 [l0] S (up σ 35 5 x)) ∧
  (∀ (d : Nat) (σ : Sg) (S : List Value) (k : Nat), exec d mX5_clear 30 [.ref k] S σ = exec d mX5_clear 31 [.ref k] (.ref k :: S) σ) ∧
  (∀ (d : Nat) (σ : Sg) (S : List Value) (l0 : Value), exec d mX5_clear 31 [l0] S σ = exec d mX5_clear 32 [l0] (.int (nI 0) :: S) σ) ∧
  (∀ (d : Nat) (σ : Sg) (S : List Value) (l0 : Value) (x : Int32), exec d mX5_clear 32 [l0] (.int x :: .ref 35 :: S) σ = exec d mX5_clear 35 [l0] S (up σ 35 6 x)) ∧
  (∀ (d : Nat) (σ : Sg) (S : List Value) (k : Nat), exec d mX5_clear 35 [.ref k] S σ = exec d mX5_clear 36 [.ref k] (.ref k :: S) σ) ∧
  (∀ (d : Nat) (σ : Sg) (S : List Value) (l0 : Value), exec d mX5_clear 36 [l0] S σ = exec d mX5_clear 37 [l0] (.int (nI 0) :: S) σ) ∧
  (∀ (d : Nat) (σ : Sg) (S : List Value) (l0 : Value) (x : Int32), exec d mX5_clear 37 [l0] (.int x :: .ref 35 :: S) σ = exec d mX5_clear 40 [l0] S (up σ 35 7 x)) ∧
  (∀ (d : Nat) (σ : Sg) (S : List Value) (k : Nat), exec d mX5_clear 40 [.ref k] S σ = exec d mX5_clear 41 [.ref k] (.ref k :: S) σ) ∧
  (∀ (d : Nat) (σ : Sg) (S : List Value) (l0 : Value), exec d mX5_clear 41 [l0] S σ = exec d mX5_clear 42 [l0] (.int (nI 0) :: S) σ) ∧
  (∀ (d : Nat) (σ : Sg) (S : List Value) (l0 : Value) (x : Int32), exec d mX5_clear 42 [l0] (.int x :: .ref 35 :: S) σ = exec d mX5_clear 45 [l0] S (up σ 35 8 x)) ∧
  (∀ (d : Nat) (σ : Sg) (l0 : Value), exec d mX5_clear 45 [l0] [] σ = some (none, σ)) :=
  ⟨fun d σ S k => ex_aload_n (show decode mX5_clear.2.1 0 = .ok (.aload_n 0, 1) by decide +kernel) rfl,
  fun d σ S l0 => ex_iconst (show decode mX5_clear.2.1 1 = .ok (.iconst 0, 1) by decide +kernel) (by decide +kernel),
  fun d σ S l0 x => ex_putz (idx := 36) (ci := 5) (ff := 0) (n := 17) (hh := 180) (by decide +kernel),
  fun d σ S k => ex_aload_n (show decode mX5_clear.2.1 5 = .ok (.aload_n 0, 1) by decide +kernel) rfl,
  fun d σ S l0 => ex_iconst (show decode mX5_clear.2.1 6 = .ok (.iconst 0, 1) by decide +kernel) (by decide +kernel),
  fun d σ S l0 x => ex_put (idx := 40) (ci := 5) (ff := 1) (n := 17) (hh := 183) (by decide +kernel),
  fun d σ S k => ex_aload_n (show decode mX5_clear.2.1 10 = .ok (.aload_n 0, 1) by decide +kernel) rfl,
  fun d σ S l0 => ex_iconst (show decode mX5_clear.2.1 11 = .ok (.iconst 0, 1) by decide +kernel) (by decide +kernel),
  fun d σ S l0 x => ex_put (idx := 44) (ci := 5) (ff := 2) (n := 17) (hh := 188) (by decide +kernel),
  fun d σ S k => ex_aload_n (show decode mX5_clear.2.1 15 = .ok (.aload_n 0, 1) by decide +kernel) rfl,
  fun d σ S l0 => ex_iconst (show decode mX5_clear.2.1 16 = .ok (.iconst 0, 1) by decide +kernel) (by decide +kernel),
  fun d σ S l0 x => ex_put (idx := 47) (ci := 5) (ff := 3) (n := 17) (hh := 193) (by decide +kernel),
  fun d σ S k => ex_aload_n (show decode mX5_clear.2.1 20 = .ok (.aload_n 0, 1) by decide +kernel) rfl,
  fun d σ S l0 => ex_iconst (show decode mX5_clear.2.1 21 = .ok (.iconst 0, 1) by decide +kernel) (by decide +kernel),
  fun d σ S l0 x => ex_put (idx := 50) (ci := 5) (ff := 4) (n := 17) (hh := 199) (by decide +kernel),
  fun d σ S k => ex_aload_n (show decode mX5_clear.2.1 25 = .ok (.aload_n 0, 1) by decide +kernel) rfl,
  fun d σ S l0 => ex_iconst (show decode mX5_clear.2.1 26 = .ok (.iconst 0, 1) by decide +kernel) (by decide +kernel),
  fun d σ S l0 x => ex_put (idx := 53) (ci := 5) (ff := 5) (n := 17) (hh := 202) (by decide +kernel),
  fun d σ S k => ex_aload_n (show decode mX5_clear.2.1 30 = .ok (.aload_n 0, 1) by decide +kernel) rfl,
  fun d σ S l0 => ex_iconst (show decode mX5_clear.2.1 31 = .ok (.iconst 0, 1) by decide +kernel) (by decide +kernel),
  fun d σ S l0 x => ex_put (idx := 56) (ci := 5) (ff := 6) (n := 17) (hh := 205) (by decide +kernel),
  fun d σ S k => ex_aload_n (show decode mX5_clear.2.1 35 = .ok (.aload_n 0, 1) by decide +kernel) rfl,
  fun d σ S l0 => ex_iconst (show decode mX5_clear.2.1 36 = .ok (.iconst 0, 1) by decide +kernel) (by decide +kernel),
  fun d σ S l0 x => ex_put (idx := 59) (ci := 5) (ff := 7) (n := 17) (hh := 209) (by decide +kernel),
  fun d σ S k => ex_aload_n (show decode mX5_clear.2.1 40 = .ok (.aload_n 0, 1) by decide +kernel) rfl,
  fun d σ S l0 => ex_iconst (show decode mX5_clear.2.1 41 = .ok (.iconst 0, 1) by decide +kernel) (by decide +kernel),
  fun d σ S l0 x => ex_put (idx := 62) (ci := 5) (ff := 8) (n := 17) (hh := 213) (by decide +kernel),
  fun d σ l0 => ex_vret (show decode mX5_clear.2.1 45 = .ok (.return_, 1) by decide +kernel) rfl⟩
theorem aX5_clear_35 : ∀ (d : Nat)  (σ : Sg), cal (d + 1) mX5_clear [.ref 35] σ = exec d mX5_clear 0 [.ref 35] [] σ := fun _ _ => rfl
theorem kX5_copyFrom_0 : (∀ (d : Nat) (σ : Sg) (S : List Value) (l1 l2 : Value) (k : Nat), exec d mX5_copyFrom 0 [.ref k, l1, l2] S σ = exec d mX5_copyFrom 1 [.ref k, l1, l2] (.ref k :: S) σ) ∧
  (∀ (d : Nat) (σ : Sg) (S : List Value) (l0 l2 : Value) (k : Nat), exec d mX5_copyFrom 1 [l0, .ref k, l2] S σ = exec d mX5_copyFrom 2 [l0, .ref k, l2] (.ref k :: S) σ) ∧
  (∀ (d : Nat) (σ : Sg) (S : List Value) (l0 l1 l2 : Value), exec d mX5_copyFrom 2 [l0, l1, l2] (.ref 8 :: S) σ = exec d mX5_copyFrom 5 [l0, l1, l2] (.int (σ 8 0) :: S) σ) ∧
  (∀ (d : Nat) (σ : Sg) (S : List Value) (l0 l1 l2 : Value), exec d mX5_copyFrom 2 [l0, l1, l2] (.ref 17 :: S) σ = exec d mX5_copyFrom 5 [l0, l1, l2] (.int (σ 17 0) :: S) σ) ∧
  (∀ (d : Nat) (σ : Sg) (S : List Value) (l0 l1 l2 : Value), exec d mX5_copyFrom 2 [l0, l1, l2] (.ref 26 :: S) σ = exec d mX5_copyFrom 5 [l0, l1, l2] (.int (σ 26 0) :: S) σ) ∧
  (∀ (d : Nat) (σ : Sg) (S : List Value) (l0 l1 l2 : Value), exec d mX5_copyFrom 2 [l0, l1, l2] (.ref 35 :: S) σ = exec d mX5_copyFrom 5 [l0, l1, l2] (.int (σ 35 0) :: S) σ) ∧
  (∀ (d : Nat) (σ : Sg) (S : List Value) (l0 l1 l2 : Value) (x : Int32), exec d mX5_copyFrom 5 [l0, l1, l2] (.int x :: .ref 8 :: S) σ = if b01 x = true then exec d mX5_copyFrom 8 [l0, l1, l2] S (up σ 8 0 x) else none) ∧
  (∀ (d : Nat) (σ : Sg) (S : List Value) (l0 l1 l2 : Value) (x : Int32), exec d mX5_copyFrom 5 [l0, l1, l2] (.int x :: .ref 17 :: S) σ = if b01 x = true then exec d mX5_copyFrom 8 [l0, l1, l2] S (up σ 17 0 x) else none) ∧
  (∀ (d : Nat) (σ : Sg) (S : List Value) (l0 l1 l2 : Value) (x : Int32), exec d mX5_copyFrom 5 [l0, l1, l2] (.int x :: .ref 26 :: S) σ = if b01 x = true then exec d mX5_copyFrom 8 [l0, l1, l2] S (up σ 26 0 x) else none) ∧
  (∀ (d : Nat) (σ : Sg) (S : List Value) (l0 l1 l2 : Value) (x : Int32), exec d mX5_copyFrom 5 [l0, l1, l2] (.int x :: .ref 35 :: S) σ = if b01 x = true then exec d mX5_copyFrom 8 [l0, l1, l2] S (up σ 35 0 x) else none) ∧
  (∀ (d : Nat) (σ : Sg) (S : List Value) (l1 l2 : Value) (k : Nat), exec d mX5_copyFrom 8 [.ref k, l1, l2] S σ = exec d mX5_copyFrom 9 [.ref k, l1, l2] (.ref k :: S) σ) ∧
  (∀ (d : Nat) (σ : Sg) (S : List Value) (l0 l2 : Value) (k : Nat), exec d mX5_copyFrom 9 [l0, .ref k, l2] S σ = exec d mX5_copyFrom 10 [l0, .ref k, l2] (.ref k :: S) σ) ∧
  (∀ (d : Nat) (σ : Sg) (S : List Value) (l0 l1 l2 : Value), exec d mX5_copyFrom 10 [l0, l1, l2] (.ref 8 :: S) σ = exec d mX5_copyFrom 13 [l0, l1, l2] (.int (σ 8 1) :: S) σ) ∧
  (∀ (d : Nat) (σ : Sg) (S : List Value) (l0 l1 l2 : Value), exec d mX5_copyFrom 10 [l0, l1, l2] (.ref 17 :: S) σ = exec d mX5_copyFrom 13 [l0, l1, l2] (.int (σ 17 1) :: S) σ) ∧
  (∀ (d : Nat) (σ : Sg) (S : List Value) (l0 l1 l2 : Value), exec d mX5_copyFrom 10 [l0, l1, l2] (.ref 26 :: S) σ = exec d mX5_copyFrom 13 [l0, l1, l2] (.int (σ 26 1) :: S) σ) ∧
  (∀ (d : Nat) (σ : Sg) (S : List Value) (l0 l1 l2 : Value), exec d mX5_copyFrom 10 [l0, l1, l2] (.ref 35 :: S) σ = exec d mX5_copyFrom 13 [l0, l1, l2] (.int (σ 35 1) :: S) σ) ∧
  (∀ (d : Nat) (σ : Sg) (S : List Value) (l0 l1 l2 : Value) (x : Int32), exec d mX5_copyFrom 13 [l0, l1, l2] (.int x :: .ref 8 :: S) σ = exec d mX5_copyFrom 16 [l0, l1, l2] S (up σ 8 1 x)) ∧
  (∀ (d : Nat) (σ : Sg) (S : List Value) (l0 l1 l2 : Value) (x : Int32), exec d mX5_copyFrom 13 [l0, l1, l2] (.int x :: .ref 17 :: S) σ = exec d mX5_copyFrom 16 [l0, l1, l2] S (up σ 17 1 x)) ∧
  (∀ (d : Nat) (σ : Sg) (S : List Value) (l0 l1 l2 : Value) (x : Int32), exec d mX5_copyFrom 13 [l0, l1, l2] (.int x :: .ref 26 :: S) σ = exec d mX5_copyFrom 16 [l0, l1, l2] S (up σ 26 1 x)) ∧
  (∀ (d : Nat) (σ : Sg) (S : List Value) (l0 l1 l2 : Value) (x : Int32), exec d mX5_copyFrom 13 [l0, l1, l2] (.int x :: .ref 35 :: S) σ = exec d mX5_copyFrom 16 [l0, l1, l2] S (up σ 35 1 x)) ∧
  (∀ (d : Nat) (σ : Sg) (S : List Value) (l1 l2 : Value) (k : Nat), exec d mX5_copyFrom 16 [.ref k, l1, l2] S σ = exec d mX5_copyFrom 17 [.ref k, l1, l2] (.ref k :: S) σ) ∧
  (∀ (d : Nat) (σ : Sg) (S : List Value) (l0 l2 : Value) (k : Nat), exec d mX5_copyFrom 17 [l0, .ref k, l2] S σ = exec d mX5_copyFrom 18 [l0, .ref k, l2] (.ref k :: S) σ) ∧
  (∀ (d : Nat) (σ : Sg) (S : List Value) (l0 l1 l2 : Value), exec d mX5_copyFrom 18 [l0, l1, l2] (.ref 8 :: S) σ = exec d mX5_copyFrom 21 [l0, l1, l2] (.int (σ 8 2) :: S) σ) ∧
  (∀ (d : Nat) (σ : Sg) (S : List Value) (l0 l1 l2 : Value), exec d mX5_copyFrom 18 [l0, l1, l2] (.ref 17 :: S) σ = exec d mX5_copyFrom 21 [l0, l1, l2] (.int (σ 17 2) :: S) σ) ∧
  (∀ (d : Nat) (σ : Sg) (S : List Value) (l0 l1 l2 : Value), exec d mX5_copyFrom 18 [l0, l1, l2] (.ref 26 :: S) σ = exec d mX5_copyFrom 21 [l0, l1, l2] (.int (σ 26 2) :: S) σ) ∧
  (∀ (d : Nat) (σ : Sg) (S : List Value) (l0 l1 l2 : Value), exec d mX5_copyFrom 18 [l0, l1, l2] (.ref 35 :: S) σ = exec d mX5_copyFrom 21 [l0, l1, l2] (.int (σ 35 2) :: S) σ) ∧
  (∀ (d : Nat) (σ : Sg) (S : List Value) (l0 l1 l2 : Value) (x : Int32), exec d mX5_copyFrom 21 [l0, l1, l2] (.int x :: .ref 8 :: S) σ = exec d mX5_copyFrom 24 [l0, l1, l2] S (up σ 8 2 x)) ∧
  (∀ (d : Nat) (σ : Sg) (S : List Value) (l0 l1 l2 : Value) (x : Int32), exec d mX5_copyFrom 21 [l0, l1, l2] (.int x :: .ref 17 :: S) σ = exec d mX5_copyFrom 24 [l0, l1, l2] S (up σ 17 2 x)) ∧
  (∀ (d : Nat) (σ : Sg) (S : List Value) (l0 l1 l2 : Value) (x : Int32), exec d mX5_copyFrom 21 [l0, l1, l2] (.int x :: .ref 26 :: S) σ = exec d mX5_copyFrom 24 [l0, l1, l2] S (up σ 26 2 x)) ∧
  (∀ (d : Nat) (σ : Sg) (S : List Value) (l0 l1 l2 : Value) (x : Int32), exec d mX5_copyFrom 21 [l0, l1, l2] (.int x :: .ref 35 :: S) σ = exec d mX5_copyFrom 24 [l0, l1, l2] S (up σ 35 2 x)) ∧
  (∀ (d : Nat) (σ : Sg) (S : List Value) (l1 l2 : Value) (k : Nat), exec d mX5_copyFrom 24 [.ref k, l1, l2] S σ = exec d mX5_copyFrom 25 [.ref k, l1, l2] (.ref k :: S) σ) ∧
  (∀ (d : Nat) (σ : Sg) (S : List Value) (l0 l2 : Value) (k : Nat), exec d mX5_copyFrom 25 [l0, .ref k, l2] S σ = exec d mX5_copyFrom 26 [l0, .ref k, l2] (.ref k :: S) σ) ∧
  (∀ (d : Nat) (σ : Sg) (S : List Value) (l0 l1 l2 : Value), exec d mX5_copyFrom 26 [l0, l1, l2] (.ref 8 :: S) σ = exec d mX5_copyFrom 29 [l0, l1, l2] (.int (σ 8 3) :: S) σ) ∧
  (∀ (d : Nat) (σ : Sg) (S : List Value) (l0 l1 l2 : Value), exec d mX5_copyFrom 26 [l0, l1, l2] (.ref 17 :: S) σ = exec d mX5_copyFrom 29 [l0, l1, l2] (.int (σ 17 3) :: S) σ) ∧
  (∀ (d : Nat) (σ : Sg) (S : List Value) (l0 l1 l2 : Value), exec d mX5_copyFrom 26 [l0, l1, l2] (.ref 26 :: S) σ = exec d mX5_copyFrom 29 [l0, l1, l2] (.int (σ 26 3) :: S) σ) ∧
  (∀ (d : Nat) (σ : Sg) (S : List Value) (l0 l1 l2 : Value), exec d mX5_copyFrom 26 [l0, l1, l2] (.ref 35 :: S) σ = exec d mX5_copyFrom 29 [l0, l1, l2] (.int (σ 35 3) :: S) σ) ∧
  (∀ (d : Nat) (σ : Sg) (S : List Value) (l0 l1 l2 : Value) (x : Int32), exec d mX5_copyFrom 29 [l0, l1, l2] (.int x :: .ref 8 :: S) σ = exec d mX5_copyFrom 32 [l0, l1, l2] S (up σ 8 3 x)) ∧
  (∀ (d : Nat) (σ : Sg) (S : List Value) (l0 l1 l2 : Value) (x : Int32), exec d mX5_copyFrom 29 [l0, l1, l2] (.int x :: .ref 17 :: S) σ = exec d mX5_copyFrom 32 [l0, l1, l2] S (up σ 17 3 x)) ∧
  (∀ (d : Nat) (σ : Sg) (S : List Value) (l0 l1 l2 : Value) (x : Int32), exec d mX5_copyFrom 29 [l0, l1, l2] (.int x :: .ref 26 :: S) σ = exec d mX5_copyFrom 32 [l0, l1, l2] S (up σ 26 3 x)) ∧
  (∀ (d : Nat) (σ : Sg) (S : List Value) (l0 l1 l2 : Value) (x : Int32), exec d mX5_copyFrom 29 [l0, l1, l2] (.int x :: .ref 35 :: S) σ = exec d mX5_copyFrom 32 [l0, l1, l2] S (up σ 35 3 x)) :=
  ⟨fun d σ S l1 l2 k => ex_aload_n (show decode mX5_copyFrom.2.1 0 = .ok (.aload_n 0, 1) by decide +kernel) rfl,
  fun d σ S l0 l2 k => ex_aload_n (show decode mX5_copyFrom.2.1 1 = .ok (.aload_n 1, 1) by decide +kernel) rfl,
  fun d σ S l0 l1 l2 => ex_get (idx := 36) (ci := 5) (ff := 0) (n := 17) (hh := 180) (by decide +kernel),
  fun d σ S l0 l1 l2 => ex_get (idx := 36) (ci := 5) (ff := 0) (n := 17) (hh := 180) (by decide +kernel),
  fun d σ S l0 l1 l2 => ex_get (idx := 36) (ci := 5) (ff := 0) (n := 17) (hh := 180) (by decide +kernel),
  fun d σ S l0 l1 l2 => ex_get (idx := 36) (ci := 5) (ff := 0) (n := 17) (hh := 180) (by decide +kernel),
  fun d σ S l0 l1 l2 x => ex_putz (idx := 36) (ci := 5) (ff := 0) (n := 17) (hh := 180) (by decide +kernel),
  fun d σ S l0 l1 l2 x => ex_putz (idx := 36) (ci := 5) (ff := 0) (n := 17) (hh := 180) (by decide +kernel),
  fun d σ S l0 l1 l2 x => ex_putz (idx := 36) (ci := 5) (ff := 0) (n := 17) (hh := 180) (by decide +kernel),
  fun d σ S l0 l1 l2 x => ex_putz (idx := 36) (ci := 5) (ff := 0) (n := 17) (hh := 180) (by decide +kernel),
  fun d σ S l1 l2 k => ex_aload_n (show decode mX5_copyFrom.2.1 8 = .ok (.aload_n 0, 1) by decide +kernel) rfl,
  fun d σ S l0 l2 k => ex_aload_n (show decode mX5_copyFrom.2.1 9 = .ok (.aload_n 1, 1) by decide +kernel) rfl,
  fun d σ S l0 l1 l2 => ex_get (idx := 40) (ci := 5) (ff := 1) (n := 17) (hh := 183) (by decide +kernel),
  fun d σ S l0 l1 l2 => ex_get (idx := 40) (ci := 5) (ff := 1) (n := 17) (hh := 183) (by decide +kernel),
  fun d σ S l0 l1 l2 => ex_get (idx := 40) (ci := 5) (ff := 1) (n := 17) (hh := 183) (by decide +kernel),
  fun d σ S l0 l1 l2 => ex_get (idx := 40) (ci := 5) (ff := 1) (n := 17) (hh := 183) (by decide +kernel),
  fun d σ S l0 l1 l2 x => ex_put (idx := 40) (ci := 5) (ff := 1) (n := 17) (hh := 183) (by decide +kernel),
  fun d σ S l0 l1 l2 x => ex_put (idx := 40) (ci := 5) (ff := 1) (n := 17) (hh := 183) (by decide +kernel),
  fun d σ S l0 l1 l2 x => ex_put (idx := 40) (ci := 5) (ff := 1) (n := 17) (hh := 183) (by decide +kernel),
  fun d σ S l0 l1 l2 x => ex_put (idx := 40) (ci := 5) (ff := 1) (n := 17) (hh := 183) (by decide +kernel),
  fun d σ S l1 l2 k => ex_aload_n (show decode mX5_copyFrom.2.1 16 = .ok (.aload_n 0, 1) by decide +kernel) rfl,
  fun d σ S l0 l2 k => ex_aload_n (show decode mX5_copyFrom.2.1 17 = .ok (.aload_n 1, 1) by decide +kernel) rfl,
  fun d σ S l0 l1 l2 => ex_get (idx := 44) (ci := 5) (ff := 2) (n := 17) (hh := 188) (by decide +kernel),
  fun d σ S l0 l1 l2 => ex_get (idx := 44) (ci := 5) (ff := 2) (n := 17) (hh := 188) (by decide +kernel),
  fun d σ S l0 l1 l2 => ex_get (idx := 44) (ci := 5) (ff := 2) (n := 17) (hh := 188) (by decide +kernel),
  fun d σ S l0 l1 l2 => ex_get (idx := 44) (ci := 5) (ff := 2) (n := 17) (hh := 188) (by decide +kernel),
  fun d σ S l0 l1 l2 x => ex_put (idx := 44) (ci := 5) (ff := 2) (n := 17) (hh := 188) (by decide +kernel),
  fun d σ S l0 l1 l2 x => ex_put (idx := 44) (ci := 5) (ff := 2) (n := 17) (hh := 188) (by decide +kernel),
  fun d σ S l0 l1 l2 x => ex_put (idx := 44) (ci := 5) (ff := 2) (n := 17) (hh := 188) (by decide +kernel),
  fun d σ S l0 l1 l2 x => ex_put (idx := 44) (ci := 5) (ff := 2) (n := 17) (hh := 188) (by decide +kernel),
  fun d σ S l1 l2 k => ex_aload_n (show decode mX5_copyFrom.2.1 24 = .ok (.aload_n 0, 1) by decide +kernel) rfl,
  fun d σ S l0 l2 k => ex_aload_n (show decode mX5_copyFrom.2.1 25 = .ok (.aload_n 1, 1) by decide +kernel) rfl,
  fun d σ S l0 l1 l2 => ex_get (idx := 47) (ci := 5) (ff := 3) (n := 17) (hh := 193) (by decide +kernel),
  fun d σ S l0 l1 l2 => ex_get (idx := 47) (ci := 5) (ff := 3) (n := 17) (hh := 193) (by decide +kernel),
  fun d σ S l0 l1 l2 => ex_get (idx := 47) (ci := 5) (ff := 3) (n := 17) (hh := 193) (by decide +kernel),
  fun d σ S l0 l1 l2 => ex_get (idx := 47) (ci := 5) (ff := 3) (n := 17) (hh := 193) (by decide +kernel),
  fun d σ S l0 l1 l2 x => ex_put (idx := 47) (ci := 5) (ff := 3) (n := 17) (hh := 193) (by decide +kernel),
  fun d σ S l0 l1 l2 x => ex_put (idx := 47) (ci := 5) (ff := 3) (n := 17) (hh := 193) (by decide +kernel),
  fun d σ S l0 l1 l2 x => ex_put (idx := 47) (ci := 5) (ff := 3) (n := 17) (hh := 193) (by decide +kernel),
  fun d σ S l0 l1 l2 x => ex_put (idx := 47) (ci := 5) (ff := 3) (n := 17) (hh := 193) (by decide +kernel)⟩
theorem kX5_copyFrom_1 : (∀ (d : Nat) (σ : Sg) (S : List Value) (l1 l2 : Value) (k : Nat), exec d mX5_copyFrom 32 [.ref k, l1, l2] S σ = exec d mX5_copyFrom 33 [.ref k, l1, l2] (.ref k :: S) σ) ∧
  (∀ (d : Nat) (σ : Sg) (S : List Value) (l0 l2 : Value) (k : Nat), exec d mX5_copyFrom 33 [l0, .ref k, l2] S σ = exec d mX5_copyFrom 34 [l0, .ref k, l2] (.ref k :: S) σ) ∧
  (∀ (d : Nat) (σ : Sg) (S : List Value) (l0 l1 l2 : Value), exec d mX5_copyFrom 34 [l0, l1, l2] (.ref 8 :: S) σ = exec d mX5_copyFrom 37 [l0, l1, l2] (.int (σ 8 4) :: S) σ) ∧
  (∀ (d : Nat) (σ : Sg) (S : List Value) (l0 l1 l2 : Value), exec d mX5_copyFrom 34 [l0, l1, l2] (.ref 17 :: S) σ = exec d mX5_copyFrom 37 [l0, l1, l2] (.int (σ 17 4) :: S) σ) ∧
  (∀ (d : Nat) (σ : Sg) (S : List Value) (l0 l1 l2 : Value), exec d mX5_copyFrom 34 [l0, l1, l2] (.ref 26 :: S) σ = exec d mX5_copyFrom 37 [l0, l1, l2] (.int (σ 26 4) :: S) σ) ∧
  (∀ (d : Nat) (σ : Sg) (S : List Value) (l0 l1 l2 : Value), exec d mX5_copyFrom 34 [l0, l1, l2] (.ref 35 :: S) σ = exec d mX5_copyFrom 37 [l0, l1, l2] (.int (σ 35 4) :: S) σ) ∧
  (∀ (d : Nat) (σ : Sg) (S : List Value) (l0 l1 l2 : Value) (x : Int32), exec d mX5_copyFrom 37 [l0, l1, l2] (.int x :: .ref 8 :: S) σ = exec d mX5_copyFrom 40 [l0, l1, l2] S (up σ 8 4 x)) ∧
  (∀ (d : Nat) (σ : Sg) (S : List Value) (l0 l1 l2 : Value) (x : Int32), exec d mX5_copyFrom 37 [l0, l1, l2] (.int x :: .ref 17 :: S) σ = exec d mX5_copyFrom 40 [l0, l1, l2] S (up σ 17 4 x)) ∧
  (∀ (d : Nat) (σ : Sg) (S : List Value) (l0 l1 l2 : Value) (x : Int32), exec d mX5_copyFrom 37 [l0, l1, l2] (.int x :: .ref 26 :: S) σ = exec d mX5_copyFrom 40 [l0, l1, l2] S (up σ 26 4 x)) ∧
  (∀ (d : Nat) (σ : Sg) (S : List Value) (l0 l1 l2 : Value) (x : Int32), exec d mX5_copyFrom 37 [l0, l1, l2] (.int x :: .ref 35 :: S) σ = exec d mX5_copyFrom 40 [l0, l1, l2] S (up σ 35 4 x)) ∧
  (∀ (d : Nat) (σ : Sg) (S : List Value) (l1 l2 : Value) (k : Nat), exec d mX5_copyFrom 40 [.ref k, l1, l2] S σ = exec d mX5_copyFrom 41 [.ref k, l1, l2] (.ref k :: S) σ) ∧
  (∀ (d : Nat) (σ : Sg) (S : List Value) (l0 l2 : Value) (k : Nat), exec d mX5_copyFrom 41 [l0, .ref k, l2] S σ = exec d mX5_copyFrom 42 [l0, .ref k, l2] (.ref k :: S) σ) ∧
  (∀ (d : Nat) (σ : Sg) (S : List Value) (l0 l1 l2 : Value), exec d mX5_copyFrom 42 [l0, l1, l2] (.ref 8 :: S) σ = exec d mX5_copyFrom 45 [l0, l1, l2] (.int (σ 8 5) :: S) σ) ∧
  (∀ (d : Nat) (σ : Sg) (S : List Value) (l0 l1 l2 : Value), exec d mX5_copyFrom 42 [l0, l1, l2] (.ref 17 :: S) σ = exec d mX5_copyFrom 45 [l0, l1, l2] (.int (σ 17 5) :: S) σ) ∧
  (∀ (d : Nat) (σ : Sg) (S : List Value) (l0 l1 l2 : Value), exec d mX5_copyFrom 42 [l0, l1, l2] (.ref 26 :: S) σ = exec d mX5_copyFrom 45 [l0, l1, l2] (.int (σ 26 5) :: S) σ) ∧
  (∀ (d : Nat) (σ : Sg) (S : List Value) (l0 l1 l2 : Value), exec d mX5_copyFrom 42 [l0, l1, l2] (.ref 35 :: S) σ = exec d mX5_copyFrom 45 [l0, l1, l2] (.int (σ 35 5) :: S) σ) ∧
  (∀ (d : Nat) (σ : Sg) (S : List Value) (l0 l1 l2 : Value) (x : Int32), exec d mX5_copyFrom 45 [l0, l1, l2] (.int x :: .ref 8 :: S) σ = exec d mX5_copyFrom 48 [l0, l1, l2] S (up σ 8 5 x)) ∧
  (∀ (d : Nat) (σ : Sg) (S : List Value) (l0 l1 l2 : Value) (x : Int32), exec d mX5_copyFrom 45 [l0, l1, l2] (.int x :: .ref 17 :: S) σ = exec d mX5_copyFrom 48 [l0, l1, l2] S (up σ 17 5 x)) ∧
  (∀ (d : Nat) (σ : Sg) (S : List Value) (l0 l1 l2 : Value) (x : Int32), exec d mX5_copyFrom 45 [l0, l1, l2] (.int x :: .ref 26 :: S) σ = exec d mX5_copyFrom 48 [l0, l1, l2] S (up σ 26 5 x)) ∧
  (∀ (d : Nat) (σ : Sg) (S : List Value) (l0 l1 l2 : Value) (x : Int32), exec d mX5_copyFrom 45 [l0, l1, l2] (.int x :: .ref 35 :: S) σ = exec d mX5_copyFrom 48 [l0, l1, l2] S (up σ 35 5 x)) ∧
  (∀ (d : Nat) (σ : Sg) (S : List Value) (l1 l2 : Value) (k : Nat), exec d mX5_copyFrom 48 [.ref k, l1, l2] S σ = exec d mX5_copyFrom 49 [.ref k, l1, l2] (.ref k :: S) σ) ∧
  (∀ (d : Nat) (σ : Sg) (S : List Value) (l0 l2 : Value) (k : Nat), exec d mX5_copyFrom 49 [l0, .ref k, l2] S σ = exec d mX5_copyFrom 50 [l0, .ref k, l2] (.ref k :: S) σ) ∧
  (∀ (d : Nat) (σ : Sg) (S : List Value) (l0 l1 l2 : Value), exec d mX5_copyFrom 50 [l0, l1, l2] (.ref 8 :: S) σ = exec d mX5_copyFrom 53 [l0, l1, l2] (.int (σ 8 6) :: S) σ) ∧
  (∀ (d : Nat) (σ : Sg) (S : List Value) (l0 l1 l2 : Value), exec d mX5_copyFrom 50 [l0, l1, l2] (.ref 17 :: S) σ = exec d mX5_copyFrom 53 [l0, l1, l2] (.int (σ 17 6) :: S) σ) ∧
  (∀ (d : Nat) (σ : Sg) (S : List Value) (l0 l1 l2 : Value), exec d mX5_copyFrom 50 [l0, l1, l2] (.ref 26 :: S) σ = exec d mX5_copyFrom 53 [l0, l1, l2] (.int (σ 26 6) :: S) σ) ∧
  (∀ (d : Nat) (σ : Sg) (S : List Value) (l0 l1 l2 : Value), exec d mX5_copyFrom 50 [l0, l1, l2] (.ref 35 :: S) σ = exec d mX5_copyFrom 53 [l0, l1, l2] (.int (σ 35 6) :: S) σ) ∧
  (∀ (d : Nat) (σ : Sg) (S : List Value) (l0 l1 l2 : Value) (x : Int32), exec d mX5_copyFrom 53 [l0, l1, l2] (.int x :: .ref 8 :: S) σ = exec d mX5_copyFrom 56 [l0, l1, l2] S (up σ 8 6 x)) ∧
  (∀ (d : Nat) (σ : Sg) (S : List Value) (l0 l1 l2 : Value) (x : Int32), exec d mX5_copyFrom 53 [l0, l1, l2] (.int x :: .ref 17 :: S) σ = exec d mX5_copyFrom 56 [l0, l1, l2] S (up σ 17 6 x)) ∧
  (∀ (d : Nat) (σ : Sg) (S : List Value) (l0 l1 l2 : Value) (x : Int32), exec d mX5_copyFrom 53 [l0, l1, l2] (.int x :: .ref 26 :: S) σ = exec d mX5_copyFrom 56 [l0, l1, l2] S (up σ 26 6 x)) ∧
  (∀ (d : Nat) (σ : Sg) (S : List Value) (l0 l1 l2 : Value) (x : Int32), exec d mX5_copyFrom 53 [l0, l1, l2] (.int x :: .ref 35 :: S) σ = exec d mX5_copyFrom 56 [l0, l1, l2] S (up σ 35 6 x)) ∧
  (∀ (d : Nat) (σ : Sg) (S : List Value) (l1 l2 : Value) (k : Nat), exec d mX5_copyFrom 56 [.ref k, l1, l2] S σ = exec d mX5_copyFrom 57 [.ref k, l1, l2] (.ref k :: S) σ) ∧
  (∀ (d : Nat) (σ : Sg) (S : List Value) (l0 l2 : Value) (k : Nat), exec d mX5_copyFrom 57 [l0, .ref k, l2] S σ = exec d mX5_copyFrom 58 [l0, .ref k, l2] (.ref k :: S) σ) ∧
  (∀ (d : Nat) (σ : Sg) (S : List Value) (l0 l1 l2 : Value), exec d mX5_copyFrom 58 [l0, l1, l2] (.ref 8 :: S) σ = exec d mX5_copyFrom 61 [l0, l1, l2] (.int (σ 8 7) :: S) σ) ∧
  (∀ (d : Nat) (σ : Sg) (S : List Value) (l0 l1 l2 : Value), exec d mX5_copyFrom 58 [l0, l1, l2] (.ref 17 :: S) σ = exec d mX5_copyFrom 61 [l0, l1, l2] (.int (σ 17 7) :: S) σ) ∧
  (∀ (d : Nat) (σ : Sg) (S : List Value) (l0 l1 l2 : Value), exec d mX5_copyFrom 58 [l0, l1, l2] (.ref 26 :: S) σ = exec d mX5_copyFrom 61 [l0, l1, l2] (.int (σ 26 7) :: S) σ) ∧
  (∀ (d : Nat) (σ : Sg) (S : List Value) (l0 l1 l2 : Value), exec d mX5_copyFrom 58 [l0, l1, l2] (.ref 35 :: S) σ = exec d mX5_copyFrom 61 [l0, l1, l2] (.int (σ 35 7) :: S) σ) ∧
  (∀ (d : Nat) (σ : Sg) (S : List Value) (l0 l1 l2 : Value) (x : Int32), exec d mX5_copyFrom 61 [l0, l1, l2] (.int x :: .ref 8 :: S) σ = exec d mX5_copyFrom 64 [l0, l1, l2] S (up σ 8 7 x)) ∧
  (∀ (d : Nat) (σ : Sg) (S : List Value) (l0 l1 l2 : Value) (x : Int32), exec d mX5_copyFrom 61 [l0, l1, l2] (.int x :: .ref 17 :: S) σ = exec d mX5_copyFrom 64 [l0, l1, l2] S (up σ 17 7 x)) ∧
  (∀ (d : Nat) (σ : Sg) (S : List Value) (l0 l1 l2 : Value) (x : Int32), exec d mX5_copyFrom 61 [l0, l1, l2] (.int x :: .ref 26 :: S) σ = exec d mX5_copyFrom 64 [l0, l1, l2] S (up σ 26 7 x)) ∧
  (∀ (d : Nat) (σ : Sg) (S : List Value) (l0 l1 l2 : Value) (x : Int32), exec d mX5_copyFrom 61 [l0, l1, l2] (.int x :: .ref 35 :: S) σ = exec d mX5_copyFrom 64 [l0, l1, l2] S (up σ 35 7 x)) :=
  ⟨fun d σ S l1 l2 k => ex_aload_n (show decode mX5_copyFrom.2.1 32 = .ok (.aload_n 0, 1) by decide +kernel) rfl,
  fun d σ S l0 l2 k => ex_aload_n (show decode mX5_copyFrom.2.1 33 = .ok (.aload_n 1, 1) by decide +kernel) rfl,
  fun d σ S l0 l1 l2 => ex_get (idx := 50) (ci := 5) (ff := 4) (n := 17) (hh := 199) (by decide +kernel),
  fun d σ S l0 l1 l2 => ex_get (idx := 50) (ci := 5) (ff := 4) (n := 17) (hh := 199) (by decide +kernel),
  fun d σ S l0 l1 l2 => ex_get (idx := 50) (ci := 5) (ff := 4) (n := 17) (hh := 199) (by decide +kernel),
  fun d σ S l0 l1 l2 => ex_get (idx := 50) (ci := 5) (ff := 4) (n := 17) (hh := 199) (by decide +kernel),
  fun d σ S l0 l1 l2 x => ex_put (idx := 50) (ci := 5) (ff := 4) (n := 17) (hh := 199) (by decide +kernel),
  fun d σ S l0 l1 l2 x => ex_put (idx := 50) (ci := 5) (ff := 4) (n := 17) (hh := 199) (by decide +kernel),
  fun d σ S l0 l1 l2 x => ex_put (idx := 50) (ci := 5) (ff := 4) (n := 17) (hh := 199) (by decide +kernel),
  fun d σ S l0 l1 l2 x => ex_put (idx := 50) (ci := 5) (ff := 4) (n := 17) (hh := 199) (by decide +kernel),
  fun d σ S l1 l2 k => ex_aload_n (show decode mX5_copyFrom.2.1 40 = .ok (.aload_n 0, 1) by decide +kernel) rfl,
  fun d σ S l0 l2 k => ex_aload_n (show decode mX5_copyFrom.2.1 41 = .ok (.aload_n 1, 1) by decide +kernel) rfl,
  fun d σ S l0 l1 l2 => ex_get (idx := 53) (ci := 5) (ff := 5) (n := 17) (hh := 202) (by decide +kernel),
  fun d σ S l0 l1 l2 => ex_get (idx := 53) (ci := 5) (ff := 5) (n := 17) (hh := 202) (by decide +kernel),
  fun d σ S l0 l1 l2 => ex_get (idx := 53) (ci := 5) (ff := 5) (n := 17) (hh := 202) (by decide +kernel),
  fun d σ S l0 l1 l2 => ex_get (idx := 53) (ci := 5) (ff := 5) (n := 17) (hh := 202) (by decide +kernel),
  fun d σ S l0 l1 l2 x => ex_put (idx := 53) (ci := 5) (ff := 5) (n := 17) (hh := 202) (by decide +kernel),
  fun d σ S l0 l1 l2 x => ex_put (idx := 53) (ci := 5) (ff := 5) (n := 17) (hh := 202) (by decide +kernel),
  fun d σ S l0 l1 l2 x => ex_put (idx := 53) (ci := 5) (ff := 5) (n := 17) (hh := 202) (by decide +kernel),
  fun d σ S l0 l1 l2 x => ex_put (idx := 53) (ci := 5) (ff := 5) (n := 17) (hh := 202) (by decide +kernel),
  fun d σ S l1 l2 k => ex_aload_n (show decode mX5_copyFrom.2.1 48 = .ok (.aload_n 0, 1) by decide +kernel) rfl,
  fun d σ S l0 l2 k => ex_aload_n (show decode mX5_copyFrom.2.1 49 = .ok (.aload_n 1, 1) by decide +kernel) rfl,
  fun d σ S l0 l1 l2 => ex_get (idx := 56) (ci := 5) (ff := 6) (n := 17) (hh := 205) (by decide +kernel),
  fun d σ S l0 l1 l2 => ex_get (idx := 56) (ci := 5) (ff := 6) (n := 17) (hh := 205) (by decide +kernel),
  fun d σ S l0 l1 l2 => ex_get (idx := 56) (ci := 5) (ff := 6) (n := 17) (hh := 205) (by decide +kernel),
  fun d σ S l0 l1 l2 => ex_get (idx := 56) (ci := 5) (ff := 6) (n := 17) (hh := 205) (by decide +kernel),
  fun d σ S l0 l1 l2 x => ex_put (idx := 56) (ci := 5) (ff := 6) (n := 17) (hh := 205) (by decide +kernel),
  fun d σ S l0 l1 l2 x => ex_put (idx := 56) (ci := 5) (ff := 6) (n := 17) (hh := 205) (by decide +kernel),
  fun d σ S l0 l1 l2 x => ex_put (idx := 56) (ci := 5) (ff := 6) (n := 17) (hh := 205) (by decide +kernel),
  fun d σ S l0 l1 l2 x => ex_put (idx := 56) (ci := 5) (ff := 6) (n := 17) (hh := 205) (by decide +kernel),
  fun d σ S l1 l2 k => ex_aload_n (show decode mX5_copyFrom.2.1 56 = .ok (.aload_n 0, 1) by decide +kernel) rfl,
  fun d σ S l0 l2 k => ex_aload_n (show decode mX5_copyFrom.2.1 57 = .ok (.aload_n 1, 1) by decide +kernel) rfl,
  fun d σ S l0 l1 l2 => ex_get (idx := 59) (ci := 5) (ff := 7) (n := 17) (hh := 209) (by decide +kernel),
  fun d σ S l0 l1 l2 => ex_get (idx := 59) (ci := 5) (ff := 7) (n := 17) (hh := 209) (by decide +kernel),
  fun d σ S l0 l1 l2 => ex_get (idx := 59) (ci := 5) (ff := 7) (n := 17) (hh := 209) (by decide +kernel),
  fun d σ S l0 l1 l2 => ex_get (idx := 59) (ci := 5) (ff := 7) (n := 17) (hh := 209) (by decide +kernel),
  fun d σ S l0 l1 l2 x => ex_put (idx := 59) (ci := 5) (ff := 7) (n := 17) (hh := 209) (by decide +kernel),
  fun d σ S l0 l1 l2 x => ex_put (idx := 59) (ci := 5) (ff := 7) (n := 17) (hh := 209) (by decide +kernel),
  fun d σ S l0 l1 l2 x => ex_put (idx := 59) (ci := 5) (ff := 7) (n := 17) (hh := 209) (by decide +kernel),
  fun d σ S l0 l1 l2 x => ex_put (idx := 59) (ci := 5) (ff := 7) (n := 17) (hh := 209) (by decide +kernel)⟩
theorem kX5_copyFrom_2 : (∀ (d : Nat) (σ : Sg) (S : List Value) (l1 l2 : Value) (k : Nat), exec d mX5_copyFrom 64 [.ref k, l1, l2] S σ = exec d mX5_copyFrom 65 [.ref k, l1, l2] (.ref k :: S) σ) ∧
  (∀ (d : Nat) (σ : Sg) (S : List Value) (l0 l2 : Value) (k : Nat), exec d mX5_copyFrom 65 [l0, .ref k, l2] S σ = exec d mX5_copyFrom 66 [l0, .ref k, l2] (.ref k :: S) σ) ∧
  (∀ (d : Nat) (σ : Sg) (S : List Value) (l0 l1 l2 : Value), exec d mX5_copyFrom 66 [l0, l1, l2] (.ref 8 :: S) σ = exec d mX5_copyFrom 69 [l0, l1, l2] (.int (σ 8 8) :: S) σ) ∧
  (∀ (d : Nat) (σ : Sg) (S : List Value) (l0 l1 l2 : Value), exec d mX5_copyFrom 66 [l0, l1, l2] (.ref 17 :: S) σ = exec d mX5_copyFrom 69 [l0, l1, l2] (.int (σ 17 8) :: S) σ) ∧
  (∀ (d : Nat) (σ : Sg) (S : List Value) (l0 l1 l2 : Value), exec d mX5_copyFrom 66 [l0, l1, l2] (.ref 26 :: S) σ = exec d mX5_copyFrom 69 [l0, l1, l2] (.int (σ 26 8) :: S) σ) ∧
  (∀ (d : Nat) (σ : Sg) (S : List Value) (l0 l1 l2 : Value), exec d mX5_copyFrom 66 [l0, l1, l2] (.ref 35 :: S) σ = exec d mX5_copyFrom 69 [l0, l1, l2] (.int (σ 35 8) :: S) σ) ∧
  (∀ (d : Nat) (σ : Sg) (S : List Value) (l0 l1 l2 : Value) (x : Int32), exec d mX5_copyFrom 69 [l0, l1, l2] (.int x :: .ref 8 :: S) σ = exec d mX5_copyFrom 72 [l0, l1, l2] S (up σ 8 8 x)) ∧
  (∀ (d : Nat) (σ : Sg) (S : List Value) (l0 l1 l2 : Value) (x : Int32), exec d mX5_copyFrom 69 [l0, l1, l2] (.int x :: .ref 17 :: S) σ = exec d mX5_copyFrom 72 [l0, l1, l2] S (up σ 17 8 x)) ∧
  (∀ (d : Nat) (σ : Sg) (S : List Value) (l0 l1 l2 : Value) (x : Int32), exec d mX5_copyFrom 69 [l0, l1, l2] (.int x :: .ref 26 :: S) σ = exec d mX5_copyFrom 72 [l0, l1, l2] S (up σ 26 8 x)) ∧
  (∀ (d : Nat) (σ : Sg) (S : List Value) (l0 l1 l2 : Value) (x : Int32), exec d mX5_copyFrom 69 [l0, l1, l2] (.int x :: .ref 35 :: S) σ = exec d mX5_copyFrom 72 [l0, l1, l2] S (up σ 35 8 x)) ∧
  (∀ (d : Nat) (σ : Sg) (S : List Value) (l0 l1 l2 : Value), exec d mX5_copyFrom 72 [l0, l1, l2] S σ = exec d mX5_copyFrom 73 [l0, l1, l2] (.int (nI 0) :: S) σ) ∧
  (∀ (d : Nat) (σ : Sg) (S : List Value) (l0 l2 : Value) (k : Nat) (x : Int32), exec d mX5_copyFrom 73 [l0, .ref k, l2] (.int x :: S) σ = exec d mX5_copyFrom 74 [l0, .ref k, .int x] S σ) ∧
  (∀ (d : Nat) (σ : Sg) (S : List Value) (l0 l1 l2 : Value), exec d mX5_copyFrom 75 [l0, l1, l2] S σ = exec d mX5_copyFrom 77 [l0, l1, l2] (.int (nI 7) :: S) σ) ∧
  (∀ (d : Nat) (σ : Sg) (S : List Value) (l0 l1 l2 : Value) (x y : Int32), exec d mX5_copyFrom 77 [l0, l1, l2] (.int y :: .int x :: S) σ = if y ≤ x then exec d mX5_copyFrom 134 [l0, l1, l2] S σ else exec d mX5_copyFrom 80 [l0, l1, l2] S σ) ∧
  (∀ (d : Nat) (σ : Sg) (S : List Value) (l1 l2 : Value) (k : Nat), exec d mX5_copyFrom 80 [.ref k, l1, l2] S σ = exec d mX5_copyFrom 81 [.ref k, l1, l2] (.ref k :: S) σ) ∧
  (∀ (d : Nat) (σ : Sg) (S : List Value) (l0 l1 l2 : Value), exec d mX5_copyFrom 81 [l0, l1, l2] (.ref 8 :: S) σ = exec d mX5_copyFrom 84 [l0, l1, l2] (.ref 9 :: S) σ) ∧
  (∀ (d : Nat) (σ : Sg) (S : List Value) (l0 l1 l2 : Value), exec d mX5_copyFrom 81 [l0, l1, l2] (.ref 17 :: S) σ = exec d mX5_copyFrom 84 [l0, l1, l2] (.ref 18 :: S) σ) ∧
  (∀ (d : Nat) (σ : Sg) (S : List Value) (l0 l1 l2 : Value), exec d mX5_copyFrom 81 [l0, l1, l2] (.ref 26 :: S) σ = exec d mX5_copyFrom 84 [l0, l1, l2] (.ref 27 :: S) σ) ∧
  (∀ (d : Nat) (σ : Sg) (S : List Value) (l0 l1 l2 : Value), exec d mX5_copyFrom 81 [l0, l1, l2] (.ref 35 :: S) σ = exec d mX5_copyFrom 84 [l0, l1, l2] (.ref 36 :: S) σ) ∧
  (∀ (d : Nat) (σ : Sg) (S : List Value) (l0 l1 : Value) (x : Int32), exec d mX5_copyFrom 84 [l0, l1, .int x] S σ = exec d mX5_copyFrom 85 [l0, l1, .int x] (.int x :: S) σ) ∧
  (∀ (d : Nat) (σ : Sg) (S : List Value) (l0 l2 : Value) (k : Nat), exec d mX5_copyFrom 85 [l0, .ref k, l2] S σ = exec d mX5_copyFrom 86 [l0, .ref k, l2] (.ref k :: S) σ) ∧
  (∀ (d : Nat) (σ : Sg) (S : List Value) (l0 l1 l2 : Value), exec d mX5_copyFrom 86 [l0, l1, l2] (.ref 8 :: S) σ = exec d mX5_copyFrom 89 [l0, l1, l2] (.ref 9 :: S) σ) ∧
  (∀ (d : Nat) (σ : Sg) (S : List Value) (l0 l1 l2 : Value), exec d mX5_copyFrom 86 [l0, l1, l2] (.ref 17 :: S) σ = exec d mX5_copyFrom 89 [l0, l1, l2] (.ref 18 :: S) σ) ∧
  (∀ (d : Nat) (σ : Sg) (S : List Value) (l0 l1 l2 : Value), exec d mX5_copyFrom 86 [l0, l1, l2] (.ref 26 :: S) σ = exec d mX5_copyFrom 89 [l0, l1, l2] (.ref 27 :: S) σ) ∧
  (∀ (d : Nat) (σ : Sg) (S : List Value) (l0 l1 l2 : Value), exec d mX5_copyFrom 86 [l0, l1, l2] (.ref 35 :: S) σ = exec d mX5_copyFrom 89 [l0, l1, l2] (.ref 36 :: S) σ) ∧
  (∀ (d : Nat) (σ : Sg) (S : List Value) (l0 l1 : Value) (x : Int32), exec d mX5_copyFrom 89 [l0, l1, .int x] S σ = exec d mX5_copyFrom 90 [l0, l1, .int x] (.int x :: S) σ) ∧
  (∀ (d : Nat) (σ : Sg) (S : List Value) (l0 l1 l2 : Value) (x : Int32), exec d mX5_copyFrom 90 [l0, l1, l2] (.int x :: .ref 9 :: S) σ = if inb x 7 = true then exec d mX5_copyFrom 91 [l0, l1, l2] (.int (σ 9 x.toNatClampNeg) :: S) σ else none) ∧
  (∀ (d : Nat) (σ : Sg) (S : List Value) (l0 l1 l2 : Value) (x : Int32), exec d mX5_copyFrom 90 [l0, l1, l2] (.int x :: .ref 18 :: S) σ = if inb x 7 = true then exec d mX5_copyFrom 91 [l0, l1, l2] (.int (σ 18 x.toNatClampNeg) :: S) σ else none) ∧
  (∀ (d : Nat) (σ : Sg) (S : List Value) (l0 l1 l2 : Value) (x : Int32), exec d mX5_copyFrom 90 [l0, l1, l2] (.int x :: .ref 27 :: S) σ = if inb x 7 = true then exec d mX5_copyFrom 91 [l0, l1, l2] (.int (σ 27 x.toNatClampNeg) :: S) σ else none) ∧
  (∀ (d : Nat) (σ : Sg) (S : List Value) (l0 l1 l2 : Value) (x : Int32), exec d mX5_copyFrom 90 [l0, l1, l2] (.int x :: .ref 36 :: S) σ = if inb x 7 = true then exec d mX5_copyFrom 91 [l0, l1, l2] (.int (σ 36 x.toNatClampNeg) :: S) σ else none) ∧
  (∀ (d : Nat) (σ : Sg) (S : List Value) (l0 l1 l2 : Value) (x y : Int32), exec d mX5_copyFrom 91 [l0, l1, l2] (.int y :: .int x :: .ref 9 :: S) σ = if inb x 7 = true then exec d mX5_copyFrom 92 [l0, l1, l2] S (up σ 9 x.toNatClampNeg y) else none) ∧
  (∀ (d : Nat) (σ : Sg) (S : List Value) (l0 l1 l2 : Value) (x y : Int32), exec d mX5_copyFrom 91 [l0, l1, l2] (.int y :: .int x :: .ref 18 :: S) σ = if inb x 7 = true then exec d mX5_copyFrom 92 [l0, l1, l2] S (up σ 18 x.toNatClampNeg y) else none) ∧
  (∀ (d : Nat) (σ : Sg) (S : List Value) (l0 l1 l2 : Value) (x y : Int32), exec d mX5_copyFrom 91 [l0, l1, l2] (.int y :: .int x :: .ref 27 :: S) σ = if inb x 7 = true then exec d mX5_copyFrom 92 [l0, l1, l2] S (up σ 27 x.toNatClampNeg y) else none) ∧
  (∀ (d : Nat) (σ : Sg) (S : List Value) (l0 l1 l2 : Value) (x y : Int32), exec d mX5_copyFrom 91 [l0, l1, l2] (.int y :: .int x :: .ref 36 :: S) σ = if inb x 7 = true then exec d mX5_copyFrom 92 [l0, l1, l2] S (up σ 36 x.toNatClampNeg y) else none) ∧
  (∀ (d : Nat) (σ : Sg) (S : List Value) (l1 l2 : Value) (k : Nat), exec d mX5_copyFrom 92 [.ref k, l1, l2] S σ = exec d mX5_copyFrom 93 [.ref k, l1, l2] (.ref k :: S) σ) ∧
  (∀ (d : Nat) (σ : Sg) (S : List Value) (l0 l1 l2 : Value), exec d mX5_copyFrom 93 [l0, l1, l2] (.ref 8 :: S) σ = exec d mX5_copyFrom 96 [l0, l1, l2] (.ref 10 :: S) σ) ∧
  (∀ (d : Nat) (σ : Sg) (S : List Value) (l0 l1 l2 : Value), exec d mX5_copyFrom 93 [l0, l1, l2] (.ref 17 :: S) σ = exec d mX5_copyFrom 96 [l0, l1, l2] (.ref 19 :: S) σ) ∧
  (∀ (d : Nat) (σ : Sg) (S : List Value) (l0 l1 l2 : Value), exec d mX5_copyFrom 93 [l0, l1, l2] (.ref 26 :: S) σ = exec d mX5_copyFrom 96 [l0, l1, l2] (.ref 28 :: S) σ) ∧
  (∀ (d : Nat) (σ : Sg) (S : List Value) (l0 l1 l2 : Value), exec d mX5_copyFrom 93 [l0, l1, l2] (.ref 35 :: S) σ = exec d mX5_copyFrom 96 [l0, l1, l2] (.ref 37 :: S) σ) ∧
  (∀ (d : Nat) (σ : Sg) (S : List Value) (l0 l1 : Value) (x : Int32), exec d mX5_copyFrom 96 [l0, l1, .int x] S σ = exec d mX5_copyFrom 97 [l0, l1, .int x] (.int x :: S) σ) :=
  ⟨fun d σ S l1 l2 k => ex_aload_n (show decode mX5_copyFrom.2.1 64 = .ok (.aload_n 0, 1) by decide +kernel) rfl,
  fun d σ S l0 l2 k => ex_aload_n (show decode mX5_copyFrom.2.1 65 = .ok (.aload_n 1, 1) by decide +kernel) rfl,
  fun d σ S l0 l1 l2 => ex_get (idx := 62) (ci := 5) (ff := 8) (n := 17) (hh := 213) (by decide +kernel),
  fun d σ S l0 l1 l2 => ex_get (idx := 62) (ci := 5) (ff := 8) (n := 17) (hh := 213) (by decide +kernel),
  fun d σ S l0 l1 l2 => ex_get (idx := 62) (ci := 5) (ff := 8) (n := 17) (hh := 213) (by decide +kernel),
  fun d σ S l0 l1 l2 => ex_get (idx := 62) (ci := 5) (ff := 8) (n := 17) (hh := 213) (by decide +kernel),
  fun d σ S l0 l1 l2 x => ex_put (idx := 62) (ci := 5) (ff := 8) (n := 17) (hh := 213) (by decide +kernel),
  fun d σ S l0 l1 l2 x => ex_put (idx := 62) (ci := 5) (ff := 8) (n := 17) (hh := 213) (by decide +kernel),
  fun d σ S l0 l1 l2 x => ex_put (idx := 62) (ci := 5) (ff := 8) (n := 17) (hh := 213) (by decide +kernel),
  fun d σ S l0 l1 l2 x => ex_put (idx := 62) (ci := 5) (ff := 8) (n := 17) (hh := 213) (by decide +kernel),
  fun d σ S l0 l1 l2 => ex_iconst (show decode mX5_copyFrom.2.1 72 = .ok (.iconst 0, 1) by decide +kernel) (by decide +kernel),
  fun d σ S l0 l2 k x => ex_istore_n (show decode mX5_copyFrom.2.1 73 = .ok (.istore_n 2, 1) by decide +kernel) (Nat.le_of_ble_eq_true rfl) rfl,
  fun d σ S l0 l1 l2 => ex_bipush (show decode mX5_copyFrom.2.1 75 = .ok (.bipush 7, 2) by decide +kernel) (by decide +kernel),
  fun d σ S l0 l1 l2 x y => ex_cge (show decode mX5_copyFrom.2.1 77 = .ok (.if_icmp .ge 57, 3) by decide +kernel) (by decide),
  fun d σ S l1 l2 k => ex_aload_n (show decode mX5_copyFrom.2.1 80 = .ok (.aload_n 0, 1) by decide +kernel) rfl,
  fun d σ S l0 l1 l2 => ex_getr (idx := 9) (ci := 5) (ff := 9) (n := 17) (hh := 216) (by decide +kernel),
  fun d σ S l0 l1 l2 => ex_getr (idx := 9) (ci := 5) (ff := 9) (n := 17) (hh := 216) (by decide +kernel),
  fun d σ S l0 l1 l2 => ex_getr (idx := 9) (ci := 5) (ff := 9) (n := 17) (hh := 216) (by decide +kernel),
  fun d σ S l0 l1 l2 => ex_getr (idx := 9) (ci := 5) (ff := 9) (n := 17) (hh := 216) (by decide +kernel),
  fun d σ S l0 l1 x => ex_iload_n (show decode mX5_copyFrom.2.1 84 = .ok (.iload_n 2, 1) by decide +kernel) rfl,
  fun d σ S l0 l2 k => ex_aload_n (show decode mX5_copyFrom.2.1 85 = .ok (.aload_n 1, 1) by decide +kernel) rfl,
  fun d σ S l0 l1 l2 => ex_getr (idx := 9) (ci := 5) (ff := 9) (n := 17) (hh := 216) (by decide +kernel),
  fun d σ S l0 l1 l2 => ex_getr (idx := 9) (ci := 5) (ff := 9) (n := 17) (hh := 216) (by decide +kernel),
  fun d σ S l0 l1 l2 => ex_getr (idx := 9) (ci := 5) (ff := 9) (n := 17) (hh := 216) (by decide +kernel),
  fun d σ S l0 l1 l2 => ex_getr (idx := 9) (ci := 5) (ff := 9) (n := 17) (hh := 216) (by decide +kernel),
  fun d σ S l0 l1 x => ex_iload_n (show decode mX5_copyFrom.2.1 89 = .ok (.iload_n 2, 1) by decide +kernel) rfl,
  fun d σ S l0 l1 l2 x => ex_iald (by decide +kernel),
  fun d σ S l0 l1 l2 x => ex_iald (by decide +kernel),
  fun d σ S l0 l1 l2 x => ex_iald (by decide +kernel),
  fun d σ S l0 l1 l2 x => ex_iald (by decide +kernel),
  fun d σ S l0 l1 l2 x y => ex_iast (by decide +kernel),
  fun d σ S l0 l1 l2 x y => ex_iast (by decide +kernel),
  fun d σ S l0 l1 l2 x y => ex_iast (by decide +kernel),
  fun d σ S l0 l1 l2 x y => ex_iast (by decide +kernel),
  fun d σ S l1 l2 k => ex_aload_n (show decode mX5_copyFrom.2.1 92 = .ok (.aload_n 0, 1) by decide +kernel) rfl,
  fun d σ S l0 l1 l2 => ex_getr (idx := 15) (ci := 5) (ff := 10) (n := 17) (hh := 220) (by decide +kernel),
  fun d σ S l0 l1 l2 => ex_getr (idx := 15) (ci := 5) (ff := 10) (n := 17) (hh := 220) (by decide +kernel),
  fun d σ S l0 l1 l2 => ex_getr (idx := 15) (ci := 5) (ff := 10) (n := 17) (hh := 220) (by decide +kernel),
  fun d σ S l0 l1 l2 => ex_getr (idx := 15) (ci := 5) (ff := 10) (n := 17) (hh := 220) (by decide +kernel),
  fun d σ S l0 l1 x => ex_iload_n (show decode mX5_copyFrom.2.1 96 = .ok (.iload_n 2, 1) by decide +kernel) rfl⟩
theorem kX5_copyFrom_3 : (∀ (d : Nat) (σ : Sg) (S : List Value) (l0 l2 : Value) (k : Nat), exec d mX5_copyFrom 97 [l0, .ref k, l2] S σ = exec d mX5_copyFrom 98 [l0, .ref k, l2] (.ref k :: S) σ) ∧
  (∀ (d : Nat) (σ : Sg) (S : List Value) (l0 l1 l2 : Value), exec d mX5_copyFrom 98 [l0, l1, l2] (.ref 8 :: S) σ = exec d mX5_copyFrom 101 [l0, l1, l2] (.ref 10 :: S) σ) ∧
  (∀ (d : Nat) (σ : Sg) (S : List Value) (l0 l1 l2 : Value), exec d mX5_copyFrom 98 [l0, l1, l2] (.ref 17 :: S) σ = exec d mX5_copyFrom 101 [l0, l1, l2] (.ref 19 :: S) σ) ∧
  (∀ (d : Nat) (σ : Sg) (S : List Value) (l0 l1 l2 : Value), exec d mX5_copyFrom 98 [l0, l1, l2] (.ref 26 :: S) σ = exec d mX5_copyFrom 101 [l0, l1, l2] (.ref 28 :: S) σ) ∧
  (∀ (d : Nat) (σ : Sg) (S : List Value) (l0 l1 l2 : Value), exec d mX5_copyFrom 98 [l0, l1, l2] (.ref 35 :: S) σ = exec d mX5_copyFrom 101 [l0, l1, l2] (.ref 37 :: S) σ) ∧
  (∀ (d : Nat) (σ : Sg) (S : List Value) (l0 l1 : Value) (x : Int32), exec d mX5_copyFrom 101 [l0, l1, .int x] S σ = exec d mX5_copyFrom 102 [l0, l1, .int x] (.int x :: S) σ) ∧
  (∀ (d : Nat) (σ : Sg) (S : List Value) (l0 l1 l2 : Value) (x : Int32), exec d mX5_copyFrom 102 [l0, l1, l2] (.int x :: .ref 10 :: S) σ = if inb x 7 = true then exec d mX5_copyFrom 103 [l0, l1, l2] (.int (σ 10 x.toNatClampNeg) :: S) σ else none) ∧
  (∀ (d : Nat) (σ : Sg) (S : List Value) (l0 l1 l2 : Value) (x : Int32), exec d mX5_copyFrom 102 [l0, l1, l2] (.int x :: .ref 19 :: S) σ = if inb x 7 = true then exec d mX5_copyFrom 103 [l0, l1, l2] (.int (σ 19 x.toNatClampNeg) :: S) σ else none) ∧
  (∀ (d : Nat) (σ : Sg) (S : List Value) (l0 l1 l2 : Value) (x : Int32), exec d mX5_copyFrom 102 [l0, l1, l2] (.int x :: .ref 28 :: S) σ = if inb x 7 = true then exec d mX5_copyFrom 103 [l0, l1, l2] (.int (σ 28 x.toNatClampNeg) :: S) σ else none) ∧
  (∀ (d : Nat) (σ : Sg) (S : List Value) (l0 l1 l2 : Value) (x : Int32), exec d mX5_copyFrom 102 [l0, l1, l2] (.int x :: .ref 37 :: S) σ = if inb x 7 = true then exec d mX5_copyFrom 103 [l0, l1, l2] (.int (σ 37 x.toNatClampNeg) :: S) σ else none) ∧
  (∀ (d : Nat) (σ : Sg) (S : List Value) (l0 l1 l2 : Value) (x y : Int32), exec d mX5_copyFrom 103 [l0, l1, l2] (.int y :: .int x :: .ref 10 :: S) σ = if inb x 7 = true then exec d mX5_copyFrom 104 [l0, l1, l2] S (up σ 10 x.toNatClampNeg y) else none) ∧
  (∀ (d : Nat) (σ : Sg) (S : List Value) (l0 l1 l2 : Value) (x y : Int32), exec d mX5_copyFrom 103 [l0, l1, l2] (.int y :: .int x :: .ref 19 :: S) σ = if inb x 7 = true then exec d mX5_copyFrom 104 [l0, l1, l2] S (up σ 19 x.toNatClampNeg y) else none) ∧
  (∀ (d : Nat) (σ : Sg) (S : List Value) (l0 l1 l2 : Value) (x y : Int32), exec d mX5_copyFrom 103 [l0, l1, l2] (.int y :: .int x :: .ref 28 :: S) σ = if inb x 7 = true then exec d mX5_copyFrom 104 [l0, l1, l2] S (up σ 28 x.toNatClampNeg y) else none) ∧
  (∀ (d : Nat) (σ : Sg) (S : List Value) (l0 l1 l2 : Value) (x y : Int32), exec d mX5_copyFrom 103 [l0, l1, l2] (.int y :: .int x :: .ref 37 :: S) σ = if inb x 7 = true then exec d mX5_copyFrom 104 [l0, l1, l2] S (up σ 37 x.toNatClampNeg y) else none) ∧
  (∀ (d : Nat) (σ : Sg) (S : List Value) (l1 l2 : Value) (k : Nat), exec d mX5_copyFrom 104 [.ref k, l1, l2] S σ = exec d mX5_copyFrom 105 [.ref k, l1, l2] (.ref k :: S) σ) ∧
  (∀ (d : Nat) (σ : Sg) (S : List Value) (l0 l1 l2 : Value), exec d mX5_copyFrom 105 [l0, l1, l2] (.ref 8 :: S) σ = exec d mX5_copyFrom 108 [l0, l1, l2] (.ref 11 :: S) σ) ∧
  (∀ (d : Nat) (σ : Sg) (S : List Value) (l0 l1 l2 : Value), exec d mX5_copyFrom 105 [l0, l1, l2] (.ref 17 :: S) σ = exec d mX5_copyFrom 108 [l0, l1, l2] (.ref 20 :: S) σ) ∧
  (∀ (d : Nat) (σ : Sg) (S : List Value) (l0 l1 l2 : Value), exec d mX5_copyFrom 105 [l0, l1, l2] (.ref 26 :: S) σ = exec d mX5_copyFrom 108 [l0, l1, l2] (.ref 29 :: S) σ) ∧
  (∀ (d : Nat) (σ : Sg) (S : List Value) (l0 l1 l2 : Value), exec d mX5_copyFrom 105 [l0, l1, l2] (.ref 35 :: S) σ = exec d mX5_copyFrom 108 [l0, l1, l2] (.ref 38 :: S) σ) ∧
  (∀ (d : Nat) (σ : Sg) (S : List Value) (l0 l1 : Value) (x : Int32), exec d mX5_copyFrom 108 [l0, l1, .int x] S σ = exec d mX5_copyFrom 109 [l0, l1, .int x] (.int x :: S) σ) ∧
  (∀ (d : Nat) (σ : Sg) (S : List Value) (l0 l2 : Value) (k : Nat), exec d mX5_copyFrom 109 [l0, .ref k, l2] S σ = exec d mX5_copyFrom 110 [l0, .ref k, l2] (.ref k :: S) σ) ∧
  (∀ (d : Nat) (σ : Sg) (S : List Value) (l0 l1 l2 : Value), exec d mX5_copyFrom 110 [l0, l1, l2] (.ref 8 :: S) σ = exec d mX5_copyFrom 113 [l0, l1, l2] (.ref 11 :: S) σ) ∧
  (∀ (d : Nat) (σ : Sg) (S : List Value) (l0 l1 l2 : Value), exec d mX5_copyFrom 110 [l0, l1, l2] (.ref 17 :: S) σ = exec d mX5_copyFrom 113 [l0, l1, l2] (.ref 20 :: S) σ) ∧
  (∀ (d : Nat) (σ : Sg) (S : List Value) (l0 l1 l2 : Value), exec d mX5_copyFrom 110 [l0, l1, l2] (.ref 26 :: S) σ = exec d mX5_copyFrom 113 [l0, l1, l2] (.ref 29 :: S) σ) ∧
  (∀ (d : Nat) (σ : Sg) (S : List Value) (l0 l1 l2 : Value), exec d mX5_copyFrom 110 [l0, l1, l2] (.ref 35 :: S) σ = exec d mX5_copyFrom 113 [l0, l1, l2] (.ref 38 :: S) σ) ∧
  (∀ (d : Nat) (σ : Sg) (S : List Value) (l0 l1 : Value) (x : Int32), exec d mX5_copyFrom 113 [l0, l1, .int x] S σ = exec d mX5_copyFrom 114 [l0, l1, .int x] (.int x :: S) σ) ∧
  (∀ (d : Nat) (σ : Sg) (S : List Value) (l0 l1 l2 : Value) (x : Int32), exec d mX5_copyFrom 114 [l0, l1, l2] (.int x :: .ref 11 :: S) σ = if inb x 7 = true then exec d mX5_copyFrom 115 [l0, l1, l2] (.int (σ 11 x.toNatClampNeg) :: S) σ else none) ∧
  (∀ (d : Nat) (σ : Sg) (S : List Value) (l0 l1 l2 : Value) (x : Int32), exec d mX5_copyFrom 114 [l0, l1, l2] (.int x :: .ref 20 :: S) σ = if inb x 7 = true then exec d mX5_copyFrom 115 [l0, l1, l2] (.int (σ 20 x.toNatClampNeg) :: S) σ else none) ∧
  (∀ (d : Nat) (σ : Sg) (S : List Value) (l0 l1 l2 : Value) (x : Int32), exec d mX5_copyFrom 114 [l0, l1, l2] (.int x :: .ref 29 :: S) σ = if inb x 7 = true then exec d mX5_copyFrom 115 [l0, l1, l2] (.int (σ 29 x.toNatClampNeg) :: S) σ else none) ∧
  (∀ (d : Nat) (σ : Sg) (S : List Value) (l0 l1 l2 : Value) (x : Int32), exec d mX5_copyFrom 114 [l0, l1, l2] (.int x :: .ref 38 :: S) σ = if inb x 7 = true then exec d mX5_copyFrom 115 [l0, l1, l2] (.int (σ 38 x.toNatClampNeg) :: S) σ else none) ∧
  (∀ (d : Nat) (σ : Sg) (S : List Value) (l0 l1 l2 : Value) (x y : Int32), exec d mX5_copyFrom 115 [l0, l1, l2] (.int y :: .int x :: .ref 11 :: S) σ = if inb x 7 = true then exec d mX5_copyFrom 116 [l0, l1, l2] S (up σ 11 x.toNatClampNeg y) else none) ∧
  (∀ (d : Nat) (σ : Sg) (S : List Value) (l0 l1 l2 : Value) (x y : Int32), exec d mX5_copyFrom 115 [l0, l1, l2] (.int y :: .int x :: .ref 20 :: S) σ = if inb x 7 = true then exec d mX5_copyFrom 116 [l0, l1, l2] S (up σ 20 x.toNatClampNeg y) else none) ∧
  (∀ (d : Nat) (σ : Sg) (S : List Value) (l0 l1 l2 : Value) (x y : Int32), exec d mX5_copyFrom 115 [l0, l1, l2] (.int y :: .int x :: .ref 29 :: S) σ = if inb x 7 = true then exec d mX5_copyFrom 116 [l0, l1, l2] S (up σ 29 x.toNatClampNeg y) else none) ∧
  (∀ (d : Nat) (σ : Sg) (S : List Value) (l0 l1 l2 : Value) (x y : Int32), exec d mX5_copyFrom 115 [l0, l1, l2] (.int y :: .int x :: .ref 38 :: S) σ = if inb x 7 = true then exec d mX5_copyFrom 116 [l0, l1, l2] S (up σ 38 x.toNatClampNeg y) else none) ∧
  (∀ (d : Nat) (σ : Sg) (S : List Value) (l1 l2 : Value) (k : Nat), exec d mX5_copyFrom 116 [.ref k, l1, l2] S σ = exec d mX5_copyFrom 117 [.ref k, l1, l2] (.ref k :: S) σ) ∧
  (∀ (d : Nat) (σ : Sg) (S : List Value) (l0 l1 l2 : Value), exec d mX5_copyFrom 117 [l0, l1, l2] (.ref 8 :: S) σ = exec d mX5_copyFrom 120 [l0, l1, l2] (.ref 12 :: S) σ) ∧
  (∀ (d : Nat) (σ : Sg) (S : List Value) (l0 l1 l2 : Value), exec d mX5_copyFrom 117 [l0, l1, l2] (.ref 17 :: S) σ = exec d mX5_copyFrom 120 [l0, l1, l2] (.ref 21 :: S) σ) ∧
  (∀ (d : Nat) (σ : Sg) (S : List Value) (l0 l1 l2 : Value), exec d mX5_copyFrom 117 [l0, l1, l2] (.ref 26 :: S) σ = exec d mX5_copyFrom 120 [l0, l1, l2] (.ref 30 :: S) σ) ∧
  (∀ (d : Nat) (σ : Sg) (S : List Value) (l0 l1 l2 : Value), exec d mX5_copyFrom 117 [l0, l1, l2] (.ref 35 :: S) σ = exec d mX5_copyFrom 120 [l0, l1, l2] (.ref 39 :: S) σ) ∧
  (∀ (d : Nat) (σ : Sg) (S : List Value) (l0 l1 : Value) (x : Int32), exec d mX5_copyFrom 120 [l0, l1, .int x] S σ = exec d mX5_copyFrom 121 [l0, l1, .int x] (.int x :: S) σ) :=
  ⟨fun d σ S l0 l2 k => ex_aload_n (show decode mX5_copyFrom.2.1 97 = .ok (.aload_n 1, 1) by decide +kernel) rfl,
  fun d σ S l0 l1 l2 => ex_getr (idx := 15) (ci := 5) (ff := 10) (n := 17) (hh := 220) (by decide +kernel),
  fun d σ S l0 l1 l2 => ex_getr (idx := 15) (ci := 5) (ff := 10) (n := 17) (hh := 220) (by decide +kernel),
  fun d σ S l0 l1 l2 => ex_getr (idx := 15) (ci := 5) (ff := 10) (n := 17) (hh := 220) (by decide +kernel),
  fun d σ S l0 l1 l2 => ex_getr (idx := 15) (ci := 5) (ff := 10) (n := 17) (hh := 220) (by decide +kernel),
  fun d σ S l0 l1 x => ex_iload_n (show decode mX5_copyFrom.2.1 101 = .ok (.iload_n 2, 1) by decide +kernel) rfl,
  fun d σ S l0 l1 l2 x => ex_iald (by decide +kernel),
  fun d σ S l0 l1 l2 x => ex_iald (by decide +kernel),
  fun d σ S l0 l1 l2 x => ex_iald (by decide +kernel),
  fun d σ S l0 l1 l2 x => ex_iald (by decide +kernel),
  fun d σ S l0 l1 l2 x y => ex_iast (by decide +kernel),
  fun d σ S l0 l1 l2 x y => ex_iast (by decide +kernel),
  fun d σ S l0 l1 l2 x y => ex_iast (by decide +kernel),
  fun d σ S l0 l1 l2 x y => ex_iast (by decide +kernel),
  fun d σ S l1 l2 k => ex_aload_n (show decode mX5_copyFrom.2.1 104 = .ok (.aload_n 0, 1) by decide +kernel) rfl,
  fun d σ S l0 l1 l2 => ex_getr (idx := 18) (ci := 5) (ff := 11) (n := 17) (hh := 224) (by decide +kernel),
  fun d σ S l0 l1 l2 => ex_getr (idx := 18) (ci := 5) (ff := 11) (n := 17) (hh := 224) (by decide +kernel),
  fun d σ S l0 l1 l2 => ex_getr (idx := 18) (ci := 5) (ff := 11) (n := 17) (hh := 224) (by decide +kernel),
  fun d σ S l0 l1 l2 => ex_getr (idx := 18) (ci := 5) (ff := 11) (n := 17) (hh := 224) (by decide +kernel),
  fun d σ S l0 l1 x => ex_iload_n (show decode mX5_copyFrom.2.1 108 = .ok (.iload_n 2, 1) by decide +kernel) rfl,
  fun d σ S l0 l2 k => ex_aload_n (show decode mX5_copyFrom.2.1 109 = .ok (.aload_n 1, 1) by decide +kernel) rfl,
  fun d σ S l0 l1 l2 => ex_getr (idx := 18) (ci := 5) (ff := 11) (n := 17) (hh := 224) (by decide +kernel),
  fun d σ S l0 l1 l2 => ex_getr (idx := 18) (ci := 5) (ff := 11) (n := 17) (hh := 224) (by decide +kernel),
  fun d σ S l0 l1 l2 => ex_getr (idx := 18) (ci := 5) (ff := 11) (n := 17) (hh := 224) (by decide +kernel),
  fun d σ S l0 l1 l2 => ex_getr (idx := 18) (ci := 5) (ff := 11) (n := 17) (hh := 224) (by decide +kernel),
  fun d σ S l0 l1 x => ex_iload_n (show decode mX5_copyFrom.2.1 113 = .ok (.iload_n 2, 1) by decide +kernel) rfl,
  fun d σ S l0 l1 l2 x => ex_iald (by decide +kernel),
  fun d σ S l0 l1 l2 x => ex_iald (by decide +kernel),
  fun d σ S l0 l1 l2 x => ex_iald (by decide +kernel),
  fun d σ S l0 l1 l2 x => ex_iald (by decide +kernel),
  fun d σ S l0 l1 l2 x y => ex_iast (by decide +kernel),
  fun d σ S l0 l1 l2 x y => ex_iast (by decide +kernel),
  fun d σ S l0 l1 l2 x y => ex_iast (by decide +kernel),
  fun d σ S l0 l1 l2 x y => ex_iast (by decide +kernel),
  fun d σ S l1 l2 k => ex_aload_n (show decode mX5_copyFrom.2.1 116 = .ok (.aload_n 0, 1) by decide +kernel) rfl,
  fun d σ S l0 l1 l2 => ex_getr (idx := 21) (ci := 5) (ff := 12) (n := 17) (hh := 228) (by decide +kernel),
  fun d σ S l0 l1 l2 => ex_getr (idx := 21) (ci := 5) (ff := 12) (n := 17) (hh := 228) (by decide +kernel),
  fun d σ S l0 l1 l2 => ex_getr (idx := 21) (ci := 5) (ff := 12) (n := 17) (hh := 228) (by decide +kernel),
  fun d σ S l0 l1 l2 => ex_getr (idx := 21) (ci := 5) (ff := 12) (n := 17) (hh := 228) (by decide +kernel),
  fun d σ S l0 l1 x => ex_iload_n (show decode mX5_copyFrom.2.1 120 = .ok (.iload_n 2, 1) by decide +kernel) rfl⟩
theorem kX5_copyFrom_4 : (∀ (d : Nat) (σ : Sg) (S : List Value) (l0 l2 : Value) (k : Nat), exec d mX5_copyFrom 121 [l0, .ref k, l2] S σ = exec d mX5_copyFrom 122 [l0, .ref k, l2] (.ref k :: S) σ) ∧
  (∀ (d : Nat) (σ : Sg) (S : List Value) (l0 l1 l2 : Value), exec d mX5_copyFrom 122 [l0, l1, l2] (.ref 8 :: S) σ = exec d mX5_copyFrom 125 [l0, l1, l2] (.ref 12 :: S) σ) ∧
  (∀ (d : Nat) (σ : Sg) (S : List Value) (l0 l1 l2 : Value), exec d mX5_copyFrom 122 [l0, l1, l2] (.ref 17 :: S) σ = exec d mX5_copyFrom 125 [l0, l1, l2] (.ref 21 :: S) σ) ∧
  (∀ (d : Nat) (σ : Sg) (S : List Value) (l0 l1 l2 : Value), exec d mX5_copyFrom 122 [l0, l1, l2] (.ref 26 :: S) σ = exec d mX5_copyFrom 125 [l0, l1, l2] (.ref 30 :: S) σ) ∧
  (∀ (d : Nat) (σ : Sg) (S : List Value) (l0 l1 l2 : Value), exec d mX5_copyFrom 122 [l0, l1, l2] (.ref 35 :: S) σ = exec d mX5_copyFrom 125 [l0, l1, l2] (.ref 39 :: S) σ) ∧
  (∀ (d : Nat) (σ : Sg) (S : List Value) (l0 l1 : Value) (x : Int32), exec d mX5_copyFrom 125 [l0, l1, .int x] S σ = exec d mX5_copyFrom 126 [l0, l1, .int x] (.int x :: S) σ) ∧
  (∀ (d : Nat) (σ : Sg) (S : List Value) (l0 l1 l2 : Value) (x : Int32), exec d mX5_copyFrom 126 [l0, l1, l2] (.int x :: .ref 12 :: S) σ = if inb x 7 = true then exec d mX5_copyFrom 127 [l0, l1, l2] (.int (σ 12 x.toNatClampNeg) :: S) σ else none) ∧
  (∀ (d : Nat) (σ : Sg) (S : List Value) (l0 l1 l2 : Value) (x : Int32), exec d mX5_copyFrom 126 [l0, l1, l2] (.int x :: .ref 21 :: S) σ = if inb x 7 = true then exec d mX5_copyFrom 127 [l0, l1, l2] (.int (σ 21 x.toNatClampNeg) :: S) σ else none) ∧
  (∀ (d : Nat) (σ : Sg) (S : List Value) (l0 l1 l2 : Value) (x : Int32), exec d mX5_copyFrom 126 [l0, l1, l2] (.int x :: .ref 30 :: S) σ = if inb x 7 = true then exec d mX5_copyFrom 127 [l0, l1, l2] (.int (σ 30 x.toNatClampNeg) :: S) σ else none) ∧
  (∀ (d : Nat) (σ : Sg) (S : List Value) (l0 l1 l2 : Value) (x : Int32), exec d mX5_copyFrom 126 [l0, l1, l2] (.int x :: .ref 39 :: S) σ = if inb x 7 = true then exec d mX5_copyFrom 127 [l0, l1, l2] (.int (σ 39 x.toNatClampNeg) :: S) σ else none) ∧
  (∀ (d : Nat) (σ : Sg) (S : List Value) (l0 l1 l2 : Value) (x y : Int32), exec d mX5_copyFrom 127 [l0, l1, l2] (.int y :: .int x :: .ref 12 :: S) σ = if inb x 7 = true then exec d mX5_copyFrom 128 [l0, l1, l2] S (up σ 12 x.toNatClampNeg y) else none) ∧
  (∀ (d : Nat) (σ : Sg) (S : List Value) (l0 l1 l2 : Value) (x y : Int32), exec d mX5_copyFrom 127 [l0, l1, l2] (.int y :: .int x :: .ref 21 :: S) σ = if inb x 7 = true then exec d mX5_copyFrom 128 [l0, l1, l2] S (up σ 21 x.toNatClampNeg y) else none) ∧
  (∀ (d : Nat) (σ : Sg) (S : List Value) (l0 l1 l2 : Value) (x y : Int32), exec d mX5_copyFrom 127 [l0, l1, l2] (.int y :: .int x :: .ref 30 :: S) σ = if inb x 7 = true then exec d mX5_copyFrom 128 [l0, l1, l2] S (up σ 30 x.toNatClampNeg y) else none) ∧
  (∀ (d : Nat) (σ : Sg) (S : List Value) (l0 l1 l2 : Value) (x y : Int32), exec d mX5_copyFrom 127 [l0, l1, l2] (.int y :: .int x :: .ref 39 :: S) σ = if inb x 7 = true then exec d mX5_copyFrom 128 [l0, l1, l2] S (up σ 39 x.toNatClampNeg y) else none) ∧
  (∀ (d : Nat) (σ : Sg) (S : List Value) (l0 : Value) (k : Nat) (x : Int32), exec d mX5_copyFrom 128 [l0, .ref k, .int x] S σ = exec d mX5_copyFrom 131 [l0, .ref k, .int (x + nI 1)] S σ) ∧
  (∀ (d : Nat) (σ : Sg) (S : List Value) (l0 l1 l2 : Value), exec d mX5_copyFrom 131 [l0, l1, l2] S σ = exec d mX5_copyFrom 74 [l0, l1, l2] S σ) ∧
  (∀ (d : Nat) (σ : Sg) (S : List Value) (l0 l1 l2 : Value), exec d mX5_copyFrom 134 [l0, l1, l2] S σ = exec d mX5_copyFrom 135 [l0, l1, l2] (.int (nI 0) :: S) σ) ∧
  (∀ (d : Nat) (σ : Sg) (S : List Value) (l0 l2 : Value) (k : Nat) (x : Int32), exec d mX5_copyFrom 135 [l0, .ref k, l2] (.int x :: S) σ = exec d mX5_copyFrom 136 [l0, .ref k, .int x] S σ) ∧
  (∀ (d : Nat) (σ : Sg) (S : List Value) (l0 l1 l2 : Value), exec d mX5_copyFrom 137 [l0, l1, l2] S σ = exec d mX5_copyFrom 138 [l0, l1, l2] (.int (nI 5) :: S) σ) ∧
  (∀ (d : Nat) (σ : Sg) (S : List Value) (l0 l1 l2 : Value) (x y : Int32), exec d mX5_copyFrom 138 [l0, l1, l2] (.int y :: .int x :: S) σ = if y ≤ x then exec d mX5_copyFrom 195 [l0, l1, l2] S σ else exec d mX5_copyFrom 141 [l0, l1, l2] S σ) ∧
  (∀ (d : Nat) (σ : Sg) (S : List Value) (l1 l2 : Value) (k : Nat), exec d mX5_copyFrom 141 [.ref k, l1, l2] S σ = exec d mX5_copyFrom 142 [.ref k, l1, l2] (.ref k :: S) σ) ∧
  (∀ (d : Nat) (σ : Sg) (S : List Value) (l0 l1 l2 : Value), exec d mX5_copyFrom 142 [l0, l1, l2] (.ref 8 :: S) σ = exec d mX5_copyFrom 145 [l0, l1, l2] (.ref 13 :: S) σ) ∧
  (∀ (d : Nat) (σ : Sg) (S : List Value) (l0 l1 l2 : Value), exec d mX5_copyFrom 142 [l0, l1, l2] (.ref 17 :: S) σ = exec d mX5_copyFrom 145 [l0, l1, l2] (.ref 22 :: S) σ) ∧
  (∀ (d : Nat) (σ : Sg) (S : List Value) (l0 l1 l2 : Value), exec d mX5_copyFrom 142 [l0, l1, l2] (.ref 26 :: S) σ = exec d mX5_copyFrom 145 [l0, l1, l2] (.ref 31 :: S) σ) ∧
  (∀ (d : Nat) (σ : Sg) (S : List Value) (l0 l1 l2 : Value), exec d mX5_copyFrom 142 [l0, l1, l2] (.ref 35 :: S) σ = exec d mX5_copyFrom 145 [l0, l1, l2] (.ref 40 :: S) σ) ∧
  (∀ (d : Nat) (σ : Sg) (S : List Value) (l0 l1 : Value) (x : Int32), exec d mX5_copyFrom 145 [l0, l1, .int x] S σ = exec d mX5_copyFrom 146 [l0, l1, .int x] (.int x :: S) σ) ∧
  (∀ (d : Nat) (σ : Sg) (S : List Value) (l0 l2 : Value) (k : Nat), exec d mX5_copyFrom 146 [l0, .ref k, l2] S σ = exec d mX5_copyFrom 147 [l0, .ref k, l2] (.ref k :: S) σ) ∧
  (∀ (d : Nat) (σ : Sg) (S : List Value) (l0 l1 l2 : Value), exec d mX5_copyFrom 147 [l0, l1, l2] (.ref 8 :: S) σ = exec d mX5_copyFrom 150 [l0, l1, l2] (.ref 13 :: S) σ) ∧
  (∀ (d : Nat) (σ : Sg) (S : List Value) (l0 l1 l2 : Value), exec d mX5_copyFrom 147 [l0, l1, l2] (.ref 17 :: S) σ = exec d mX5_copyFrom 150 [l0, l1, l2] (.ref 22 :: S) σ) ∧
  (∀ (d : Nat) (σ : Sg) (S : List Value) (l0 l1 l2 : Value), exec d mX5_copyFrom 147 [l0, l1, l2] (.ref 26 :: S) σ = exec d mX5_copyFrom 150 [l0, l1, l2] (.ref 31 :: S) σ) ∧
  (∀ (d : Nat) (σ : Sg) (S : List Value) (l0 l1 l2 : Value), exec d mX5_copyFrom 147 [l0, l1, l2] (.ref 35 :: S) σ = exec d mX5_copyFrom 150 [l0, l1, l2] (.ref 40 :: S) σ) ∧
  (∀ (d : Nat) (σ : Sg) (S : List Value) (l0 l1 : Value) (x : Int32), exec d mX5_copyFrom 150 [l0, l1, .int x] S σ = exec d mX5_copyFrom 151 [l0, l1, .int x] (.int x :: S) σ) ∧
  (∀ (d : Nat) (σ : Sg) (S : List Value) (l0 l1 l2 : Value) (x : Int32), exec d mX5_copyFrom 151 [l0, l1, l2] (.int x :: .ref 13 :: S) σ = if inb x 5 = true then exec d mX5_copyFrom 152 [l0, l1, l2] (.int (σ 13 x.toNatClampNeg) :: S) σ else none) ∧
  (∀ (d : Nat) (σ : Sg) (S : List Value) (l0 l1 l2 : Value) (x : Int32), exec d mX5_copyFrom 151 [l0, l1, l2] (.int x :: .ref 22 :: S) σ = if inb x 5 = true then exec d mX5_copyFrom 152 [l0, l1, l2] (.int (σ 22 x.toNatClampNeg) :: S) σ else none) ∧
  (∀ (d : Nat) (σ : Sg) (S : List Value) (l0 l1 l2 : Value) (x : Int32), exec d mX5_copyFrom 151 [l0, l1, l2] (.int x :: .ref 31 :: S) σ = if inb x 5 = true then exec d mX5_copyFrom 152 [l0, l1, l2] (.int (σ 31 x.toNatClampNeg) :: S) σ else none) ∧
  (∀ (d : Nat) (σ : Sg) (S : List Value) (l0 l1 l2 : Value) (x : Int32), exec d mX5_copyFrom 151 [l0, l1, l2] (.int x :: .ref 40 :: S) σ = if inb x 5 = true then exec d mX5_copyFrom 152 [l0, l1, l2] (.int (σ 40 x.toNatClampNeg) :: S) σ else none) ∧
  (∀ (d : Nat) (σ : Sg) (S : List Value) (l0 l1 l2 : Value) (x y : Int32), exec d mX5_copyFrom 152 [l0, l1, l2] (.int y :: .int x :: .ref 13 :: S) σ = if inb x 5 = true then exec d mX5_copyFrom 153 [l0, l1, l2] S (up σ 13 x.toNatClampNeg y) else none) ∧
  (∀ (d : Nat) (σ : Sg) (S : List Value) (l0 l1 l2 : Value) (x y : Int32), exec d mX5_copyFrom 152 [l0, l1, l2] (.int y :: .int x :: .ref 22 :: S) σ = if inb x 5 = true then exec d mX5_copyFrom 153 [l0, l1, l2] S (up σ 22 x.toNatClampNeg y) else none) ∧
  (∀ (d : Nat) (σ : Sg) (S : List Value) (l0 l1 l2 : Value) (x y : Int32), exec d mX5_copyFrom 152 [l0, l1, l2] (.int y :: .int x :: .ref 31 :: S) σ = if inb x 5 = true then exec d mX5_copyFrom 153 [l0, l1, l2] S (up σ 31 x.toNatClampNeg y) else none) ∧
  (∀ (d : Nat) (σ : Sg) (S : List Value) (l0 l1 l2 : Value) (x y : Int32), exec d mX5_copyFrom 152 [l0, l1, l2] (.int y :: .int x :: .ref 40 :: S) σ = if inb x 5 = true then exec d mX5_copyFrom 153 [l0, l1, l2] S (up σ 40 x.toNatClampNeg y) else none) :=
  ⟨fun d σ S l0 l2 k => ex_aload_n (show decode mX5_copyFrom.2.1 121 = .ok (.aload_n 1, 1) by decide +kernel) rfl,
  fun d σ S l0 l1 l2 => ex_getr (idx := 21) (ci := 5) (ff := 12) (n := 17) (hh := 228) (by decide +kernel),
  fun d σ S l0 l1 l2 => ex_getr (idx := 21) (ci := 5) (ff := 12) (n := 17) (hh := 228) (by decide +kernel),
  fun d σ S l0 l1 l2 => ex_getr (idx := 21) (ci := 5) (ff := 12) (n := 17) (hh := 228) (by decide +kernel),
  fun d σ S l0 l1 l2 => ex_getr (idx := 21) (ci := 5) (ff := 12) (n := 17) (hh := 228) (by decide +kernel),
  fun d σ S l0 l1 x => ex_iload_n (show decode mX5_copyFrom.2.1 125 = .ok (.iload_n 2, 1) by decide +kernel) rfl,
  fun d σ S l0 l1 l2 x => ex_iald (by decide +kernel),
  fun d σ S l0 l1 l2 x => ex_iald (by decide +kernel),
  fun d σ S l0 l1 l2 x => ex_iald (by decide +kernel),
  fun d σ S l0 l1 l2 x => ex_iald (by decide +kernel),
  fun d σ S l0 l1 l2 x y => ex_iast (by decide +kernel),
  fun d σ S l0 l1 l2 x y => ex_iast (by decide +kernel),
  fun d σ S l0 l1 l2 x y => ex_iast (by decide +kernel),
  fun d σ S l0 l1 l2 x y => ex_iast (by decide +kernel),
  fun d σ S l0 k x => ex_iinc (show decode mX5_copyFrom.2.1 128 = .ok (.iinc 2 1, 3) by decide +kernel) rfl (by decide +kernel) (Nat.le_of_ble_eq_true rfl) rfl,
  fun d σ S l0 l1 l2 => ex_goto (show decode mX5_copyFrom.2.1 131 = .ok (.goto (-57), 3) by decide +kernel) (by decide),
  fun d σ S l0 l1 l2 => ex_iconst (show decode mX5_copyFrom.2.1 134 = .ok (.iconst 0, 1) by decide +kernel) (by decide +kernel),
  fun d σ S l0 l2 k x => ex_istore_n (show decode mX5_copyFrom.2.1 135 = .ok (.istore_n 2, 1) by decide +kernel) (Nat.le_of_ble_eq_true rfl) rfl,
  fun d σ S l0 l1 l2 => ex_iconst (show decode mX5_copyFrom.2.1 137 = .ok (.iconst 5, 1) by decide +kernel) (by decide +kernel),
  fun d σ S l0 l1 l2 x y => ex_cge (show decode mX5_copyFrom.2.1 138 = .ok (.if_icmp .ge 57, 3) by decide +kernel) (by decide),
  fun d σ S l1 l2 k => ex_aload_n (show decode mX5_copyFrom.2.1 141 = .ok (.aload_n 0, 1) by decide +kernel) rfl,
  fun d σ S l0 l1 l2 => ex_getr (idx := 24) (ci := 5) (ff := 13) (n := 17) (hh := 230) (by decide +kernel),
  fun d σ S l0 l1 l2 => ex_getr (idx := 24) (ci := 5) (ff := 13) (n := 17) (hh := 230) (by decide +kernel),
  fun d σ S l0 l1 l2 => ex_getr (idx := 24) (ci := 5) (ff := 13) (n := 17) (hh := 230) (by decide +kernel),
  fun d σ S l0 l1 l2 => ex_getr (idx := 24) (ci := 5) (ff := 13) (n := 17) (hh := 230) (by decide +kernel),
  fun d σ S l0 l1 x => ex_iload_n (show decode mX5_copyFrom.2.1 145 = .ok (.iload_n 2, 1) by decide +kernel) rfl,
  fun d σ S l0 l2 k => ex_aload_n (show decode mX5_copyFrom.2.1 146 = .ok (.aload_n 1, 1) by decide +kernel) rfl,
  fun d σ S l0 l1 l2 => ex_getr (idx := 24) (ci := 5) (ff := 13) (n := 17) (hh := 230) (by decide +kernel),
  fun d σ S l0 l1 l2 => ex_getr (idx := 24) (ci := 5) (ff := 13) (n := 17) (hh := 230) (by decide +kernel),
  fun d σ S l0 l1 l2 => ex_getr (idx := 24) (ci := 5) (ff := 13) (n := 17) (hh := 230) (by decide +kernel),
  fun d σ S l0 l1 l2 => ex_getr (idx := 24) (ci := 5) (ff := 13) (n := 17) (hh := 230) (by decide +kernel),
  fun d σ S l0 l1 x => ex_iload_n (show decode mX5_copyFrom.2.1 150 = .ok (.iload_n 2, 1) by decide +kernel) rfl,
  fun d σ S l0 l1 l2 x => ex_iald (by decide +kernel),
  fun d σ S l0 l1 l2 x => ex_iald (by decide +kernel),
  fun d σ S l0 l1 l2 x => ex_iald (by decide +kernel),
  fun d σ S l0 l1 l2 x => ex_iald (by decide +kernel),
  fun d σ S l0 l1 l2 x y => ex_iast (by decide +kernel),
  fun d σ S l0 l1 l2 x y => ex_iast (by decide +kernel),
  fun d σ S l0 l1 l2 x y => ex_iast (by decide +kernel),
  fun d σ S l0 l1 l2 x y => ex_iast (by decide +kernel)⟩
theorem kX5_copyFrom_5 : (∀ (d : Nat) (σ : Sg) (S : List Value) (l1 l2 : Value) (k : Nat), exec d mX5_copyFrom 153 [.ref k, l1, l2] S σ = exec d mX5_copyFrom 154 [.ref k, l1, l2] (.ref k :: S) σ) ∧
  (∀ (d : Nat) (σ : Sg) (S : List Value) (l0 l1 l2 : Value), exec d mX5_copyFrom 154 [l0, l1, l2] (.ref 8 :: S) σ = exec d mX5_copyFrom 157 [l0, l1, l2] (.ref 14 :: S) σ) ∧
  (∀ (d : Nat) (σ : Sg) (S : List Value) (l0 l1 l2 : Value), exec d mX5_copyFrom 154 [l0, l1, l2] (.ref 17 :: S) σ = exec d mX5_copyFrom 157 [l0, l1, l2] (.ref 23 :: S) σ) ∧
  (∀ (d : Nat) (σ : Sg) (S : List Value) (l0 l1 l2 : Value), exec d mX5_copyFrom 154 [l0, l1, l2] (.ref 26 :: S) σ = exec d mX5_copyFrom 157 [l0, l1, l2] (.ref 32 :: S) σ) ∧
  (∀ (d : Nat) (σ : Sg) (S : List Value) (l0 l1 l2 : Value), exec d mX5_copyFrom 154 [l0, l1, l2] (.ref 35 :: S) σ = exec d mX5_copyFrom 157 [l0, l1, l2] (.ref 41 :: S) σ) ∧
  (∀ (d : Nat) (σ : Sg) (S : List Value) (l0 l1 : Value) (x : Int32), exec d mX5_copyFrom 157 [l0, l1, .int x] S σ = exec d mX5_copyFrom 158 [l0, l1, .int x] (.int x :: S) σ) ∧
  (∀ (d : Nat) (σ : Sg) (S : List Value) (l0 l2 : Value) (k : Nat), exec d mX5_copyFrom 158 [l0, .ref k, l2] S σ = exec d mX5_copyFrom 159 [l0, .ref k, l2] (.ref k :: S) σ) ∧
  (∀ (d : Nat) (σ : Sg) (S : List Value) (l0 l1 l2 : Value), exec d mX5_copyFrom 159 [l0, l1, l2] (.ref 8 :: S) σ = exec d mX5_copyFrom 162 [l0, l1, l2] (.ref 14 :: S) σ) ∧
  (∀ (d : Nat) (σ : Sg) (S : List Value) (l0 l1 l2 : Value), exec d mX5_copyFrom 159 [l0, l1, l2] (.ref 17 :: S) σ = exec d mX5_copyFrom 162 [l0, l1, l2] (.ref 23 :: S) σ) ∧
  (∀ (d : Nat) (σ : Sg) (S : List Value) (l0 l1 l2 : Value), exec d mX5_copyFrom 159 [l0, l1, l2] (.ref 26 :: S) σ = exec d mX5_copyFrom 162 [l0, l1, l2] (.ref 32 :: S) σ) ∧
  (∀ (d : Nat) (σ : Sg) (S : List Value) (l0 l1 l2 : Value), exec d mX5_copyFrom 159 [l0, l1, l2] (.ref 35 :: S) σ = exec d mX5_copyFrom 162 [l0, l1, l2] (.ref 41 :: S) σ) ∧
  (∀ (d : Nat) (σ : Sg) (S : List Value) (l0 l1 : Value) (x : Int32), exec d mX5_copyFrom 162 [l0, l1, .int x] S σ = exec d mX5_copyFrom 163 [l0, l1, .int x] (.int x :: S) σ) ∧
  (∀ (d : Nat) (σ : Sg) (S : List Value) (l0 l1 l2 : Value) (x : Int32), exec d mX5_copyFrom 163 [l0, l1, l2] (.int x :: .ref 14 :: S) σ = if inb x 5 = true then exec d mX5_copyFrom 164 [l0, l1, l2] (.int (σ 14 x.toNatClampNeg) :: S) σ else none) ∧
  (∀ (d : Nat) (σ : Sg) (S : List Value) (l0 l1 l2 : Value) (x : Int32), exec d mX5_copyFrom 163 [l0, l1, l2] (.int x :: .ref 23 :: S) σ = if inb x 5 = true then exec d mX5_copyFrom 164 [l0, l1, l2] (.int (σ 23 x.toNatClampNeg) :: S) σ else none) ∧
  (∀ (d : Nat) (σ : Sg) (S : List Value) (l0 l1 l2 : Value) (x : Int32), exec d mX5_copyFrom 163 [l0, l1, l2] (.int x :: .ref 32 :: S) σ = if inb x 5 = true then exec d mX5_copyFrom 164 [l0, l1, l2] (.int (σ 32 x.toNatClampNeg) :: S) σ else none) ∧
  (∀ (d : Nat) (σ : Sg) (S : List Value) (l0 l1 l2 : Value) (x : Int32), exec d mX5_copyFrom 163 [l0, l1, l2] (.int x :: .ref 41 :: S) σ = if inb x 5 = true then exec d mX5_copyFrom 164 [l0, l1, l2] (.int (σ 41 x.toNatClampNeg) :: S) σ else none) ∧
  (∀ (d : Nat) (σ : Sg) (S : List Value) (l0 l1 l2 : Value) (x y : Int32), exec d mX5_copyFrom 164 [l0, l1, l2] (.int y :: .int x :: .ref 14 :: S) σ = if inb x 5 = true then exec d mX5_copyFrom 165 [l0, l1, l2] S (up σ 14 x.toNatClampNeg y) else none) ∧
  (∀ (d : Nat) (σ : Sg) (S : List Value) (l0 l1 l2 : Value) (x y : Int32), exec d mX5_copyFrom 164 [l0, l1, l2] (.int y :: .int x :: .ref 23 :: S) σ = if inb x 5 = true then exec d mX5_copyFrom 165 [l0, l1, l2] S (up σ 23 x.toNatClampNeg y) else none) ∧
  (∀ (d : Nat) (σ : Sg) (S : List Value) (l0 l1 l2 : Value) (x y : Int32), exec d mX5_copyFrom 164 [l0, l1, l2] (.int y :: .int x :: .ref 32 :: S) σ = if inb x 5 = true then exec d mX5_copyFrom 165 [l0, l1, l2] S (up σ 32 x.toNatClampNeg y) else none) ∧
  (∀ (d : Nat) (σ : Sg) (S : List Value) (l0 l1 l2 : Value) (x y : Int32), exec d mX5_copyFrom 164 [l0, l1, l2] (.int y :: .int x :: .ref 41 :: S) σ = if inb x 5 = true then exec d mX5_copyFrom 165 [l0, l1, l2] S (up σ 41 x.toNatClampNeg y) else none) ∧
  (∀ (d : Nat) (σ : Sg) (S : List Value) (l1 l2 : Value) (k : Nat), exec d mX5_copyFrom 165 [.ref k, l1, l2] S σ = exec d mX5_copyFrom 166 [.ref k, l1, l2] (.ref k :: S) σ) ∧
  (∀ (d : Nat) (σ : Sg) (S : List Value) (l0 l1 l2 : Value), exec d mX5_copyFrom 166 [l0, l1, l2] (.ref 8 :: S) σ = exec d mX5_copyFrom 169 [l0, l1, l2] (.ref 15 :: S) σ) ∧
  (∀ (d : Nat) (σ : Sg) (S : List Value) (l0 l1 l2 : Value), exec d mX5_copyFrom 166 [l0, l1, l2] (.ref 17 :: S) σ = exec d mX5_copyFrom 169 [l0, l1, l2] (.ref 24 :: S) σ) ∧
  (∀ (d : Nat) (σ : Sg) (S : List Value) (l0 l1 l2 : Value), exec d mX5_copyFrom 166 [l0, l1, l2] (.ref 26 :: S) σ = exec d mX5_copyFrom 169 [l0, l1, l2] (.ref 33 :: S) σ) ∧
  (∀ (d : Nat) (σ : Sg) (S : List Value) (l0 l1 l2 : Value), exec d mX5_copyFrom 166 [l0, l1, l2] (.ref 35 :: S) σ = exec d mX5_copyFrom 169 [l0, l1, l2] (.ref 42 :: S) σ) ∧
  (∀ (d : Nat) (σ : Sg) (S : List Value) (l0 l1 : Value) (x : Int32), exec d mX5_copyFrom 169 [l0, l1, .int x] S σ = exec d mX5_copyFrom 170 [l0, l1, .int x] (.int x :: S) σ) ∧
  (∀ (d : Nat) (σ : Sg) (S : List Value) (l0 l2 : Value) (k : Nat), exec d mX5_copyFrom 170 [l0, .ref k, l2] S σ = exec d mX5_copyFrom 171 [l0, .ref k, l2] (.ref k :: S) σ) ∧
  (∀ (d : Nat) (σ : Sg) (S : List Value) (l0 l1 l2 : Value), exec d mX5_copyFrom 171 [l0, l1, l2] (.ref 8 :: S) σ = exec d mX5_copyFrom 174 [l0, l1, l2] (.ref 15 :: S) σ) ∧
  (∀ (d : Nat) (σ : Sg) (S : List Value) (l0 l1 l2 : Value), exec d mX5_copyFrom 171 [l0, l1, l2] (.ref 17 :: S) σ = exec d mX5_copyFrom 174 [l0, l1, l2] (.ref 24 :: S) σ) ∧
  (∀ (d : Nat) (σ : Sg) (S : List Value) (l0 l1 l2 : Value), exec d mX5_copyFrom 171 [l0, l1, l2] (.ref 26 :: S) σ = exec d mX5_copyFrom 174 [l0, l1, l2] (.ref 33 :: S) σ) ∧
  (∀ (d : Nat) (σ : Sg) (S : List Value) (l0 l1 l2 : Value), exec d mX5_copyFrom 171 [l0, l1, l2] (.ref 35 :: S) σ = exec d mX5_copyFrom 174 [l0, l1, l2] (.ref 42 :: S) σ) ∧
  (∀ (d : Nat) (σ : Sg) (S : List Value) (l0 l1 : Value) (x : Int32), exec d mX5_copyFrom 174 [l0, l1, .int x] S σ = exec d mX5_copyFrom 175 [l0, l1, .int x] (.int x :: S) σ) ∧
  (∀ (d : Nat) (σ : Sg) (S : List Value) (l0 l1 l2 : Value) (x : Int32), exec d mX5_copyFrom 175 [l0, l1, l2] (.int x :: .ref 15 :: S) σ = if inb x 5 = true then exec d mX5_copyFrom 176 [l0, l1, l2] (.int (σ 15 x.toNatClampNeg) :: S) σ else none) ∧
  (∀ (d : Nat) (σ : Sg) (S : List Value) (l0 l1 l2 : Value) (x : Int32), exec d mX5_copyFrom 175 [l0, l1, l2] (.int x :: .ref 24 :: S) σ = if inb x 5 = true then exec d mX5_copyFrom 176 [l0, l1, l2] (.int (σ 24 x.toNatClampNeg) :: S) σ else none) ∧
  (∀ (d : Nat) (σ : Sg) (S : List Value) (l0 l1 l2 : Value) (x : Int32), exec d mX5_copyFrom 175 [l0, l1, l2] (.int x :: .ref 33 :: S) σ = if inb x 5 = true then exec d mX5_copyFrom 176 [l0, l1, l2] (.int (σ 33 x.toNatClampNeg) :: S) σ else none) ∧
  (∀ (d : Nat) (σ : Sg) (S : List Value) (l0 l1 l2 : Value) (x : Int32), exec d mX5_copyFrom 175 [l0, l1, l2] (.int x :: .ref 42 :: S) σ = if inb x 5 = true then exec d mX5_copyFrom 176 [l0, l1, l2] (.int (σ 42 x.toNatClampNeg) :: S) σ else none) ∧
  (∀ (d : Nat) (σ : Sg) (S : List Value) (l0 l1 l2 : Value) (x y : Int32), exec d mX5_copyFrom 176 [l0, l1, l2] (.int y :: .int x :: .ref 15 :: S) σ = if inb x 5 = true then exec d mX5_copyFrom 177 [l0, l1, l2] S (up σ 15 x.toNatClampNeg y) else none) ∧
  (∀ (d : Nat) (σ : Sg) (S : List Value) (l0 l1 l2 : Value) (x y : Int32), exec d mX5_copyFrom 176 [l0, l1, l2] (.int y :: .int x :: .ref 24 :: S) σ = if inb x 5 = true then exec d mX5_copyFrom 177 [l0, l1, l2] S (up σ 24 x.toNatClampNeg y) else none) ∧
  (∀ (d : Nat) (σ : Sg) (S : List Value) (l0 l1 l2 : Value) (x y : Int32), exec d mX5_copyFrom 176 [l0, l1, l2] (.int y :: .int x :: .ref 33 :: S) σ = if inb x 5 = true then exec d mX5_copyFrom 177 [l0, l1, l2] S (up σ 33 x.toNatClampNeg y) else none) ∧
  (∀ (d : Nat) (σ : Sg) (S : List Value) (l0 l1 l2 : Value) (x y : Int32), exec d mX5_copyFrom 176 [l0, l1, l2] (.int y :: .int x :: .ref 42 :: S) σ = if inb x 5 = true then exec d mX5_copyFrom 177 [l0, l1, l2] S (up σ 42 x.toNatClampNeg y) else none) :=
  ⟨fun d σ S l1 l2 k => ex_aload_n (show decode mX5_copyFrom.2.1 153 = .ok (.aload_n 0, 1) by decide +kernel) rfl,
  fun d σ S l0 l1 l2 => ex_getr (idx := 27) (ci := 5) (ff := 14) (n := 17) (hh := 232) (by decide +kernel),
  fun d σ S l0 l1 l2 => ex_getr (idx := 27) (ci := 5) (ff := 14) (n := 17) (hh := 232) (by decide +kernel),
  fun d σ S l0 l1 l2 => ex_getr (idx := 27) (ci := 5) (ff := 14) (n := 17) (hh := 232) (by decide +kernel),
  fun d σ S l0 l1 l2 => ex_getr (idx := 27) (ci := 5) (ff := 14) (n := 17) (hh := 232) (by decide +kernel),
  fun d σ S l0 l1 x => ex_iload_n (show decode mX5_copyFrom.2.1 157 = .ok (.iload_n 2, 1) by decide +kernel) rfl,
  fun d σ S l0 l2 k => ex_aload_n (show decode mX5_copyFrom.2.1 158 = .ok (.aload_n 1, 1) by decide +kernel) rfl,
  fun d σ S l0 l1 l2 => ex_getr (idx := 27) (ci := 5) (ff := 14) (n := 17) (hh := 232) (by decide +kernel),
  fun d σ S l0 l1 l2 => ex_getr (idx := 27) (ci := 5) (ff := 14) (n := 17) (hh := 232) (by decide +kernel),
  fun d σ S l0 l1 l2 => ex_getr (idx := 27) (ci := 5) (ff := 14) (n := 17) (hh := 232) (by decide +kernel),
  fun d σ S l0 l1 l2 => ex_getr (idx := 27) (ci := 5) (ff := 14) (n := 17) (hh := 232) (by decide +kernel),
  fun d σ S l0 l1 x => ex_iload_n (show decode mX5_copyFrom.2.1 162 = .ok (.iload_n 2, 1) by decide +kernel) rfl,
  fun d σ S l0 l1 l2 x => ex_iald (by decide +kernel),
  fun d σ S l0 l1 l2 x => ex_iald (by decide +kernel),
  fun d σ S l0 l1 l2 x => ex_iald (by decide +kernel),
  fun d σ S l0 l1 l2 x => ex_iald (by decide +kernel),
  fun d σ S l0 l1 l2 x y => ex_iast (by decide +kernel),
  fun d σ S l0 l1 l2 x y => ex_iast (by decide +kernel),
  fun d σ S l0 l1 l2 x y => ex_iast (by decide +kernel),
  fun d σ S l0 l1 l2 x y => ex_iast (by decide +kernel),
  fun d σ S l1 l2 k => ex_aload_n (show decode mX5_copyFrom.2.1 165 = .ok (.aload_n 0, 1) by decide +kernel) rfl,
  fun d σ S l0 l1 l2 => ex_getr (idx := 30) (ci := 5) (ff := 15) (n := 17) (hh := 234) (by decide +kernel),
  fun d σ S l0 l1 l2 => ex_getr (idx := 30) (ci := 5) (ff := 15) (n := 17) (hh := 234) (by decide +kernel),
  fun d σ S l0 l1 l2 => ex_getr (idx := 30) (ci := 5) (ff := 15) (n := 17) (hh := 234) (by decide +kernel),
  fun d σ S l0 l1 l2 => ex_getr (idx := 30) (ci := 5) (ff := 15) (n := 17) (hh := 234) (by decide +kernel),
  fun d σ S l0 l1 x => ex_iload_n (show decode mX5_copyFrom.2.1 169 = .ok (.iload_n 2, 1) by decide +kernel) rfl,
  fun d σ S l0 l2 k => ex_aload_n (show decode mX5_copyFrom.2.1 170 = .ok (.aload_n 1, 1) by decide +kernel) rfl,
  fun d σ S l0 l1 l2 => ex_getr (idx := 30) (ci := 5) (ff := 15) (n := 17) (hh := 234) (by decide +kernel),
  fun d σ S l0 l1 l2 => ex_getr (idx := 30) (ci := 5) (ff := 15) (n := 17) (hh := 234) (by decide +kernel),
  fun d σ S l0 l1 l2 => ex_getr (idx := 30) (ci := 5) (ff := 15) (n := 17) (hh := 234) (by decide +kernel),
  fun d σ S l0 l1 l2 => ex_getr (idx := 30) (ci := 5) (ff := 15) (n := 17) (hh := 234) (by decide +kernel),
  fun d σ S l0 l1 x => ex_iload_n (show decode mX5_copyFrom.2.1 174 = .ok (.iload_n 2, 1) by decide +kernel) rfl,
  fun d σ S l0 l1 l2 x => ex_iald (by decide +kernel),
  fun d σ S l0 l1 l2 x => ex_iald (by decide +kernel),
  fun d σ S l0 l1 l2 x => ex_iald (by decide +kernel),
  fun d σ S l0 l1 l2 x => ex_iald (by decide +kernel),
  fun d σ S l0 l1 l2 x y => ex_iast (by decide +kernel),
  fun d σ S l0 l1 l2 x y => ex_iast (by decide +kernel),
  fun d σ S l0 l1 l2 x y => ex_iast (by decide +kernel),
  fun d σ S l0 l1 l2 x y => ex_iast (by decide +kernel)⟩
theorem kX5_copyFrom_6 : (∀ (d : Nat) (σ : Sg) (S : List Value) (l1 l2 : Value) (k : Nat), exec d mX5_copyFrom 177 [.ref k, l1, l2] S σ = exec d mX5_copyFrom 178 [.ref k, l1, l2] (.ref k :: S) σ) ∧
  (∀ (d : Nat) (σ : Sg) (S : List Value) (l0 l1 l2 : Value), exec d mX5_copyFrom 178 [l0, l1, l2] (.ref 8 :: S) σ = exec d mX5_copyFrom 181 [l0, l1, l2] (.ref 16 :: S) σ) ∧
  (∀ (d : Nat) (σ : Sg) (S : List Value) (l0 l1 l2 : Value), exec d mX5_copyFrom 178 [l0, l1, l2] (.ref 17 :: S) σ = exec d mX5_copyFrom 181 [l0, l1, l2] (.ref 25 :: S) σ) ∧
  (∀ (d : Nat) (σ : Sg) (S : List Value) (l0 l1 l2 : Value), exec d mX5_copyFrom 178 [l0, l1, l2] (.ref 26 :: S) σ = exec d mX5_copyFrom 181 [l0, l1, l2] (.ref 34 :: S) σ) ∧
  (∀ (d : Nat) (σ : Sg) (S : List Value) (l0 l1 l2 : Value), exec d mX5_copyFrom 178 [l0, l1, l2] (.ref 35 :: S) σ = exec d mX5_copyFrom 181 [l0, l1, l2] (.ref 43 :: S) σ) ∧
  (∀ (d : Nat) (σ : Sg) (S : List Value) (l0 l1 : Value) (x : Int32), exec d mX5_copyFrom 181 [l0, l1, .int x] S σ = exec d mX5_copyFrom 182 [l0, l1, .int x] (.int x :: S) σ) ∧
  (∀ (d : Nat) (σ : Sg) (S : List Value) (l0 l2 : Value) (k : Nat), exec d mX5_copyFrom 182 [l0, .ref k, l2] S σ = exec d mX5_copyFrom 183 [l0, .ref k, l2] (.ref k :: S) σ) ∧
  (∀ (d : Nat) (σ : Sg) (S : List Value) (l0 l1 l2 : Value), exec d mX5_copyFrom 183 [l0, l1, l2] (.ref 8 :: S) σ = exec d mX5_copyFrom 186 [l0, l1, l2] (.ref 16 :: S) σ) ∧
  (∀ (d : Nat) (σ : Sg) (S : List Value) (l0 l1 l2 : Value), exec d mX5_copyFrom 183 [l0, l1, l2] (.ref 17 :: S) σ = exec d mX5_copyFrom 186 [l0, l1, l2] (.ref 25 :: S) σ) ∧
  (∀ (d : Nat) (σ : Sg) (S : List Value) (l0 l1 l2 : Value), exec d mX5_copyFrom 183 [l0, l1, l2] (.ref 26 :: S) σ = exec d mX5_copyFrom 186 [l0, l1, l2] (.ref 34 :: S) σ) ∧
  (∀ (d : Nat) (σ : Sg) (S : List Value) (l0 l1 l2 : Value), exec d mX5_copyFrom 183 [l0, l1, l2] (.ref 35 :: S) σ = exec d mX5_copyFrom 186 [l0, l1, l2] (.ref 43 :: S) σ) ∧
  (∀ (d : Nat) (σ : Sg) (S : List Value) (l0 l1 : Value) (x : Int32), exec d mX5_copyFrom 186 [l0, l1, .int x] S σ = exec d mX5_copyFrom 187 [l0, l1, .int x] (.int x :: S) σ) ∧
  (∀ (d : Nat) (σ : Sg) (S : List Value) (l0 l1 l2 : Value) (x : Int32), exec d mX5_copyFrom 187 [l0, l1, l2] (.int x :: .ref 16 :: S) σ = if inb x 5 = true then exec d mX5_copyFrom 188 [l0, l1, l2] (.int (σ 16 x.toNatClampNeg) :: S) σ else none) ∧
  (∀ (d : Nat) (σ : Sg) (S : List Value) (l0 l1 l2 : Value) (x : Int32), exec d mX5_copyFrom 187 [l0, l1, l2] (.int x :: .ref 25 :: S) σ = if inb x 5 = true then exec d mX5_copyFrom 188 [l0, l1, l2] (.int (σ 25 x.toNatClampNeg) :: S) σ else none) ∧
  (∀ (d : Nat) (σ : Sg) (S : List Value) (l0 l1 l2 : Value) (x : Int32), exec d mX5_copyFrom 187 [l0, l1, l2] (.int x :: .ref 34 :: S) σ = if inb x 5 = true then exec d mX5_copyFrom 188 [l0, l1, l2] (.int (σ 34 x.toNatClampNeg) :: S) σ else none) ∧
  (∀ (d : Nat) (σ : Sg) (S : List Value) (l0 l1 l2 : Value) (x : Int32), exec d mX5_copyFrom 187 [l0, l1, l2] (.int x :: .ref 43 :: S) σ = if inb x 5 = true then exec d mX5_copyFrom 188 [l0, l1, l2] (.int (σ 43 x.toNatClampNeg) :: S) σ else none) ∧
  (∀ (d : Nat) (σ : Sg) (S : List Value) (l0 l1 l2 : Value) (x y : Int32), exec d mX5_copyFrom 188 [l0, l1, l2] (.int y :: .int x :: .ref 16 :: S) σ = if inb x 5 = true then exec d mX5_copyFrom 189 [l0, l1, l2] S (up σ 16 x.toNatClampNeg y) else none) ∧
  (∀ (d : Nat) (σ : Sg) (S : List Value) (l0 l1 l2 : Value) (x y : Int32), exec d mX5_copyFrom 188 [l0, l1, l2] (.int y :: .int x :: .ref 25 :: S) σ = if inb x 5 = true then exec d mX5_copyFrom 189 [l0, l1, l2] S (up σ 25 x.toNatClampNeg y) else none) ∧
  (∀ (d : Nat) (σ : Sg) (S : List Value) (l0 l1 l2 : Value) (x y : Int32), exec d mX5_copyFrom 188 [l0, l1, l2] (.int y :: .int x :: .ref 34 :: S) σ = if inb x 5 = true then exec d mX5_copyFrom 189 [l0, l1, l2] S (up σ 34 x.toNatClampNeg y) else none) ∧
  (∀ (d : Nat) (σ : Sg) (S : List Value) (l0 l1 l2 : Value) (x y : Int32), exec d mX5_copyFrom 188 [l0, l1, l2] (.int y :: .int x :: .ref 43 :: S) σ = if inb x 5 = true then exec d mX5_copyFrom 189 [l0, l1, l2] S (up σ 43 x.toNatClampNeg y) else none) ∧
  (∀ (d : Nat) (σ : Sg) (S : List Value) (l0 : Value) (k : Nat) (x : Int32), exec d mX5_copyFrom 189 [l0, .ref k, .int x] S σ = exec d mX5_copyFrom 192 [l0, .ref k, .int (x + nI 1)] S σ) ∧
  (∀ (d : Nat) (σ : Sg) (S : List Value) (l0 l1 l2 : Value), exec d mX5_copyFrom 192 [l0, l1, l2] S σ = exec d mX5_copyFrom 136 [l0, l1, l2] S σ) ∧
  (∀ (d : Nat) (σ : Sg) (l0 l1 l2 : Value), exec d mX5_copyFrom 195 [l0, l1, l2] [] σ = some (none, σ)) :=
  ⟨fun d σ S l1 l2 k => ex_aload_n (show decode mX5_copyFrom.2.1 177 = .ok (.aload_n 0, 1) by decide +kernel) rfl,
  fun d σ S l0 l1 l2 => ex_getr (idx := 33) (ci := 5) (ff := 16) (n := 17) (hh := 236) (by decide +kernel),
  fun d σ S l0 l1 l2 => ex_getr (idx := 33) (ci := 5) (ff := 16) (n := 17) (hh := 236) (by decide +kernel),
  fun d σ S l0 l1 l2 => ex_getr (idx := 33) (ci := 5) (ff := 16) (n := 17) (hh := 236) (by decide +kernel),
  fun d σ S l0 l1 l2 => ex_getr (idx := 33) (ci := 5) (ff := 16) (n := 17) (hh := 236) (by decide +kernel),
  fun d σ S l0 l1 x => ex_iload_n (show decode mX5_copyFrom.2.1 181 = .ok (.iload_n 2, 1) by decide +kernel) rfl,
  fun d σ S l0 l2 k => ex_aload_n (show decode mX5_copyFrom.2.1 182 = .ok (.aload_n 1, 1) by decide +kernel) rfl,
  fun d σ S l0 l1 l2 => ex_getr (idx := 33) (ci := 5) (ff := 16) (n := 17) (hh := 236) (by decide +kernel),
  fun d σ S l0 l1 l2 => ex_getr (idx := 33) (ci := 5) (ff := 16) (n := 17) (hh := 236) (by decide +kernel),
  fun d σ S l0 l1 l2 => ex_getr (idx := 33) (ci := 5) (ff := 16) (n := 17) (hh := 236) (by decide +kernel),
  fun d σ S l0 l1 l2 => ex_getr (idx := 33) (ci := 5) (ff := 16) (n := 17) (hh := 236) (by decide +kernel),
  fun d σ S l0 l1 x => ex_iload_n (show decode mX5_copyFrom.2.1 186 = .ok (.iload_n 2, 1) by decide +kernel) rfl,
  fun d σ S l0 l1 l2 x => ex_iald (by decide +kernel),
  fun d σ S l0 l1 l2 x => ex_iald (by decide +kernel),
  fun d σ S l0 l1 l2 x => ex_iald (by decide +kernel),
  fun d σ S l0 l1 l2 x => ex_iald (by decide +kernel),
  fun d σ S l0 l1 l2 x y => ex_iast (by decide +kernel),
  fun d σ S l0 l1 l2 x y => ex_iast (by decide +kernel),
  fun d σ S l0 l1 l2 x y => ex_iast (by decide +kernel),
  fun d σ S l0 l1 l2 x y => ex_iast (by decide +kernel),
  fun d σ S l0 k x => ex_iinc (show decode mX5_copyFrom.2.1 189 = .ok (.iinc 2 1, 3) by decide +kernel) rfl (by decide +kernel) (Nat.le_of_ble_eq_true rfl) rfl,
  fun d σ S l0 l1 l2 => ex_goto (show decode mX5_copyFrom.2.1 192 = .ok (.goto (-56), 3) by decide +kernel) (by decide),
  fun d σ l0 l1 l2 => ex_vret (show decode mX5_copyFrom.2.1 195 = .ok (.return_, 1) by decide +kernel) rfl⟩
theorem hX5_copyFrom_74 : ∀ (d : Nat) (σ : Sg) (S : List Value) (l0 l1 : Value) (x : Int32), exec d mX5_copyFrom 74 [l0, l1, .int x] S σ = exec d mX5_copyFrom 75 [l0, l1, .int x] (.int x :: S) σ := fun d σ S l0 l1 x => ex_iload_n (show decode mX5_copyFrom.2.1 74 = .ok (.iload_n 2, 1) by decide +kernel) rfl
theorem hX5_copyFrom_136 : ∀ (d : Nat) (σ : Sg) (S : List Value) (l0 l1 : Value) (x : Int32), exec d mX5_copyFrom 136 [l0, l1, .int x] S σ = exec d mX5_copyFrom 137 [l0, l1, .int x] (.int x :: S) σ := fun d σ S l0 l1 x => ex_iload_n (show decode mX5_copyFrom.2.1 136 = .ok (.iload_n 2, 1) by decide +kernel) rfl
theorem aX5_copyFrom_8_17 : ∀ (d : Nat)  (σ : Sg), cal (d + 1) mX5_copyFrom [.ref 8, .ref 17] σ = exec d mX5_copyFrom 0 [.ref 8, .ref 17, uu] [] σ := fun _ _ => rfl
theorem aX5_copyFrom_8_26 : ∀ (d : Nat)  (σ : Sg), cal (d + 1) mX5_copyFrom [.ref 8, .ref 26] σ = exec d mX5_copyFrom 0 [.ref 8, .ref 26, uu] [] σ := fun _ _ => rfl
theorem aX5_copyFrom_17_8 : ∀ (d : Nat)  (σ : Sg), cal (d + 1) mX5_copyFrom [.ref 17, .ref 8] σ = exec d mX5_copyFrom 0 [.ref 17, .ref 8, uu] [] σ := fun _ _ => rfl
theorem aX5_copyFrom_26_8 : ∀ (d : Nat)  (σ : Sg), cal (d + 1) mX5_copyFrom [.ref 26, .ref 8] σ = exec d mX5_copyFrom 0 [.ref 26, .ref 8, uu] [] σ := fun _ _ => rfl
theorem aX5_copyFrom_35_8 : ∀ (d : Nat)  (σ : Sg), cal (d + 1) mX5_copyFrom [.ref 35, .ref 8] σ = exec d mX5_copyFrom 0 [.ref 35, .ref 8, uu] [] σ := fun _ _ => rfl
theorem aX5_copyFrom_8_35 : ∀ (d : Nat)  (σ : Sg), cal (d + 1) mX5_copyFrom [.ref 8, .ref 35] σ = exec d mX5_copyFrom 0 [.ref 8, .ref 35, uu] [] σ := fun _ _ => rfl
theorem kX5_addPart : (∀ (d : Nat) (σ : Sg) (S : List Value) (l1 l2 l3 l4 : Value) (k : Nat), exec d mX5_addPart 0 [.ref k, l1, l2, l3, l4] S σ = exec d mX5_addPart 1 [.ref k, l1, l2, l3, l4] (.ref k :: S) σ) ∧
  (∀ (d : Nat) (σ : Sg) (S : List Value) (l0 l1 l2 l3 l4 : Value), exec d mX5_addPart 1 [l0, l1, l2, l3, l4] (.ref 35 :: S) σ = exec d mX5_addPart 4 [l0, l1, l2, l3, l4] (.ref 36 :: S) σ) ∧
  (∀ (d : Nat) (σ : Sg) (S : List Value) (l1 l2 l3 l4 : Value) (k : Nat), exec d mX5_addPart 4 [.ref k, l1, l2, l3, l4] S σ = exec d mX5_addPart 5 [.ref k, l1, l2, l3, l4] (.ref k :: S) σ) ∧
  (∀ (d : Nat) (σ : Sg) (S : List Value) (l0 l1 l2 l3 l4 : Value), exec d mX5_addPart 5 [l0, l1, l2, l3, l4] (.ref 35 :: S) σ = exec d mX5_addPart 8 [l0, l1, l2, l3, l4] (.int (σ 35 4) :: S) σ) ∧
  (∀ (d : Nat) (σ : Sg) (S : List Value) (l0 l2 l3 l4 : Value) (x : Int32), exec d mX5_addPart 8 [l0, .int x, l2, l3, l4] S σ = exec d mX5_addPart 9 [l0, .int x, l2, l3, l4] (.int x :: S) σ) ∧
  (∀ (d : Nat) (σ : Sg) (S : List Value) (l0 l1 l2 l3 l4 : Value) (x y : Int32), exec d mX5_addPart 9 [l0, l1, l2, l3, l4] (.int y :: .int x :: .ref 36 :: S) σ = if inb x 7 = true then exec d mX5_addPart 10 [l0, l1, l2, l3, l4] S (up σ 36 x.toNatClampNeg y) else none) ∧
  (∀ (d : Nat) (σ : Sg) (S : List Value) (l1 l2 l3 l4 : Value) (k : Nat), exec d mX5_addPart 10 [.ref k, l1, l2, l3, l4] S σ = exec d mX5_addPart 11 [.ref k, l1, l2, l3, l4] (.ref k :: S) σ) ∧
  (∀ (d : Nat) (σ : Sg) (S : List Value) (l0 l1 l2 l3 l4 : Value), exec d mX5_addPart 11 [l0, l1, l2, l3, l4] (.ref 35 :: S) σ = exec d mX5_addPart 14 [l0, l1, l2, l3, l4] (.ref 37 :: S) σ) ∧
  (∀ (d : Nat) (σ : Sg) (S : List Value) (l1 l2 l3 l4 : Value) (k : Nat), exec d mX5_addPart 14 [.ref k, l1, l2, l3, l4] S σ = exec d mX5_addPart 15 [.ref k, l1, l2, l3, l4] (.ref k :: S) σ) ∧
  (∀ (d : Nat) (σ : Sg) (S : List Value) (l0 l1 l2 l3 l4 : Value), exec d mX5_addPart 15 [l0, l1, l2, l3, l4] (.ref 35 :: S) σ = exec d mX5_addPart 18 [l0, l1, l2, l3, l4] (.int (σ 35 4) :: S) σ) ∧
  (∀ (d : Nat) (σ : Sg) (S : List Value) (l0 l1 l3 l4 : Value) (x : Int32), exec d mX5_addPart 18 [l0, l1, .int x, l3, l4] S σ = exec d mX5_addPart 19 [l0, l1, .int x, l3, l4] (.int x :: S) σ) ∧
  (∀ (d : Nat) (σ : Sg) (S : List Value) (l0 l1 l2 l3 l4 : Value) (x y : Int32), exec d mX5_addPart 19 [l0, l1, l2, l3, l4] (.int y :: .int x :: .ref 37 :: S) σ = if inb x 7 = true then exec d mX5_addPart 20 [l0, l1, l2, l3, l4] S (up σ 37 x.toNatClampNeg y) else none) ∧
  (∀ (d : Nat) (σ : Sg) (S : List Value) (l1 l2 l3 l4 : Value) (k : Nat), exec d mX5_addPart 20 [.ref k, l1, l2, l3, l4] S σ = exec d mX5_addPart 21 [.ref k, l1, l2, l3, l4] (.ref k :: S) σ) ∧
  (∀ (d : Nat) (σ : Sg) (S : List Value) (l0 l1 l2 l3 l4 : Value), exec d mX5_addPart 21 [l0, l1, l2, l3, l4] (.ref 35 :: S) σ = exec d mX5_addPart 24 [l0, l1, l2, l3, l4] (.ref 38 :: S) σ) ∧
  (∀ (d : Nat) (σ : Sg) (S : List Value) (l1 l2 l3 l4 : Value) (k : Nat), exec d mX5_addPart 24 [.ref k, l1, l2, l3, l4] S σ = exec d mX5_addPart 25 [.ref k, l1, l2, l3, l4] (.ref k :: S) σ) ∧
  (∀ (d : Nat) (σ : Sg) (S : List Value) (l0 l1 l2 l3 l4 : Value), exec d mX5_addPart 25 [l0, l1, l2, l3, l4] (.ref 35 :: S) σ = exec d mX5_addPart 28 [l0, l1, l2, l3, l4] (.int (σ 35 4) :: S) σ) ∧
  (∀ (d : Nat) (σ : Sg) (S : List Value) (l0 l1 l2 l4 : Value) (x : Int32), exec d mX5_addPart 28 [l0, l1, l2, .int x, l4] S σ = exec d mX5_addPart 29 [l0, l1, l2, .int x, l4] (.int x :: S) σ) ∧
  (∀ (d : Nat) (σ : Sg) (S : List Value) (l0 l1 l2 l3 l4 : Value) (x y : Int32), exec d mX5_addPart 29 [l0, l1, l2, l3, l4] (.int y :: .int x :: .ref 38 :: S) σ = if inb x 7 = true then exec d mX5_addPart 30 [l0, l1, l2, l3, l4] S (up σ 38 x.toNatClampNeg y) else none) ∧
  (∀ (d : Nat) (σ : Sg) (S : List Value) (l1 l2 l3 l4 : Value) (k : Nat), exec d mX5_addPart 30 [.ref k, l1, l2, l3, l4] S σ = exec d mX5_addPart 31 [.ref k, l1, l2, l3, l4] (.ref k :: S) σ) ∧
  (∀ (d : Nat) (σ : Sg) (S : List Value) (l0 l1 l2 l3 l4 : Value), exec d mX5_addPart 31 [l0, l1, l2, l3, l4] (.ref 35 :: S) σ = exec d mX5_addPart 34 [l0, l1, l2, l3, l4] (.ref 39 :: S) σ) ∧
  (∀ (d : Nat) (σ : Sg) (S : List Value) (l1 l2 l3 l4 : Value) (k : Nat), exec d mX5_addPart 34 [.ref k, l1, l2, l3, l4] S σ = exec d mX5_addPart 35 [.ref k, l1, l2, l3, l4] (.ref k :: S) σ) ∧
  (∀ (d : Nat) (σ : Sg) (S : List Value) (l0 l1 l2 l3 l4 : Value), exec d mX5_addPart 35 [l0, l1, l2, l3, l4] (.ref 35 :: S) σ = exec d mX5_addPart 38 [l0, l1, l2, l3, l4] (.int (σ 35 4) :: S) σ) ∧
  (∀ (d : Nat) (σ : Sg) (S : List Value) (l0 l1 l2 l3 : Value) (x : Int32), exec d mX5_addPart 38 [l0, l1, l2, l3, .int x] S σ = exec d mX5_addPart 40 [l0, l1, l2, l3, .int x] (.int x :: S) σ) ∧
  (∀ (d : Nat) (σ : Sg) (S : List Value) (l0 l1 l2 l3 l4 : Value) (x y : Int32), exec d mX5_addPart 40 [l0, l1, l2, l3, l4] (.int y :: .int x :: .ref 39 :: S) σ = if inb x 7 = true then exec d mX5_addPart 41 [l0, l1, l2, l3, l4] S (up σ 39 x.toNatClampNeg y) else none) ∧
  (∀ (d : Nat) (σ : Sg) (S : List Value) (l1 l2 l3 l4 : Value) (k : Nat), exec d mX5_addPart 41 [.ref k, l1, l2, l3, l4] S σ = exec d mX5_addPart 42 [.ref k, l1, l2, l3, l4] (.ref k :: S) σ) ∧
  (∀ (d : Nat) (σ : Sg) (S : List Value) (l0 l1 l2 l3 l4 : Value) (k : Nat), exec d mX5_addPart 42 [l0, l1, l2, l3, l4] (.ref k :: S) σ = exec d mX5_addPart 43 [l0, l1, l2, l3, l4] (.ref k :: .ref k :: S) σ) ∧
  (∀ (d : Nat) (σ : Sg) (S : List Value) (l0 l1 l2 l3 l4 : Value), exec d mX5_addPart 43 [l0, l1, l2, l3, l4] (.ref 35 :: S) σ = exec d mX5_addPart 46 [l0, l1, l2, l3, l4] (.int (σ 35 4) :: S) σ) ∧
  (∀ (d : Nat) (σ : Sg) (S : List Value) (l0 l1 l2 l3 l4 : Value), exec d mX5_addPart 46 [l0, l1, l2, l3, l4] S σ = exec d mX5_addPart 47 [l0, l1, l2, l3, l4] (.int (nI 1) :: S) σ) ∧
  (∀ (d : Nat) (σ : Sg) (S : List Value) (l0 l1 l2 l3 l4 : Value) (x y : Int32), exec d mX5_addPart 47 [l0, l1, l2, l3, l4] (.int y :: .int x :: S) σ = exec d mX5_addPart 48 [l0, l1, l2, l3, l4] (.int (x + y) :: S) σ) ∧
  (∀ (d : Nat) (σ : Sg) (S : List Value) (l0 l1 l2 l3 l4 : Value) (x : Int32), exec d mX5_addPart 48 [l0, l1, l2, l3, l4] (.int x :: .ref 35 :: S) σ = exec d mX5_addPart 51 [l0, l1, l2, l3, l4] S (up σ 35 4 x)) ∧
  (∀ (d : Nat) (σ : Sg) (l0 l1 l2 l3 l4 : Value), exec d mX5_addPart 51 [l0, l1, l2, l3, l4] [] σ = some (none, σ)) :=
  ⟨fun d σ S l1 l2 l3 l4 k => ex_aload_n (show decode mX5_addPart.2.1 0 = .ok (.aload_n 0, 1) by decide +kernel) rfl,
  fun d σ S l0 l1 l2 l3 l4 => ex_getr (idx := 9) (ci := 5) (ff := 9) (n := 17) (hh := 216) (by decide +kernel),
  fun d σ S l1 l2 l3 l4 k => ex_aload_n (show decode mX5_addPart.2.1 4 = .ok (.aload_n 0, 1) by decide +kernel) rfl,
  fun d σ S l0 l1 l2 l3 l4 => ex_get (idx := 50) (ci := 5) (ff := 4) (n := 17) (hh := 199) (by decide +kernel),
  fun d σ S l0 l2 l3 l4 x => ex_iload_n (show decode mX5_addPart.2.1 8 = .ok (.iload_n 1, 1) by decide +kernel) rfl,
  fun d σ S l0 l1 l2 l3 l4 x y => ex_iast (by decide +kernel),
  fun d σ S l1 l2 l3 l4 k => ex_aload_n (show decode mX5_addPart.2.1 10 = .ok (.aload_n 0, 1) by decide +kernel) rfl,
  fun d σ S l0 l1 l2 l3 l4 => ex_getr (idx := 15) (ci := 5) (ff := 10) (n := 17) (hh := 220) (by decide +kernel),
  fun d σ S l1 l2 l3 l4 k => ex_aload_n (show decode mX5_addPart.2.1 14 = .ok (.aload_n 0, 1) by decide +kernel) rfl,
  fun d σ S l0 l1 l2 l3 l4 => ex_get (idx := 50) (ci := 5) (ff := 4) (n := 17) (hh := 199) (by decide +kernel),
  fun d σ S l0 l1 l3 l4 x => ex_iload_n (show decode mX5_addPart.2.1 18 = .ok (.iload_n 2, 1) by decide +kernel) rfl,
  fun d σ S l0 l1 l2 l3 l4 x y => ex_iast (by decide +kernel),
  fun d σ S l1 l2 l3 l4 k => ex_aload_n (show decode mX5_addPart.2.1 20 = .ok (.aload_n 0, 1) by decide +kernel) rfl,
  fun d σ S l0 l1 l2 l3 l4 => ex_getr (idx := 18) (ci := 5) (ff := 11) (n := 17) (hh := 224) (by decide +kernel),
  fun d σ S l1 l2 l3 l4 k => ex_aload_n (show decode mX5_addPart.2.1 24 = .ok (.aload_n 0, 1) by decide +kernel) rfl,
  fun d σ S l0 l1 l2 l3 l4 => ex_get (idx := 50) (ci := 5) (ff := 4) (n := 17) (hh := 199) (by decide +kernel),
  fun d σ S l0 l1 l2 l4 x => ex_iload_n (show decode mX5_addPart.2.1 28 = .ok (.iload_n 3, 1) by decide +kernel) rfl,
  fun d σ S l0 l1 l2 l3 l4 x y => ex_iast (by decide +kernel),
  fun d σ S l1 l2 l3 l4 k => ex_aload_n (show decode mX5_addPart.2.1 30 = .ok (.aload_n 0, 1) by decide +kernel) rfl,
  fun d σ S l0 l1 l2 l3 l4 => ex_getr (idx := 21) (ci := 5) (ff := 12) (n := 17) (hh := 228) (by decide +kernel),
  fun d σ S l1 l2 l3 l4 k => ex_aload_n (show decode mX5_addPart.2.1 34 = .ok (.aload_n 0, 1) by decide +kernel) rfl,
  fun d σ S l0 l1 l2 l3 l4 => ex_get (idx := 50) (ci := 5) (ff := 4) (n := 17) (hh := 199) (by decide +kernel),
  fun d σ S l0 l1 l2 l3 x => ex_iload (show decode mX5_addPart.2.1 38 = .ok (.iload 4, 2) by decide +kernel) rfl,
  fun d σ S l0 l1 l2 l3 l4 x y => ex_iast (by decide +kernel),
  fun d σ S l1 l2 l3 l4 k => ex_aload_n (show decode mX5_addPart.2.1 41 = .ok (.aload_n 0, 1) by decide +kernel) rfl,
  fun d σ S l0 l1 l2 l3 l4 k => ex_dup (show decode mX5_addPart.2.1 42 = .ok (.dup, 1) by decide +kernel) rfl,
  fun d σ S l0 l1 l2 l3 l4 => ex_get (idx := 50) (ci := 5) (ff := 4) (n := 17) (hh := 199) (by decide +kernel),
  fun d σ S l0 l1 l2 l3 l4 => ex_iconst (show decode mX5_addPart.2.1 46 = .ok (.iconst 1, 1) by decide +kernel) (by decide +kernel),
  fun d σ S l0 l1 l2 l3 l4 x y => ex_iadd (show decode mX5_addPart.2.1 47 = .ok (.iadd, 1) by decide +kernel),
  fun d σ S l0 l1 l2 l3 l4 x => ex_put (idx := 50) (ci := 5) (ff := 4) (n := 17) (hh := 199) (by decide +kernel),
  fun d σ l0 l1 l2 l3 l4 => ex_vret (show decode mX5_addPart.2.1 51 = .ok (.return_, 1) by decide +kernel) rfl⟩
theorem aX5_addPart_35 : ∀ (d : Nat) (a1 : Int32) (a2 : Int32) (a3 : Int32) (a4 : Int32) (σ : Sg), cal (d + 1) mX5_addPart [.ref 35, .int a1, .int a2, .int a3, .int a4] σ = exec d mX5_addPart 0 [.ref 35, .int a1, .int a2, .int a3, .int a4] [] σ := fun _ _ _ _ _ _ => rfl
theorem kX5_addElder_0 : (∀ (d : Nat) (σ : Sg) (S : List Value) (l1 l2 l3 l4 : Value) (k : Nat), exec d mX5_addElder 0 [.ref k, l1, l2, l3, l4] S σ = exec d mX5_addElder 1 [.ref k, l1, l2, l3, l4] (.ref k :: S) σ) ∧
  (∀ (d : Nat) (σ : Sg) (S : List Value) (l0 l1 l2 l3 l4 : Value), exec d mX5_addElder 1 [l0, l1, l2, l3, l4] (.ref 35 :: S) σ = exec d mX5_addElder 4 [l0, l1, l2, l3, l4] (.ref 40 :: S) σ) ∧
  (∀ (d : Nat) (σ : Sg) (S : List Value) (l1 l2 l3 l4 : Value) (k : Nat), exec d mX5_addElder 4 [.ref k, l1, l2, l3, l4] S σ = exec d mX5_addElder 5 [.ref k, l1, l2, l3, l4] (.ref k :: S) σ) ∧
  (∀ (d : Nat) (σ : Sg) (S : List Value) (l0 l1 l2 l3 l4 : Value), exec d mX5_addElder 5 [l0, l1, l2, l3, l4] (.ref 35 :: S) σ = exec d mX5_addElder 8 [l0, l1, l2, l3, l4] (.int (σ 35 5) :: S) σ) ∧
  (∀ (d : Nat) (σ : Sg) (S : List Value) (l0 l2 l3 l4 : Value) (x : Int32), exec d mX5_addElder 8 [l0, .int x, l2, l3, l4] S σ = exec d mX5_addElder 9 [l0, .int x, l2, l3, l4] (.int x :: S) σ) ∧
  (∀ (d : Nat) (σ : Sg) (S : List Value) (l0 l1 l2 l3 l4 : Value) (x y : Int32), exec d mX5_addElder 9 [l0, l1, l2, l3, l4] (.int y :: .int x :: .ref 40 :: S) σ = if inb x 5 = true then exec d mX5_addElder 10 [l0, l1, l2, l3, l4] S (up σ 40 x.toNatClampNeg y) else none) ∧
  (∀ (d : Nat) (σ : Sg) (S : List Value) (l1 l2 l3 l4 : Value) (k : Nat), exec d mX5_addElder 10 [.ref k, l1, l2, l3, l4] S σ = exec d mX5_addElder 11 [.ref k, l1, l2, l3, l4] (.ref k :: S) σ) ∧
  (∀ (d : Nat) (σ : Sg) (S : List Value) (l0 l1 l2 l3 l4 : Value), exec d mX5_addElder 11 [l0, l1, l2, l3, l4] (.ref 35 :: S) σ = exec d mX5_addElder 14 [l0, l1, l2, l3, l4] (.ref 41 :: S) σ) ∧
  (∀ (d : Nat) (σ : Sg) (S : List Value) (l1 l2 l3 l4 : Value) (k : Nat), exec d mX5_addElder 14 [.ref k, l1, l2, l3, l4] S σ = exec d mX5_addElder 15 [.ref k, l1, l2, l3, l4] (.ref k :: S) σ) ∧
  (∀ (d : Nat) (σ : Sg) (S : List Value) (l0 l1 l2 l3 l4 : Value), exec d mX5_addElder 15 [l0, l1, l2, l3, l4] (.ref 35 :: S) σ = exec d mX5_addElder 18 [l0, l1, l2, l3, l4] (.int (σ 35 5) :: S) σ) ∧
  (∀ (d : Nat) (σ : Sg) (S : List Value) (l0 l1 l3 l4 : Value) (x : Int32), exec d mX5_addElder 18 [l0, l1, .int x, l3, l4] S σ = exec d mX5_addElder 19 [l0, l1, .int x, l3, l4] (.int x :: S) σ) ∧
  (∀ (d : Nat) (σ : Sg) (S : List Value) (l0 l1 l2 l3 l4 : Value) (x y : Int32), exec d mX5_addElder 19 [l0, l1, l2, l3, l4] (.int y :: .int x :: .ref 41 :: S) σ = if inb x 5 = true then exec d mX5_addElder 20 [l0, l1, l2, l3, l4] S (up σ 41 x.toNatClampNeg y) else none) ∧
  (∀ (d : Nat) (σ : Sg) (S : List Value) (l1 l2 l3 l4 : Value) (k : Nat), exec d mX5_addElder 20 [.ref k, l1, l2, l3, l4] S σ = exec d mX5_addElder 21 [.ref k, l1, l2, l3, l4] (.ref k :: S) σ) ∧
  (∀ (d : Nat) (σ : Sg) (S : List Value) (l0 l1 l2 l3 l4 : Value), exec d mX5_addElder 21 [l0, l1, l2, l3, l4] (.ref 35 :: S) σ = exec d mX5_addElder 24 [l0, l1, l2, l3, l4] (.ref 42 :: S) σ) ∧
  (∀ (d : Nat) (σ : Sg) (S : List Value) (l1 l2 l3 l4 : Value) (k : Nat), exec d mX5_addElder 24 [.ref k, l1, l2, l3, l4] S σ = exec d mX5_addElder 25 [.ref k, l1, l2, l3, l4] (.ref k :: S) σ) ∧
  (∀ (d : Nat) (σ : Sg) (S : List Value) (l0 l1 l2 l3 l4 : Value), exec d mX5_addElder 25 [l0, l1, l2, l3, l4] (.ref 35 :: S) σ = exec d mX5_addElder 28 [l0, l1, l2, l3, l4] (.int (σ 35 5) :: S) σ) ∧
  (∀ (d : Nat) (σ : Sg) (S : List Value) (l0 l1 l2 l4 : Value) (x : Int32), exec d mX5_addElder 28 [l0, l1, l2, .int x, l4] S σ = exec d mX5_addElder 29 [l0, l1, l2, .int x, l4] (.int x :: S) σ) ∧
  (∀ (d : Nat) (σ : Sg) (S : List Value) (l0 l1 l2 l3 l4 : Value) (x y : Int32), exec d mX5_addElder 29 [l0, l1, l2, l3, l4] (.int y :: .int x :: .ref 42 :: S) σ = if inb x 5 = true then exec d mX5_addElder 30 [l0, l1, l2, l3, l4] S (up σ 42 x.toNatClampNeg y) else none) ∧
  (∀ (d : Nat) (σ : Sg) (S : List Value) (l1 l2 l3 l4 : Value) (k : Nat), exec d mX5_addElder 30 [.ref k, l1, l2, l3, l4] S σ = exec d mX5_addElder 31 [.ref k, l1, l2, l3, l4] (.ref k :: S) σ) ∧
  (∀ (d : Nat) (σ : Sg) (S : List Value) (l0 l1 l2 l3 l4 : Value), exec d mX5_addElder 31 [l0, l1, l2, l3, l4] (.ref 35 :: S) σ = exec d mX5_addElder 34 [l0, l1, l2, l3, l4] (.ref 43 :: S) σ) ∧
  (∀ (d : Nat) (σ : Sg) (S : List Value) (l1 l2 l3 l4 : Value) (k : Nat), exec d mX5_addElder 34 [.ref k, l1, l2, l3, l4] S σ = exec d mX5_addElder 35 [.ref k, l1, l2, l3, l4] (.ref k :: S) σ) ∧
  (∀ (d : Nat) (σ : Sg) (S : List Value) (l0 l1 l2 l3 l4 : Value), exec d mX5_addElder 35 [l0, l1, l2, l3, l4] (.ref 35 :: S) σ = exec d mX5_addElder 38 [l0, l1, l2, l3, l4] (.int (σ 35 5) :: S) σ) ∧
  (∀ (d : Nat) (σ : Sg) (S : List Value) (l0 l1 l2 l3 l4 : Value), exec d mX5_addElder 38 [l0, l1, l2, l3, l4] S σ = exec d mX5_addElder 39 [l0, l1, l2, l3, l4] (.int (nI 0) :: S) σ) ∧
  (∀ (d : Nat) (σ : Sg) (S : List Value) (l0 l1 l2 l3 l4 : Value) (x y : Int32), exec d mX5_addElder 39 [l0, l1, l2, l3, l4] (.int y :: .int x :: .ref 43 :: S) σ = if inb x 5 = true then exec d mX5_addElder 40 [l0, l1, l2, l3, l4] S (up σ 43 x.toNatClampNeg y) else none) ∧
  (∀ (d : Nat) (σ : Sg) (S : List Value) (l0 l1 l2 l3 l4 : Value), exec d mX5_addElder 40 [l0, l1, l2, l3, l4] S σ = exec d mX5_addElder 41 [l0, l1, l2, l3, l4] (.int (nI 0) :: S) σ) ∧
  (∀ (d : Nat) (σ : Sg) (S : List Value) (l0 l1 l2 l4 : Value) (x y : Int32), exec d mX5_addElder 41 [l0, l1, l2, .int y, l4] (.int x :: S) σ = exec d mX5_addElder 43 [l0, l1, l2, .int y, .int x] S σ) ∧
  (∀ (d : Nat) (σ : Sg) (S : List Value) (l1 l2 l3 l4 : Value) (k : Nat), exec d mX5_addElder 45 [.ref k, l1, l2, l3, l4] S σ = exec d mX5_addElder 46 [.ref k, l1, l2, l3, l4] (.ref k :: S) σ) ∧
  (∀ (d : Nat) (σ : Sg) (S : List Value) (l0 l1 l2 l3 l4 : Value), exec d mX5_addElder 46 [l0, l1, l2, l3, l4] (.ref 35 :: S) σ = exec d mX5_addElder 49 [l0, l1, l2, l3, l4] (.int (σ 35 4) :: S) σ) ∧
  (∀ (d : Nat) (σ : Sg) (S : List Value) (l0 l1 l2 l3 l4 : Value) (x y : Int32), exec d mX5_addElder 49 [l0, l1, l2, l3, l4] (.int y :: .int x :: S) σ = if y ≤ x then exec d mX5_addElder 95 [l0, l1, l2, l3, l4] S σ else exec d mX5_addElder 52 [l0, l1, l2, l3, l4] S σ) ∧
  (∀ (d : Nat) (σ : Sg) (S : List Value) (l1 l2 l3 l4 : Value) (k : Nat), exec d mX5_addElder 52 [.ref k, l1, l2, l3, l4] S σ = exec d mX5_addElder 53 [.ref k, l1, l2, l3, l4] (.ref k :: S) σ) ∧
  (∀ (d : Nat) (σ : Sg) (S : List Value) (l0 l1 l2 l3 l4 : Value), exec d mX5_addElder 53 [l0, l1, l2, l3, l4] (.ref 35 :: S) σ = exec d mX5_addElder 56 [l0, l1, l2, l3, l4] (.ref 36 :: S) σ) ∧
  (∀ (d : Nat) (σ : Sg) (S : List Value) (l0 l1 l2 l3 : Value) (x : Int32), exec d mX5_addElder 56 [l0, l1, l2, l3, .int x] S σ = exec d mX5_addElder 58 [l0, l1, l2, l3, .int x] (.int x :: S) σ) ∧
  (∀ (d : Nat) (σ : Sg) (S : List Value) (l0 l1 l2 l3 l4 : Value) (x : Int32), exec d mX5_addElder 58 [l0, l1, l2, l3, l4] (.int x :: .ref 36 :: S) σ = if inb x 7 = true then exec d mX5_addElder 59 [l0, l1, l2, l3, l4] (.int (σ 36 x.toNatClampNeg) :: S) σ else none) ∧
  (∀ (d : Nat) (σ : Sg) (S : List Value) (l1 l2 l3 l4 : Value) (k : Nat), exec d mX5_addElder 59 [.ref k, l1, l2, l3, l4] S σ = exec d mX5_addElder 60 [.ref k, l1, l2, l3, l4] (.ref k :: S) σ) ∧
  (∀ (d : Nat) (σ : Sg) (S : List Value) (l0 l1 l2 l3 l4 : Value), exec d mX5_addElder 60 [l0, l1, l2, l3, l4] (.ref 35 :: S) σ = exec d mX5_addElder 63 [l0, l1, l2, l3, l4] (.ref 37 :: S) σ) ∧
  (∀ (d : Nat) (σ : Sg) (S : List Value) (l0 l1 l2 l3 : Value) (x : Int32), exec d mX5_addElder 63 [l0, l1, l2, l3, .int x] S σ = exec d mX5_addElder 65 [l0, l1, l2, l3, .int x] (.int x :: S) σ) ∧
  (∀ (d : Nat) (σ : Sg) (S : List Value) (l0 l1 l2 l3 l4 : Value) (x : Int32), exec d mX5_addElder 65 [l0, l1, l2, l3, l4] (.int x :: .ref 37 :: S) σ = if inb x 7 = true then exec d mX5_addElder 66 [l0, l1, l2, l3, l4] (.int (σ 37 x.toNatClampNeg) :: S) σ else none) ∧
  (∀ (d : Nat) (σ : Sg) (S : List Value) (l0 l2 l3 l4 : Value) (x : Int32), exec d mX5_addElder 66 [l0, .int x, l2, l3, l4] S σ = exec d mX5_addElder 67 [l0, .int x, l2, l3, l4] (.int x :: S) σ) ∧
  (∀ (d : Nat) (σ : Sg) (l0 l1 l2 l3 l4 : Value) (x0 x1 x2 : Int32), exec d mX5_addElder 67 [l0, l1, l2, l3, l4] [.int x0, .int x1, .int x2] σ = kb (cal d mX6_seen [.int x2, .int x1, .int x0] σ) (fun rs σ2 => exec d mX5_addElder 70 [l0, l1, l2, l3, l4] (rs ++ []) σ2)) ∧
  (∀ (d : Nat) (σ : Sg) (S : List Value) (l0 l1 l2 l3 l4 : Value) (x : Int32), exec d mX5_addElder 70 [l0, l1, l2, l3, l4] (.int x :: S) σ = if x = nI 0 then exec d mX5_addElder 89 [l0, l1, l2, l3, l4] S σ else exec d mX5_addElder 73 [l0, l1, l2, l3, l4] S σ) :=
  ⟨fun d σ S l1 l2 l3 l4 k => ex_aload_n (show decode mX5_addElder.2.1 0 = .ok (.aload_n 0, 1) by decide +kernel) rfl,
  fun d σ S l0 l1 l2 l3 l4 => ex_getr (idx := 24) (ci := 5) (ff := 13) (n := 17) (hh := 230) (by decide +kernel),
  fun d σ S l1 l2 l3 l4 k => ex_aload_n (show decode mX5_addElder.2.1 4 = .ok (.aload_n 0, 1) by decide +kernel) rfl,
  fun d σ S l0 l1 l2 l3 l4 => ex_get (idx := 53) (ci := 5) (ff := 5) (n := 17) (hh := 202) (by decide +kernel),
  fun d σ S l0 l2 l3 l4 x => ex_iload_n (show decode mX5_addElder.2.1 8 = .ok (.iload_n 1, 1) by decide +kernel) rfl,
  fun d σ S l0 l1 l2 l3 l4 x y => ex_iast (by decide +kernel),
  fun d σ S l1 l2 l3 l4 k => ex_aload_n (show decode mX5_addElder.2.1 10 = .ok (.aload_n 0, 1) by decide +kernel) rfl,
  fun d σ S l0 l1 l2 l3 l4 => ex_getr (idx := 27) (ci := 5) (ff := 14) (n := 17) (hh := 232) (by decide +kernel),
  fun d σ S l1 l2 l3 l4 k => ex_aload_n (show decode mX5_addElder.2.1 14 = .ok (.aload_n 0, 1) by decide +kernel) rfl,
  fun d σ S l0 l1 l2 l3 l4 => ex_get (idx := 53) (ci := 5) (ff := 5) (n := 17) (hh := 202) (by decide +kernel),
  fun d σ S l0 l1 l3 l4 x => ex_iload_n (show decode mX5_addElder.2.1 18 = .ok (.iload_n 2, 1) by decide +kernel) rfl,
  fun d σ S l0 l1 l2 l3 l4 x y => ex_iast (by decide +kernel),
  fun d σ S l1 l2 l3 l4 k => ex_aload_n (show decode mX5_addElder.2.1 20 = .ok (.aload_n 0, 1) by decide +kernel) rfl,
  fun d σ S l0 l1 l2 l3 l4 => ex_getr (idx := 30) (ci := 5) (ff := 15) (n := 17) (hh := 234) (by decide +kernel),
  fun d σ S l1 l2 l3 l4 k => ex_aload_n (show decode mX5_addElder.2.1 24 = .ok (.aload_n 0, 1) by decide +kernel) rfl,
  fun d σ S l0 l1 l2 l3 l4 => ex_get (idx := 53) (ci := 5) (ff := 5) (n := 17) (hh := 202) (by decide +kernel),
  fun d σ S l0 l1 l2 l4 x => ex_iload_n (show decode mX5_addElder.2.1 28 = .ok (.iload_n 3, 1) by decide +kernel) rfl,
  fun d σ S l0 l1 l2 l3 l4 x y => ex_iast (by decide +kernel),
  fun d σ S l1 l2 l3 l4 k => ex_aload_n (show decode mX5_addElder.2.1 30 = .ok (.aload_n 0, 1) by decide +kernel) rfl,
  fun d σ S l0 l1 l2 l3 l4 => ex_getr (idx := 33) (ci := 5) (ff := 16) (n := 17) (hh := 236) (by decide +kernel),
  fun d σ S l1 l2 l3 l4 k => ex_aload_n (show decode mX5_addElder.2.1 34 = .ok (.aload_n 0, 1) by decide +kernel) rfl,
  fun d σ S l0 l1 l2 l3 l4 => ex_get (idx := 53) (ci := 5) (ff := 5) (n := 17) (hh := 202) (by decide +kernel),
  fun d σ S l0 l1 l2 l3 l4 => ex_iconst (show decode mX5_addElder.2.1 38 = .ok (.iconst 0, 1) by decide +kernel) (by decide +kernel),
  fun d σ S l0 l1 l2 l3 l4 x y => ex_iast (by decide +kernel),
  fun d σ S l0 l1 l2 l3 l4 => ex_iconst (show decode mX5_addElder.2.1 40 = .ok (.iconst 0, 1) by decide +kernel) (by decide +kernel),
  fun d σ S l0 l1 l2 l4 x y => ex_istore (show decode mX5_addElder.2.1 41 = .ok (.istore 4, 2) by decide +kernel) (Nat.le_of_ble_eq_true rfl) rfl,
  fun d σ S l1 l2 l3 l4 k => ex_aload_n (show decode mX5_addElder.2.1 45 = .ok (.aload_n 0, 1) by decide +kernel) rfl,
  fun d σ S l0 l1 l2 l3 l4 => ex_get (idx := 50) (ci := 5) (ff := 4) (n := 17) (hh := 199) (by decide +kernel),
  fun d σ S l0 l1 l2 l3 l4 x y => ex_cge (show decode mX5_addElder.2.1 49 = .ok (.if_icmp .ge 46, 3) by decide +kernel) (by decide),
  fun d σ S l1 l2 l3 l4 k => ex_aload_n (show decode mX5_addElder.2.1 52 = .ok (.aload_n 0, 1) by decide +kernel) rfl,
  fun d σ S l0 l1 l2 l3 l4 => ex_getr (idx := 9) (ci := 5) (ff := 9) (n := 17) (hh := 216) (by decide +kernel),
  fun d σ S l0 l1 l2 l3 x => ex_iload (show decode mX5_addElder.2.1 56 = .ok (.iload 4, 2) by decide +kernel) rfl,
  fun d σ S l0 l1 l2 l3 l4 x => ex_iald (by decide +kernel),
  fun d σ S l1 l2 l3 l4 k => ex_aload_n (show decode mX5_addElder.2.1 59 = .ok (.aload_n 0, 1) by decide +kernel) rfl,
  fun d σ S l0 l1 l2 l3 l4 => ex_getr (idx := 15) (ci := 5) (ff := 10) (n := 17) (hh := 220) (by decide +kernel),
  fun d σ S l0 l1 l2 l3 x => ex_iload (show decode mX5_addElder.2.1 63 = .ok (.iload 4, 2) by decide +kernel) rfl,
  fun d σ S l0 l1 l2 l3 l4 x => ex_iald (by decide +kernel),
  fun d σ S l0 l2 l3 l4 x => ex_iload_n (show decode mX5_addElder.2.1 66 = .ok (.iload_n 1, 1) by decide +kernel) rfl,
  fun d σ l0 l1 l2 l3 l4 x0 x1 x2 => ex_is (hs := [499, 500, 501, 94]) (show decode mX5_addElder.2.1 67 = .ok (.invokestatic 65, 3) by decide +kernel) lkS_5_65 ⟨rfl, Nat.le_of_ble_eq_true rfl, Nat.le_of_ble_eq_true rfl, fun q => nomatch q⟩ rfl rfl,
  fun d σ S l0 l1 l2 l3 l4 x => ex_zeq (show decode mX5_addElder.2.1 70 = .ok (.ifCond .eq 19, 3) by decide +kernel) (by decide)⟩
theorem kX5_addElder_1 : (∀ (d : Nat) (σ : Sg) (S : List Value) (l1 l2 l3 l4 : Value) (k : Nat), exec d mX5_addElder 73 [.ref k, l1, l2, l3, l4] S σ = exec d mX5_addElder 74 [.ref k, l1, l2, l3, l4] (.ref k :: S) σ) ∧
  (∀ (d : Nat) (σ : Sg) (S : List Value) (l0 l1 l2 l3 l4 : Value), exec d mX5_addElder 74 [l0, l1, l2, l3, l4] (.ref 35 :: S) σ = exec d mX5_addElder 77 [l0, l1, l2, l3, l4] (.ref 43 :: S) σ) ∧
  (∀ (d : Nat) (σ : Sg) (S : List Value) (l1 l2 l3 l4 : Value) (k : Nat), exec d mX5_addElder 77 [.ref k, l1, l2, l3, l4] S σ = exec d mX5_addElder 78 [.ref k, l1, l2, l3, l4] (.ref k :: S) σ) ∧
  (∀ (d : Nat) (σ : Sg) (S : List Value) (l0 l1 l2 l3 l4 : Value), exec d mX5_addElder 78 [l0, l1, l2, l3, l4] (.ref 35 :: S) σ = exec d mX5_addElder 81 [l0, l1, l2, l3, l4] (.int (σ 35 5) :: S) σ) ∧
  (∀ (d : Nat) (σ : Sg) (S : List Value) (l0 l1 l2 l3 l4 : Value) (k : Nat) (x : Int32), exec d mX5_addElder 81 [l0, l1, l2, l3, l4] (.int x :: .ref k :: S) σ = exec d mX5_addElder 82 [l0, l1, l2, l3, l4] (.int x :: .ref k :: .int x :: .ref k :: S) σ) ∧
  (∀ (d : Nat) (σ : Sg) (S : List Value) (l0 l1 l2 l3 l4 : Value) (x : Int32), exec d mX5_addElder 82 [l0, l1, l2, l3, l4] (.int x :: .ref 43 :: S) σ = if inb x 5 = true then exec d mX5_addElder 83 [l0, l1, l2, l3, l4] (.int (σ 43 x.toNatClampNeg) :: S) σ else none) ∧
  (∀ (d : Nat) (σ : Sg) (S : List Value) (l0 l1 l2 l3 l4 : Value), exec d mX5_addElder 83 [l0, l1, l2, l3, l4] S σ = exec d mX5_addElder 84 [l0, l1, l2, l3, l4] (.int (nI 1) :: S) σ) ∧
  (∀ (d : Nat) (σ : Sg) (S : List Value) (l0 l1 l2 l3 : Value) (x : Int32), exec d mX5_addElder 84 [l0, l1, l2, l3, .int x] S σ = exec d mX5_addElder 86 [l0, l1, l2, l3, .int x] (.int x :: S) σ) ∧
  (∀ (d : Nat) (σ : Sg) (S : List Value) (l0 l1 l2 l3 l4 : Value) (x y : Int32), exec d mX5_addElder 86 [l0, l1, l2, l3, l4] (.int y :: .int x :: S) σ = exec d mX5_addElder 87 [l0, l1, l2, l3, l4] (.int (x <<< (y &&& 31)) :: S) σ) ∧
  (∀ (d : Nat) (σ : Sg) (S : List Value) (l0 l1 l2 l3 l4 : Value) (x y : Int32), exec d mX5_addElder 87 [l0, l1, l2, l3, l4] (.int y :: .int x :: S) σ = exec d mX5_addElder 88 [l0, l1, l2, l3, l4] (.int (x ||| y) :: S) σ) ∧
  (∀ (d : Nat) (σ : Sg) (S : List Value) (l0 l1 l2 l3 l4 : Value) (x y : Int32), exec d mX5_addElder 88 [l0, l1, l2, l3, l4] (.int y :: .int x :: .ref 43 :: S) σ = if inb x 5 = true then exec d mX5_addElder 89 [l0, l1, l2, l3, l4] S (up σ 43 x.toNatClampNeg y) else none) ∧
  (∀ (d : Nat) (σ : Sg) (S : List Value) (l0 l1 l2 : Value) (x y : Int32), exec d mX5_addElder 89 [l0, l1, l2, .int y, .int x] S σ = exec d mX5_addElder 92 [l0, l1, l2, .int y, .int (x + nI 1)] S σ) ∧
  (∀ (d : Nat) (σ : Sg) (S : List Value) (l0 l1 l2 l3 l4 : Value), exec d mX5_addElder 92 [l0, l1, l2, l3, l4] S σ = exec d mX5_addElder 43 [l0, l1, l2, l3, l4] S σ) ∧
  (∀ (d : Nat) (σ : Sg) (S : List Value) (l1 l2 l3 l4 : Value) (k : Nat), exec d mX5_addElder 95 [.ref k, l1, l2, l3, l4] S σ = exec d mX5_addElder 96 [.ref k, l1, l2, l3, l4] (.ref k :: S) σ) ∧
  (∀ (d : Nat) (σ : Sg) (S : List Value) (l0 l1 l2 l3 l4 : Value) (k : Nat), exec d mX5_addElder 96 [l0, l1, l2, l3, l4] (.ref k :: S) σ = exec d mX5_addElder 97 [l0, l1, l2, l3, l4] (.ref k :: .ref k :: S) σ) ∧
  (∀ (d : Nat) (σ : Sg) (S : List Value) (l0 l1 l2 l3 l4 : Value), exec d mX5_addElder 97 [l0, l1, l2, l3, l4] (.ref 35 :: S) σ = exec d mX5_addElder 100 [l0, l1, l2, l3, l4] (.int (σ 35 5) :: S) σ) ∧
  (∀ (d : Nat) (σ : Sg) (S : List Value) (l0 l1 l2 l3 l4 : Value), exec d mX5_addElder 100 [l0, l1, l2, l3, l4] S σ = exec d mX5_addElder 101 [l0, l1, l2, l3, l4] (.int (nI 1) :: S) σ) ∧
  (∀ (d : Nat) (σ : Sg) (S : List Value) (l0 l1 l2 l3 l4 : Value) (x y : Int32), exec d mX5_addElder 101 [l0, l1, l2, l3, l4] (.int y :: .int x :: S) σ = exec d mX5_addElder 102 [l0, l1, l2, l3, l4] (.int (x + y) :: S) σ) ∧
  (∀ (d : Nat) (σ : Sg) (S : List Value) (l0 l1 l2 l3 l4 : Value) (x : Int32), exec d mX5_addElder 102 [l0, l1, l2, l3, l4] (.int x :: .ref 35 :: S) σ = exec d mX5_addElder 105 [l0, l1, l2, l3, l4] S (up σ 35 5 x)) ∧
  (∀ (d : Nat) (σ : Sg) (l0 l1 l2 l3 l4 : Value), exec d mX5_addElder 105 [l0, l1, l2, l3, l4] [] σ = some (none, σ)) :=
  ⟨fun d σ S l1 l2 l3 l4 k => ex_aload_n (show decode mX5_addElder.2.1 73 = .ok (.aload_n 0, 1) by decide +kernel) rfl,
  fun d σ S l0 l1 l2 l3 l4 => ex_getr (idx := 33) (ci := 5) (ff := 16) (n := 17) (hh := 236) (by decide +kernel),
  fun d σ S l1 l2 l3 l4 k => ex_aload_n (show decode mX5_addElder.2.1 77 = .ok (.aload_n 0, 1) by decide +kernel) rfl,
  fun d σ S l0 l1 l2 l3 l4 => ex_get (idx := 53) (ci := 5) (ff := 5) (n := 17) (hh := 202) (by decide +kernel),
  fun d σ S l0 l1 l2 l3 l4 k x => ex_dup2 (show decode mX5_addElder.2.1 81 = .ok (.dup2, 1) by decide +kernel) rfl rfl,
  fun d σ S l0 l1 l2 l3 l4 x => ex_iald (by decide +kernel),
  fun d σ S l0 l1 l2 l3 l4 => ex_iconst (show decode mX5_addElder.2.1 83 = .ok (.iconst 1, 1) by decide +kernel) (by decide +kernel),
  fun d σ S l0 l1 l2 l3 x => ex_iload (show decode mX5_addElder.2.1 84 = .ok (.iload 4, 2) by decide +kernel) rfl,
  fun d σ S l0 l1 l2 l3 l4 x y => ex_ishl (show decode mX5_addElder.2.1 86 = .ok (.ishl, 1) by decide +kernel),
  fun d σ S l0 l1 l2 l3 l4 x y => ex_ior (show decode mX5_addElder.2.1 87 = .ok (.ior, 1) by decide +kernel),
  fun d σ S l0 l1 l2 l3 l4 x y => ex_iast (by decide +kernel),
  fun d σ S l0 l1 l2 x y => ex_iinc (show decode mX5_addElder.2.1 89 = .ok (.iinc 4 1, 3) by decide +kernel) rfl (by decide +kernel) (Nat.le_of_ble_eq_true rfl) rfl,
  fun d σ S l0 l1 l2 l3 l4 => ex_goto (show decode mX5_addElder.2.1 92 = .ok (.goto (-49), 3) by decide +kernel) (by decide),
  fun d σ S l1 l2 l3 l4 k => ex_aload_n (show decode mX5_addElder.2.1 95 = .ok (.aload_n 0, 1) by decide +kernel) rfl,
  fun d σ S l0 l1 l2 l3 l4 k => ex_dup (show decode mX5_addElder.2.1 96 = .ok (.dup, 1) by decide +kernel) rfl,
  fun d σ S l0 l1 l2 l3 l4 => ex_get (idx := 53) (ci := 5) (ff := 5) (n := 17) (hh := 202) (by decide +kernel),
  fun d σ S l0 l1 l2 l3 l4 => ex_iconst (show decode mX5_addElder.2.1 100 = .ok (.iconst 1, 1) by decide +kernel) (by decide +kernel),
  fun d σ S l0 l1 l2 l3 l4 x y => ex_iadd (show decode mX5_addElder.2.1 101 = .ok (.iadd, 1) by decide +kernel),
  fun d σ S l0 l1 l2 l3 l4 x => ex_put (idx := 53) (ci := 5) (ff := 5) (n := 17) (hh := 202) (by decide +kernel),
  fun d σ l0 l1 l2 l3 l4 => ex_vret (show decode mX5_addElder.2.1 105 = .ok (.return_, 1) by decide +kernel) rfl⟩
theorem hX5_addElder_43 : ∀ (d : Nat) (σ : Sg) (S : List Value) (l0 l1 l2 l3 : Value) (x : Int32), exec d mX5_addElder 43 [l0, l1, l2, l3, .int x] S σ = exec d mX5_addElder 45 [l0, l1, l2, l3, .int x] (.int x :: S) σ := fun d σ S l0 l1 l2 l3 x => ex_iload (show decode mX5_addElder.2.1 43 = .ok (.iload 4, 2) by decide +kernel) rfl
theorem aX5_addElder_35 : ∀ (d : Nat) (a1 : Int32) (a2 : Int32) (a3 : Int32) (σ : Sg), cal (d + 1) mX5_addElder [.ref 35, .int a1, .int a2, .int a3] σ = exec d mX5_addElder 0 [.ref 35, .int a1, .int a2, .int a3, uu] [] σ := fun _ _ _ _ _ => rfl
theorem kX5_isReady : (∀ (d : Nat) (σ : Sg) (S : List Value) (l1 l2 : Value) (k : Nat), exec d mX5_isReady 0 [.ref k, l1, l2] S σ = exec d mX5_isReady 1 [.ref k, l1, l2] (.ref k :: S) σ) ∧
  (∀ (d : Nat) (σ : Sg) (S : List Value) (l0 l1 l2 : Value), exec d mX5_isReady 1 [l0, l1, l2] (.ref 8 :: S) σ = exec d mX5_isReady 4 [l0, l1, l2] (.ref 12 :: S) σ) ∧
  (∀ (d : Nat) (σ : Sg) (S : List Value) (l0 l1 l2 : Value), exec d mX5_isReady 1 [l0, l1, l2] (.ref 35 :: S) σ = exec d mX5_isReady 4 [l0, l1, l2] (.ref 39 :: S) σ) ∧
  (∀ (d : Nat) (σ : Sg) (S : List Value) (l0 l2 : Value) (x : Int32), exec d mX5_isReady 4 [l0, .int x, l2] S σ = exec d mX5_isReady 5 [l0, .int x, l2] (.int x :: S) σ) ∧
  (∀ (d : Nat) (σ : Sg) (S : List Value) (l0 l1 l2 : Value) (x : Int32), exec d mX5_isReady 5 [l0, l1, l2] (.int x :: .ref 12 :: S) σ = if inb x 7 = true then exec d mX5_isReady 6 [l0, l1, l2] (.int (σ 12 x.toNatClampNeg) :: S) σ else none) ∧
  (∀ (d : Nat) (σ : Sg) (S : List Value) (l0 l1 l2 : Value) (x : Int32), exec d mX5_isReady 5 [l0, l1, l2] (.int x :: .ref 39 :: S) σ = if inb x 7 = true then exec d mX5_isReady 6 [l0, l1, l2] (.int (σ 39 x.toNatClampNeg) :: S) σ else none) ∧
  (∀ (d : Nat) (σ : Sg) (S : List Value) (l0 l1 l2 : Value), exec d mX5_isReady 6 [l0, l1, l2] S σ = exec d mX5_isReady 8 [l0, l1, l2] (.int (nI 7) :: S) σ) ∧
  (∀ (d : Nat) (σ : Sg) (S : List Value) (l0 l1 l2 : Value) (x y : Int32), exec d mX5_isReady 8 [l0, l1, l2] (.int y :: .int x :: S) σ = if x = y then exec d mX5_isReady 25 [l0, l1, l2] S σ else exec d mX5_isReady 11 [l0, l1, l2] S σ) ∧
  (∀ (d : Nat) (σ : Sg) (S : List Value) (l0 l1 : Value) (x : Int32), exec d mX5_isReady 11 [l0, l1, .int x] S σ = exec d mX5_isReady 12 [l0, l1, .int x] (.int x :: S) σ) ∧
  (∀ (d : Nat) (σ : Sg) (S : List Value) (l1 l2 : Value) (k : Nat), exec d mX5_isReady 12 [.ref k, l1, l2] S σ = exec d mX5_isReady 13 [.ref k, l1, l2] (.ref k :: S) σ) ∧
  (∀ (d : Nat) (σ : Sg) (S : List Value) (l0 l1 l2 : Value), exec d mX5_isReady 13 [l0, l1, l2] (.ref 8 :: S) σ = exec d mX5_isReady 16 [l0, l1, l2] (.ref 12 :: S) σ) ∧
  (∀ (d : Nat) (σ : Sg) (S : List Value) (l0 l1 l2 : Value), exec d mX5_isReady 13 [l0, l1, l2] (.ref 35 :: S) σ = exec d mX5_isReady 16 [l0, l1, l2] (.ref 39 :: S) σ) ∧
  (∀ (d : Nat) (σ : Sg) (S : List Value) (l0 l2 : Value) (x : Int32), exec d mX5_isReady 16 [l0, .int x, l2] S σ = exec d mX5_isReady 17 [l0, .int x, l2] (.int x :: S) σ) ∧
  (∀ (d : Nat) (σ : Sg) (S : List Value) (l0 l1 l2 : Value) (x : Int32), exec d mX5_isReady 17 [l0, l1, l2] (.int x :: .ref 12 :: S) σ = if inb x 7 = true then exec d mX5_isReady 18 [l0, l1, l2] (.int (σ 12 x.toNatClampNeg) :: S) σ else none) ∧
  (∀ (d : Nat) (σ : Sg) (S : List Value) (l0 l1 l2 : Value) (x : Int32), exec d mX5_isReady 17 [l0, l1, l2] (.int x :: .ref 39 :: S) σ = if inb x 7 = true then exec d mX5_isReady 18 [l0, l1, l2] (.int (σ 39 x.toNatClampNeg) :: S) σ else none) ∧
  (∀ (d : Nat) (σ : Sg) (l0 l1 l2 : Value) (x0 x1 : Int32), exec d mX5_isReady 18 [l0, l1, l2] [.int x0, .int x1] σ = kb (cal d mX6_bit [.int x1, .int x0] σ) (fun rs σ2 => exec d mX5_isReady 21 [l0, l1, l2] (rs ++ []) σ2)) ∧
  (∀ (d : Nat) (σ : Sg) (S : List Value) (l0 l1 l2 : Value), exec d mX5_isReady 21 [l0, l1, l2] S σ = exec d mX5_isReady 22 [l0, l1, l2] (.int (nI 1) :: S) σ) ∧
  (∀ (d : Nat) (σ : Sg) (S : List Value) (l0 l1 l2 : Value) (x y : Int32), exec d mX5_isReady 22 [l0, l1, l2] (.int y :: .int x :: S) σ = if x = y then exec d mX5_isReady 25 [l0, l1, l2] S σ else exec d mX5_isReady 29 [l0, l1, l2] S σ) ∧
  (∀ (d : Nat) (σ : Sg) (S : List Value) (l0 l1 l2 : Value), exec d mX5_isReady 25 [l0, l1, l2] S σ = exec d mX5_isReady 26 [l0, l1, l2] (.int (nI 1) :: S) σ) ∧
  (∀ (d : Nat) (σ : Sg) (S : List Value) (l0 l1 l2 : Value), exec d mX5_isReady 26 [l0, l1, l2] S σ = exec d mX5_isReady 30 [l0, l1, l2] S σ) ∧
  (∀ (d : Nat) (σ : Sg) (S : List Value) (l0 l1 l2 : Value), exec d mX5_isReady 29 [l0, l1, l2] S σ = exec d mX5_isReady 30 [l0, l1, l2] (.int (nI 0) :: S) σ) ∧
  (∀ (d : Nat) (σ : Sg) (l0 l1 l2 : Value) (x : Int32), exec d mX5_isReady 30 [l0, l1, l2] [.int x] σ = if b01 x = true then some (some (.int x), σ) else none) :=
  ⟨fun d σ S l1 l2 k => ex_aload_n (show decode mX5_isReady.2.1 0 = .ok (.aload_n 0, 1) by decide +kernel) rfl,
  fun d σ S l0 l1 l2 => ex_getr (idx := 21) (ci := 5) (ff := 12) (n := 17) (hh := 228) (by decide +kernel),
  fun d σ S l0 l1 l2 => ex_getr (idx := 21) (ci := 5) (ff := 12) (n := 17) (hh := 228) (by decide +kernel),
  fun d σ S l0 l2 x => ex_iload_n (show decode mX5_isReady.2.1 4 = .ok (.iload_n 1, 1) by decide +kernel) rfl,
  fun d σ S l0 l1 l2 x => ex_iald (by decide +kernel),
  fun d σ S l0 l1 l2 x => ex_iald (by decide +kernel),
  fun d σ S l0 l1 l2 => ex_bipush (show decode mX5_isReady.2.1 6 = .ok (.bipush 7, 2) by decide +kernel) (by decide +kernel),
  fun d σ S l0 l1 l2 x y => ex_ceq (show decode mX5_isReady.2.1 8 = .ok (.if_icmp .eq 17, 3) by decide +kernel) (by decide),
  fun d σ S l0 l1 x => ex_iload_n (show decode mX5_isReady.2.1 11 = .ok (.iload_n 2, 1) by decide +kernel) rfl,
  fun d σ S l1 l2 k => ex_aload_n (show decode mX5_isReady.2.1 12 = .ok (.aload_n 0, 1) by decide +kernel) rfl,
  fun d σ S l0 l1 l2 => ex_getr (idx := 21) (ci := 5) (ff := 12) (n := 17) (hh := 228) (by decide +kernel),
  fun d σ S l0 l1 l2 => ex_getr (idx := 21) (ci := 5) (ff := 12) (n := 17) (hh := 228) (by decide +kernel),
  fun d σ S l0 l2 x => ex_iload_n (show decode mX5_isReady.2.1 16 = .ok (.iload_n 1, 1) by decide +kernel) rfl,
  fun d σ S l0 l1 l2 x => ex_iald (by decide +kernel),
  fun d σ S l0 l1 l2 x => ex_iald (by decide +kernel),
  fun d σ l0 l1 l2 x0 x1 => ex_is (hs := [536, 537, 538, 94]) (show decode mX5_isReady.2.1 18 = .ok (.invokestatic 69, 3) by decide +kernel) lkS_5_69 ⟨rfl, Nat.le_of_ble_eq_true rfl, Nat.le_of_ble_eq_true rfl, fun q => nomatch q⟩ rfl rfl,
  fun d σ S l0 l1 l2 => ex_iconst (show decode mX5_isReady.2.1 21 = .ok (.iconst 1, 1) by decide +kernel) (by decide +kernel),
  fun d σ S l0 l1 l2 x y => ex_cne (show decode mX5_isReady.2.1 22 = .ok (.if_icmp .ne 7, 3) by decide +kernel) (by decide),
  fun d σ S l0 l1 l2 => ex_iconst (show decode mX5_isReady.2.1 25 = .ok (.iconst 1, 1) by decide +kernel) (by decide +kernel),
  fun d σ S l0 l1 l2 => ex_goto (show decode mX5_isReady.2.1 26 = .ok (.goto 4, 3) by decide +kernel) (by decide),
  fun d σ S l0 l1 l2 => ex_iconst (show decode mX5_isReady.2.1 29 = .ok (.iconst 0, 1) by decide +kernel) (by decide +kernel),
  fun d σ l0 l1 l2 x => ex_zret (show decode mX5_isReady.2.1 30 = .ok (.ireturn, 1) by decide +kernel) rfl⟩
theorem aX5_isReady_35 : ∀ (d : Nat) (a1 : Int32) (a2 : Int32) (σ : Sg), cal (d + 1) mX5_isReady [.ref 35, .int a1, .int a2] σ = exec d mX5_isReady 0 [.ref 35, .int a1, .int a2] [] σ := fun _ _ _ _ => rfl
theorem aX5_isReady_8 : ∀ (d : Nat) (a1 : Int32) (a2 : Int32) (σ : Sg), cal (d + 1) mX5_isReady [.ref 8, .int a1, .int a2] σ = exec d mX5_isReady 0 [.ref 8, .int a1, .int a2] [] σ := fun _ _ _ _ => rfl
theorem kX5_mayBuild_0 : (∀ (d : Nat) (σ : Sg) (S : List Value) (l1 : Value) (k : Nat), exec d mX5_mayBuild 0 [.ref k, l1] S σ = exec d mX5_mayBuild 1 [.ref k, l1] (.ref k :: S) σ) ∧
  (∀ (d : Nat) (σ : Sg) (S : List Value) (l0 l1 : Value), exec d mX5_mayBuild 1 [l0, l1] (.ref 8 :: S) σ = exec d mX5_mayBuild 4 [l0, l1] (.int (σ 8 6) :: S) σ) ∧
  (∀ (d : Nat) (σ : Sg) (S : List Value) (l0 l1 : Value), exec d mX5_mayBuild 1 [l0, l1] (.ref 35 :: S) σ = exec d mX5_mayBuild 4 [l0, l1] (.int (σ 35 6) :: S) σ) ∧
  (∀ (d : Nat) (σ : Sg) (S : List Value) (l0 : Value) (x : Int32), exec d mX5_mayBuild 4 [l0, .int x] S σ = exec d mX5_mayBuild 5 [l0, .int x] (.int x :: S) σ) ∧
  (∀ (d : Nat) (σ : Sg) (l0 l1 : Value) (x0 x1 : Int32), exec d mX5_mayBuild 5 [l0, l1] [.int x0, .int x1] σ = kb (cal d mX6_bit [.int x1, .int x0] σ) (fun rs σ2 => exec d mX5_mayBuild 8 [l0, l1] (rs ++ []) σ2)) ∧
  (∀ (d : Nat) (σ : Sg) (S : List Value) (l0 l1 : Value), exec d mX5_mayBuild 8 [l0, l1] S σ = exec d mX5_mayBuild 9 [l0, l1] (.int (nI 1) :: S) σ) ∧
  (∀ (d : Nat) (σ : Sg) (S : List Value) (l0 l1 : Value) (x y : Int32), exec d mX5_mayBuild 9 [l0, l1] (.int y :: .int x :: S) σ = if x = y then exec d mX5_mayBuild 24 [l0, l1] S σ else exec d mX5_mayBuild 12 [l0, l1] S σ) ∧
  (∀ (d : Nat) (σ : Sg) (S : List Value) (l1 : Value) (k : Nat), exec d mX5_mayBuild 12 [.ref k, l1] S σ = exec d mX5_mayBuild 13 [.ref k, l1] (.ref k :: S) σ) ∧
  (∀ (d : Nat) (σ : Sg) (S : List Value) (l0 : Value) (x : Int32), exec d mX5_mayBuild 13 [l0, .int x] S σ = exec d mX5_mayBuild 14 [l0, .int x] (.int x :: S) σ) ∧
  (∀ (d : Nat) (σ : Sg) (S : List Value) (l1 : Value) (k : Nat), exec d mX5_mayBuild 14 [.ref k, l1] S σ = exec d mX5_mayBuild 15 [.ref k, l1] (.ref k :: S) σ) ∧
  (∀ (d : Nat) (σ : Sg) (S : List Value) (l0 l1 : Value), exec d mX5_mayBuild 15 [l0, l1] (.ref 8 :: S) σ = exec d mX5_mayBuild 18 [l0, l1] (.int (σ 8 6) :: S) σ) ∧
  (∀ (d : Nat) (σ : Sg) (S : List Value) (l0 l1 : Value), exec d mX5_mayBuild 15 [l0, l1] (.ref 35 :: S) σ = exec d mX5_mayBuild 18 [l0, l1] (.int (σ 35 6) :: S) σ) ∧
  (∀ (d : Nat) (σ : Sg) (l0 l1 : Value) (x0 x1 : Int32), exec d mX5_mayBuild 18 [l0, l1] [.int x0, .int x1, .ref 35] σ = kb (cal d mX5_isReady [.ref 35, .int x1, .int x0] σ) (fun rs σ2 => exec d mX5_mayBuild 21 [l0, l1] (rs ++ []) σ2)) ∧
  (∀ (d : Nat) (σ : Sg) (l0 l1 : Value) (x0 x1 : Int32), exec d mX5_mayBuild 18 [l0, l1] [.int x0, .int x1, .ref 8] σ = kb (cal d mX5_isReady [.ref 8, .int x1, .int x0] σ) (fun rs σ2 => exec d mX5_mayBuild 21 [l0, l1] (rs ++ []) σ2)) ∧
  (∀ (d : Nat) (σ : Sg) (S : List Value) (l0 l1 : Value) (x : Int32), exec d mX5_mayBuild 21 [l0, l1] (.int x :: S) σ = if x = nI 0 then exec d mX5_mayBuild 24 [l0, l1] S σ else exec d mX5_mayBuild 26 [l0, l1] S σ) ∧
  (∀ (d : Nat) (σ : Sg) (S : List Value) (l0 l1 : Value), exec d mX5_mayBuild 24 [l0, l1] S σ = exec d mX5_mayBuild 25 [l0, l1] (.int (nI 0) :: S) σ) ∧
  (∀ (d : Nat) (σ : Sg) (l0 l1 : Value) (x : Int32), exec d mX5_mayBuild 25 [l0, l1] [.int x] σ = if b01 x = true then some (some (.int x), σ) else none) ∧
  (∀ (d : Nat) (σ : Sg) (S : List Value) (l1 : Value) (k : Nat), exec d mX5_mayBuild 26 [.ref k, l1] S σ = exec d mX5_mayBuild 27 [.ref k, l1] (.ref k :: S) σ) ∧
  (∀ (d : Nat) (σ : Sg) (S : List Value) (l0 l1 : Value), exec d mX5_mayBuild 27 [l0, l1] (.ref 8 :: S) σ = exec d mX5_mayBuild 30 [l0, l1] (.ref 9 :: S) σ) ∧
  (∀ (d : Nat) (σ : Sg) (S : List Value) (l0 l1 : Value), exec d mX5_mayBuild 27 [l0, l1] (.ref 35 :: S) σ = exec d mX5_mayBuild 30 [l0, l1] (.ref 36 :: S) σ) ∧
  (∀ (d : Nat) (σ : Sg) (S : List Value) (l0 : Value) (x : Int32), exec d mX5_mayBuild 30 [l0, .int x] S σ = exec d mX5_mayBuild 31 [l0, .int x] (.int x :: S) σ) ∧
  (∀ (d : Nat) (σ : Sg) (S : List Value) (l0 l1 : Value) (x : Int32), exec d mX5_mayBuild 31 [l0, l1] (.int x :: .ref 9 :: S) σ = if inb x 7 = true then exec d mX5_mayBuild 32 [l0, l1] (.int (σ 9 x.toNatClampNeg) :: S) σ else none) ∧
  (∀ (d : Nat) (σ : Sg) (S : List Value) (l0 l1 : Value) (x : Int32), exec d mX5_mayBuild 31 [l0, l1] (.int x :: .ref 36 :: S) σ = if inb x 7 = true then exec d mX5_mayBuild 32 [l0, l1] (.int (σ 36 x.toNatClampNeg) :: S) σ else none) ∧
  (∀ (d : Nat) (σ : Sg) (S : List Value) (l1 : Value) (k : Nat), exec d mX5_mayBuild 32 [.ref k, l1] S σ = exec d mX5_mayBuild 33 [.ref k, l1] (.ref k :: S) σ) ∧
  (∀ (d : Nat) (σ : Sg) (S : List Value) (l0 l1 : Value), exec d mX5_mayBuild 33 [l0, l1] (.ref 8 :: S) σ = exec d mX5_mayBuild 36 [l0, l1] (.ref 10 :: S) σ) ∧
  (∀ (d : Nat) (σ : Sg) (S : List Value) (l0 l1 : Value), exec d mX5_mayBuild 33 [l0, l1] (.ref 35 :: S) σ = exec d mX5_mayBuild 36 [l0, l1] (.ref 37 :: S) σ) ∧
  (∀ (d : Nat) (σ : Sg) (S : List Value) (l0 : Value) (x : Int32), exec d mX5_mayBuild 36 [l0, .int x] S σ = exec d mX5_mayBuild 37 [l0, .int x] (.int x :: S) σ) ∧
  (∀ (d : Nat) (σ : Sg) (S : List Value) (l0 l1 : Value) (x : Int32), exec d mX5_mayBuild 37 [l0, l1] (.int x :: .ref 10 :: S) σ = if inb x 7 = true then exec d mX5_mayBuild 38 [l0, l1] (.int (σ 10 x.toNatClampNeg) :: S) σ else none) ∧
  (∀ (d : Nat) (σ : Sg) (S : List Value) (l0 l1 : Value) (x : Int32), exec d mX5_mayBuild 37 [l0, l1] (.int x :: .ref 37 :: S) σ = if inb x 7 = true then exec d mX5_mayBuild 38 [l0, l1] (.int (σ 37 x.toNatClampNeg) :: S) σ else none) ∧
  (∀ (d : Nat) (σ : Sg) (S : List Value) (l1 : Value) (k : Nat), exec d mX5_mayBuild 38 [.ref k, l1] S σ = exec d mX5_mayBuild 39 [.ref k, l1] (.ref k :: S) σ) ∧
  (∀ (d : Nat) (σ : Sg) (S : List Value) (l0 l1 : Value), exec d mX5_mayBuild 39 [l0, l1] (.ref 8 :: S) σ = exec d mX5_mayBuild 42 [l0, l1] (.ref 11 :: S) σ) ∧
  (∀ (d : Nat) (σ : Sg) (S : List Value) (l0 l1 : Value), exec d mX5_mayBuild 39 [l0, l1] (.ref 35 :: S) σ = exec d mX5_mayBuild 42 [l0, l1] (.ref 38 :: S) σ) ∧
  (∀ (d : Nat) (σ : Sg) (S : List Value) (l0 : Value) (x : Int32), exec d mX5_mayBuild 42 [l0, .int x] S σ = exec d mX5_mayBuild 43 [l0, .int x] (.int x :: S) σ) ∧
  (∀ (d : Nat) (σ : Sg) (S : List Value) (l0 l1 : Value) (x : Int32), exec d mX5_mayBuild 43 [l0, l1] (.int x :: .ref 11 :: S) σ = if inb x 7 = true then exec d mX5_mayBuild 44 [l0, l1] (.int (σ 11 x.toNatClampNeg) :: S) σ else none) ∧
  (∀ (d : Nat) (σ : Sg) (S : List Value) (l0 l1 : Value) (x : Int32), exec d mX5_mayBuild 43 [l0, l1] (.int x :: .ref 38 :: S) σ = if inb x 7 = true then exec d mX5_mayBuild 44 [l0, l1] (.int (σ 38 x.toNatClampNeg) :: S) σ else none) ∧
  (∀ (d : Nat) (σ : Sg) (S : List Value) (l1 : Value) (k : Nat), exec d mX5_mayBuild 44 [.ref k, l1] S σ = exec d mX5_mayBuild 45 [.ref k, l1] (.ref k :: S) σ) ∧
  (∀ (d : Nat) (σ : Sg) (S : List Value) (l0 l1 : Value), exec d mX5_mayBuild 45 [l0, l1] (.ref 8 :: S) σ = exec d mX5_mayBuild 48 [l0, l1] (.int (σ 8 1) :: S) σ) ∧
  (∀ (d : Nat) (σ : Sg) (S : List Value) (l0 l1 : Value), exec d mX5_mayBuild 45 [l0, l1] (.ref 35 :: S) σ = exec d mX5_mayBuild 48 [l0, l1] (.int (σ 35 1) :: S) σ) ∧
  (∀ (d : Nat) (σ : Sg) (l0 l1 : Value) (x0 x1 x2 x3 : Int32), exec d mX5_mayBuild 48 [l0, l1] [.int x0, .int x1, .int x2, .int x3] σ = kb (cal d mX6_taken [.int x3, .int x2, .int x1, .int x0] σ) (fun rs σ2 => exec d mX5_mayBuild 51 [l0, l1] (rs ++ []) σ2)) ∧
  (∀ (d : Nat) (σ : Sg) (S : List Value) (l1 : Value) (k : Nat), exec d mX5_mayBuild 51 [.ref k, l1] S σ = exec d mX5_mayBuild 52 [.ref k, l1] (.ref k :: S) σ) :=
  ⟨fun d σ S l1 k => ex_aload_n (show decode mX5_mayBuild.2.1 0 = .ok (.aload_n 0, 1) by decide +kernel) rfl,
  fun d σ S l0 l1 => ex_get (idx := 56) (ci := 5) (ff := 6) (n := 17) (hh := 205) (by decide +kernel),
  fun d σ S l0 l1 => ex_get (idx := 56) (ci := 5) (ff := 6) (n := 17) (hh := 205) (by decide +kernel),
  fun d σ S l0 x => ex_iload_n (show decode mX5_mayBuild.2.1 4 = .ok (.iload_n 1, 1) by decide +kernel) rfl,
  fun d σ l0 l1 x0 x1 => ex_is (hs := [536, 537, 538, 94]) (show decode mX5_mayBuild.2.1 5 = .ok (.invokestatic 69, 3) by decide +kernel) lkS_5_69 ⟨rfl, Nat.le_of_ble_eq_true rfl, Nat.le_of_ble_eq_true rfl, fun q => nomatch q⟩ rfl rfl,
  fun d σ S l0 l1 => ex_iconst (show decode mX5_mayBuild.2.1 8 = .ok (.iconst 1, 1) by decide +kernel) (by decide +kernel),
  fun d σ S l0 l1 x y => ex_ceq (show decode mX5_mayBuild.2.1 9 = .ok (.if_icmp .eq 15, 3) by decide +kernel) (by decide),
  fun d σ S l1 k => ex_aload_n (show decode mX5_mayBuild.2.1 12 = .ok (.aload_n 0, 1) by decide +kernel) rfl,
  fun d σ S l0 x => ex_iload_n (show decode mX5_mayBuild.2.1 13 = .ok (.iload_n 1, 1) by decide +kernel) rfl,
  fun d σ S l1 k => ex_aload_n (show decode mX5_mayBuild.2.1 14 = .ok (.aload_n 0, 1) by decide +kernel) rfl,
  fun d σ S l0 l1 => ex_get (idx := 56) (ci := 5) (ff := 6) (n := 17) (hh := 205) (by decide +kernel),
  fun d σ S l0 l1 => ex_get (idx := 56) (ci := 5) (ff := 6) (n := 17) (hh := 205) (by decide +kernel),
  fun d σ l0 l1 x0 x1 => ex_iv (hs := [539, 541, 25, 542, 97]) (show decode mX5_mayBuild.2.1 18 = .ok (.invokevirtual 73, 3) by decide +kernel) lkV_5_73 ⟨rfl, Nat.le_of_ble_eq_true rfl, Nat.le_of_ble_eq_true rfl, fun _ => rfl⟩ rfl rfl,
  fun d σ l0 l1 x0 x1 => ex_iv (hs := [539, 541, 25, 542, 97]) (show decode mX5_mayBuild.2.1 18 = .ok (.invokevirtual 73, 3) by decide +kernel) lkV_5_73 ⟨rfl, Nat.le_of_ble_eq_true rfl, Nat.le_of_ble_eq_true rfl, fun _ => rfl⟩ rfl rfl,
  fun d σ S l0 l1 x => ex_zne (show decode mX5_mayBuild.2.1 21 = .ok (.ifCond .ne 5, 3) by decide +kernel) (by decide),
  fun d σ S l0 l1 => ex_iconst (show decode mX5_mayBuild.2.1 24 = .ok (.iconst 0, 1) by decide +kernel) (by decide +kernel),
  fun d σ l0 l1 x => ex_zret (show decode mX5_mayBuild.2.1 25 = .ok (.ireturn, 1) by decide +kernel) rfl,
  fun d σ S l1 k => ex_aload_n (show decode mX5_mayBuild.2.1 26 = .ok (.aload_n 0, 1) by decide +kernel) rfl,
  fun d σ S l0 l1 => ex_getr (idx := 9) (ci := 5) (ff := 9) (n := 17) (hh := 216) (by decide +kernel),
  fun d σ S l0 l1 => ex_getr (idx := 9) (ci := 5) (ff := 9) (n := 17) (hh := 216) (by decide +kernel),
  fun d σ S l0 x => ex_iload_n (show decode mX5_mayBuild.2.1 30 = .ok (.iload_n 1, 1) by decide +kernel) rfl,
  fun d σ S l0 l1 x => ex_iald (by decide +kernel),
  fun d σ S l0 l1 x => ex_iald (by decide +kernel),
  fun d σ S l1 k => ex_aload_n (show decode mX5_mayBuild.2.1 32 = .ok (.aload_n 0, 1) by decide +kernel) rfl,
  fun d σ S l0 l1 => ex_getr (idx := 15) (ci := 5) (ff := 10) (n := 17) (hh := 220) (by decide +kernel),
  fun d σ S l0 l1 => ex_getr (idx := 15) (ci := 5) (ff := 10) (n := 17) (hh := 220) (by decide +kernel),
  fun d σ S l0 x => ex_iload_n (show decode mX5_mayBuild.2.1 36 = .ok (.iload_n 1, 1) by decide +kernel) rfl,
  fun d σ S l0 l1 x => ex_iald (by decide +kernel),
  fun d σ S l0 l1 x => ex_iald (by decide +kernel),
  fun d σ S l1 k => ex_aload_n (show decode mX5_mayBuild.2.1 38 = .ok (.aload_n 0, 1) by decide +kernel) rfl,
  fun d σ S l0 l1 => ex_getr (idx := 18) (ci := 5) (ff := 11) (n := 17) (hh := 224) (by decide +kernel),
  fun d σ S l0 l1 => ex_getr (idx := 18) (ci := 5) (ff := 11) (n := 17) (hh := 224) (by decide +kernel),
  fun d σ S l0 x => ex_iload_n (show decode mX5_mayBuild.2.1 42 = .ok (.iload_n 1, 1) by decide +kernel) rfl,
  fun d σ S l0 l1 x => ex_iald (by decide +kernel),
  fun d σ S l0 l1 x => ex_iald (by decide +kernel),
  fun d σ S l1 k => ex_aload_n (show decode mX5_mayBuild.2.1 44 = .ok (.aload_n 0, 1) by decide +kernel) rfl,
  fun d σ S l0 l1 => ex_get (idx := 40) (ci := 5) (ff := 1) (n := 17) (hh := 183) (by decide +kernel),
  fun d σ S l0 l1 => ex_get (idx := 40) (ci := 5) (ff := 1) (n := 17) (hh := 183) (by decide +kernel),
  fun d σ l0 l1 x0 x1 x2 x3 => ex_is (hs := [543, 544, 545, 94]) (show decode mX5_mayBuild.2.1 48 = .ok (.invokestatic 77, 3) by decide +kernel) lkS_5_77 ⟨rfl, Nat.le_of_ble_eq_true rfl, Nat.le_of_ble_eq_true rfl, fun q => nomatch q⟩ rfl rfl,
  fun d σ S l1 k => ex_aload_n (show decode mX5_mayBuild.2.1 51 = .ok (.aload_n 0, 1) by decide +kernel) rfl⟩
theorem kX5_mayBuild_1 : (∀ (d : Nat) (σ : Sg) (S : List Value) (l0 l1 : Value), exec d mX5_mayBuild 52 [l0, l1] (.ref 8 :: S) σ = exec d mX5_mayBuild 55 [l0, l1] (.ref 9 :: S) σ) ∧
  (∀ (d : Nat) (σ : Sg) (S : List Value) (l0 l1 : Value), exec d mX5_mayBuild 52 [l0, l1] (.ref 35 :: S) σ = exec d mX5_mayBuild 55 [l0, l1] (.ref 36 :: S) σ) ∧
  (∀ (d : Nat) (σ : Sg) (S : List Value) (l0 : Value) (x : Int32), exec d mX5_mayBuild 55 [l0, .int x] S σ = exec d mX5_mayBuild 56 [l0, .int x] (.int x :: S) σ) ∧
  (∀ (d : Nat) (σ : Sg) (S : List Value) (l0 l1 : Value) (x : Int32), exec d mX5_mayBuild 56 [l0, l1] (.int x :: .ref 9 :: S) σ = if inb x 7 = true then exec d mX5_mayBuild 57 [l0, l1] (.int (σ 9 x.toNatClampNeg) :: S) σ else none) ∧
  (∀ (d : Nat) (σ : Sg) (S : List Value) (l0 l1 : Value) (x : Int32), exec d mX5_mayBuild 56 [l0, l1] (.int x :: .ref 36 :: S) σ = if inb x 7 = true then exec d mX5_mayBuild 57 [l0, l1] (.int (σ 36 x.toNatClampNeg) :: S) σ else none) ∧
  (∀ (d : Nat) (σ : Sg) (S : List Value) (l0 l1 : Value), exec d mX5_mayBuild 57 [l0, l1] S σ = exec d mX5_mayBuild 58 [l0, l1] (.int (nI 5) :: S) σ) ∧
  (∀ (d : Nat) (σ : Sg) (S : List Value) (l0 l1 : Value) (x y : Int32), exec d mX5_mayBuild 58 [l0, l1] (.int y :: .int x :: S) σ = if x = y then exec d mX5_mayBuild 61 [l0, l1] S σ else exec d mX5_mayBuild 68 [l0, l1] S σ) ∧
  (∀ (d : Nat) (σ : Sg) (S : List Value) (l1 : Value) (k : Nat), exec d mX5_mayBuild 61 [.ref k, l1] S σ = exec d mX5_mayBuild 62 [.ref k, l1] (.ref k :: S) σ) ∧
  (∀ (d : Nat) (σ : Sg) (S : List Value) (l0 l1 : Value), exec d mX5_mayBuild 62 [l0, l1] (.ref 8 :: S) σ = exec d mX5_mayBuild 65 [l0, l1] (.int (σ 8 3) :: S) σ) ∧
  (∀ (d : Nat) (σ : Sg) (S : List Value) (l0 l1 : Value), exec d mX5_mayBuild 62 [l0, l1] (.ref 35 :: S) σ = exec d mX5_mayBuild 65 [l0, l1] (.int (σ 35 3) :: S) σ) ∧
  (∀ (d : Nat) (σ : Sg) (S : List Value) (l0 l1 : Value), exec d mX5_mayBuild 65 [l0, l1] S σ = exec d mX5_mayBuild 72 [l0, l1] S σ) ∧
  (∀ (d : Nat) (σ : Sg) (S : List Value) (l1 : Value) (k : Nat), exec d mX5_mayBuild 68 [.ref k, l1] S σ = exec d mX5_mayBuild 69 [.ref k, l1] (.ref k :: S) σ) ∧
  (∀ (d : Nat) (σ : Sg) (S : List Value) (l0 l1 : Value), exec d mX5_mayBuild 69 [l0, l1] (.ref 8 :: S) σ = exec d mX5_mayBuild 72 [l0, l1] (.int (σ 8 2) :: S) σ) ∧
  (∀ (d : Nat) (σ : Sg) (S : List Value) (l0 l1 : Value), exec d mX5_mayBuild 69 [l0, l1] (.ref 35 :: S) σ = exec d mX5_mayBuild 72 [l0, l1] (.int (σ 35 2) :: S) σ) ∧
  (∀ (d : Nat) (σ : Sg) (S : List Value) (l0 l1 : Value) (x y : Int32), exec d mX5_mayBuild 72 [l0, l1] (.int y :: .int x :: S) σ = if y < x then exec d mX5_mayBuild 79 [l0, l1] S σ else exec d mX5_mayBuild 75 [l0, l1] S σ) ∧
  (∀ (d : Nat) (σ : Sg) (S : List Value) (l0 l1 : Value), exec d mX5_mayBuild 75 [l0, l1] S σ = exec d mX5_mayBuild 76 [l0, l1] (.int (nI 1) :: S) σ) ∧
  (∀ (d : Nat) (σ : Sg) (S : List Value) (l0 l1 : Value), exec d mX5_mayBuild 76 [l0, l1] S σ = exec d mX5_mayBuild 80 [l0, l1] S σ) ∧
  (∀ (d : Nat) (σ : Sg) (S : List Value) (l0 l1 : Value), exec d mX5_mayBuild 79 [l0, l1] S σ = exec d mX5_mayBuild 80 [l0, l1] (.int (nI 0) :: S) σ) ∧
  (∀ (d : Nat) (σ : Sg) (l0 l1 : Value) (x : Int32), exec d mX5_mayBuild 80 [l0, l1] [.int x] σ = if b01 x = true then some (some (.int x), σ) else none) :=
  ⟨fun d σ S l0 l1 => ex_getr (idx := 9) (ci := 5) (ff := 9) (n := 17) (hh := 216) (by decide +kernel),
  fun d σ S l0 l1 => ex_getr (idx := 9) (ci := 5) (ff := 9) (n := 17) (hh := 216) (by decide +kernel),
  fun d σ S l0 x => ex_iload_n (show decode mX5_mayBuild.2.1 55 = .ok (.iload_n 1, 1) by decide +kernel) rfl,
  fun d σ S l0 l1 x => ex_iald (by decide +kernel),
  fun d σ S l0 l1 x => ex_iald (by decide +kernel),
  fun d σ S l0 l1 => ex_iconst (show decode mX5_mayBuild.2.1 57 = .ok (.iconst 5, 1) by decide +kernel) (by decide +kernel),
  fun d σ S l0 l1 x y => ex_cne (show decode mX5_mayBuild.2.1 58 = .ok (.if_icmp .ne 10, 3) by decide +kernel) (by decide),
  fun d σ S l1 k => ex_aload_n (show decode mX5_mayBuild.2.1 61 = .ok (.aload_n 0, 1) by decide +kernel) rfl,
  fun d σ S l0 l1 => ex_get (idx := 47) (ci := 5) (ff := 3) (n := 17) (hh := 193) (by decide +kernel),
  fun d σ S l0 l1 => ex_get (idx := 47) (ci := 5) (ff := 3) (n := 17) (hh := 193) (by decide +kernel),
  fun d σ S l0 l1 => ex_goto (show decode mX5_mayBuild.2.1 65 = .ok (.goto 7, 3) by decide +kernel) (by decide),
  fun d σ S l1 k => ex_aload_n (show decode mX5_mayBuild.2.1 68 = .ok (.aload_n 0, 1) by decide +kernel) rfl,
  fun d σ S l0 l1 => ex_get (idx := 44) (ci := 5) (ff := 2) (n := 17) (hh := 188) (by decide +kernel),
  fun d σ S l0 l1 => ex_get (idx := 44) (ci := 5) (ff := 2) (n := 17) (hh := 188) (by decide +kernel),
  fun d σ S l0 l1 x y => ex_cgt (show decode mX5_mayBuild.2.1 72 = .ok (.if_icmp .gt 7, 3) by decide +kernel) (by decide),
  fun d σ S l0 l1 => ex_iconst (show decode mX5_mayBuild.2.1 75 = .ok (.iconst 1, 1) by decide +kernel) (by decide +kernel),
  fun d σ S l0 l1 => ex_goto (show decode mX5_mayBuild.2.1 76 = .ok (.goto 4, 3) by decide +kernel) (by decide),
  fun d σ S l0 l1 => ex_iconst (show decode mX5_mayBuild.2.1 79 = .ok (.iconst 0, 1) by decide +kernel) (by decide +kernel),
  fun d σ l0 l1 x => ex_zret (show decode mX5_mayBuild.2.1 80 = .ok (.ireturn, 1) by decide +kernel) rfl⟩
theorem aX5_mayBuild_35 : ∀ (d : Nat) (a1 : Int32) (σ : Sg), cal (d + 1) mX5_mayBuild [.ref 35, .int a1] σ = exec d mX5_mayBuild 0 [.ref 35, .int a1] [] σ := fun _ _ _ => rfl
theorem aX5_mayBuild_8 : ∀ (d : Nat) (a1 : Int32) (σ : Sg), cal (d + 1) mX5_mayBuild [.ref 8, .int a1] σ = exec d mX5_mayBuild 0 [.ref 8, .int a1] [] σ := fun _ _ _ => rfl
theorem kX5_build_0 : (∀ (d : Nat) (σ : Sg) (S : List Value) (l1 l2 l3 : Value) (k : Nat), exec d mX5_build 0 [.ref k, l1, l2, l3] S σ = exec d mX5_build 1 [.ref k, l1, l2, l3] (.ref k :: S) σ) ∧
  (∀ (d : Nat) (σ : Sg) (S : List Value) (l0 l1 l2 l3 : Value), exec d mX5_build 1 [l0, l1, l2, l3] (.ref 8 :: S) σ = exec d mX5_build 4 [l0, l1, l2, l3] (.ref 9 :: S) σ) ∧
  (∀ (d : Nat) (σ : Sg) (S : List Value) (l0 l1 l2 l3 : Value), exec d mX5_build 1 [l0, l1, l2, l3] (.ref 35 :: S) σ = exec d mX5_build 4 [l0, l1, l2, l3] (.ref 36 :: S) σ) ∧
  (∀ (d : Nat) (σ : Sg) (S : List Value) (l0 l2 l3 : Value) (x : Int32), exec d mX5_build 4 [l0, .int x, l2, l3] S σ = exec d mX5_build 5 [l0, .int x, l2, l3] (.int x :: S) σ) ∧
  (∀ (d : Nat) (σ : Sg) (S : List Value) (l0 l1 l2 l3 : Value) (x : Int32), exec d mX5_build 5 [l0, l1, l2, l3] (.int x :: .ref 9 :: S) σ = if inb x 7 = true then exec d mX5_build 6 [l0, l1, l2, l3] (.int (σ 9 x.toNatClampNeg) :: S) σ else none) ∧
  (∀ (d : Nat) (σ : Sg) (S : List Value) (l0 l1 l2 l3 : Value) (x : Int32), exec d mX5_build 5 [l0, l1, l2, l3] (.int x :: .ref 36 :: S) σ = if inb x 7 = true then exec d mX5_build 6 [l0, l1, l2, l3] (.int (σ 36 x.toNatClampNeg) :: S) σ else none) ∧
  (∀ (d : Nat) (σ : Sg) (S : List Value) (l1 l2 l3 : Value) (k : Nat), exec d mX5_build 6 [.ref k, l1, l2, l3] S σ = exec d mX5_build 7 [.ref k, l1, l2, l3] (.ref k :: S) σ) ∧
  (∀ (d : Nat) (σ : Sg) (S : List Value) (l0 l1 l2 l3 : Value), exec d mX5_build 7 [l0, l1, l2, l3] (.ref 8 :: S) σ = exec d mX5_build 10 [l0, l1, l2, l3] (.ref 10 :: S) σ) ∧
  (∀ (d : Nat) (σ : Sg) (S : List Value) (l0 l1 l2 l3 : Value), exec d mX5_build 7 [l0, l1, l2, l3] (.ref 35 :: S) σ = exec d mX5_build 10 [l0, l1, l2, l3] (.ref 37 :: S) σ) ∧
  (∀ (d : Nat) (σ : Sg) (S : List Value) (l0 l2 l3 : Value) (x : Int32), exec d mX5_build 10 [l0, .int x, l2, l3] S σ = exec d mX5_build 11 [l0, .int x, l2, l3] (.int x :: S) σ) ∧
  (∀ (d : Nat) (σ : Sg) (S : List Value) (l0 l1 l2 l3 : Value) (x : Int32), exec d mX5_build 11 [l0, l1, l2, l3] (.int x :: .ref 10 :: S) σ = if inb x 7 = true then exec d mX5_build 12 [l0, l1, l2, l3] (.int (σ 10 x.toNatClampNeg) :: S) σ else none) ∧
  (∀ (d : Nat) (σ : Sg) (S : List Value) (l0 l1 l2 l3 : Value) (x : Int32), exec d mX5_build 11 [l0, l1, l2, l3] (.int x :: .ref 37 :: S) σ = if inb x 7 = true then exec d mX5_build 12 [l0, l1, l2, l3] (.int (σ 37 x.toNatClampNeg) :: S) σ else none) ∧
  (∀ (d : Nat) (σ : Sg) (S : List Value) (l1 l2 l3 : Value) (k : Nat), exec d mX5_build 12 [.ref k, l1, l2, l3] S σ = exec d mX5_build 13 [.ref k, l1, l2, l3] (.ref k :: S) σ) ∧
  (∀ (d : Nat) (σ : Sg) (S : List Value) (l0 l1 l2 l3 : Value), exec d mX5_build 13 [l0, l1, l2, l3] (.ref 8 :: S) σ = exec d mX5_build 16 [l0, l1, l2, l3] (.ref 11 :: S) σ) ∧
  (∀ (d : Nat) (σ : Sg) (S : List Value) (l0 l1 l2 l3 : Value), exec d mX5_build 13 [l0, l1, l2, l3] (.ref 35 :: S) σ = exec d mX5_build 16 [l0, l1, l2, l3] (.ref 38 :: S) σ) ∧
  (∀ (d : Nat) (σ : Sg) (S : List Value) (l0 l2 l3 : Value) (x : Int32), exec d mX5_build 16 [l0, .int x, l2, l3] S σ = exec d mX5_build 17 [l0, .int x, l2, l3] (.int x :: S) σ) ∧
  (∀ (d : Nat) (σ : Sg) (S : List Value) (l0 l1 l2 l3 : Value) (x : Int32), exec d mX5_build 17 [l0, l1, l2, l3] (.int x :: .ref 11 :: S) σ = if inb x 7 = true then exec d mX5_build 18 [l0, l1, l2, l3] (.int (σ 11 x.toNatClampNeg) :: S) σ else none) ∧
  (∀ (d : Nat) (σ : Sg) (S : List Value) (l0 l1 l2 l3 : Value) (x : Int32), exec d mX5_build 17 [l0, l1, l2, l3] (.int x :: .ref 38 :: S) σ = if inb x 7 = true then exec d mX5_build 18 [l0, l1, l2, l3] (.int (σ 38 x.toNatClampNeg) :: S) σ else none) ∧
  (∀ (d : Nat) (σ : Sg) (S : List Value) (l1 l2 l3 : Value) (k : Nat), exec d mX5_build 18 [.ref k, l1, l2, l3] S σ = exec d mX5_build 19 [.ref k, l1, l2, l3] (.ref k :: S) σ) ∧
  (∀ (d : Nat) (σ : Sg) (S : List Value) (l0 l1 l2 l3 : Value), exec d mX5_build 19 [l0, l1, l2, l3] (.ref 8 :: S) σ = exec d mX5_build 22 [l0, l1, l2, l3] (.int (σ 8 1) :: S) σ) ∧
  (∀ (d : Nat) (σ : Sg) (S : List Value) (l0 l1 l2 l3 : Value), exec d mX5_build 19 [l0, l1, l2, l3] (.ref 35 :: S) σ = exec d mX5_build 22 [l0, l1, l2, l3] (.int (σ 35 1) :: S) σ) ∧
  (∀ (d : Nat) (σ : Sg) (l0 l1 l2 l3 : Value) (x0 x1 x2 x3 : Int32), exec d mX5_build 22 [l0, l1, l2, l3] [.int x0, .int x1, .int x2, .int x3] σ = kb (cal d mX6_taken [.int x3, .int x2, .int x1, .int x0] σ) (fun rs σ2 => exec d mX5_build 25 [l0, l1, l2, l3] (rs ++ []) σ2)) ∧
  (∀ (d : Nat) (σ : Sg) (S : List Value) (l0 l2 l3 : Value) (x y : Int32), exec d mX5_build 25 [l0, .int y, l2, l3] (.int x :: S) σ = exec d mX5_build 26 [l0, .int y, .int x, l3] S σ) ∧
  (∀ (d : Nat) (σ : Sg) (S : List Value) (l1 l2 l3 : Value) (k : Nat), exec d mX5_build 26 [.ref k, l1, l2, l3] S σ = exec d mX5_build 27 [.ref k, l1, l2, l3] (.ref k :: S) σ) ∧
  (∀ (d : Nat) (σ : Sg) (S : List Value) (l0 l1 l2 l3 : Value), exec d mX5_build 27 [l0, l1, l2, l3] (.ref 8 :: S) σ = exec d mX5_build 30 [l0, l1, l2, l3] (.ref 9 :: S) σ) ∧
  (∀ (d : Nat) (σ : Sg) (S : List Value) (l0 l1 l2 l3 : Value), exec d mX5_build 27 [l0, l1, l2, l3] (.ref 35 :: S) σ = exec d mX5_build 30 [l0, l1, l2, l3] (.ref 36 :: S) σ) ∧
  (∀ (d : Nat) (σ : Sg) (S : List Value) (l0 l2 l3 : Value) (x : Int32), exec d mX5_build 30 [l0, .int x, l2, l3] S σ = exec d mX5_build 31 [l0, .int x, l2, l3] (.int x :: S) σ) ∧
  (∀ (d : Nat) (σ : Sg) (S : List Value) (l0 l1 l2 l3 : Value) (x : Int32), exec d mX5_build 31 [l0, l1, l2, l3] (.int x :: .ref 9 :: S) σ = if inb x 7 = true then exec d mX5_build 32 [l0, l1, l2, l3] (.int (σ 9 x.toNatClampNeg) :: S) σ else none) ∧
  (∀ (d : Nat) (σ : Sg) (S : List Value) (l0 l1 l2 l3 : Value) (x : Int32), exec d mX5_build 31 [l0, l1, l2, l3] (.int x :: .ref 36 :: S) σ = if inb x 7 = true then exec d mX5_build 32 [l0, l1, l2, l3] (.int (σ 36 x.toNatClampNeg) :: S) σ else none) ∧
  (∀ (d : Nat) (σ : Sg) (S : List Value) (l1 l2 l3 : Value) (k : Nat), exec d mX5_build 32 [.ref k, l1, l2, l3] S σ = exec d mX5_build 33 [.ref k, l1, l2, l3] (.ref k :: S) σ) ∧
  (∀ (d : Nat) (σ : Sg) (S : List Value) (l0 l1 l2 l3 : Value), exec d mX5_build 33 [l0, l1, l2, l3] (.ref 8 :: S) σ = exec d mX5_build 36 [l0, l1, l2, l3] (.ref 10 :: S) σ) ∧
  (∀ (d : Nat) (σ : Sg) (S : List Value) (l0 l1 l2 l3 : Value), exec d mX5_build 33 [l0, l1, l2, l3] (.ref 35 :: S) σ = exec d mX5_build 36 [l0, l1, l2, l3] (.ref 37 :: S) σ) ∧
  (∀ (d : Nat) (σ : Sg) (S : List Value) (l0 l2 l3 : Value) (x : Int32), exec d mX5_build 36 [l0, .int x, l2, l3] S σ = exec d mX5_build 37 [l0, .int x, l2, l3] (.int x :: S) σ) ∧
  (∀ (d : Nat) (σ : Sg) (S : List Value) (l0 l1 l2 l3 : Value) (x : Int32), exec d mX5_build 37 [l0, l1, l2, l3] (.int x :: .ref 10 :: S) σ = if inb x 7 = true then exec d mX5_build 38 [l0, l1, l2, l3] (.int (σ 10 x.toNatClampNeg) :: S) σ else none) ∧
  (∀ (d : Nat) (σ : Sg) (S : List Value) (l0 l1 l2 l3 : Value) (x : Int32), exec d mX5_build 37 [l0, l1, l2, l3] (.int x :: .ref 37 :: S) σ = if inb x 7 = true then exec d mX5_build 38 [l0, l1, l2, l3] (.int (σ 37 x.toNatClampNeg) :: S) σ else none) ∧
  (∀ (d : Nat) (σ : Sg) (S : List Value) (l1 l2 l3 : Value) (k : Nat), exec d mX5_build 38 [.ref k, l1, l2, l3] S σ = exec d mX5_build 39 [.ref k, l1, l2, l3] (.ref k :: S) σ) ∧
  (∀ (d : Nat) (σ : Sg) (S : List Value) (l0 l1 l2 l3 : Value), exec d mX5_build 39 [l0, l1, l2, l3] (.ref 8 :: S) σ = exec d mX5_build 42 [l0, l1, l2, l3] (.int (σ 8 1) :: S) σ) ∧
  (∀ (d : Nat) (σ : Sg) (S : List Value) (l0 l1 l2 l3 : Value), exec d mX5_build 39 [l0, l1, l2, l3] (.ref 35 :: S) σ = exec d mX5_build 42 [l0, l1, l2, l3] (.int (σ 35 1) :: S) σ) ∧
  (∀ (d : Nat) (σ : Sg) (l0 l1 l2 l3 : Value) (x0 x1 x2 : Int32), exec d mX5_build 42 [l0, l1, l2, l3] [.int x0, .int x1, .int x2] σ = kb (cal d mX6_flawed [.int x2, .int x1, .int x0] σ) (fun rs σ2 => exec d mX5_build 45 [l0, l1, l2, l3] (rs ++ []) σ2)) ∧
  (∀ (d : Nat) (σ : Sg) (S : List Value) (l0 l1 l3 : Value) (x y : Int32), exec d mX5_build 45 [l0, l1, .int y, l3] (.int x :: S) σ = exec d mX5_build 46 [l0, l1, .int y, .int x] S σ) :=
  ⟨fun d σ S l1 l2 l3 k => ex_aload_n (show decode mX5_build.2.1 0 = .ok (.aload_n 0, 1) by decide +kernel) rfl,
  fun d σ S l0 l1 l2 l3 => ex_getr (idx := 9) (ci := 5) (ff := 9) (n := 17) (hh := 216) (by decide +kernel),
  fun d σ S l0 l1 l2 l3 => ex_getr (idx := 9) (ci := 5) (ff := 9) (n := 17) (hh := 216) (by decide +kernel),
  fun d σ S l0 l2 l3 x => ex_iload_n (show decode mX5_build.2.1 4 = .ok (.iload_n 1, 1) by decide +kernel) rfl,
  fun d σ S l0 l1 l2 l3 x => ex_iald (by decide +kernel),
  fun d σ S l0 l1 l2 l3 x => ex_iald (by decide +kernel),
  fun d σ S l1 l2 l3 k => ex_aload_n (show decode mX5_build.2.1 6 = .ok (.aload_n 0, 1) by decide +kernel) rfl,
  fun d σ S l0 l1 l2 l3 => ex_getr (idx := 15) (ci := 5) (ff := 10) (n := 17) (hh := 220) (by decide +kernel),
  fun d σ S l0 l1 l2 l3 => ex_getr (idx := 15) (ci := 5) (ff := 10) (n := 17) (hh := 220) (by decide +kernel),
  fun d σ S l0 l2 l3 x => ex_iload_n (show decode mX5_build.2.1 10 = .ok (.iload_n 1, 1) by decide +kernel) rfl,
  fun d σ S l0 l1 l2 l3 x => ex_iald (by decide +kernel),
  fun d σ S l0 l1 l2 l3 x => ex_iald (by decide +kernel),
  fun d σ S l1 l2 l3 k => ex_aload_n (show decode mX5_build.2.1 12 = .ok (.aload_n 0, 1) by decide +kernel) rfl,
  fun d σ S l0 l1 l2 l3 => ex_getr (idx := 18) (ci := 5) (ff := 11) (n := 17) (hh := 224) (by decide +kernel),
  fun d σ S l0 l1 l2 l3 => ex_getr (idx := 18) (ci := 5) (ff := 11) (n := 17) (hh := 224) (by decide +kernel),
  fun d σ S l0 l2 l3 x => ex_iload_n (show decode mX5_build.2.1 16 = .ok (.iload_n 1, 1) by decide +kernel) rfl,
  fun d σ S l0 l1 l2 l3 x => ex_iald (by decide +kernel),
  fun d σ S l0 l1 l2 l3 x => ex_iald (by decide +kernel),
  fun d σ S l1 l2 l3 k => ex_aload_n (show decode mX5_build.2.1 18 = .ok (.aload_n 0, 1) by decide +kernel) rfl,
  fun d σ S l0 l1 l2 l3 => ex_get (idx := 40) (ci := 5) (ff := 1) (n := 17) (hh := 183) (by decide +kernel),
  fun d σ S l0 l1 l2 l3 => ex_get (idx := 40) (ci := 5) (ff := 1) (n := 17) (hh := 183) (by decide +kernel),
  fun d σ l0 l1 l2 l3 x0 x1 x2 x3 => ex_is (hs := [543, 544, 545, 94]) (show decode mX5_build.2.1 22 = .ok (.invokestatic 77, 3) by decide +kernel) lkS_5_77 ⟨rfl, Nat.le_of_ble_eq_true rfl, Nat.le_of_ble_eq_true rfl, fun q => nomatch q⟩ rfl rfl,
  fun d σ S l0 l2 l3 x y => ex_istore_n (show decode mX5_build.2.1 25 = .ok (.istore_n 2, 1) by decide +kernel) (Nat.le_of_ble_eq_true rfl) rfl,
  fun d σ S l1 l2 l3 k => ex_aload_n (show decode mX5_build.2.1 26 = .ok (.aload_n 0, 1) by decide +kernel) rfl,
  fun d σ S l0 l1 l2 l3 => ex_getr (idx := 9) (ci := 5) (ff := 9) (n := 17) (hh := 216) (by decide +kernel),
  fun d σ S l0 l1 l2 l3 => ex_getr (idx := 9) (ci := 5) (ff := 9) (n := 17) (hh := 216) (by decide +kernel),
  fun d σ S l0 l2 l3 x => ex_iload_n (show decode mX5_build.2.1 30 = .ok (.iload_n 1, 1) by decide +kernel) rfl,
  fun d σ S l0 l1 l2 l3 x => ex_iald (by decide +kernel),
  fun d σ S l0 l1 l2 l3 x => ex_iald (by decide +kernel),
  fun d σ S l1 l2 l3 k => ex_aload_n (show decode mX5_build.2.1 32 = .ok (.aload_n 0, 1) by decide +kernel) rfl,
  fun d σ S l0 l1 l2 l3 => ex_getr (idx := 15) (ci := 5) (ff := 10) (n := 17) (hh := 220) (by decide +kernel),
  fun d σ S l0 l1 l2 l3 => ex_getr (idx := 15) (ci := 5) (ff := 10) (n := 17) (hh := 220) (by decide +kernel),
  fun d σ S l0 l2 l3 x => ex_iload_n (show decode mX5_build.2.1 36 = .ok (.iload_n 1, 1) by decide +kernel) rfl,
  fun d σ S l0 l1 l2 l3 x => ex_iald (by decide +kernel),
  fun d σ S l0 l1 l2 l3 x => ex_iald (by decide +kernel),
  fun d σ S l1 l2 l3 k => ex_aload_n (show decode mX5_build.2.1 38 = .ok (.aload_n 0, 1) by decide +kernel) rfl,
  fun d σ S l0 l1 l2 l3 => ex_get (idx := 40) (ci := 5) (ff := 1) (n := 17) (hh := 183) (by decide +kernel),
  fun d σ S l0 l1 l2 l3 => ex_get (idx := 40) (ci := 5) (ff := 1) (n := 17) (hh := 183) (by decide +kernel),
  fun d σ l0 l1 l2 l3 x0 x1 x2 => ex_is (hs := [557, 558, 559, 94]) (show decode mX5_build.2.1 42 = .ok (.invokestatic 81, 3) by decide +kernel) lkS_5_81 ⟨rfl, Nat.le_of_ble_eq_true rfl, Nat.le_of_ble_eq_true rfl, fun q => nomatch q⟩ rfl rfl,
  fun d σ S l0 l1 l3 x y => ex_istore_n (show decode mX5_build.2.1 45 = .ok (.istore_n 3, 1) by decide +kernel) (Nat.le_of_ble_eq_true rfl) rfl⟩
theorem kX5_build_1 : (∀ (d : Nat) (σ : Sg) (S : List Value) (l1 l2 l3 : Value) (k : Nat), exec d mX5_build 46 [.ref k, l1, l2, l3] S σ = exec d mX5_build 47 [.ref k, l1, l2, l3] (.ref k :: S) σ) ∧
  (∀ (d : Nat) (σ : Sg) (S : List Value) (l0 l1 l2 l3 : Value), exec d mX5_build 47 [l0, l1, l2, l3] (.ref 8 :: S) σ = exec d mX5_build 50 [l0, l1, l2, l3] (.ref 9 :: S) σ) ∧
  (∀ (d : Nat) (σ : Sg) (S : List Value) (l0 l1 l2 l3 : Value), exec d mX5_build 47 [l0, l1, l2, l3] (.ref 35 :: S) σ = exec d mX5_build 50 [l0, l1, l2, l3] (.ref 36 :: S) σ) ∧
  (∀ (d : Nat) (σ : Sg) (S : List Value) (l0 l2 l3 : Value) (x : Int32), exec d mX5_build 50 [l0, .int x, l2, l3] S σ = exec d mX5_build 51 [l0, .int x, l2, l3] (.int x :: S) σ) ∧
  (∀ (d : Nat) (σ : Sg) (S : List Value) (l0 l1 l2 l3 : Value) (x : Int32), exec d mX5_build 51 [l0, l1, l2, l3] (.int x :: .ref 9 :: S) σ = if inb x 7 = true then exec d mX5_build 52 [l0, l1, l2, l3] (.int (σ 9 x.toNatClampNeg) :: S) σ else none) ∧
  (∀ (d : Nat) (σ : Sg) (S : List Value) (l0 l1 l2 l3 : Value) (x : Int32), exec d mX5_build 51 [l0, l1, l2, l3] (.int x :: .ref 36 :: S) σ = if inb x 7 = true then exec d mX5_build 52 [l0, l1, l2, l3] (.int (σ 36 x.toNatClampNeg) :: S) σ else none) ∧
  (∀ (d : Nat) (σ : Sg) (S : List Value) (l0 l1 l2 l3 : Value), exec d mX5_build 52 [l0, l1, l2, l3] S σ = exec d mX5_build 53 [l0, l1, l2, l3] (.int (nI 5) :: S) σ) ∧
  (∀ (d : Nat) (σ : Sg) (S : List Value) (l0 l1 l2 l3 : Value) (x y : Int32), exec d mX5_build 53 [l0, l1, l2, l3] (.int y :: .int x :: S) σ = if x = y then exec d mX5_build 56 [l0, l1, l2, l3] S σ else exec d mX5_build 69 [l0, l1, l2, l3] S σ) ∧
  (∀ (d : Nat) (σ : Sg) (S : List Value) (l1 l2 l3 : Value) (k : Nat), exec d mX5_build 56 [.ref k, l1, l2, l3] S σ = exec d mX5_build 57 [.ref k, l1, l2, l3] (.ref k :: S) σ) ∧
  (∀ (d : Nat) (σ : Sg) (S : List Value) (l0 l1 l2 l3 : Value) (k : Nat), exec d mX5_build 57 [l0, l1, l2, l3] (.ref k :: S) σ = exec d mX5_build 58 [l0, l1, l2, l3] (.ref k :: .ref k :: S) σ) ∧
  (∀ (d : Nat) (σ : Sg) (S : List Value) (l0 l1 l2 l3 : Value), exec d mX5_build 58 [l0, l1, l2, l3] (.ref 8 :: S) σ = exec d mX5_build 61 [l0, l1, l2, l3] (.int (σ 8 3) :: S) σ) ∧
  (∀ (d : Nat) (σ : Sg) (S : List Value) (l0 l1 l2 l3 : Value), exec d mX5_build 58 [l0, l1, l2, l3] (.ref 35 :: S) σ = exec d mX5_build 61 [l0, l1, l2, l3] (.int (σ 35 3) :: S) σ) ∧
  (∀ (d : Nat) (σ : Sg) (S : List Value) (l0 l1 l3 : Value) (x : Int32), exec d mX5_build 61 [l0, l1, .int x, l3] S σ = exec d mX5_build 62 [l0, l1, .int x, l3] (.int x :: S) σ) ∧
  (∀ (d : Nat) (σ : Sg) (S : List Value) (l0 l1 l2 l3 : Value) (x y : Int32), exec d mX5_build 62 [l0, l1, l2, l3] (.int y :: .int x :: S) σ = exec d mX5_build 63 [l0, l1, l2, l3] (.int (x - y) :: S) σ) ∧
  (∀ (d : Nat) (σ : Sg) (S : List Value) (l0 l1 l2 l3 : Value) (x : Int32), exec d mX5_build 63 [l0, l1, l2, l3] (.int x :: .ref 8 :: S) σ = exec d mX5_build 66 [l0, l1, l2, l3] S (up σ 8 3 x)) ∧
  (∀ (d : Nat) (σ : Sg) (S : List Value) (l0 l1 l2 l3 : Value) (x : Int32), exec d mX5_build 63 [l0, l1, l2, l3] (.int x :: .ref 35 :: S) σ = exec d mX5_build 66 [l0, l1, l2, l3] S (up σ 35 3 x)) ∧
  (∀ (d : Nat) (σ : Sg) (S : List Value) (l0 l1 l2 l3 : Value), exec d mX5_build 66 [l0, l1, l2, l3] S σ = exec d mX5_build 79 [l0, l1, l2, l3] S σ) ∧
  (∀ (d : Nat) (σ : Sg) (S : List Value) (l1 l2 l3 : Value) (k : Nat), exec d mX5_build 69 [.ref k, l1, l2, l3] S σ = exec d mX5_build 70 [.ref k, l1, l2, l3] (.ref k :: S) σ) ∧
  (∀ (d : Nat) (σ : Sg) (S : List Value) (l0 l1 l2 l3 : Value) (k : Nat), exec d mX5_build 70 [l0, l1, l2, l3] (.ref k :: S) σ = exec d mX5_build 71 [l0, l1, l2, l3] (.ref k :: .ref k :: S) σ) ∧
  (∀ (d : Nat) (σ : Sg) (S : List Value) (l0 l1 l2 l3 : Value), exec d mX5_build 71 [l0, l1, l2, l3] (.ref 8 :: S) σ = exec d mX5_build 74 [l0, l1, l2, l3] (.int (σ 8 2) :: S) σ) ∧
  (∀ (d : Nat) (σ : Sg) (S : List Value) (l0 l1 l2 l3 : Value), exec d mX5_build 71 [l0, l1, l2, l3] (.ref 35 :: S) σ = exec d mX5_build 74 [l0, l1, l2, l3] (.int (σ 35 2) :: S) σ) ∧
  (∀ (d : Nat) (σ : Sg) (S : List Value) (l0 l1 l3 : Value) (x : Int32), exec d mX5_build 74 [l0, l1, .int x, l3] S σ = exec d mX5_build 75 [l0, l1, .int x, l3] (.int x :: S) σ) ∧
  (∀ (d : Nat) (σ : Sg) (S : List Value) (l0 l1 l2 l3 : Value) (x y : Int32), exec d mX5_build 75 [l0, l1, l2, l3] (.int y :: .int x :: S) σ = exec d mX5_build 76 [l0, l1, l2, l3] (.int (x - y) :: S) σ) ∧
  (∀ (d : Nat) (σ : Sg) (S : List Value) (l0 l1 l2 l3 : Value) (x : Int32), exec d mX5_build 76 [l0, l1, l2, l3] (.int x :: .ref 8 :: S) σ = exec d mX5_build 79 [l0, l1, l2, l3] S (up σ 8 2 x)) ∧
  (∀ (d : Nat) (σ : Sg) (S : List Value) (l0 l1 l2 l3 : Value) (x : Int32), exec d mX5_build 76 [l0, l1, l2, l3] (.int x :: .ref 35 :: S) σ = exec d mX5_build 79 [l0, l1, l2, l3] S (up σ 35 2 x)) ∧
  (∀ (d : Nat) (σ : Sg) (S : List Value) (l1 l2 l3 : Value) (k : Nat), exec d mX5_build 79 [.ref k, l1, l2, l3] S σ = exec d mX5_build 80 [.ref k, l1, l2, l3] (.ref k :: S) σ) ∧
  (∀ (d : Nat) (σ : Sg) (S : List Value) (l1 l2 l3 : Value) (k : Nat), exec d mX5_build 80 [.ref k, l1, l2, l3] S σ = exec d mX5_build 81 [.ref k, l1, l2, l3] (.ref k :: S) σ) ∧
  (∀ (d : Nat) (σ : Sg) (S : List Value) (l0 l1 l2 l3 : Value), exec d mX5_build 81 [l0, l1, l2, l3] (.ref 8 :: S) σ = exec d mX5_build 84 [l0, l1, l2, l3] (.ref 9 :: S) σ) ∧
  (∀ (d : Nat) (σ : Sg) (S : List Value) (l0 l1 l2 l3 : Value), exec d mX5_build 81 [l0, l1, l2, l3] (.ref 35 :: S) σ = exec d mX5_build 84 [l0, l1, l2, l3] (.ref 36 :: S) σ) ∧
  (∀ (d : Nat) (σ : Sg) (S : List Value) (l0 l2 l3 : Value) (x : Int32), exec d mX5_build 84 [l0, .int x, l2, l3] S σ = exec d mX5_build 85 [l0, .int x, l2, l3] (.int x :: S) σ) ∧
  (∀ (d : Nat) (σ : Sg) (S : List Value) (l0 l1 l2 l3 : Value) (x : Int32), exec d mX5_build 85 [l0, l1, l2, l3] (.int x :: .ref 9 :: S) σ = if inb x 7 = true then exec d mX5_build 86 [l0, l1, l2, l3] (.int (σ 9 x.toNatClampNeg) :: S) σ else none) ∧
  (∀ (d : Nat) (σ : Sg) (S : List Value) (l0 l1 l2 l3 : Value) (x : Int32), exec d mX5_build 85 [l0, l1, l2, l3] (.int x :: .ref 36 :: S) σ = if inb x 7 = true then exec d mX5_build 86 [l0, l1, l2, l3] (.int (σ 36 x.toNatClampNeg) :: S) σ else none) ∧
  (∀ (d : Nat) (σ : Sg) (S : List Value) (l1 l2 l3 : Value) (k : Nat), exec d mX5_build 86 [.ref k, l1, l2, l3] S σ = exec d mX5_build 87 [.ref k, l1, l2, l3] (.ref k :: S) σ) ∧
  (∀ (d : Nat) (σ : Sg) (S : List Value) (l0 l1 l2 l3 : Value), exec d mX5_build 87 [l0, l1, l2, l3] (.ref 8 :: S) σ = exec d mX5_build 90 [l0, l1, l2, l3] (.int (σ 8 1) :: S) σ) ∧
  (∀ (d : Nat) (σ : Sg) (S : List Value) (l0 l1 l2 l3 : Value), exec d mX5_build 87 [l0, l1, l2, l3] (.ref 35 :: S) σ = exec d mX5_build 90 [l0, l1, l2, l3] (.int (σ 35 1) :: S) σ) ∧
  (∀ (d : Nat) (σ : Sg) (l0 l1 l2 l3 : Value) (x0 x1 : Int32), exec d mX5_build 90 [l0, l1, l2, l3] [.int x0, .int x1, .ref 35] σ = kb (cal d mX6_skillBehind [.int x1, .int x0] σ) (fun rs σ2 => exec d mX5_build 93 [l0, l1, l2, l3] (rs ++ [.ref 35]) σ2)) ∧
  (∀ (d : Nat) (σ : Sg) (l0 l1 l2 l3 : Value) (x0 x1 : Int32), exec d mX5_build 90 [l0, l1, l2, l3] [.int x0, .int x1, .ref 8] σ = kb (cal d mX6_skillBehind [.int x1, .int x0] σ) (fun rs σ2 => exec d mX5_build 93 [l0, l1, l2, l3] (rs ++ [.ref 8]) σ2)) ∧
  (∀ (d : Nat) (σ : Sg) (S : List Value) (l0 l1 l2 l3 : Value) (x : Int32), exec d mX5_build 93 [l0, l1, l2, l3] (.int x :: .ref 8 :: S) σ = exec d mX5_build 96 [l0, l1, l2, l3] S (up σ 8 1 x)) ∧
  (∀ (d : Nat) (σ : Sg) (S : List Value) (l0 l1 l2 l3 : Value) (x : Int32), exec d mX5_build 93 [l0, l1, l2, l3] (.int x :: .ref 35 :: S) σ = exec d mX5_build 96 [l0, l1, l2, l3] S (up σ 35 1 x)) ∧
  (∀ (d : Nat) (σ : Sg) (S : List Value) (l1 l2 l3 : Value) (k : Nat), exec d mX5_build 96 [.ref k, l1, l2, l3] S σ = exec d mX5_build 97 [.ref k, l1, l2, l3] (.ref k :: S) σ) :=
  ⟨fun d σ S l1 l2 l3 k => ex_aload_n (show decode mX5_build.2.1 46 = .ok (.aload_n 0, 1) by decide +kernel) rfl,
  fun d σ S l0 l1 l2 l3 => ex_getr (idx := 9) (ci := 5) (ff := 9) (n := 17) (hh := 216) (by decide +kernel),
  fun d σ S l0 l1 l2 l3 => ex_getr (idx := 9) (ci := 5) (ff := 9) (n := 17) (hh := 216) (by decide +kernel),
  fun d σ S l0 l2 l3 x => ex_iload_n (show decode mX5_build.2.1 50 = .ok (.iload_n 1, 1) by decide +kernel) rfl,
  fun d σ S l0 l1 l2 l3 x => ex_iald (by decide +kernel),
  fun d σ S l0 l1 l2 l3 x => ex_iald (by decide +kernel),
  fun d σ S l0 l1 l2 l3 => ex_iconst (show decode mX5_build.2.1 52 = .ok (.iconst 5, 1) by decide +kernel) (by decide +kernel),
  fun d σ S l0 l1 l2 l3 x y => ex_cne (show decode mX5_build.2.1 53 = .ok (.if_icmp .ne 16, 3) by decide +kernel) (by decide),
  fun d σ S l1 l2 l3 k => ex_aload_n (show decode mX5_build.2.1 56 = .ok (.aload_n 0, 1) by decide +kernel) rfl,
  fun d σ S l0 l1 l2 l3 k => ex_dup (show decode mX5_build.2.1 57 = .ok (.dup, 1) by decide +kernel) rfl,
  fun d σ S l0 l1 l2 l3 => ex_get (idx := 47) (ci := 5) (ff := 3) (n := 17) (hh := 193) (by decide +kernel),
  fun d σ S l0 l1 l2 l3 => ex_get (idx := 47) (ci := 5) (ff := 3) (n := 17) (hh := 193) (by decide +kernel),
  fun d σ S l0 l1 l3 x => ex_iload_n (show decode mX5_build.2.1 61 = .ok (.iload_n 2, 1) by decide +kernel) rfl,
  fun d σ S l0 l1 l2 l3 x y => ex_isub (show decode mX5_build.2.1 62 = .ok (.isub, 1) by decide +kernel),
  fun d σ S l0 l1 l2 l3 x => ex_put (idx := 47) (ci := 5) (ff := 3) (n := 17) (hh := 193) (by decide +kernel),
  fun d σ S l0 l1 l2 l3 x => ex_put (idx := 47) (ci := 5) (ff := 3) (n := 17) (hh := 193) (by decide +kernel),
  fun d σ S l0 l1 l2 l3 => ex_goto (show decode mX5_build.2.1 66 = .ok (.goto 13, 3) by decide +kernel) (by decide),
  fun d σ S l1 l2 l3 k => ex_aload_n (show decode mX5_build.2.1 69 = .ok (.aload_n 0, 1) by decide +kernel) rfl,
  fun d σ S l0 l1 l2 l3 k => ex_dup (show decode mX5_build.2.1 70 = .ok (.dup, 1) by decide +kernel) rfl,
  fun d σ S l0 l1 l2 l3 => ex_get (idx := 44) (ci := 5) (ff := 2) (n := 17) (hh := 188) (by decide +kernel),
  fun d σ S l0 l1 l2 l3 => ex_get (idx := 44) (ci := 5) (ff := 2) (n := 17) (hh := 188) (by decide +kernel),
  fun d σ S l0 l1 l3 x => ex_iload_n (show decode mX5_build.2.1 74 = .ok (.iload_n 2, 1) by decide +kernel) rfl,
  fun d σ S l0 l1 l2 l3 x y => ex_isub (show decode mX5_build.2.1 75 = .ok (.isub, 1) by decide +kernel),
  fun d σ S l0 l1 l2 l3 x => ex_put (idx := 44) (ci := 5) (ff := 2) (n := 17) (hh := 188) (by decide +kernel),
  fun d σ S l0 l1 l2 l3 x => ex_put (idx := 44) (ci := 5) (ff := 2) (n := 17) (hh := 188) (by decide +kernel),
  fun d σ S l1 l2 l3 k => ex_aload_n (show decode mX5_build.2.1 79 = .ok (.aload_n 0, 1) by decide +kernel) rfl,
  fun d σ S l1 l2 l3 k => ex_aload_n (show decode mX5_build.2.1 80 = .ok (.aload_n 0, 1) by decide +kernel) rfl,
  fun d σ S l0 l1 l2 l3 => ex_getr (idx := 9) (ci := 5) (ff := 9) (n := 17) (hh := 216) (by decide +kernel),
  fun d σ S l0 l1 l2 l3 => ex_getr (idx := 9) (ci := 5) (ff := 9) (n := 17) (hh := 216) (by decide +kernel),
  fun d σ S l0 l2 l3 x => ex_iload_n (show decode mX5_build.2.1 84 = .ok (.iload_n 1, 1) by decide +kernel) rfl,
  fun d σ S l0 l1 l2 l3 x => ex_iald (by decide +kernel),
  fun d σ S l0 l1 l2 l3 x => ex_iald (by decide +kernel),
  fun d σ S l1 l2 l3 k => ex_aload_n (show decode mX5_build.2.1 86 = .ok (.aload_n 0, 1) by decide +kernel) rfl,
  fun d σ S l0 l1 l2 l3 => ex_get (idx := 40) (ci := 5) (ff := 1) (n := 17) (hh := 183) (by decide +kernel),
  fun d σ S l0 l1 l2 l3 => ex_get (idx := 40) (ci := 5) (ff := 1) (n := 17) (hh := 183) (by decide +kernel),
  fun d σ l0 l1 l2 l3 x0 x1 => ex_is (hs := [560, 561, 562, 94]) (show decode mX5_build.2.1 90 = .ok (.invokestatic 84, 3) by decide +kernel) lkS_5_84 ⟨rfl, Nat.le_of_ble_eq_true rfl, Nat.le_of_ble_eq_true rfl, fun q => nomatch q⟩ rfl rfl,
  fun d σ l0 l1 l2 l3 x0 x1 => ex_is (hs := [560, 561, 562, 94]) (show decode mX5_build.2.1 90 = .ok (.invokestatic 84, 3) by decide +kernel) lkS_5_84 ⟨rfl, Nat.le_of_ble_eq_true rfl, Nat.le_of_ble_eq_true rfl, fun q => nomatch q⟩ rfl rfl,
  fun d σ S l0 l1 l2 l3 x => ex_put (idx := 40) (ci := 5) (ff := 1) (n := 17) (hh := 183) (by decide +kernel),
  fun d σ S l0 l1 l2 l3 x => ex_put (idx := 40) (ci := 5) (ff := 1) (n := 17) (hh := 183) (by decide +kernel),
  fun d σ S l1 l2 l3 k => ex_aload_n (show decode mX5_build.2.1 96 = .ok (.aload_n 0, 1) by decide +kernel) rfl⟩
theorem kX5_build_2 : (∀ (d : Nat) (σ : Sg) (S : List Value) (l0 l1 l2 l3 : Value) (k : Nat), exec d mX5_build 97 [l0, l1, l2, l3] (.ref k :: S) σ = exec d mX5_build 98 [l0, l1, l2, l3] (.ref k :: .ref k :: S) σ) ∧
  (∀ (d : Nat) (σ : Sg) (S : List Value) (l0 l1 l2 l3 : Value), exec d mX5_build 98 [l0, l1, l2, l3] (.ref 8 :: S) σ = exec d mX5_build 101 [l0, l1, l2, l3] (.int (σ 8 6) :: S) σ) ∧
  (∀ (d : Nat) (σ : Sg) (S : List Value) (l0 l1 l2 l3 : Value), exec d mX5_build 98 [l0, l1, l2, l3] (.ref 35 :: S) σ = exec d mX5_build 101 [l0, l1, l2, l3] (.int (σ 35 6) :: S) σ) ∧
  (∀ (d : Nat) (σ : Sg) (S : List Value) (l0 l1 l2 l3 : Value), exec d mX5_build 101 [l0, l1, l2, l3] S σ = exec d mX5_build 102 [l0, l1, l2, l3] (.int (nI 1) :: S) σ) ∧
  (∀ (d : Nat) (σ : Sg) (S : List Value) (l0 l2 l3 : Value) (x : Int32), exec d mX5_build 102 [l0, .int x, l2, l3] S σ = exec d mX5_build 103 [l0, .int x, l2, l3] (.int x :: S) σ) ∧
  (∀ (d : Nat) (σ : Sg) (S : List Value) (l0 l1 l2 l3 : Value) (x y : Int32), exec d mX5_build 103 [l0, l1, l2, l3] (.int y :: .int x :: S) σ = exec d mX5_build 104 [l0, l1, l2, l3] (.int (x <<< (y &&& 31)) :: S) σ) ∧
  (∀ (d : Nat) (σ : Sg) (S : List Value) (l0 l1 l2 l3 : Value) (x y : Int32), exec d mX5_build 104 [l0, l1, l2, l3] (.int y :: .int x :: S) σ = exec d mX5_build 105 [l0, l1, l2, l3] (.int (x ||| y) :: S) σ) ∧
  (∀ (d : Nat) (σ : Sg) (S : List Value) (l0 l1 l2 l3 : Value) (x : Int32), exec d mX5_build 105 [l0, l1, l2, l3] (.int x :: .ref 8 :: S) σ = exec d mX5_build 108 [l0, l1, l2, l3] S (up σ 8 6 x)) ∧
  (∀ (d : Nat) (σ : Sg) (S : List Value) (l0 l1 l2 l3 : Value) (x : Int32), exec d mX5_build 105 [l0, l1, l2, l3] (.int x :: .ref 35 :: S) σ = exec d mX5_build 108 [l0, l1, l2, l3] S (up σ 35 6 x)) ∧
  (∀ (d : Nat) (σ : Sg) (S : List Value) (l0 l1 l2 : Value) (x : Int32), exec d mX5_build 108 [l0, l1, l2, .int x] S σ = exec d mX5_build 109 [l0, l1, l2, .int x] (.int x :: S) σ) ∧
  (∀ (d : Nat) (σ : Sg) (S : List Value) (l0 l1 l2 l3 : Value) (x : Int32), exec d mX5_build 109 [l0, l1, l2, l3] (.int x :: S) σ = if x = nI 0 then exec d mX5_build 124 [l0, l1, l2, l3] S σ else exec d mX5_build 112 [l0, l1, l2, l3] S σ) ∧
  (∀ (d : Nat) (σ : Sg) (S : List Value) (l1 l2 l3 : Value) (k : Nat), exec d mX5_build 112 [.ref k, l1, l2, l3] S σ = exec d mX5_build 113 [.ref k, l1, l2, l3] (.ref k :: S) σ) ∧
  (∀ (d : Nat) (σ : Sg) (S : List Value) (l0 l1 l2 l3 : Value) (k : Nat), exec d mX5_build 113 [l0, l1, l2, l3] (.ref k :: S) σ = exec d mX5_build 114 [l0, l1, l2, l3] (.ref k :: .ref k :: S) σ) ∧
  (∀ (d : Nat) (σ : Sg) (S : List Value) (l0 l1 l2 l3 : Value), exec d mX5_build 114 [l0, l1, l2, l3] (.ref 8 :: S) σ = exec d mX5_build 117 [l0, l1, l2, l3] (.int (σ 8 7) :: S) σ) ∧
  (∀ (d : Nat) (σ : Sg) (S : List Value) (l0 l1 l2 l3 : Value), exec d mX5_build 114 [l0, l1, l2, l3] (.ref 35 :: S) σ = exec d mX5_build 117 [l0, l1, l2, l3] (.int (σ 35 7) :: S) σ) ∧
  (∀ (d : Nat) (σ : Sg) (S : List Value) (l0 l1 l2 l3 : Value), exec d mX5_build 117 [l0, l1, l2, l3] S σ = exec d mX5_build 118 [l0, l1, l2, l3] (.int (nI 1) :: S) σ) ∧
  (∀ (d : Nat) (σ : Sg) (S : List Value) (l0 l2 l3 : Value) (x : Int32), exec d mX5_build 118 [l0, .int x, l2, l3] S σ = exec d mX5_build 119 [l0, .int x, l2, l3] (.int x :: S) σ) ∧
  (∀ (d : Nat) (σ : Sg) (S : List Value) (l0 l1 l2 l3 : Value) (x y : Int32), exec d mX5_build 119 [l0, l1, l2, l3] (.int y :: .int x :: S) σ = exec d mX5_build 120 [l0, l1, l2, l3] (.int (x <<< (y &&& 31)) :: S) σ) ∧
  (∀ (d : Nat) (σ : Sg) (S : List Value) (l0 l1 l2 l3 : Value) (x y : Int32), exec d mX5_build 120 [l0, l1, l2, l3] (.int y :: .int x :: S) σ = exec d mX5_build 121 [l0, l1, l2, l3] (.int (x ||| y) :: S) σ) ∧
  (∀ (d : Nat) (σ : Sg) (S : List Value) (l0 l1 l2 l3 : Value) (x : Int32), exec d mX5_build 121 [l0, l1, l2, l3] (.int x :: .ref 8 :: S) σ = exec d mX5_build 124 [l0, l1, l2, l3] S (up σ 8 7 x)) ∧
  (∀ (d : Nat) (σ : Sg) (S : List Value) (l0 l1 l2 l3 : Value) (x : Int32), exec d mX5_build 121 [l0, l1, l2, l3] (.int x :: .ref 35 :: S) σ = exec d mX5_build 124 [l0, l1, l2, l3] S (up σ 35 7 x)) ∧
  (∀ (d : Nat) (σ : Sg) (S : List Value) (l0 l1 l2 : Value) (x : Int32), exec d mX5_build 124 [l0, l1, l2, .int x] S σ = exec d mX5_build 125 [l0, l1, l2, .int x] (.int x :: S) σ) ∧
  (∀ (d : Nat) (σ : Sg) (S : List Value) (l0 l1 l2 l3 : Value) (x : Int32), exec d mX5_build 125 [l0, l1, l2, l3] (.int x :: S) σ = if x = nI 0 then exec d mX5_build 132 [l0, l1, l2, l3] S σ else exec d mX5_build 128 [l0, l1, l2, l3] S σ) ∧
  (∀ (d : Nat) (σ : Sg) (S : List Value) (l0 l1 l2 l3 : Value), exec d mX5_build 128 [l0, l1, l2, l3] S σ = exec d mX5_build 129 [l0, l1, l2, l3] (.int (nI 1) :: S) σ) ∧
  (∀ (d : Nat) (σ : Sg) (S : List Value) (l0 l1 l2 l3 : Value), exec d mX5_build 129 [l0, l1, l2, l3] S σ = exec d mX5_build 133 [l0, l1, l2, l3] S σ) ∧
  (∀ (d : Nat) (σ : Sg) (S : List Value) (l0 l1 l2 l3 : Value), exec d mX5_build 132 [l0, l1, l2, l3] S σ = exec d mX5_build 133 [l0, l1, l2, l3] (.int (nI 0) :: S) σ) ∧
  (∀ (d : Nat) (σ : Sg) (l0 l1 l2 l3 : Value) (x : Int32), exec d mX5_build 133 [l0, l1, l2, l3] [.int x] σ = some (some (.int x), σ)) :=
  ⟨fun d σ S l0 l1 l2 l3 k => ex_dup (show decode mX5_build.2.1 97 = .ok (.dup, 1) by decide +kernel) rfl,
  fun d σ S l0 l1 l2 l3 => ex_get (idx := 56) (ci := 5) (ff := 6) (n := 17) (hh := 205) (by decide +kernel),
  fun d σ S l0 l1 l2 l3 => ex_get (idx := 56) (ci := 5) (ff := 6) (n := 17) (hh := 205) (by decide +kernel),
  fun d σ S l0 l1 l2 l3 => ex_iconst (show decode mX5_build.2.1 101 = .ok (.iconst 1, 1) by decide +kernel) (by decide +kernel),
  fun d σ S l0 l2 l3 x => ex_iload_n (show decode mX5_build.2.1 102 = .ok (.iload_n 1, 1) by decide +kernel) rfl,
  fun d σ S l0 l1 l2 l3 x y => ex_ishl (show decode mX5_build.2.1 103 = .ok (.ishl, 1) by decide +kernel),
  fun d σ S l0 l1 l2 l3 x y => ex_ior (show decode mX5_build.2.1 104 = .ok (.ior, 1) by decide +kernel),
  fun d σ S l0 l1 l2 l3 x => ex_put (idx := 56) (ci := 5) (ff := 6) (n := 17) (hh := 205) (by decide +kernel),
  fun d σ S l0 l1 l2 l3 x => ex_put (idx := 56) (ci := 5) (ff := 6) (n := 17) (hh := 205) (by decide +kernel),
  fun d σ S l0 l1 l2 x => ex_iload_n (show decode mX5_build.2.1 108 = .ok (.iload_n 3, 1) by decide +kernel) rfl,
  fun d σ S l0 l1 l2 l3 x => ex_zeq (show decode mX5_build.2.1 109 = .ok (.ifCond .eq 15, 3) by decide +kernel) (by decide),
  fun d σ S l1 l2 l3 k => ex_aload_n (show decode mX5_build.2.1 112 = .ok (.aload_n 0, 1) by decide +kernel) rfl,
  fun d σ S l0 l1 l2 l3 k => ex_dup (show decode mX5_build.2.1 113 = .ok (.dup, 1) by decide +kernel) rfl,
  fun d σ S l0 l1 l2 l3 => ex_get (idx := 59) (ci := 5) (ff := 7) (n := 17) (hh := 209) (by decide +kernel),
  fun d σ S l0 l1 l2 l3 => ex_get (idx := 59) (ci := 5) (ff := 7) (n := 17) (hh := 209) (by decide +kernel),
  fun d σ S l0 l1 l2 l3 => ex_iconst (show decode mX5_build.2.1 117 = .ok (.iconst 1, 1) by decide +kernel) (by decide +kernel),
  fun d σ S l0 l2 l3 x => ex_iload_n (show decode mX5_build.2.1 118 = .ok (.iload_n 1, 1) by decide +kernel) rfl,
  fun d σ S l0 l1 l2 l3 x y => ex_ishl (show decode mX5_build.2.1 119 = .ok (.ishl, 1) by decide +kernel),
  fun d σ S l0 l1 l2 l3 x y => ex_ior (show decode mX5_build.2.1 120 = .ok (.ior, 1) by decide +kernel),
  fun d σ S l0 l1 l2 l3 x => ex_put (idx := 59) (ci := 5) (ff := 7) (n := 17) (hh := 209) (by decide +kernel),
  fun d σ S l0 l1 l2 l3 x => ex_put (idx := 59) (ci := 5) (ff := 7) (n := 17) (hh := 209) (by decide +kernel),
  fun d σ S l0 l1 l2 x => ex_iload_n (show decode mX5_build.2.1 124 = .ok (.iload_n 3, 1) by decide +kernel) rfl,
  fun d σ S l0 l1 l2 l3 x => ex_zeq (show decode mX5_build.2.1 125 = .ok (.ifCond .eq 7, 3) by decide +kernel) (by decide),
  fun d σ S l0 l1 l2 l3 => ex_iconst (show decode mX5_build.2.1 128 = .ok (.iconst 1, 1) by decide +kernel) (by decide +kernel),
  fun d σ S l0 l1 l2 l3 => ex_goto (show decode mX5_build.2.1 129 = .ok (.goto 4, 3) by decide +kernel) (by decide),
  fun d σ S l0 l1 l2 l3 => ex_iconst (show decode mX5_build.2.1 132 = .ok (.iconst 0, 1) by decide +kernel) (by decide +kernel),
  fun d σ l0 l1 l2 l3 x => ex_iret (show decode mX5_build.2.1 133 = .ok (.ireturn, 1) by decide +kernel) rfl⟩
theorem aX5_build_35 : ∀ (d : Nat) (a1 : Int32) (σ : Sg), cal (d + 1) mX5_build [.ref 35, .int a1] σ = exec d mX5_build 0 [.ref 35, .int a1, uu, uu] [] σ := fun _ _ _ => rfl
theorem aX5_build_8 : ∀ (d : Nat) (a1 : Int32) (σ : Sg), cal (d + 1) mX5_build [.ref 8, .int a1] σ = exec d mX5_build 0 [.ref 8, .int a1, uu, uu] [] σ := fun _ _ _ => rfl
theorem kX5_buildDrawn : (∀ (d : Nat) (σ : Sg) (S : List Value) (l1 l2 l3 : Value) (k : Nat), exec d mX5_buildDrawn 0 [.ref k, l1, l2, l3] S σ = exec d mX5_buildDrawn 1 [.ref k, l1, l2, l3] (.ref k :: S) σ) ∧
  (∀ (d : Nat) (σ : Sg) (S : List Value) (l0 l1 l2 l3 : Value), exec d mX5_buildDrawn 1 [l0, l1, l2, l3] (.ref 35 :: S) σ = exec d mX5_buildDrawn 4 [l0, l1, l2, l3] (.int (σ 35 4) :: S) σ) ∧
  (∀ (d : Nat) (σ : Sg) (S : List Value) (l0 l1 l2 l3 : Value) (x : Int32), exec d mX5_buildDrawn 4 [l0, l1, l2, l3] (.int x :: S) σ = if nI 0 < x then exec d mX5_buildDrawn 8 [l0, l1, l2, l3] S σ else exec d mX5_buildDrawn 7 [l0, l1, l2, l3] S σ) ∧
  (∀ (d : Nat) (σ : Sg) (l0 l1 l2 l3 : Value), exec d mX5_buildDrawn 7 [l0, l1, l2, l3] [] σ = some (none, σ)) ∧
  (∀ (d : Nat) (σ : Sg) (S : List Value) (l0 l2 l3 : Value) (x : Int64), exec d mX5_buildDrawn 8 [l0, .long x, l2, l3] S σ = exec d mX5_buildDrawn 9 [l0, .long x, l2, l3] (.long x :: S) σ) ∧
  (∀ (d : Nat) (σ : Sg) (S : List Value) (l1 l2 l3 : Value) (k : Nat), exec d mX5_buildDrawn 9 [.ref k, l1, l2, l3] S σ = exec d mX5_buildDrawn 10 [.ref k, l1, l2, l3] (.ref k :: S) σ) ∧
  (∀ (d : Nat) (σ : Sg) (S : List Value) (l0 l1 l2 l3 : Value), exec d mX5_buildDrawn 10 [l0, l1, l2, l3] (.ref 35 :: S) σ = exec d mX5_buildDrawn 13 [l0, l1, l2, l3] (.int (σ 35 4) :: S) σ) ∧
  (∀ (d : Nat) (σ : Sg) (S : List Value) (l0 l1 l2 l3 : Value) (x : Int32), exec d mX5_buildDrawn 13 [l0, l1, l2, l3] (.int x :: S) σ = exec d mX5_buildDrawn 14 [l0, l1, l2, l3] (.long x.toInt64 :: S) σ) ∧
  (∀ (d : Nat) (σ : Sg) (S : List Value) (l0 l1 l2 l3 : Value) (x y : Int64), exec d mX5_buildDrawn 14 [l0, l1, l2, l3] (.long y :: .long x :: S) σ = if y = 0 then none else exec d mX5_buildDrawn 15 [l0, l1, l2, l3] (.long (x - x / y * y) :: S) σ) ∧
  (∀ (d : Nat) (σ : Sg) (S : List Value) (l0 l1 l2 l3 : Value) (x : Int64), exec d mX5_buildDrawn 15 [l0, l1, l2, l3] (.long x :: S) σ = exec d mX5_buildDrawn 16 [l0, l1, l2, l3] (.int x.toInt32 :: S) σ) ∧
  (∀ (d : Nat) (σ : Sg) (S : List Value) (l0 l1 l3 : Value) (x : Int32), exec d mX5_buildDrawn 16 [l0, l1, uu, l3] (.int x :: S) σ = exec d mX5_buildDrawn 17 [l0, l1, uu, .int x] S σ) ∧
  (∀ (d : Nat) (σ : Sg) (S : List Value) (l1 l2 l3 : Value) (k : Nat), exec d mX5_buildDrawn 17 [.ref k, l1, l2, l3] S σ = exec d mX5_buildDrawn 18 [.ref k, l1, l2, l3] (.ref k :: S) σ) ∧
  (∀ (d : Nat) (σ : Sg) (S : List Value) (l0 l1 l2 : Value) (x : Int32), exec d mX5_buildDrawn 18 [l0, l1, l2, .int x] S σ = exec d mX5_buildDrawn 19 [l0, l1, l2, .int x] (.int x :: S) σ) ∧
  (∀ (d : Nat) (σ : Sg) (l0 l1 l2 l3 : Value) (x0 : Int32), exec d mX5_buildDrawn 19 [l0, l1, l2, l3] [.int x0, .ref 35] σ = kb (cal d mX5_mayBuild [.ref 35, .int x0] σ) (fun rs σ2 => exec d mX5_buildDrawn 22 [l0, l1, l2, l3] (rs ++ []) σ2)) ∧
  (∀ (d : Nat) (σ : Sg) (S : List Value) (l0 l1 l2 l3 : Value) (x : Int32), exec d mX5_buildDrawn 22 [l0, l1, l2, l3] (.int x :: S) σ = if x = nI 0 then exec d mX5_buildDrawn 25 [l0, l1, l2, l3] S σ else exec d mX5_buildDrawn 26 [l0, l1, l2, l3] S σ) ∧
  (∀ (d : Nat) (σ : Sg) (l0 l1 l2 l3 : Value), exec d mX5_buildDrawn 25 [l0, l1, l2, l3] [] σ = some (none, σ)) ∧
  (∀ (d : Nat) (σ : Sg) (S : List Value) (l1 l2 l3 : Value) (k : Nat), exec d mX5_buildDrawn 26 [.ref k, l1, l2, l3] S σ = exec d mX5_buildDrawn 27 [.ref k, l1, l2, l3] (.ref k :: S) σ) ∧
  (∀ (d : Nat) (σ : Sg) (S : List Value) (l0 l1 l2 : Value) (x : Int32), exec d mX5_buildDrawn 27 [l0, l1, l2, .int x] S σ = exec d mX5_buildDrawn 28 [l0, l1, l2, .int x] (.int x :: S) σ) ∧
  (∀ (d : Nat) (σ : Sg) (l0 l1 l2 l3 : Value) (x0 : Int32), exec d mX5_buildDrawn 28 [l0, l1, l2, l3] [.int x0, .ref 35] σ = kb (cal d mX5_build [.ref 35, .int x0] σ) (fun rs σ2 => exec d mX5_buildDrawn 31 [l0, l1, l2, l3] (rs ++ []) σ2)) ∧
  (∀ (d : Nat) (σ : Sg) (S : List Value) (l0 l1 l2 l3 : Value) (x : Int32), exec d mX5_buildDrawn 31 [l0, l1, l2, l3] (.int x :: S) σ = exec d mX5_buildDrawn 32 [l0, l1, l2, l3] S σ) ∧
  (∀ (d : Nat) (σ : Sg) (S : List Value) (l0 l2 l3 : Value) (x : Int64), exec d mX5_buildDrawn 32 [l0, .long x, l2, l3] S σ = exec d mX5_buildDrawn 33 [l0, .long x, l2, l3] (.long x :: S) σ) ∧
  (∀ (d : Nat) (σ : Sg) (S : List Value) (l0 l1 l2 l3 : Value), exec d mX5_buildDrawn 33 [l0, l1, l2, l3] S σ = exec d mX5_buildDrawn 36 [l0, l1, l2, l3] (.long (lN 5) :: S) σ) ∧
  (∀ (d : Nat) (σ : Sg) (S : List Value) (l0 l1 l2 l3 : Value) (x y : Int64), exec d mX5_buildDrawn 36 [l0, l1, l2, l3] (.long y :: .long x :: S) σ = if y = 0 then none else exec d mX5_buildDrawn 37 [l0, l1, l2, l3] (.long (x - x / y * y) :: S) σ) ∧
  (∀ (d : Nat) (σ : Sg) (S : List Value) (l0 l1 l2 l3 : Value), exec d mX5_buildDrawn 37 [l0, l1, l2, l3] S σ = exec d mX5_buildDrawn 38 [l0, l1, l2, l3] (.long (lN 0) :: S) σ) ∧
  (∀ (d : Nat) (σ : Sg) (S : List Value) (l0 l1 l2 l3 : Value) (x y : Int64), exec d mX5_buildDrawn 38 [l0, l1, l2, l3] (.long y :: .long x :: S) σ = exec d mX5_buildDrawn 39 [l0, l1, l2, l3] (.int (lg_cmp x y) :: S) σ) ∧
  (∀ (d : Nat) (σ : Sg) (S : List Value) (l0 l1 l2 l3 : Value) (x : Int32), exec d mX5_buildDrawn 39 [l0, l1, l2, l3] (.int x :: S) σ = if x = nI 0 then exec d mX5_buildDrawn 42 [l0, l1, l2, l3] S σ else exec d mX5_buildDrawn 54 [l0, l1, l2, l3] S σ) ∧
  (∀ (d : Nat) (σ : Sg) (S : List Value) (l1 l2 l3 : Value) (k : Nat), exec d mX5_buildDrawn 42 [.ref k, l1, l2, l3] S σ = exec d mX5_buildDrawn 43 [.ref k, l1, l2, l3] (.ref k :: S) σ) ∧
  (∀ (d : Nat) (σ : Sg) (S : List Value) (l0 l1 l2 l3 : Value) (k : Nat), exec d mX5_buildDrawn 43 [l0, l1, l2, l3] (.ref k :: S) σ = exec d mX5_buildDrawn 44 [l0, l1, l2, l3] (.ref k :: .ref k :: S) σ) ∧
  (∀ (d : Nat) (σ : Sg) (S : List Value) (l0 l1 l2 l3 : Value), exec d mX5_buildDrawn 44 [l0, l1, l2, l3] (.ref 35 :: S) σ = exec d mX5_buildDrawn 47 [l0, l1, l2, l3] (.int (σ 35 7) :: S) σ) ∧
  (∀ (d : Nat) (σ : Sg) (S : List Value) (l0 l1 l2 l3 : Value), exec d mX5_buildDrawn 47 [l0, l1, l2, l3] S σ = exec d mX5_buildDrawn 48 [l0, l1, l2, l3] (.int (nI 1) :: S) σ) ∧
  (∀ (d : Nat) (σ : Sg) (S : List Value) (l0 l1 l2 : Value) (x : Int32), exec d mX5_buildDrawn 48 [l0, l1, l2, .int x] S σ = exec d mX5_buildDrawn 49 [l0, l1, l2, .int x] (.int x :: S) σ) ∧
  (∀ (d : Nat) (σ : Sg) (S : List Value) (l0 l1 l2 l3 : Value) (x y : Int32), exec d mX5_buildDrawn 49 [l0, l1, l2, l3] (.int y :: .int x :: S) σ = exec d mX5_buildDrawn 50 [l0, l1, l2, l3] (.int (x <<< (y &&& 31)) :: S) σ) ∧
  (∀ (d : Nat) (σ : Sg) (S : List Value) (l0 l1 l2 l3 : Value) (x y : Int32), exec d mX5_buildDrawn 50 [l0, l1, l2, l3] (.int y :: .int x :: S) σ = exec d mX5_buildDrawn 51 [l0, l1, l2, l3] (.int (x ||| y) :: S) σ) ∧
  (∀ (d : Nat) (σ : Sg) (S : List Value) (l0 l1 l2 l3 : Value) (x : Int32), exec d mX5_buildDrawn 51 [l0, l1, l2, l3] (.int x :: .ref 35 :: S) σ = exec d mX5_buildDrawn 54 [l0, l1, l2, l3] S (up σ 35 7 x)) ∧
  (∀ (d : Nat) (σ : Sg) (l0 l1 l2 l3 : Value), exec d mX5_buildDrawn 54 [l0, l1, l2, l3] [] σ = some (none, σ)) :=
  ⟨fun d σ S l1 l2 l3 k => ex_aload_n (show decode mX5_buildDrawn.2.1 0 = .ok (.aload_n 0, 1) by decide +kernel) rfl,
  fun d σ S l0 l1 l2 l3 => ex_get (idx := 50) (ci := 5) (ff := 4) (n := 17) (hh := 199) (by decide +kernel),
  fun d σ S l0 l1 l2 l3 x => ex_zgt (show decode mX5_buildDrawn.2.1 4 = .ok (.ifCond .gt 4, 3) by decide +kernel) (by decide),
  fun d σ l0 l1 l2 l3 => ex_vret (show decode mX5_buildDrawn.2.1 7 = .ok (.return_, 1) by decide +kernel) rfl,
  fun d σ S l0 l2 l3 x => ex_lload_n (show decode mX5_buildDrawn.2.1 8 = .ok (.lload_n 1, 1) by decide +kernel) rfl,
  fun d σ S l1 l2 l3 k => ex_aload_n (show decode mX5_buildDrawn.2.1 9 = .ok (.aload_n 0, 1) by decide +kernel) rfl,
  fun d σ S l0 l1 l2 l3 => ex_get (idx := 50) (ci := 5) (ff := 4) (n := 17) (hh := 199) (by decide +kernel),
  fun d σ S l0 l1 l2 l3 x => ex_i2l (show decode mX5_buildDrawn.2.1 13 = .ok (.i2l, 1) by decide +kernel),
  fun d σ S l0 l1 l2 l3 x y => ex_lrem (show decode mX5_buildDrawn.2.1 14 = .ok (.lrem, 1) by decide +kernel),
  fun d σ S l0 l1 l2 l3 x => ex_l2i (show decode mX5_buildDrawn.2.1 15 = .ok (.l2i, 1) by decide +kernel),
  fun d σ S l0 l1 l3 x => ex_istore_n (show decode mX5_buildDrawn.2.1 16 = .ok (.istore_n 3, 1) by decide +kernel) (Nat.le_of_ble_eq_true rfl) rfl,
  fun d σ S l1 l2 l3 k => ex_aload_n (show decode mX5_buildDrawn.2.1 17 = .ok (.aload_n 0, 1) by decide +kernel) rfl,
  fun d σ S l0 l1 l2 x => ex_iload_n (show decode mX5_buildDrawn.2.1 18 = .ok (.iload_n 3, 1) by decide +kernel) rfl,
  fun d σ l0 l1 l2 l3 x0 => ex_iv (hs := [759, 534, 24, 535, 97]) (show decode mX5_buildDrawn.2.1 19 = .ok (.invokevirtual 87, 3) by decide +kernel) lkV_5_87 ⟨rfl, Nat.le_of_ble_eq_true rfl, Nat.le_of_ble_eq_true rfl, fun _ => rfl⟩ rfl rfl,
  fun d σ S l0 l1 l2 l3 x => ex_zne (show decode mX5_buildDrawn.2.1 22 = .ok (.ifCond .ne 4, 3) by decide +kernel) (by decide),
  fun d σ l0 l1 l2 l3 => ex_vret (show decode mX5_buildDrawn.2.1 25 = .ok (.return_, 1) by decide +kernel) rfl,
  fun d σ S l1 l2 l3 k => ex_aload_n (show decode mX5_buildDrawn.2.1 26 = .ok (.aload_n 0, 1) by decide +kernel) rfl,
  fun d σ S l0 l1 l2 x => ex_iload_n (show decode mX5_buildDrawn.2.1 27 = .ok (.iload_n 3, 1) by decide +kernel) rfl,
  fun d σ l0 l1 l2 l3 x0 => ex_iv (hs := [760, 555, 27, 556, 97]) (show decode mX5_buildDrawn.2.1 28 = .ok (.invokevirtual 91, 3) by decide +kernel) lkV_5_91 ⟨rfl, Nat.le_of_ble_eq_true rfl, Nat.le_of_ble_eq_true rfl, fun _ => rfl⟩ rfl rfl,
  fun d σ S l0 l1 l2 l3 x => ex_pop (show decode mX5_buildDrawn.2.1 31 = .ok (.pop, 1) by decide +kernel) rfl,
  fun d σ S l0 l2 l3 x => ex_lload_n (show decode mX5_buildDrawn.2.1 32 = .ok (.lload_n 1, 1) by decide +kernel) rfl,
  fun d σ S l0 l1 l2 l3 => ex_ldc2 (hh := 761) (show decode mX5_buildDrawn.2.1 33 = .ok (.ldc2_w 95, 3) by decide +kernel) (by decide +kernel),
  fun d σ S l0 l1 l2 l3 x y => ex_lrem (show decode mX5_buildDrawn.2.1 36 = .ok (.lrem, 1) by decide +kernel),
  fun d σ S l0 l1 l2 l3 => ex_lconst (show decode mX5_buildDrawn.2.1 37 = .ok (.lconst 0, 1) by decide +kernel) (by decide +kernel),
  fun d σ S l0 l1 l2 l3 x y => ex_lcmp (show decode mX5_buildDrawn.2.1 38 = .ok (.lcmp, 1) by decide +kernel),
  fun d σ S l0 l1 l2 l3 x => ex_zne (show decode mX5_buildDrawn.2.1 39 = .ok (.ifCond .ne 15, 3) by decide +kernel) (by decide),
  fun d σ S l1 l2 l3 k => ex_aload_n (show decode mX5_buildDrawn.2.1 42 = .ok (.aload_n 0, 1) by decide +kernel) rfl,
  fun d σ S l0 l1 l2 l3 k => ex_dup (show decode mX5_buildDrawn.2.1 43 = .ok (.dup, 1) by decide +kernel) rfl,
  fun d σ S l0 l1 l2 l3 => ex_get (idx := 59) (ci := 5) (ff := 7) (n := 17) (hh := 209) (by decide +kernel),
  fun d σ S l0 l1 l2 l3 => ex_iconst (show decode mX5_buildDrawn.2.1 47 = .ok (.iconst 1, 1) by decide +kernel) (by decide +kernel),
  fun d σ S l0 l1 l2 x => ex_iload_n (show decode mX5_buildDrawn.2.1 48 = .ok (.iload_n 3, 1) by decide +kernel) rfl,
  fun d σ S l0 l1 l2 l3 x y => ex_ishl (show decode mX5_buildDrawn.2.1 49 = .ok (.ishl, 1) by decide +kernel),
  fun d σ S l0 l1 l2 l3 x y => ex_ior (show decode mX5_buildDrawn.2.1 50 = .ok (.ior, 1) by decide +kernel),
  fun d σ S l0 l1 l2 l3 x => ex_put (idx := 59) (ci := 5) (ff := 7) (n := 17) (hh := 209) (by decide +kernel),
  fun d σ l0 l1 l2 l3 => ex_vret (show decode mX5_buildDrawn.2.1 54 = .ok (.return_, 1) by decide +kernel) rfl⟩
theorem aX5_buildDrawn_35 : ∀ (d : Nat) (a1 : Int64) (σ : Sg), cal (d + 1) mX5_buildDrawn [.ref 35, .long a1] σ = exec d mX5_buildDrawn 0 [.ref 35, .long a1, uu, uu] [] σ := fun _ _ _ => rfl
theorem kX5_mendingDays : (∀ (d : Nat) (σ : Sg) (S : List Value) (l1 : Value) (k : Nat), exec d mX5_mendingDays 0 [.ref k, l1] S σ = exec d mX5_mendingDays 1 [.ref k, l1] (.ref k :: S) σ) ∧
  (∀ (d : Nat) (σ : Sg) (S : List Value) (l0 l1 : Value), exec d mX5_mendingDays 1 [l0, l1] (.ref 8 :: S) σ = exec d mX5_mendingDays 4 [l0, l1] (.ref 11 :: S) σ) ∧
  (∀ (d : Nat) (σ : Sg) (S : List Value) (l0 : Value) (x : Int32), exec d mX5_mendingDays 4 [l0, .int x] S σ = exec d mX5_mendingDays 5 [l0, .int x] (.int x :: S) σ) ∧
  (∀ (d : Nat) (σ : Sg) (S : List Value) (l0 l1 : Value) (x : Int32), exec d mX5_mendingDays 5 [l0, l1] (.int x :: .ref 11 :: S) σ = if inb x 7 = true then exec d mX5_mendingDays 6 [l0, l1] (.int (σ 11 x.toNatClampNeg) :: S) σ else none) ∧
  (∀ (d : Nat) (σ : Sg) (S : List Value) (l0 l1 : Value), exec d mX5_mendingDays 6 [l0, l1] S σ = exec d mX5_mendingDays 7 [l0, l1] (.int (nI 1) :: S) σ) ∧
  (∀ (d : Nat) (σ : Sg) (S : List Value) (l0 l1 : Value) (x y : Int32), exec d mX5_mendingDays 7 [l0, l1] (.int y :: .int x :: S) σ = exec d mX5_mendingDays 8 [l0, l1] (.int (x + y) :: S) σ) ∧
  (∀ (d : Nat) (σ : Sg) (l0 l1 : Value) (x : Int32), exec d mX5_mendingDays 8 [l0, l1] [.int x] σ = some (some (.int x), σ)) :=
  ⟨fun d σ S l1 k => ex_aload_n (show decode mX5_mendingDays.2.1 0 = .ok (.aload_n 0, 1) by decide +kernel) rfl,
  fun d σ S l0 l1 => ex_getr (idx := 18) (ci := 5) (ff := 11) (n := 17) (hh := 224) (by decide +kernel),
  fun d σ S l0 x => ex_iload_n (show decode mX5_mendingDays.2.1 4 = .ok (.iload_n 1, 1) by decide +kernel) rfl,
  fun d σ S l0 l1 x => ex_iald (by decide +kernel),
  fun d σ S l0 l1 => ex_iconst (show decode mX5_mendingDays.2.1 6 = .ok (.iconst 1, 1) by decide +kernel) (by decide +kernel),
  fun d σ S l0 l1 x y => ex_iadd (show decode mX5_mendingDays.2.1 7 = .ok (.iadd, 1) by decide +kernel),
  fun d σ l0 l1 x => ex_iret (show decode mX5_mendingDays.2.1 8 = .ok (.ireturn, 1) by decide +kernel) rfl⟩
theorem aX5_mendingDays_8 : ∀ (d : Nat) (a1 : Int32) (σ : Sg), cal (d + 1) mX5_mendingDays [.ref 8, .int a1] σ = exec d mX5_mendingDays 0 [.ref 8, .int a1] [] σ := fun _ _ _ => rfl
theorem kX5_mendingDaysOf : (∀ (d : Nat) (σ : Sg) (S : List Value) (l0 l1 l2 l3 : Value), exec d mX5_mendingDaysOf 0 [l0, l1, l2, l3] S σ = exec d mX5_mendingDaysOf 1 [l0, l1, l2, l3] (.int (nI 0) :: S) σ) ∧
  (∀ (d : Nat) (σ : Sg) (S : List Value) (l0 l2 l3 : Value) (x y : Int32), exec d mX5_mendingDaysOf 1 [l0, .int y, l2, l3] (.int x :: S) σ = exec d mX5_mendingDaysOf 2 [l0, .int y, .int x, l3] S σ) ∧
  (∀ (d : Nat) (σ : Sg) (S : List Value) (l0 l1 l2 l3 : Value), exec d mX5_mendingDaysOf 2 [l0, l1, l2, l3] S σ = exec d mX5_mendingDaysOf 3 [l0, l1, l2, l3] (.int (nI 0) :: S) σ) ∧
  (∀ (d : Nat) (σ : Sg) (S : List Value) (l0 l1 l3 : Value) (x y : Int32), exec d mX5_mendingDaysOf 3 [l0, l1, .int y, l3] (.int x :: S) σ = exec d mX5_mendingDaysOf 4 [l0, l1, .int y, .int x] S σ) ∧
  (∀ (d : Nat) (σ : Sg) (S : List Value) (l1 l2 l3 : Value) (k : Nat), exec d mX5_mendingDaysOf 5 [.ref k, l1, l2, l3] S σ = exec d mX5_mendingDaysOf 6 [.ref k, l1, l2, l3] (.ref k :: S) σ) ∧
  (∀ (d : Nat) (σ : Sg) (S : List Value) (l0 l1 l2 l3 : Value), exec d mX5_mendingDaysOf 6 [l0, l1, l2, l3] (.ref 8 :: S) σ = exec d mX5_mendingDaysOf 9 [l0, l1, l2, l3] (.int (σ 8 4) :: S) σ) ∧
  (∀ (d : Nat) (σ : Sg) (S : List Value) (l0 l1 l2 l3 : Value) (x y : Int32), exec d mX5_mendingDaysOf 9 [l0, l1, l2, l3] (.int y :: .int x :: S) σ = if y ≤ x then exec d mX5_mendingDaysOf 39 [l0, l1, l2, l3] S σ else exec d mX5_mendingDaysOf 12 [l0, l1, l2, l3] S σ) ∧
  (∀ (d : Nat) (σ : Sg) (S : List Value) (l0 l1 l3 : Value) (x : Int32), exec d mX5_mendingDaysOf 12 [l0, l1, .int x, l3] S σ = exec d mX5_mendingDaysOf 13 [l0, l1, .int x, l3] (.int x :: S) σ) ∧
  (∀ (d : Nat) (σ : Sg) (S : List Value) (l0 l2 l3 : Value) (x : Int32), exec d mX5_mendingDaysOf 13 [l0, .int x, l2, l3] S σ = exec d mX5_mendingDaysOf 14 [l0, .int x, l2, l3] (.int x :: S) σ) ∧
  (∀ (d : Nat) (σ : Sg) (S : List Value) (l0 l1 l2 : Value) (x : Int32), exec d mX5_mendingDaysOf 14 [l0, l1, l2, .int x] S σ = exec d mX5_mendingDaysOf 15 [l0, l1, l2, .int x] (.int x :: S) σ) ∧
  (∀ (d : Nat) (σ : Sg) (l0 l1 l2 l3 : Value) (x0 x1 x2 : Int32), exec d mX5_mendingDaysOf 15 [l0, l1, l2, l3] [.int x0, .int x1, .int x2] σ = kb (cal d mX6_bit [.int x1, .int x0] σ) (fun rs σ2 => exec d mX5_mendingDaysOf 18 [l0, l1, l2, l3] (rs ++ [.int x2]) σ2)) ∧
  (∀ (d : Nat) (σ : Sg) (S : List Value) (l0 l1 l2 l3 : Value), exec d mX5_mendingDaysOf 18 [l0, l1, l2, l3] S σ = exec d mX5_mendingDaysOf 19 [l0, l1, l2, l3] (.int (nI 1) :: S) σ) ∧
  (∀ (d : Nat) (σ : Sg) (S : List Value) (l0 l1 l2 l3 : Value) (x y : Int32), exec d mX5_mendingDaysOf 19 [l0, l1, l2, l3] (.int y :: .int x :: S) σ = if x = y then exec d mX5_mendingDaysOf 22 [l0, l1, l2, l3] S σ else exec d mX5_mendingDaysOf 30 [l0, l1, l2, l3] S σ) ∧
  (∀ (d : Nat) (σ : Sg) (S : List Value) (l1 l2 l3 : Value) (k : Nat), exec d mX5_mendingDaysOf 22 [.ref k, l1, l2, l3] S σ = exec d mX5_mendingDaysOf 23 [.ref k, l1, l2, l3] (.ref k :: S) σ) ∧
  (∀ (d : Nat) (σ : Sg) (S : List Value) (l0 l1 l2 : Value) (x : Int32), exec d mX5_mendingDaysOf 23 [l0, l1, l2, .int x] S σ = exec d mX5_mendingDaysOf 24 [l0, l1, l2, .int x] (.int x :: S) σ) ∧
  (∀ (d : Nat) (σ : Sg) (l0 l1 l2 l3 : Value) (x0 x2 : Int32), exec d mX5_mendingDaysOf 24 [l0, l1, l2, l3] [.int x0, .ref 8, .int x2] σ = kb (cal d mX5_mendingDays [.ref 8, .int x0] σ) (fun rs σ2 => exec d mX5_mendingDaysOf 27 [l0, l1, l2, l3] (rs ++ [.int x2]) σ2)) ∧
  (∀ (d : Nat) (σ : Sg) (S : List Value) (l0 l1 l2 l3 : Value), exec d mX5_mendingDaysOf 27 [l0, l1, l2, l3] S σ = exec d mX5_mendingDaysOf 31 [l0, l1, l2, l3] S σ) ∧
  (∀ (d : Nat) (σ : Sg) (S : List Value) (l0 l1 l2 l3 : Value), exec d mX5_mendingDaysOf 30 [l0, l1, l2, l3] S σ = exec d mX5_mendingDaysOf 31 [l0, l1, l2, l3] (.int (nI 0) :: S) σ) ∧
  (∀ (d : Nat) (σ : Sg) (S : List Value) (l0 l1 l2 l3 : Value) (x y : Int32), exec d mX5_mendingDaysOf 31 [l0, l1, l2, l3] (.int y :: .int x :: S) σ = exec d mX5_mendingDaysOf 32 [l0, l1, l2, l3] (.int (x + y) :: S) σ) ∧
  (∀ (d : Nat) (σ : Sg) (S : List Value) (l0 l2 l3 : Value) (x y : Int32), exec d mX5_mendingDaysOf 32 [l0, .int y, l2, l3] (.int x :: S) σ = exec d mX5_mendingDaysOf 33 [l0, .int y, .int x, l3] S σ) ∧
  (∀ (d : Nat) (σ : Sg) (S : List Value) (l0 l1 : Value) (x y : Int32), exec d mX5_mendingDaysOf 33 [l0, l1, .int y, .int x] S σ = exec d mX5_mendingDaysOf 36 [l0, l1, .int y, .int (x + nI 1)] S σ) ∧
  (∀ (d : Nat) (σ : Sg) (S : List Value) (l0 l1 l2 l3 : Value), exec d mX5_mendingDaysOf 36 [l0, l1, l2, l3] S σ = exec d mX5_mendingDaysOf 4 [l0, l1, l2, l3] S σ) ∧
  (∀ (d : Nat) (σ : Sg) (S : List Value) (l0 l1 l3 : Value) (x : Int32), exec d mX5_mendingDaysOf 39 [l0, l1, .int x, l3] S σ = exec d mX5_mendingDaysOf 40 [l0, l1, .int x, l3] (.int x :: S) σ) ∧
  (∀ (d : Nat) (σ : Sg) (l0 l1 l2 l3 : Value) (x : Int32), exec d mX5_mendingDaysOf 40 [l0, l1, l2, l3] [.int x] σ = some (some (.int x), σ)) :=
  ⟨fun d σ S l0 l1 l2 l3 => ex_iconst (show decode mX5_mendingDaysOf.2.1 0 = .ok (.iconst 0, 1) by decide +kernel) (by decide +kernel),
  fun d σ S l0 l2 l3 x y => ex_istore_n (show decode mX5_mendingDaysOf.2.1 1 = .ok (.istore_n 2, 1) by decide +kernel) (Nat.le_of_ble_eq_true rfl) rfl,
  fun d σ S l0 l1 l2 l3 => ex_iconst (show decode mX5_mendingDaysOf.2.1 2 = .ok (.iconst 0, 1) by decide +kernel) (by decide +kernel),
  fun d σ S l0 l1 l3 x y => ex_istore_n (show decode mX5_mendingDaysOf.2.1 3 = .ok (.istore_n 3, 1) by decide +kernel) (Nat.le_of_ble_eq_true rfl) rfl,
  fun d σ S l1 l2 l3 k => ex_aload_n (show decode mX5_mendingDaysOf.2.1 5 = .ok (.aload_n 0, 1) by decide +kernel) rfl,
  fun d σ S l0 l1 l2 l3 => ex_get (idx := 50) (ci := 5) (ff := 4) (n := 17) (hh := 199) (by decide +kernel),
  fun d σ S l0 l1 l2 l3 x y => ex_cge (show decode mX5_mendingDaysOf.2.1 9 = .ok (.if_icmp .ge 30, 3) by decide +kernel) (by decide),
  fun d σ S l0 l1 l3 x => ex_iload_n (show decode mX5_mendingDaysOf.2.1 12 = .ok (.iload_n 2, 1) by decide +kernel) rfl,
  fun d σ S l0 l2 l3 x => ex_iload_n (show decode mX5_mendingDaysOf.2.1 13 = .ok (.iload_n 1, 1) by decide +kernel) rfl,
  fun d σ S l0 l1 l2 x => ex_iload_n (show decode mX5_mendingDaysOf.2.1 14 = .ok (.iload_n 3, 1) by decide +kernel) rfl,
  fun d σ l0 l1 l2 l3 x0 x1 x2 => ex_is (hs := [536, 537, 538, 94]) (show decode mX5_mendingDaysOf.2.1 15 = .ok (.invokestatic 69, 3) by decide +kernel) lkS_5_69 ⟨rfl, Nat.le_of_ble_eq_true rfl, Nat.le_of_ble_eq_true rfl, fun q => nomatch q⟩ rfl rfl,
  fun d σ S l0 l1 l2 l3 => ex_iconst (show decode mX5_mendingDaysOf.2.1 18 = .ok (.iconst 1, 1) by decide +kernel) (by decide +kernel),
  fun d σ S l0 l1 l2 l3 x y => ex_cne (show decode mX5_mendingDaysOf.2.1 19 = .ok (.if_icmp .ne 11, 3) by decide +kernel) (by decide),
  fun d σ S l1 l2 l3 k => ex_aload_n (show decode mX5_mendingDaysOf.2.1 22 = .ok (.aload_n 0, 1) by decide +kernel) rfl,
  fun d σ S l0 l1 l2 x => ex_iload_n (show decode mX5_mendingDaysOf.2.1 23 = .ok (.iload_n 3, 1) by decide +kernel) rfl,
  fun d σ l0 l1 l2 l3 x0 x2 => ex_iv (hs := [694, 571, 28, 572, 97]) (show decode mX5_mendingDaysOf.2.1 24 = .ok (.invokevirtual 97, 3) by decide +kernel) lkV_5_97 ⟨rfl, Nat.le_of_ble_eq_true rfl, Nat.le_of_ble_eq_true rfl, fun _ => rfl⟩ rfl rfl,
  fun d σ S l0 l1 l2 l3 => ex_goto (show decode mX5_mendingDaysOf.2.1 27 = .ok (.goto 4, 3) by decide +kernel) (by decide),
  fun d σ S l0 l1 l2 l3 => ex_iconst (show decode mX5_mendingDaysOf.2.1 30 = .ok (.iconst 0, 1) by decide +kernel) (by decide +kernel),
  fun d σ S l0 l1 l2 l3 x y => ex_iadd (show decode mX5_mendingDaysOf.2.1 31 = .ok (.iadd, 1) by decide +kernel),
  fun d σ S l0 l2 l3 x y => ex_istore_n (show decode mX5_mendingDaysOf.2.1 32 = .ok (.istore_n 2, 1) by decide +kernel) (Nat.le_of_ble_eq_true rfl) rfl,
  fun d σ S l0 l1 x y => ex_iinc (show decode mX5_mendingDaysOf.2.1 33 = .ok (.iinc 3 1, 3) by decide +kernel) rfl (by decide +kernel) (Nat.le_of_ble_eq_true rfl) rfl,
  fun d σ S l0 l1 l2 l3 => ex_goto (show decode mX5_mendingDaysOf.2.1 36 = .ok (.goto (-32), 3) by decide +kernel) (by decide),
  fun d σ S l0 l1 l3 x => ex_iload_n (show decode mX5_mendingDaysOf.2.1 39 = .ok (.iload_n 2, 1) by decide +kernel) rfl,
  fun d σ l0 l1 l2 l3 x => ex_iret (show decode mX5_mendingDaysOf.2.1 40 = .ok (.ireturn, 1) by decide +kernel) rfl⟩
theorem hX5_mendingDaysOf_4 : ∀ (d : Nat) (σ : Sg) (S : List Value) (l0 l1 l2 : Value) (x : Int32), exec d mX5_mendingDaysOf 4 [l0, l1, l2, .int x] S σ = exec d mX5_mendingDaysOf 5 [l0, l1, l2, .int x] (.int x :: S) σ := fun d σ S l0 l1 l2 x => ex_iload_n (show decode mX5_mendingDaysOf.2.1 4 = .ok (.iload_n 3, 1) by decide +kernel) rfl
theorem aX5_mendingDaysOf_8 : ∀ (d : Nat) (a1 : Int32) (σ : Sg), cal (d + 1) mX5_mendingDaysOf [.ref 8, .int a1] σ = exec d mX5_mendingDaysOf 0 [.ref 8, .int a1, uu, uu] [] σ := fun _ _ _ => rfl
theorem kX5_feastingMoney : (∀ (d : Nat) (σ : Sg) (S : List Value) (l0 l1 l2 l3 : Value), exec d mX5_feastingMoney 0 [l0, l1, l2, l3] S σ = exec d mX5_feastingMoney 1 [l0, l1, l2, l3] (.int (nI 0) :: S) σ) ∧
  (∀ (d : Nat) (σ : Sg) (S : List Value) (l0 l2 l3 : Value) (x y : Int32), exec d mX5_feastingMoney 1 [l0, .int y, l2, l3] (.int x :: S) σ = exec d mX5_feastingMoney 2 [l0, .int y, .int x, l3] S σ) ∧
  (∀ (d : Nat) (σ : Sg) (S : List Value) (l0 l1 l2 l3 : Value), exec d mX5_feastingMoney 2 [l0, l1, l2, l3] S σ = exec d mX5_feastingMoney 3 [l0, l1, l2, l3] (.int (nI 0) :: S) σ) ∧
  (∀ (d : Nat) (σ : Sg) (S : List Value) (l0 l1 l3 : Value) (x y : Int32), exec d mX5_feastingMoney 3 [l0, l1, .int y, l3] (.int x :: S) σ = exec d mX5_feastingMoney 4 [l0, l1, .int y, .int x] S σ) ∧
  (∀ (d : Nat) (σ : Sg) (S : List Value) (l1 l2 l3 : Value) (k : Nat), exec d mX5_feastingMoney 5 [.ref k, l1, l2, l3] S σ = exec d mX5_feastingMoney 6 [.ref k, l1, l2, l3] (.ref k :: S) σ) ∧
  (∀ (d : Nat) (σ : Sg) (S : List Value) (l0 l1 l2 l3 : Value), exec d mX5_feastingMoney 6 [l0, l1, l2, l3] (.ref 8 :: S) σ = exec d mX5_feastingMoney 9 [l0, l1, l2, l3] (.int (σ 8 5) :: S) σ) ∧
  (∀ (d : Nat) (σ : Sg) (S : List Value) (l0 l1 l2 l3 : Value) (x y : Int32), exec d mX5_feastingMoney 9 [l0, l1, l2, l3] (.int y :: .int x :: S) σ = if y ≤ x then exec d mX5_feastingMoney 40 [l0, l1, l2, l3] S σ else exec d mX5_feastingMoney 12 [l0, l1, l2, l3] S σ) ∧
  (∀ (d : Nat) (σ : Sg) (S : List Value) (l0 l1 l3 : Value) (x : Int32), exec d mX5_feastingMoney 12 [l0, l1, .int x, l3] S σ = exec d mX5_feastingMoney 13 [l0, l1, .int x, l3] (.int x :: S) σ) ∧
  (∀ (d : Nat) (σ : Sg) (S : List Value) (l0 l2 l3 : Value) (x : Int32), exec d mX5_feastingMoney 13 [l0, .int x, l2, l3] S σ = exec d mX5_feastingMoney 14 [l0, .int x, l2, l3] (.int x :: S) σ) ∧
  (∀ (d : Nat) (σ : Sg) (S : List Value) (l0 l1 l2 : Value) (x : Int32), exec d mX5_feastingMoney 14 [l0, l1, l2, .int x] S σ = exec d mX5_feastingMoney 15 [l0, l1, l2, .int x] (.int x :: S) σ) ∧
  (∀ (d : Nat) (σ : Sg) (l0 l1 l2 l3 : Value) (x0 x1 x2 : Int32), exec d mX5_feastingMoney 15 [l0, l1, l2, l3] [.int x0, .int x1, .int x2] σ = kb (cal d mX6_bit [.int x1, .int x0] σ) (fun rs σ2 => exec d mX5_feastingMoney 18 [l0, l1, l2, l3] (rs ++ [.int x2]) σ2)) ∧
  (∀ (d : Nat) (σ : Sg) (S : List Value) (l0 l1 l2 l3 : Value), exec d mX5_feastingMoney 18 [l0, l1, l2, l3] S σ = exec d mX5_feastingMoney 19 [l0, l1, l2, l3] (.int (nI 1) :: S) σ) ∧
  (∀ (d : Nat) (σ : Sg) (S : List Value) (l0 l1 l2 l3 : Value) (x y : Int32), exec d mX5_feastingMoney 19 [l0, l1, l2, l3] (.int y :: .int x :: S) σ = if x = y then exec d mX5_feastingMoney 22 [l0, l1, l2, l3] S σ else exec d mX5_feastingMoney 31 [l0, l1, l2, l3] S σ) ∧
  (∀ (d : Nat) (σ : Sg) (S : List Value) (l1 l2 l3 : Value) (k : Nat), exec d mX5_feastingMoney 22 [.ref k, l1, l2, l3] S σ = exec d mX5_feastingMoney 23 [.ref k, l1, l2, l3] (.ref k :: S) σ) ∧
  (∀ (d : Nat) (σ : Sg) (S : List Value) (l0 l1 l2 l3 : Value), exec d mX5_feastingMoney 23 [l0, l1, l2, l3] (.ref 8 :: S) σ = exec d mX5_feastingMoney 26 [l0, l1, l2, l3] (.ref 15 :: S) σ) ∧
  (∀ (d : Nat) (σ : Sg) (S : List Value) (l0 l1 l2 : Value) (x : Int32), exec d mX5_feastingMoney 26 [l0, l1, l2, .int x] S σ = exec d mX5_feastingMoney 27 [l0, l1, l2, .int x] (.int x :: S) σ) ∧
  (∀ (d : Nat) (σ : Sg) (S : List Value) (l0 l1 l2 l3 : Value) (x : Int32), exec d mX5_feastingMoney 27 [l0, l1, l2, l3] (.int x :: .ref 15 :: S) σ = if inb x 5 = true then exec d mX5_feastingMoney 28 [l0, l1, l2, l3] (.int (σ 15 x.toNatClampNeg) :: S) σ else none) ∧
  (∀ (d : Nat) (σ : Sg) (S : List Value) (l0 l1 l2 l3 : Value), exec d mX5_feastingMoney 28 [l0, l1, l2, l3] S σ = exec d mX5_feastingMoney 32 [l0, l1, l2, l3] S σ) ∧
  (∀ (d : Nat) (σ : Sg) (S : List Value) (l0 l1 l2 l3 : Value), exec d mX5_feastingMoney 31 [l0, l1, l2, l3] S σ = exec d mX5_feastingMoney 32 [l0, l1, l2, l3] (.int (nI 0) :: S) σ) ∧
  (∀ (d : Nat) (σ : Sg) (S : List Value) (l0 l1 l2 l3 : Value) (x y : Int32), exec d mX5_feastingMoney 32 [l0, l1, l2, l3] (.int y :: .int x :: S) σ = exec d mX5_feastingMoney 33 [l0, l1, l2, l3] (.int (x + y) :: S) σ) ∧
  (∀ (d : Nat) (σ : Sg) (S : List Value) (l0 l2 l3 : Value) (x y : Int32), exec d mX5_feastingMoney 33 [l0, .int y, l2, l3] (.int x :: S) σ = exec d mX5_feastingMoney 34 [l0, .int y, .int x, l3] S σ) ∧
  (∀ (d : Nat) (σ : Sg) (S : List Value) (l0 l1 : Value) (x y : Int32), exec d mX5_feastingMoney 34 [l0, l1, .int y, .int x] S σ = exec d mX5_feastingMoney 37 [l0, l1, .int y, .int (x + nI 1)] S σ) ∧
  (∀ (d : Nat) (σ : Sg) (S : List Value) (l0 l1 l2 l3 : Value), exec d mX5_feastingMoney 37 [l0, l1, l2, l3] S σ = exec d mX5_feastingMoney 4 [l0, l1, l2, l3] S σ) ∧
  (∀ (d : Nat) (σ : Sg) (S : List Value) (l0 l1 l3 : Value) (x : Int32), exec d mX5_feastingMoney 40 [l0, l1, .int x, l3] S σ = exec d mX5_feastingMoney 41 [l0, l1, .int x, l3] (.int x :: S) σ) ∧
  (∀ (d : Nat) (σ : Sg) (l0 l1 l2 l3 : Value) (x : Int32), exec d mX5_feastingMoney 41 [l0, l1, l2, l3] [.int x] σ = some (some (.int x), σ)) :=
  ⟨fun d σ S l0 l1 l2 l3 => ex_iconst (show decode mX5_feastingMoney.2.1 0 = .ok (.iconst 0, 1) by decide +kernel) (by decide +kernel),
  fun d σ S l0 l2 l3 x y => ex_istore_n (show decode mX5_feastingMoney.2.1 1 = .ok (.istore_n 2, 1) by decide +kernel) (Nat.le_of_ble_eq_true rfl) rfl,
  fun d σ S l0 l1 l2 l3 => ex_iconst (show decode mX5_feastingMoney.2.1 2 = .ok (.iconst 0, 1) by decide +kernel) (by decide +kernel),
  fun d σ S l0 l1 l3 x y => ex_istore_n (show decode mX5_feastingMoney.2.1 3 = .ok (.istore_n 3, 1) by decide +kernel) (Nat.le_of_ble_eq_true rfl) rfl,
  fun d σ S l1 l2 l3 k => ex_aload_n (show decode mX5_feastingMoney.2.1 5 = .ok (.aload_n 0, 1) by decide +kernel) rfl,
  fun d σ S l0 l1 l2 l3 => ex_get (idx := 53) (ci := 5) (ff := 5) (n := 17) (hh := 202) (by decide +kernel),
  fun d σ S l0 l1 l2 l3 x y => ex_cge (show decode mX5_feastingMoney.2.1 9 = .ok (.if_icmp .ge 31, 3) by decide +kernel) (by decide),
  fun d σ S l0 l1 l3 x => ex_iload_n (show decode mX5_feastingMoney.2.1 12 = .ok (.iload_n 2, 1) by decide +kernel) rfl,
  fun d σ S l0 l2 l3 x => ex_iload_n (show decode mX5_feastingMoney.2.1 13 = .ok (.iload_n 1, 1) by decide +kernel) rfl,
  fun d σ S l0 l1 l2 x => ex_iload_n (show decode mX5_feastingMoney.2.1 14 = .ok (.iload_n 3, 1) by decide +kernel) rfl,
  fun d σ l0 l1 l2 l3 x0 x1 x2 => ex_is (hs := [536, 537, 538, 94]) (show decode mX5_feastingMoney.2.1 15 = .ok (.invokestatic 69, 3) by decide +kernel) lkS_5_69 ⟨rfl, Nat.le_of_ble_eq_true rfl, Nat.le_of_ble_eq_true rfl, fun q => nomatch q⟩ rfl rfl,
  fun d σ S l0 l1 l2 l3 => ex_iconst (show decode mX5_feastingMoney.2.1 18 = .ok (.iconst 1, 1) by decide +kernel) (by decide +kernel),
  fun d σ S l0 l1 l2 l3 x y => ex_cne (show decode mX5_feastingMoney.2.1 19 = .ok (.if_icmp .ne 12, 3) by decide +kernel) (by decide),
  fun d σ S l1 l2 l3 k => ex_aload_n (show decode mX5_feastingMoney.2.1 22 = .ok (.aload_n 0, 1) by decide +kernel) rfl,
  fun d σ S l0 l1 l2 l3 => ex_getr (idx := 30) (ci := 5) (ff := 15) (n := 17) (hh := 234) (by decide +kernel),
  fun d σ S l0 l1 l2 x => ex_iload_n (show decode mX5_feastingMoney.2.1 26 = .ok (.iload_n 3, 1) by decide +kernel) rfl,
  fun d σ S l0 l1 l2 l3 x => ex_iald (by decide +kernel),
  fun d σ S l0 l1 l2 l3 => ex_goto (show decode mX5_feastingMoney.2.1 28 = .ok (.goto 4, 3) by decide +kernel) (by decide),
  fun d σ S l0 l1 l2 l3 => ex_iconst (show decode mX5_feastingMoney.2.1 31 = .ok (.iconst 0, 1) by decide +kernel) (by decide +kernel),
  fun d σ S l0 l1 l2 l3 x y => ex_iadd (show decode mX5_feastingMoney.2.1 32 = .ok (.iadd, 1) by decide +kernel),
  fun d σ S l0 l2 l3 x y => ex_istore_n (show decode mX5_feastingMoney.2.1 33 = .ok (.istore_n 2, 1) by decide +kernel) (Nat.le_of_ble_eq_true rfl) rfl,
  fun d σ S l0 l1 x y => ex_iinc (show decode mX5_feastingMoney.2.1 34 = .ok (.iinc 3 1, 3) by decide +kernel) rfl (by decide +kernel) (Nat.le_of_ble_eq_true rfl) rfl,
  fun d σ S l0 l1 l2 l3 => ex_goto (show decode mX5_feastingMoney.2.1 37 = .ok (.goto (-33), 3) by decide +kernel) (by decide),
  fun d σ S l0 l1 l3 x => ex_iload_n (show decode mX5_feastingMoney.2.1 40 = .ok (.iload_n 2, 1) by decide +kernel) rfl,
  fun d σ l0 l1 l2 l3 x => ex_iret (show decode mX5_feastingMoney.2.1 41 = .ok (.ireturn, 1) by decide +kernel) rfl⟩
theorem hX5_feastingMoney_4 : ∀ (d : Nat) (σ : Sg) (S : List Value) (l0 l1 l2 : Value) (x : Int32), exec d mX5_feastingMoney 4 [l0, l1, l2, .int x] S σ = exec d mX5_feastingMoney 5 [l0, l1, l2, .int x] (.int x :: S) σ := fun d σ S l0 l1 l2 x => ex_iload_n (show decode mX5_feastingMoney.2.1 4 = .ok (.iload_n 3, 1) by decide +kernel) rfl
theorem aX5_feastingMoney_8 : ∀ (d : Nat) (a1 : Int32) (σ : Sg), cal (d + 1) mX5_feastingMoney [.ref 8, .int a1] σ = exec d mX5_feastingMoney 0 [.ref 8, .int a1, uu, uu] [] σ := fun _ _ _ => rfl
theorem kX5_finds : (∀ (d : Nat) (σ : Sg) (S : List Value) (l0 l1 : Value) (x : Int32), exec d mX5_finds 0 [l0, l1, .int x] S σ = exec d mX5_finds 1 [l0, l1, .int x] (.int x :: S) σ) ∧
  (∀ (d : Nat) (σ : Sg) (S : List Value) (l1 l2 : Value) (k : Nat), exec d mX5_finds 1 [.ref k, l1, l2] S σ = exec d mX5_finds 2 [.ref k, l1, l2] (.ref k :: S) σ) ∧
  (∀ (d : Nat) (σ : Sg) (S : List Value) (l0 l1 l2 : Value), exec d mX5_finds 2 [l0, l1, l2] (.ref 8 :: S) σ = exec d mX5_finds 5 [l0, l1, l2] (.ref 16 :: S) σ) ∧
  (∀ (d : Nat) (σ : Sg) (S : List Value) (l0 l2 : Value) (x : Int32), exec d mX5_finds 5 [l0, .int x, l2] S σ = exec d mX5_finds 6 [l0, .int x, l2] (.int x :: S) σ) ∧
  (∀ (d : Nat) (σ : Sg) (S : List Value) (l0 l1 l2 : Value) (x : Int32), exec d mX5_finds 6 [l0, l1, l2] (.int x :: .ref 16 :: S) σ = if inb x 5 = true then exec d mX5_finds 7 [l0, l1, l2] (.int (σ 16 x.toNatClampNeg) :: S) σ else none) ∧
  (∀ (d : Nat) (σ : Sg) (S : List Value) (l0 l1 l2 : Value) (x y : Int32), exec d mX5_finds 7 [l0, l1, l2] (.int y :: .int x :: S) σ = exec d mX5_finds 8 [l0, l1, l2] (.int (x &&& y) :: S) σ) ∧
  (∀ (d : Nat) (σ : Sg) (l0 l1 l2 : Value) (x0 : Int32), exec d mX5_finds 8 [l0, l1, l2] [.int x0] σ = kb (cal d mJ6_bitCount_0f7a4 [.int x0] σ) (fun rs σ2 => exec d mX5_finds 11 [l0, l1, l2] (rs ++ []) σ2)) ∧
  (∀ (d : Nat) (σ : Sg) (l0 l1 l2 : Value) (x : Int32), exec d mX5_finds 11 [l0, l1, l2] [.int x] σ = some (some (.int x), σ)) :=
  ⟨fun d σ S l0 l1 x => ex_iload_n (show decode mX5_finds.2.1 0 = .ok (.iload_n 2, 1) by decide +kernel) rfl,
  fun d σ S l1 l2 k => ex_aload_n (show decode mX5_finds.2.1 1 = .ok (.aload_n 0, 1) by decide +kernel) rfl,
  fun d σ S l0 l1 l2 => ex_getr (idx := 33) (ci := 5) (ff := 16) (n := 17) (hh := 236) (by decide +kernel),
  fun d σ S l0 l2 x => ex_iload_n (show decode mX5_finds.2.1 5 = .ok (.iload_n 1, 1) by decide +kernel) rfl,
  fun d σ S l0 l1 l2 x => ex_iald (by decide +kernel),
  fun d σ S l0 l1 l2 x y => ex_iand (show decode mX5_finds.2.1 7 = .ok (.iand, 1) by decide +kernel),
  fun d σ l0 l1 l2 x0 => ex_is (hs := [604, 605, 606, 104]) (show decode mX5_finds.2.1 8 = .ok (.invokestatic 100, 3) by decide +kernel) lkS_5_100 ⟨rfl, Nat.le_of_ble_eq_true rfl, Nat.le_of_ble_eq_true rfl, fun q => nomatch q⟩ rfl rfl,
  fun d σ l0 l1 l2 x => ex_iret (show decode mX5_finds.2.1 11 = .ok (.ireturn, 1) by decide +kernel) rfl⟩
theorem aX5_finds_8 : ∀ (d : Nat) (a1 : Int32) (a2 : Int32) (σ : Sg), cal (d + 1) mX5_finds [.ref 8, .int a1, .int a2] σ = exec d mX5_finds 0 [.ref 8, .int a1, .int a2] [] σ := fun _ _ _ _ => rfl
theorem kX5_votes : (∀ (d : Nat) (σ : Sg) (S : List Value) (l0 l1 l2 l3 l4 : Value), exec d mX5_votes 0 [l0, l1, l2, l3, l4] S σ = exec d mX5_votes 1 [l0, l1, l2, l3, l4] (.int (nI 0) :: S) σ) ∧
  (∀ (d : Nat) (σ : Sg) (S : List Value) (l0 l1 l3 l4 : Value) (x y : Int32), exec d mX5_votes 1 [l0, l1, .int y, l3, l4] (.int x :: S) σ = exec d mX5_votes 2 [l0, l1, .int y, .int x, l4] S σ) ∧
  (∀ (d : Nat) (σ : Sg) (S : List Value) (l0 l1 l2 l3 l4 : Value), exec d mX5_votes 2 [l0, l1, l2, l3, l4] S σ = exec d mX5_votes 3 [l0, l1, l2, l3, l4] (.int (nI 0) :: S) σ) ∧
  (∀ (d : Nat) (σ : Sg) (S : List Value) (l0 l1 l2 l4 : Value) (x y : Int32), exec d mX5_votes 3 [l0, l1, l2, .int y, l4] (.int x :: S) σ = exec d mX5_votes 5 [l0, l1, l2, .int y, .int x] S σ) ∧
  (∀ (d : Nat) (σ : Sg) (S : List Value) (l1 l2 l3 l4 : Value) (k : Nat), exec d mX5_votes 7 [.ref k, l1, l2, l3, l4] S σ = exec d mX5_votes 8 [.ref k, l1, l2, l3, l4] (.ref k :: S) σ) ∧
  (∀ (d : Nat) (σ : Sg) (S : List Value) (l0 l1 l2 l3 l4 : Value), exec d mX5_votes 8 [l0, l1, l2, l3, l4] (.ref 8 :: S) σ = exec d mX5_votes 11 [l0, l1, l2, l3, l4] (.int (σ 8 5) :: S) σ) ∧
  (∀ (d : Nat) (σ : Sg) (S : List Value) (l0 l1 l2 l3 l4 : Value) (x y : Int32), exec d mX5_votes 11 [l0, l1, l2, l3, l4] (.int y :: .int x :: S) σ = if y ≤ x then exec d mX5_votes 54 [l0, l1, l2, l3, l4] S σ else exec d mX5_votes 14 [l0, l1, l2, l3, l4] S σ) ∧
  (∀ (d : Nat) (σ : Sg) (S : List Value) (l0 l1 l3 l4 : Value) (x : Int32), exec d mX5_votes 14 [l0, l1, .int x, l3, l4] S σ = exec d mX5_votes 15 [l0, l1, .int x, l3, l4] (.int x :: S) σ) ∧
  (∀ (d : Nat) (σ : Sg) (S : List Value) (l0 l1 l2 l3 : Value) (x : Int32), exec d mX5_votes 15 [l0, l1, l2, l3, .int x] S σ = exec d mX5_votes 17 [l0, l1, l2, l3, .int x] (.int x :: S) σ) ∧
  (∀ (d : Nat) (σ : Sg) (l0 l1 l2 l3 l4 : Value) (x0 x1 : Int32), exec d mX5_votes 17 [l0, l1, l2, l3, l4] [.int x0, .int x1] σ = kb (cal d mX6_bit [.int x1, .int x0] σ) (fun rs σ2 => exec d mX5_votes 20 [l0, l1, l2, l3, l4] (rs ++ []) σ2)) ∧
  (∀ (d : Nat) (σ : Sg) (S : List Value) (l0 l1 l2 l3 l4 : Value), exec d mX5_votes 20 [l0, l1, l2, l3, l4] S σ = exec d mX5_votes 21 [l0, l1, l2, l3, l4] (.int (nI 1) :: S) σ) ∧
  (∀ (d : Nat) (σ : Sg) (S : List Value) (l0 l1 l2 l3 l4 : Value) (x y : Int32), exec d mX5_votes 21 [l0, l1, l2, l3, l4] (.int y :: .int x :: S) σ = if x = y then exec d mX5_votes 41 [l0, l1, l2, l3, l4] S σ else exec d mX5_votes 24 [l0, l1, l2, l3, l4] S σ) ∧
  (∀ (d : Nat) (σ : Sg) (S : List Value) (l1 l2 l3 l4 : Value) (k : Nat), exec d mX5_votes 24 [.ref k, l1, l2, l3, l4] S σ = exec d mX5_votes 25 [.ref k, l1, l2, l3, l4] (.ref k :: S) σ) ∧
  (∀ (d : Nat) (σ : Sg) (S : List Value) (l0 l1 l2 l3 : Value) (x : Int32), exec d mX5_votes 25 [l0, l1, l2, l3, .int x] S σ = exec d mX5_votes 27 [l0, l1, l2, l3, .int x] (.int x :: S) σ) ∧
  (∀ (d : Nat) (σ : Sg) (S : List Value) (l0 l2 l3 l4 : Value) (x : Int32), exec d mX5_votes 27 [l0, .int x, l2, l3, l4] S σ = exec d mX5_votes 28 [l0, .int x, l2, l3, l4] (.int x :: S) σ) ∧
  (∀ (d : Nat) (σ : Sg) (l0 l1 l2 l3 l4 : Value) (x0 x1 : Int32), exec d mX5_votes 28 [l0, l1, l2, l3, l4] [.int x0, .int x1, .ref 8] σ = kb (cal d mX5_finds [.ref 8, .int x1, .int x0] σ) (fun rs σ2 => exec d mX5_votes 31 [l0, l1, l2, l3, l4] (rs ++ []) σ2)) ∧
  (∀ (d : Nat) (σ : Sg) (S : List Value) (l1 l2 l3 l4 : Value) (k : Nat), exec d mX5_votes 31 [.ref k, l1, l2, l3, l4] S σ = exec d mX5_votes 32 [.ref k, l1, l2, l3, l4] (.ref k :: S) σ) ∧
  (∀ (d : Nat) (σ : Sg) (S : List Value) (l0 l1 l2 l3 l4 : Value), exec d mX5_votes 32 [l0, l1, l2, l3, l4] (.ref 8 :: S) σ = exec d mX5_votes 35 [l0, l1, l2, l3, l4] (.ref 14 :: S) σ) ∧
  (∀ (d : Nat) (σ : Sg) (S : List Value) (l0 l1 l2 l3 : Value) (x : Int32), exec d mX5_votes 35 [l0, l1, l2, l3, .int x] S σ = exec d mX5_votes 37 [l0, l1, l2, l3, .int x] (.int x :: S) σ) ∧
  (∀ (d : Nat) (σ : Sg) (S : List Value) (l0 l1 l2 l3 l4 : Value) (x : Int32), exec d mX5_votes 37 [l0, l1, l2, l3, l4] (.int x :: .ref 14 :: S) σ = if inb x 5 = true then exec d mX5_votes 38 [l0, l1, l2, l3, l4] (.int (σ 14 x.toNatClampNeg) :: S) σ else none) ∧
  (∀ (d : Nat) (σ : Sg) (S : List Value) (l0 l1 l2 l3 l4 : Value) (x y : Int32), exec d mX5_votes 38 [l0, l1, l2, l3, l4] (.int y :: .int x :: S) σ = if y < x then exec d mX5_votes 48 [l0, l1, l2, l3, l4] S σ else exec d mX5_votes 41 [l0, l1, l2, l3, l4] S σ) ∧
  (∀ (d : Nat) (σ : Sg) (S : List Value) (l0 l1 l2 l4 : Value) (x : Int32), exec d mX5_votes 41 [l0, l1, l2, .int x, l4] S σ = exec d mX5_votes 42 [l0, l1, l2, .int x, l4] (.int x :: S) σ) ∧
  (∀ (d : Nat) (σ : Sg) (S : List Value) (l0 l1 l2 l3 l4 : Value), exec d mX5_votes 42 [l0, l1, l2, l3, l4] S σ = exec d mX5_votes 43 [l0, l1, l2, l3, l4] (.int (nI 1) :: S) σ) ∧
  (∀ (d : Nat) (σ : Sg) (S : List Value) (l0 l1 l2 l3 : Value) (x : Int32), exec d mX5_votes 43 [l0, l1, l2, l3, .int x] S σ = exec d mX5_votes 45 [l0, l1, l2, l3, .int x] (.int x :: S) σ) ∧
  (∀ (d : Nat) (σ : Sg) (S : List Value) (l0 l1 l2 l3 l4 : Value) (x y : Int32), exec d mX5_votes 45 [l0, l1, l2, l3, l4] (.int y :: .int x :: S) σ = exec d mX5_votes 46 [l0, l1, l2, l3, l4] (.int (x <<< (y &&& 31)) :: S) σ) ∧
  (∀ (d : Nat) (σ : Sg) (S : List Value) (l0 l1 l2 l3 l4 : Value) (x y : Int32), exec d mX5_votes 46 [l0, l1, l2, l3, l4] (.int y :: .int x :: S) σ = exec d mX5_votes 47 [l0, l1, l2, l3, l4] (.int (x ||| y) :: S) σ) ∧
  (∀ (d : Nat) (σ : Sg) (S : List Value) (l0 l1 l3 l4 : Value) (x y : Int32), exec d mX5_votes 47 [l0, l1, .int y, l3, l4] (.int x :: S) σ = exec d mX5_votes 48 [l0, l1, .int y, .int x, l4] S σ) ∧
  (∀ (d : Nat) (σ : Sg) (S : List Value) (l0 l1 l2 : Value) (x y : Int32), exec d mX5_votes 48 [l0, l1, l2, .int y, .int x] S σ = exec d mX5_votes 51 [l0, l1, l2, .int y, .int (x + nI 1)] S σ) ∧
  (∀ (d : Nat) (σ : Sg) (S : List Value) (l0 l1 l2 l3 l4 : Value), exec d mX5_votes 51 [l0, l1, l2, l3, l4] S σ = exec d mX5_votes 5 [l0, l1, l2, l3, l4] S σ) ∧
  (∀ (d : Nat) (σ : Sg) (S : List Value) (l0 l1 l2 l4 : Value) (x : Int32), exec d mX5_votes 54 [l0, l1, l2, .int x, l4] S σ = exec d mX5_votes 55 [l0, l1, l2, .int x, l4] (.int x :: S) σ) ∧
  (∀ (d : Nat) (σ : Sg) (l0 l1 l2 l3 l4 : Value) (x : Int32), exec d mX5_votes 55 [l0, l1, l2, l3, l4] [.int x] σ = some (some (.int x), σ)) :=
  ⟨fun d σ S l0 l1 l2 l3 l4 => ex_iconst (show decode mX5_votes.2.1 0 = .ok (.iconst 0, 1) by decide +kernel) (by decide +kernel),
  fun d σ S l0 l1 l3 l4 x y => ex_istore_n (show decode mX5_votes.2.1 1 = .ok (.istore_n 3, 1) by decide +kernel) (Nat.le_of_ble_eq_true rfl) rfl,
  fun d σ S l0 l1 l2 l3 l4 => ex_iconst (show decode mX5_votes.2.1 2 = .ok (.iconst 0, 1) by decide +kernel) (by decide +kernel),
  fun d σ S l0 l1 l2 l4 x y => ex_istore (show decode mX5_votes.2.1 3 = .ok (.istore 4, 2) by decide +kernel) (Nat.le_of_ble_eq_true rfl) rfl,
  fun d σ S l1 l2 l3 l4 k => ex_aload_n (show decode mX5_votes.2.1 7 = .ok (.aload_n 0, 1) by decide +kernel) rfl,
  fun d σ S l0 l1 l2 l3 l4 => ex_get (idx := 53) (ci := 5) (ff := 5) (n := 17) (hh := 202) (by decide +kernel),
  fun d σ S l0 l1 l2 l3 l4 x y => ex_cge (show decode mX5_votes.2.1 11 = .ok (.if_icmp .ge 43, 3) by decide +kernel) (by decide),
  fun d σ S l0 l1 l3 l4 x => ex_iload_n (show decode mX5_votes.2.1 14 = .ok (.iload_n 2, 1) by decide +kernel) rfl,
  fun d σ S l0 l1 l2 l3 x => ex_iload (show decode mX5_votes.2.1 15 = .ok (.iload 4, 2) by decide +kernel) rfl,
  fun d σ l0 l1 l2 l3 l4 x0 x1 => ex_is (hs := [536, 537, 538, 94]) (show decode mX5_votes.2.1 17 = .ok (.invokestatic 69, 3) by decide +kernel) lkS_5_69 ⟨rfl, Nat.le_of_ble_eq_true rfl, Nat.le_of_ble_eq_true rfl, fun q => nomatch q⟩ rfl rfl,
  fun d σ S l0 l1 l2 l3 l4 => ex_iconst (show decode mX5_votes.2.1 20 = .ok (.iconst 1, 1) by decide +kernel) (by decide +kernel),
  fun d σ S l0 l1 l2 l3 l4 x y => ex_ceq (show decode mX5_votes.2.1 21 = .ok (.if_icmp .eq 20, 3) by decide +kernel) (by decide),
  fun d σ S l1 l2 l3 l4 k => ex_aload_n (show decode mX5_votes.2.1 24 = .ok (.aload_n 0, 1) by decide +kernel) rfl,
  fun d σ S l0 l1 l2 l3 x => ex_iload (show decode mX5_votes.2.1 25 = .ok (.iload 4, 2) by decide +kernel) rfl,
  fun d σ S l0 l2 l3 l4 x => ex_iload_n (show decode mX5_votes.2.1 27 = .ok (.iload_n 1, 1) by decide +kernel) rfl,
  fun d σ l0 l1 l2 l3 l4 x0 x1 => ex_iv (hs := [614, 602, 30, 603, 97]) (show decode mX5_votes.2.1 28 = .ok (.invokevirtual 105, 3) by decide +kernel) lkV_5_105 ⟨rfl, Nat.le_of_ble_eq_true rfl, Nat.le_of_ble_eq_true rfl, fun _ => rfl⟩ rfl rfl,
  fun d σ S l1 l2 l3 l4 k => ex_aload_n (show decode mX5_votes.2.1 31 = .ok (.aload_n 0, 1) by decide +kernel) rfl,
  fun d σ S l0 l1 l2 l3 l4 => ex_getr (idx := 27) (ci := 5) (ff := 14) (n := 17) (hh := 232) (by decide +kernel),
  fun d σ S l0 l1 l2 l3 x => ex_iload (show decode mX5_votes.2.1 35 = .ok (.iload 4, 2) by decide +kernel) rfl,
  fun d σ S l0 l1 l2 l3 l4 x => ex_iald (by decide +kernel),
  fun d σ S l0 l1 l2 l3 l4 x y => ex_cgt (show decode mX5_votes.2.1 38 = .ok (.if_icmp .gt 10, 3) by decide +kernel) (by decide),
  fun d σ S l0 l1 l2 l4 x => ex_iload_n (show decode mX5_votes.2.1 41 = .ok (.iload_n 3, 1) by decide +kernel) rfl,
  fun d σ S l0 l1 l2 l3 l4 => ex_iconst (show decode mX5_votes.2.1 42 = .ok (.iconst 1, 1) by decide +kernel) (by decide +kernel),
  fun d σ S l0 l1 l2 l3 x => ex_iload (show decode mX5_votes.2.1 43 = .ok (.iload 4, 2) by decide +kernel) rfl,
  fun d σ S l0 l1 l2 l3 l4 x y => ex_ishl (show decode mX5_votes.2.1 45 = .ok (.ishl, 1) by decide +kernel),
  fun d σ S l0 l1 l2 l3 l4 x y => ex_ior (show decode mX5_votes.2.1 46 = .ok (.ior, 1) by decide +kernel),
  fun d σ S l0 l1 l3 l4 x y => ex_istore_n (show decode mX5_votes.2.1 47 = .ok (.istore_n 3, 1) by decide +kernel) (Nat.le_of_ble_eq_true rfl) rfl,
  fun d σ S l0 l1 l2 x y => ex_iinc (show decode mX5_votes.2.1 48 = .ok (.iinc 4 1, 3) by decide +kernel) rfl (by decide +kernel) (Nat.le_of_ble_eq_true rfl) rfl,
  fun d σ S l0 l1 l2 l3 l4 => ex_goto (show decode mX5_votes.2.1 51 = .ok (.goto (-46), 3) by decide +kernel) (by decide),
  fun d σ S l0 l1 l2 l4 x => ex_iload_n (show decode mX5_votes.2.1 54 = .ok (.iload_n 3, 1) by decide +kernel) rfl,
  fun d σ l0 l1 l2 l3 l4 x => ex_iret (show decode mX5_votes.2.1 55 = .ok (.ireturn, 1) by decide +kernel) rfl⟩
theorem hX5_votes_5 : ∀ (d : Nat) (σ : Sg) (S : List Value) (l0 l1 l2 l3 : Value) (x : Int32), exec d mX5_votes 5 [l0, l1, l2, l3, .int x] S σ = exec d mX5_votes 7 [l0, l1, l2, l3, .int x] (.int x :: S) σ := fun d σ S l0 l1 l2 l3 x => ex_iload (show decode mX5_votes.2.1 5 = .ok (.iload 4, 2) by decide +kernel) rfl
theorem aX5_votes_8 : ∀ (d : Nat) (a1 : Int32) (a2 : Int32) (σ : Sg), cal (d + 1) mX5_votes [.ref 8, .int a1, .int a2] σ = exec d mX5_votes 0 [.ref 8, .int a1, .int a2, uu, uu] [] σ := fun _ _ _ _ => rfl
theorem kX5_wins : (∀ (d : Nat) (σ : Sg) (S : List Value) (l1 : Value) (k : Nat), exec d mX5_wins 0 [.ref k, l1] S σ = exec d mX5_wins 1 [.ref k, l1] (.ref k :: S) σ) ∧
  (∀ (d : Nat) (σ : Sg) (S : List Value) (l0 l1 : Value), exec d mX5_wins 1 [l0, l1] (.ref 8 :: S) σ = exec d mX5_wins 4 [l0, l1] (.int (σ 8 5) :: S) σ) ∧
  (∀ (d : Nat) (σ : Sg) (S : List Value) (l0 l1 : Value) (x : Int32), exec d mX5_wins 4 [l0, l1] (.int x :: S) σ = if x = nI 0 then exec d mX5_wins 20 [l0, l1] S σ else exec d mX5_wins 7 [l0, l1] S σ) ∧
  (∀ (d : Nat) (σ : Sg) (S : List Value) (l0 l1 : Value), exec d mX5_wins 7 [l0, l1] S σ = exec d mX5_wins 8 [l0, l1] (.int (nI 2) :: S) σ) ∧
  (∀ (d : Nat) (σ : Sg) (S : List Value) (l0 : Value) (x : Int32), exec d mX5_wins 8 [l0, .int x] S σ = exec d mX5_wins 9 [l0, .int x] (.int x :: S) σ) ∧
  (∀ (d : Nat) (σ : Sg) (l0 l1 : Value) (x0 x1 : Int32), exec d mX5_wins 9 [l0, l1] [.int x0, .int x1] σ = kb (cal d mJ6_bitCount_0f7a4 [.int x0] σ) (fun rs σ2 => exec d mX5_wins 12 [l0, l1] (rs ++ [.int x1]) σ2)) ∧
  (∀ (d : Nat) (σ : Sg) (S : List Value) (l0 l1 : Value) (x y : Int32), exec d mX5_wins 12 [l0, l1] (.int y :: .int x :: S) σ = exec d mX5_wins 13 [l0, l1] (.int (x * y) :: S) σ) ∧
  (∀ (d : Nat) (σ : Sg) (S : List Value) (l1 : Value) (k : Nat), exec d mX5_wins 13 [.ref k, l1] S σ = exec d mX5_wins 14 [.ref k, l1] (.ref k :: S) σ) ∧
  (∀ (d : Nat) (σ : Sg) (S : List Value) (l0 l1 : Value), exec d mX5_wins 14 [l0, l1] (.ref 8 :: S) σ = exec d mX5_wins 17 [l0, l1] (.int (σ 8 5) :: S) σ) ∧
  (∀ (d : Nat) (σ : Sg) (S : List Value) (l0 l1 : Value) (x y : Int32), exec d mX5_wins 17 [l0, l1] (.int y :: .int x :: S) σ = if x ≤ y then exec d mX5_wins 24 [l0, l1] S σ else exec d mX5_wins 20 [l0, l1] S σ) ∧
  (∀ (d : Nat) (σ : Sg) (S : List Value) (l0 l1 : Value), exec d mX5_wins 20 [l0, l1] S σ = exec d mX5_wins 21 [l0, l1] (.int (nI 1) :: S) σ) ∧
  (∀ (d : Nat) (σ : Sg) (S : List Value) (l0 l1 : Value), exec d mX5_wins 21 [l0, l1] S σ = exec d mX5_wins 25 [l0, l1] S σ) ∧
  (∀ (d : Nat) (σ : Sg) (S : List Value) (l0 l1 : Value), exec d mX5_wins 24 [l0, l1] S σ = exec d mX5_wins 25 [l0, l1] (.int (nI 0) :: S) σ) ∧
  (∀ (d : Nat) (σ : Sg) (l0 l1 : Value) (x : Int32), exec d mX5_wins 25 [l0, l1] [.int x] σ = if b01 x = true then some (some (.int x), σ) else none) :=
  ⟨fun d σ S l1 k => ex_aload_n (show decode mX5_wins.2.1 0 = .ok (.aload_n 0, 1) by decide +kernel) rfl,
  fun d σ S l0 l1 => ex_get (idx := 53) (ci := 5) (ff := 5) (n := 17) (hh := 202) (by decide +kernel),
  fun d σ S l0 l1 x => ex_zeq (show decode mX5_wins.2.1 4 = .ok (.ifCond .eq 16, 3) by decide +kernel) (by decide),
  fun d σ S l0 l1 => ex_iconst (show decode mX5_wins.2.1 7 = .ok (.iconst 2, 1) by decide +kernel) (by decide +kernel),
  fun d σ S l0 x => ex_iload_n (show decode mX5_wins.2.1 8 = .ok (.iload_n 1, 1) by decide +kernel) rfl,
  fun d σ l0 l1 x0 x1 => ex_is (hs := [604, 605, 606, 104]) (show decode mX5_wins.2.1 9 = .ok (.invokestatic 100, 3) by decide +kernel) lkS_5_100 ⟨rfl, Nat.le_of_ble_eq_true rfl, Nat.le_of_ble_eq_true rfl, fun q => nomatch q⟩ rfl rfl,
  fun d σ S l0 l1 x y => ex_imul (show decode mX5_wins.2.1 12 = .ok (.imul, 1) by decide +kernel),
  fun d σ S l1 k => ex_aload_n (show decode mX5_wins.2.1 13 = .ok (.aload_n 0, 1) by decide +kernel) rfl,
  fun d σ S l0 l1 => ex_get (idx := 53) (ci := 5) (ff := 5) (n := 17) (hh := 202) (by decide +kernel),
  fun d σ S l0 l1 x y => ex_cle (show decode mX5_wins.2.1 17 = .ok (.if_icmp .le 7, 3) by decide +kernel) (by decide),
  fun d σ S l0 l1 => ex_iconst (show decode mX5_wins.2.1 20 = .ok (.iconst 1, 1) by decide +kernel) (by decide +kernel),
  fun d σ S l0 l1 => ex_goto (show decode mX5_wins.2.1 21 = .ok (.goto 4, 3) by decide +kernel) (by decide),
  fun d σ S l0 l1 => ex_iconst (show decode mX5_wins.2.1 24 = .ok (.iconst 0, 1) by decide +kernel) (by decide +kernel),
  fun d σ l0 l1 x => ex_zret (show decode mX5_wins.2.1 25 = .ok (.ireturn, 1) by decide +kernel) rfl⟩
theorem aX5_wins_8 : ∀ (d : Nat) (a1 : Int32) (σ : Sg), cal (d + 1) mX5_wins [.ref 8, .int a1] σ = exec d mX5_wins 0 [.ref 8, .int a1] [] σ := fun _ _ _ => rfl
theorem kX5_passes : (∀ (d : Nat) (σ : Sg) (S : List Value) (k : Nat), exec d mX5_passes 0 [.ref k] S σ = exec d mX5_passes 1 [.ref k] (.ref k :: S) σ) ∧
  (∀ (d : Nat) (σ : Sg) (S : List Value) (l0 : Value), exec d mX5_passes 1 [l0] (.ref 8 :: S) σ = exec d mX5_passes 4 [l0] (.int (σ 8 6) :: S) σ) ∧
  (∀ (d : Nat) (σ : Sg) (S : List Value) (l0 : Value), exec d mX5_passes 4 [l0] S σ = exec d mX5_passes 5 [l0] (.int (nI 1) :: S) σ) ∧
  (∀ (d : Nat) (σ : Sg) (S : List Value) (k : Nat), exec d mX5_passes 5 [.ref k] S σ = exec d mX5_passes 6 [.ref k] (.ref k :: S) σ) ∧
  (∀ (d : Nat) (σ : Sg) (S : List Value) (l0 : Value), exec d mX5_passes 6 [l0] (.ref 8 :: S) σ = exec d mX5_passes 9 [l0] (.int (σ 8 4) :: S) σ) ∧
  (∀ (d : Nat) (σ : Sg) (S : List Value) (l0 : Value) (x y : Int32), exec d mX5_passes 9 [l0] (.int y :: .int x :: S) σ = exec d mX5_passes 10 [l0] (.int (x <<< (y &&& 31)) :: S) σ) ∧
  (∀ (d : Nat) (σ : Sg) (S : List Value) (l0 : Value), exec d mX5_passes 10 [l0] S σ = exec d mX5_passes 11 [l0] (.int (nI 1) :: S) σ) ∧
  (∀ (d : Nat) (σ : Sg) (S : List Value) (l0 : Value) (x y : Int32), exec d mX5_passes 11 [l0] (.int y :: .int x :: S) σ = exec d mX5_passes 12 [l0] (.int (x - y) :: S) σ) ∧
  (∀ (d : Nat) (σ : Sg) (S : List Value) (l0 : Value) (x y : Int32), exec d mX5_passes 12 [l0] (.int y :: .int x :: S) σ = if x = y then exec d mX5_passes 15 [l0] S σ else exec d mX5_passes 38 [l0] S σ) ∧
  (∀ (d : Nat) (σ : Sg) (S : List Value) (k : Nat), exec d mX5_passes 15 [.ref k] S σ = exec d mX5_passes 16 [.ref k] (.ref k :: S) σ) ∧
  (∀ (d : Nat) (σ : Sg) (S : List Value) (k : Nat), exec d mX5_passes 16 [.ref k] S σ = exec d mX5_passes 17 [.ref k] (.ref k :: S) σ) ∧
  (∀ (d : Nat) (σ : Sg) (S : List Value) (k : Nat), exec d mX5_passes 17 [.ref k] S σ = exec d mX5_passes 18 [.ref k] (.ref k :: S) σ) ∧
  (∀ (d : Nat) (σ : Sg) (S : List Value) (l0 : Value), exec d mX5_passes 18 [l0] (.ref 8 :: S) σ = exec d mX5_passes 21 [l0] (.int (σ 8 7) :: S) σ) ∧
  (∀ (d : Nat) (σ : Sg) (S : List Value) (k : Nat), exec d mX5_passes 21 [.ref k] S σ = exec d mX5_passes 22 [.ref k] (.ref k :: S) σ) ∧
  (∀ (d : Nat) (σ : Sg) (S : List Value) (l0 : Value), exec d mX5_passes 22 [l0] (.ref 8 :: S) σ = exec d mX5_passes 25 [l0] (.int (σ 8 8) :: S) σ) ∧
  (∀ (d : Nat) (σ : Sg) (l0 : Value) (x0 x1 : Int32), exec d mX5_passes 25 [l0] [.int x0, .int x1, .ref 8, .ref 8] σ = kb (cal d mX5_votes [.ref 8, .int x1, .int x0] σ) (fun rs σ2 => exec d mX5_passes 28 [l0] (rs ++ [.ref 8]) σ2)) ∧
  (∀ (d : Nat) (σ : Sg) (l0 : Value) (x0 : Int32), exec d mX5_passes 28 [l0] [.int x0, .ref 8] σ = kb (cal d mX5_wins [.ref 8, .int x0] σ) (fun rs σ2 => exec d mX5_passes 31 [l0] (rs ++ []) σ2)) ∧
  (∀ (d : Nat) (σ : Sg) (S : List Value) (l0 : Value) (x : Int32), exec d mX5_passes 31 [l0] (.int x :: S) σ = if x = nI 0 then exec d mX5_passes 38 [l0] S σ else exec d mX5_passes 34 [l0] S σ) ∧
  (∀ (d : Nat) (σ : Sg) (S : List Value) (l0 : Value), exec d mX5_passes 34 [l0] S σ = exec d mX5_passes 35 [l0] (.int (nI 1) :: S) σ) ∧
  (∀ (d : Nat) (σ : Sg) (S : List Value) (l0 : Value), exec d mX5_passes 35 [l0] S σ = exec d mX5_passes 39 [l0] S σ) ∧
  (∀ (d : Nat) (σ : Sg) (S : List Value) (l0 : Value), exec d mX5_passes 38 [l0] S σ = exec d mX5_passes 39 [l0] (.int (nI 0) :: S) σ) ∧
  (∀ (d : Nat) (σ : Sg) (l0 : Value) (x : Int32), exec d mX5_passes 39 [l0] [.int x] σ = if b01 x = true then some (some (.int x), σ) else none) :=
  ⟨fun d σ S k => ex_aload_n (show decode mX5_passes.2.1 0 = .ok (.aload_n 0, 1) by decide +kernel) rfl,
  fun d σ S l0 => ex_get (idx := 56) (ci := 5) (ff := 6) (n := 17) (hh := 205) (by decide +kernel),
  fun d σ S l0 => ex_iconst (show decode mX5_passes.2.1 4 = .ok (.iconst 1, 1) by decide +kernel) (by decide +kernel),
  fun d σ S k => ex_aload_n (show decode mX5_passes.2.1 5 = .ok (.aload_n 0, 1) by decide +kernel) rfl,
  fun d σ S l0 => ex_get (idx := 50) (ci := 5) (ff := 4) (n := 17) (hh := 199) (by decide +kernel),
  fun d σ S l0 x y => ex_ishl (show decode mX5_passes.2.1 9 = .ok (.ishl, 1) by decide +kernel),
  fun d σ S l0 => ex_iconst (show decode mX5_passes.2.1 10 = .ok (.iconst 1, 1) by decide +kernel) (by decide +kernel),
  fun d σ S l0 x y => ex_isub (show decode mX5_passes.2.1 11 = .ok (.isub, 1) by decide +kernel),
  fun d σ S l0 x y => ex_cne (show decode mX5_passes.2.1 12 = .ok (.if_icmp .ne 26, 3) by decide +kernel) (by decide),
  fun d σ S k => ex_aload_n (show decode mX5_passes.2.1 15 = .ok (.aload_n 0, 1) by decide +kernel) rfl,
  fun d σ S k => ex_aload_n (show decode mX5_passes.2.1 16 = .ok (.aload_n 0, 1) by decide +kernel) rfl,
  fun d σ S k => ex_aload_n (show decode mX5_passes.2.1 17 = .ok (.aload_n 0, 1) by decide +kernel) rfl,
  fun d σ S l0 => ex_get (idx := 59) (ci := 5) (ff := 7) (n := 17) (hh := 209) (by decide +kernel),
  fun d σ S k => ex_aload_n (show decode mX5_passes.2.1 21 = .ok (.aload_n 0, 1) by decide +kernel) rfl,
  fun d σ S l0 => ex_get (idx := 62) (ci := 5) (ff := 8) (n := 17) (hh := 213) (by decide +kernel),
  fun d σ l0 x0 x1 => ex_iv (hs := [623, 612, 31, 613, 97]) (show decode mX5_passes.2.1 25 = .ok (.invokevirtual 108, 3) by decide +kernel) lkV_5_108 ⟨rfl, Nat.le_of_ble_eq_true rfl, Nat.le_of_ble_eq_true rfl, fun _ => rfl⟩ rfl rfl,
  fun d σ l0 x0 => ex_iv (hs := [624, 626, 33, 627, 97]) (show decode mX5_passes.2.1 28 = .ok (.invokevirtual 111, 3) by decide +kernel) lkV_5_111 ⟨rfl, Nat.le_of_ble_eq_true rfl, Nat.le_of_ble_eq_true rfl, fun _ => rfl⟩ rfl rfl,
  fun d σ S l0 x => ex_zeq (show decode mX5_passes.2.1 31 = .ok (.ifCond .eq 7, 3) by decide +kernel) (by decide),
  fun d σ S l0 => ex_iconst (show decode mX5_passes.2.1 34 = .ok (.iconst 1, 1) by decide +kernel) (by decide +kernel),
  fun d σ S l0 => ex_goto (show decode mX5_passes.2.1 35 = .ok (.goto 4, 3) by decide +kernel) (by decide),
  fun d σ S l0 => ex_iconst (show decode mX5_passes.2.1 38 = .ok (.iconst 0, 1) by decide +kernel) (by decide +kernel),
  fun d σ l0 x => ex_zret (show decode mX5_passes.2.1 39 = .ok (.ireturn, 1) by decide +kernel) rfl⟩
theorem aX5_passes_8 : ∀ (d : Nat)  (σ : Sg), cal (d + 1) mX5_passes [.ref 8] σ = exec d mX5_passes 0 [.ref 8] [] σ := fun _ _ => rfl
