/-! generated: the instructions of GuildPieceLaw -/
theorem kL_law_0 : (∀ (d : Nat) (σ : Sg) (S : List Value) (l1 l2 l3 : Value) (k : Nat), exec d mL_law 19 [.ref k, l1, l2, l3] S σ = exec d mL_law 20 [.ref k, l1, l2, l3] (.ref k :: S) σ) ∧
  (∀ (d : Nat) (σ : Sg) (S : List Value) (l0 l1 l2 l3 : Value), exec d mL_law 20 [l0, l1, l2, l3] (.ref 66 :: S) σ = exec d mL_law 21 [l0, l1, l2, l3] (.int (σ 67 0) :: S) σ) ∧
  (∀ (d : Nat) (σ : Sg) (S : List Value) (l0 l1 l2 l3 : Value), exec d mL_law 21 [l0, l1, l2, l3] S σ = exec d mL_law 23 [l0, l1, l2, l3] (.int (nI 6) :: S) σ) ∧
  (∀ (d : Nat) (σ : Sg) (S : List Value) (l0 l1 l2 l3 : Value) (x y : Int32), exec d mL_law 23 [l0, l1, l2, l3] (.int y :: .int x :: S) σ = exec d mL_law 24 [l0, l1, l2, l3] (.int (x - y) :: S) σ) ∧
  (∀ (d : Nat) (σ : Sg) (S : List Value) (l0 l1 l2 l3 : Value) (x y : Int32), exec d mL_law 24 [l0, l1, l2, l3] (.int y :: .int x :: S) σ = if y < x then exec d mL_law 1150 [l0, l1, l2, l3] S σ else exec d mL_law 27 [l0, l1, l2, l3] S σ) ∧
  (∀ (d : Nat) (σ : Sg) (S : List Value) (l1 l2 l3 : Value) (k : Nat), exec d mL_law 27 [.ref k, l1, l2, l3] S σ = exec d mL_law 28 [.ref k, l1, l2, l3] (.ref k :: S) σ) ∧
  (∀ (d : Nat) (σ : Sg) (S : List Value) (l0 l1 l2 : Value) (x : Int32), exec d mL_law 28 [l0, l1, l2, .int x] S σ = exec d mL_law 29 [l0, l1, l2, .int x] (.int x :: S) σ) ∧
  (∀ (d : Nat) (σ : Sg) (S : List Value) (l0 l1 l2 l3 : Value) (x : Int32), exec d mL_law 29 [l0, l1, l2, l3] (.int x :: .ref 66 :: S) σ = if inb x (σ 67 0).toNatClampNeg = true then exec d mL_law 30 [l0, l1, l2, l3] (.int (σ 66 x.toNatClampNeg) :: S) σ else none) ∧
  (∀ (d : Nat) (σ : Sg) (S : List Value) (l0 l1 l2 l3 : Value), exec d mL_law 30 [l0, l1, l2, l3] S σ = exec d mL_law 32 [l0, l1, l2, l3] (.int (nI 63) :: S) σ) ∧
  (∀ (d : Nat) (σ : Sg) (S : List Value) (l0 l1 l2 l3 : Value) (x y : Int32), exec d mL_law 32 [l0, l1, l2, l3] (.int y :: .int x :: S) σ = exec d mL_law 33 [l0, l1, l2, l3] (.int (x &&& y) :: S) σ) ∧
  (∀ (d : Nat) (σ : Sg) (S : List Value) (l0 l1 l2 l3 : Value) (x : Int32), exec d mL_law 33 [l0, l1, l2, l3] (.int x :: S) σ = (if x = nI 0 then exec d mL_law 188 [l0, l1, l2, l3] S σ else (if x = nI 1 then exec d mL_law 231 [l0, l1, l2, l3] S σ else (if x = nI 2 then exec d mL_law 274 [l0, l1, l2, l3] S σ else (if x = nI 3 then exec d mL_law 337 [l0, l1, l2, l3] S σ else (if x = nI 4 then exec d mL_law 360 [l0, l1, l2, l3] S σ else (if x = nI 5 then exec d mL_law 383 [l0, l1, l2, l3] S σ else (if x = nI 6 then exec d mL_law 396 [l0, l1, l2, l3] S σ else (if x = nI 7 then exec d mL_law 409 [l0, l1, l2, l3] S σ else (if x = nI 8 then exec d mL_law 422 [l0, l1, l2, l3] S σ else (if x = nI 9 then exec d mL_law 445 [l0, l1, l2, l3] S σ else (if x = nI 10 then exec d mL_law 468 [l0, l1, l2, l3] S σ else (if x = nI 11 then exec d mL_law 491 [l0, l1, l2, l3] S σ else (if x = nI 12 then exec d mL_law 514 [l0, l1, l2, l3] S σ else (if x = nI 13 then exec d mL_law 527 [l0, l1, l2, l3] S σ else (if x = nI 14 then exec d mL_law 560 [l0, l1, l2, l3] S σ else (if x = nI 15 then exec d mL_law 593 [l0, l1, l2, l3] S σ else (if x = nI 16 then exec d mL_law 616 [l0, l1, l2, l3] S σ else (if x = nI 17 then exec d mL_law 639 [l0, l1, l2, l3] S σ else (if x = nI 18 then exec d mL_law 652 [l0, l1, l2, l3] S σ else (if x = nI 19 then exec d mL_law 675 [l0, l1, l2, l3] S σ else (if x = nI 20 then exec d mL_law 698 [l0, l1, l2, l3] S σ else (if x = nI 21 then exec d mL_law 711 [l0, l1, l2, l3] S σ else (if x = nI 22 then exec d mL_law 754 [l0, l1, l2, l3] S σ else (if x = nI 23 then exec d mL_law 797 [l0, l1, l2, l3] S σ else (if x = nI 24 then exec d mL_law 850 [l0, l1, l2, l3] S σ else (if x = nI 25 then exec d mL_law 884 [l0, l1, l2, l3] S σ else (if x = nI 26 then exec d mL_law 907 [l0, l1, l2, l3] S σ else (if x = nI 27 then exec d mL_law 950 [l0, l1, l2, l3] S σ else (if x = nI 28 then exec d mL_law 973 [l0, l1, l2, l3] S σ else (if x = nI 29 then exec d mL_law 996 [l0, l1, l2, l3] S σ else (if x = nI 30 then exec d mL_law 1019 [l0, l1, l2, l3] S σ else (if x = nI 31 then exec d mL_law 1052 [l0, l1, l2, l3] S σ else (if x = nI 32 then exec d mL_law 1085 [l0, l1, l2, l3] S σ else (if x = nI 33 then exec d mL_law 1108 [l0, l1, l2, l3] S σ else (if x = nI 34 then exec d mL_law 1131 [l0, l1, l2, l3] S σ else exec d mL_law 1144 [l0, l1, l2, l3] S σ)))))))))))))))))))))))))))))))))))) ∧
  (∀ (d : Nat) (σ : Sg) (S : List Value) (l0 l2 l3 : Value) (k : Nat), exec d mL_law 188 [l0, .ref k, l2, l3] S σ = exec d mL_law 189 [l0, .ref k, l2, l3] (.ref k :: S) σ) ∧
  (∀ (d : Nat) (σ : Sg) (S : List Value) (l1 l2 l3 : Value) (k : Nat), exec d mL_law 189 [.ref k, l1, l2, l3] S σ = exec d mL_law 190 [.ref k, l1, l2, l3] (.ref k :: S) σ) ∧
  (∀ (d : Nat) (σ : Sg) (S : List Value) (l0 l1 l2 : Value) (x : Int32), exec d mL_law 190 [l0, l1, l2, .int x] S σ = exec d mL_law 191 [l0, l1, l2, .int x] (.int x :: S) σ) ∧
  (∀ (d : Nat) (σ : Sg) (S : List Value) (l0 l1 l2 l3 : Value), exec d mL_law 191 [l0, l1, l2, l3] S σ = exec d mL_law 192 [l0, l1, l2, l3] (.int (nI 1) :: S) σ) ∧
  (∀ (d : Nat) (σ : Sg) (S : List Value) (l0 l1 l2 l3 : Value) (x y : Int32), exec d mL_law 192 [l0, l1, l2, l3] (.int y :: .int x :: S) σ = exec d mL_law 193 [l0, l1, l2, l3] (.int (x + y) :: S) σ) ∧
  (∀ (d : Nat) (σ : Sg) (S : List Value) (l0 l1 l2 l3 : Value) (x : Int32), exec d mL_law 193 [l0, l1, l2, l3] (.int x :: .ref 66 :: S) σ = if inb x (σ 67 0).toNatClampNeg = true then exec d mL_law 194 [l0, l1, l2, l3] (.int (σ 66 x.toNatClampNeg) :: S) σ else none) ∧
  (∀ (d : Nat) (σ : Sg) (S : List Value) (l1 l2 l3 : Value) (k : Nat), exec d mL_law 194 [.ref k, l1, l2, l3] S σ = exec d mL_law 195 [.ref k, l1, l2, l3] (.ref k :: S) σ) ∧
  (∀ (d : Nat) (σ : Sg) (S : List Value) (l0 l1 l2 : Value) (x : Int32), exec d mL_law 195 [l0, l1, l2, .int x] S σ = exec d mL_law 196 [l0, l1, l2, .int x] (.int x :: S) σ) ∧
  (∀ (d : Nat) (σ : Sg) (S : List Value) (l0 l1 l2 l3 : Value), exec d mL_law 196 [l0, l1, l2, l3] S σ = exec d mL_law 197 [l0, l1, l2, l3] (.int (nI 2) :: S) σ) ∧
  (∀ (d : Nat) (σ : Sg) (S : List Value) (l0 l1 l2 l3 : Value) (x y : Int32), exec d mL_law 197 [l0, l1, l2, l3] (.int y :: .int x :: S) σ = exec d mL_law 198 [l0, l1, l2, l3] (.int (x + y) :: S) σ) ∧
  (∀ (d : Nat) (σ : Sg) (S : List Value) (l0 l1 l2 l3 : Value) (x : Int32), exec d mL_law 198 [l0, l1, l2, l3] (.int x :: .ref 66 :: S) σ = if inb x (σ 67 0).toNatClampNeg = true then exec d mL_law 199 [l0, l1, l2, l3] (.int (σ 66 x.toNatClampNeg) :: S) σ else none) ∧
  (∀ (d : Nat) (σ : Sg) (S : List Value) (l1 l2 l3 : Value) (k : Nat), exec d mL_law 199 [.ref k, l1, l2, l3] S σ = exec d mL_law 200 [.ref k, l1, l2, l3] (.ref k :: S) σ) ∧
  (∀ (d : Nat) (σ : Sg) (S : List Value) (l0 l1 l2 : Value) (x : Int32), exec d mL_law 200 [l0, l1, l2, .int x] S σ = exec d mL_law 201 [l0, l1, l2, .int x] (.int x :: S) σ) ∧
  (∀ (d : Nat) (σ : Sg) (S : List Value) (l0 l1 l2 l3 : Value), exec d mL_law 201 [l0, l1, l2, l3] S σ = exec d mL_law 202 [l0, l1, l2, l3] (.int (nI 3) :: S) σ) ∧
  (∀ (d : Nat) (σ : Sg) (S : List Value) (l0 l1 l2 l3 : Value) (x y : Int32), exec d mL_law 202 [l0, l1, l2, l3] (.int y :: .int x :: S) σ = exec d mL_law 203 [l0, l1, l2, l3] (.int (x + y) :: S) σ) ∧
  (∀ (d : Nat) (σ : Sg) (S : List Value) (l0 l1 l2 l3 : Value) (x : Int32), exec d mL_law 203 [l0, l1, l2, l3] (.int x :: .ref 66 :: S) σ = if inb x (σ 67 0).toNatClampNeg = true then exec d mL_law 204 [l0, l1, l2, l3] (.int (σ 66 x.toNatClampNeg) :: S) σ else none) ∧
  (∀ (d : Nat) (σ : Sg) (l0 l1 l2 l3 : Value) (x0 x1 x2 : Int32), exec d mL_law 204 [l0, l1, l2, l3] [.int x0, .int x1, .int x2, .ref 0] σ = kb (cal d mX6_row [.ref 0, .int x2, .int x1, .int x0] σ) (fun rs σ2 => exec d mL_law 207 [l0, l1, l2, l3] (rs ++ []) σ2)) ∧
  (∀ (d : Nat) (σ : Sg) (S : List Value) (l0 l1 l3 : Value) (k : Nat), exec d mL_law 207 [l0, l1, .ref k, l3] S σ = exec d mL_law 208 [l0, l1, .ref k, l3] (.ref k :: S) σ) ∧
  (∀ (d : Nat) (σ : Sg) (S : List Value) (l1 l2 l3 : Value) (k : Nat), exec d mL_law 208 [.ref k, l1, l2, l3] S σ = exec d mL_law 209 [.ref k, l1, l2, l3] (.ref k :: S) σ) ∧
  (∀ (d : Nat) (σ : Sg) (S : List Value) (l0 l1 l2 : Value) (x : Int32), exec d mL_law 209 [l0, l1, l2, .int x] S σ = exec d mL_law 210 [l0, l1, l2, .int x] (.int x :: S) σ) ∧
  (∀ (d : Nat) (σ : Sg) (S : List Value) (l0 l1 l2 l3 : Value), exec d mL_law 210 [l0, l1, l2, l3] S σ = exec d mL_law 211 [l0, l1, l2, l3] (.int (nI 1) :: S) σ) ∧
  (∀ (d : Nat) (σ : Sg) (S : List Value) (l0 l1 l2 l3 : Value) (x y : Int32), exec d mL_law 211 [l0, l1, l2, l3] (.int y :: .int x :: S) σ = exec d mL_law 212 [l0, l1, l2, l3] (.int (x + y) :: S) σ) ∧
  (∀ (d : Nat) (σ : Sg) (S : List Value) (l0 l1 l2 l3 : Value) (x : Int32), exec d mL_law 212 [l0, l1, l2, l3] (.int x :: .ref 66 :: S) σ = if inb x (σ 67 0).toNatClampNeg = true then exec d mL_law 213 [l0, l1, l2, l3] (.int (σ 66 x.toNatClampNeg) :: S) σ else none) ∧
  (∀ (d : Nat) (σ : Sg) (S : List Value) (l1 l2 l3 : Value) (k : Nat), exec d mL_law 213 [.ref k, l1, l2, l3] S σ = exec d mL_law 214 [.ref k, l1, l2, l3] (.ref k :: S) σ) ∧
  (∀ (d : Nat) (σ : Sg) (S : List Value) (l0 l1 l2 : Value) (x : Int32), exec d mL_law 214 [l0, l1, l2, .int x] S σ = exec d mL_law 215 [l0, l1, l2, .int x] (.int x :: S) σ) ∧
  (∀ (d : Nat) (σ : Sg) (S : List Value) (l0 l1 l2 l3 : Value), exec d mL_law 215 [l0, l1, l2, l3] S σ = exec d mL_law 216 [l0, l1, l2, l3] (.int (nI 2) :: S) σ) ∧
  (∀ (d : Nat) (σ : Sg) (S : List Value) (l0 l1 l2 l3 : Value) (x y : Int32), exec d mL_law 216 [l0, l1, l2, l3] (.int y :: .int x :: S) σ = exec d mL_law 217 [l0, l1, l2, l3] (.int (x + y) :: S) σ) ∧
  (∀ (d : Nat) (σ : Sg) (S : List Value) (l0 l1 l2 l3 : Value) (x : Int32), exec d mL_law 217 [l0, l1, l2, l3] (.int x :: .ref 66 :: S) σ = if inb x (σ 67 0).toNatClampNeg = true then exec d mL_law 218 [l0, l1, l2, l3] (.int (σ 66 x.toNatClampNeg) :: S) σ else none) ∧
  (∀ (d : Nat) (σ : Sg) (S : List Value) (l1 l2 l3 : Value) (k : Nat), exec d mL_law 218 [.ref k, l1, l2, l3] S σ = exec d mL_law 219 [.ref k, l1, l2, l3] (.ref k :: S) σ) :=
  ⟨fun d σ S l1 l2 l3 k => ex_aload_n (show decode mL_law.2.1 19 = .ok (.aload_n 0, 1) by decide +kernel) rfl,
  fun d σ S l0 l1 l2 l3 => ex_slen (show decode mL_law.2.1 20 = .ok (.arraylength, 1) by decide +kernel),
  fun d σ S l0 l1 l2 l3 => ex_bipush (show decode mL_law.2.1 21 = .ok (.bipush 6, 2) by decide +kernel) (by decide +kernel),
  fun d σ S l0 l1 l2 l3 x y => ex_isub (show decode mL_law.2.1 23 = .ok (.isub, 1) by decide +kernel),
  fun d σ S l0 l1 l2 l3 x y => ex_cgt (show decode mL_law.2.1 24 = .ok (.if_icmp .gt 1126, 3) by decide +kernel) (by decide),
  fun d σ S l1 l2 l3 k => ex_aload_n (show decode mL_law.2.1 27 = .ok (.aload_n 0, 1) by decide +kernel) rfl,
  fun d σ S l0 l1 l2 x => ex_iload_n (show decode mL_law.2.1 28 = .ok (.iload_n 3, 1) by decide +kernel) rfl,
  fun d σ S l0 l1 l2 l3 x => ex_sald (by decide +kernel),
  fun d σ S l0 l1 l2 l3 => ex_bipush (show decode mL_law.2.1 30 = .ok (.bipush 63, 2) by decide +kernel) (by decide +kernel),
  fun d σ S l0 l1 l2 l3 x y => ex_iand (show decode mL_law.2.1 32 = .ok (.iand, 1) by decide +kernel),
  fun d σ S l0 l1 l2 l3 x => ex_tsw (lo := 0) (df := 1144) (ts := [188, 231, 274, 337, 360, 383, 396, 409, 422, 445, 468, 491, 514, 527, 560, 593, 616, 639, 652, 675, 698, 711, 754, 797, 850, 884, 907, 950, 973, 996, 1019, 1052, 1085, 1108, 1131]) (show decode mL_law.2.1 33 = .ok (.tableswitch 1111 0 34 #[155, 198, 241, 304, 327, 350, 363, 376, 389, 412, 435, 458, 481, 494, 527, 560, 583, 606, 619, 642, 665, 678, 721, 764, 817, 851, 874, 917, 940, 963, 986, 1019, 1052, 1075, 1098], 155) by decide +kernel) (by decide) (by decide) (by decide) (by decide),
  fun d σ S l0 l2 l3 k => ex_aload_n (show decode mL_law.2.1 188 = .ok (.aload_n 1, 1) by decide +kernel) rfl,
  fun d σ S l1 l2 l3 k => ex_aload_n (show decode mL_law.2.1 189 = .ok (.aload_n 0, 1) by decide +kernel) rfl,
  fun d σ S l0 l1 l2 x => ex_iload_n (show decode mL_law.2.1 190 = .ok (.iload_n 3, 1) by decide +kernel) rfl,
  fun d σ S l0 l1 l2 l3 => ex_iconst (show decode mL_law.2.1 191 = .ok (.iconst 1, 1) by decide +kernel) (by decide +kernel),
  fun d σ S l0 l1 l2 l3 x y => ex_iadd (show decode mL_law.2.1 192 = .ok (.iadd, 1) by decide +kernel),
  fun d σ S l0 l1 l2 l3 x => ex_sald (by decide +kernel),
  fun d σ S l1 l2 l3 k => ex_aload_n (show decode mL_law.2.1 194 = .ok (.aload_n 0, 1) by decide +kernel) rfl,
  fun d σ S l0 l1 l2 x => ex_iload_n (show decode mL_law.2.1 195 = .ok (.iload_n 3, 1) by decide +kernel) rfl,
  fun d σ S l0 l1 l2 l3 => ex_iconst (show decode mL_law.2.1 196 = .ok (.iconst 2, 1) by decide +kernel) (by decide +kernel),
  fun d σ S l0 l1 l2 l3 x y => ex_iadd (show decode mL_law.2.1 197 = .ok (.iadd, 1) by decide +kernel),
  fun d σ S l0 l1 l2 l3 x => ex_sald (by decide +kernel),
  fun d σ S l1 l2 l3 k => ex_aload_n (show decode mL_law.2.1 199 = .ok (.aload_n 0, 1) by decide +kernel) rfl,
  fun d σ S l0 l1 l2 x => ex_iload_n (show decode mL_law.2.1 200 = .ok (.iload_n 3, 1) by decide +kernel) rfl,
  fun d σ S l0 l1 l2 l3 => ex_iconst (show decode mL_law.2.1 201 = .ok (.iconst 3, 1) by decide +kernel) (by decide +kernel),
  fun d σ S l0 l1 l2 l3 x y => ex_iadd (show decode mL_law.2.1 202 = .ok (.iadd, 1) by decide +kernel),
  fun d σ S l0 l1 l2 l3 x => ex_sald (by decide +kernel),
  fun d σ l0 l1 l2 l3 x0 x1 x2 => ex_iv (hs := [380, 381, 382, 383, 94]) (show decode mL_law.2.1 204 = .ok (.invokevirtual 13, 3) by decide +kernel) lkV_8_13 ⟨rfl, Nat.le_of_ble_eq_true rfl, Nat.le_of_ble_eq_true rfl, fun _ => rfl⟩ rfl rfl,
  fun d σ S l0 l1 l3 k => ex_aload_n (show decode mL_law.2.1 207 = .ok (.aload_n 2, 1) by decide +kernel) rfl,
  fun d σ S l1 l2 l3 k => ex_aload_n (show decode mL_law.2.1 208 = .ok (.aload_n 0, 1) by decide +kernel) rfl,
  fun d σ S l0 l1 l2 x => ex_iload_n (show decode mL_law.2.1 209 = .ok (.iload_n 3, 1) by decide +kernel) rfl,
  fun d σ S l0 l1 l2 l3 => ex_iconst (show decode mL_law.2.1 210 = .ok (.iconst 1, 1) by decide +kernel) (by decide +kernel),
  fun d σ S l0 l1 l2 l3 x y => ex_iadd (show decode mL_law.2.1 211 = .ok (.iadd, 1) by decide +kernel),
  fun d σ S l0 l1 l2 l3 x => ex_sald (by decide +kernel),
  fun d σ S l1 l2 l3 k => ex_aload_n (show decode mL_law.2.1 213 = .ok (.aload_n 0, 1) by decide +kernel) rfl,
  fun d σ S l0 l1 l2 x => ex_iload_n (show decode mL_law.2.1 214 = .ok (.iload_n 3, 1) by decide +kernel) rfl,
  fun d σ S l0 l1 l2 l3 => ex_iconst (show decode mL_law.2.1 215 = .ok (.iconst 2, 1) by decide +kernel) (by decide +kernel),
  fun d σ S l0 l1 l2 l3 x y => ex_iadd (show decode mL_law.2.1 216 = .ok (.iadd, 1) by decide +kernel),
  fun d σ S l0 l1 l2 l3 x => ex_sald (by decide +kernel),
  fun d σ S l1 l2 l3 k => ex_aload_n (show decode mL_law.2.1 218 = .ok (.aload_n 0, 1) by decide +kernel) rfl⟩
theorem kL_law_1 : (∀ (d : Nat) (σ : Sg) (S : List Value) (l0 l1 l2 : Value) (x : Int32), exec d mL_law 219 [l0, l1, l2, .int x] S σ = exec d mL_law 220 [l0, l1, l2, .int x] (.int x :: S) σ) ∧
  (∀ (d : Nat) (σ : Sg) (S : List Value) (l0 l1 l2 l3 : Value), exec d mL_law 220 [l0, l1, l2, l3] S σ = exec d mL_law 221 [l0, l1, l2, l3] (.int (nI 3) :: S) σ) ∧
  (∀ (d : Nat) (σ : Sg) (S : List Value) (l0 l1 l2 l3 : Value) (x y : Int32), exec d mL_law 221 [l0, l1, l2, l3] (.int y :: .int x :: S) σ = exec d mL_law 222 [l0, l1, l2, l3] (.int (x + y) :: S) σ) ∧
  (∀ (d : Nat) (σ : Sg) (S : List Value) (l0 l1 l2 l3 : Value) (x : Int32), exec d mL_law 222 [l0, l1, l2, l3] (.int x :: .ref 66 :: S) σ = if inb x (σ 67 0).toNatClampNeg = true then exec d mL_law 223 [l0, l1, l2, l3] (.int (σ 66 x.toNatClampNeg) :: S) σ else none) ∧
  (∀ (d : Nat) (σ : Sg) (l0 l1 l2 l3 : Value) (x0 x1 x2 x4 : Int32), exec d mL_law 223 [l0, l1, l2, l3] [.int x0, .int x1, .int x2, .ref 50, .int x4] σ = kb (cal d mX7_row [.ref 50, .int x2, .int x1, .int x0] σ) (fun rs σ2 => exec d mL_law 226 [l0, l1, l2, l3] (rs ++ [.int x4]) σ2)) ∧
  (∀ (d : Nat) (σ : Sg) (S : List Value) (l0 l1 l2 l3 : Value) (x y : Int32), exec d mL_law 226 [l0, l1, l2, l3] (.int y :: .int x :: S) σ = if x = y then exec d mL_law 1144 [l0, l1, l2, l3] S σ else exec d mL_law 229 [l0, l1, l2, l3] S σ) ∧
  (∀ (d : Nat) (σ : Sg) (S : List Value) (l0 l1 l2 l3 : Value), exec d mL_law 229 [l0, l1, l2, l3] S σ = exec d mL_law 230 [l0, l1, l2, l3] (.int (nI 0) :: S) σ) ∧
  (∀ (d : Nat) (σ : Sg) (l0 l1 l2 l3 : Value) (x : Int32), exec d mL_law 230 [l0, l1, l2, l3] [.int x] σ = if b01 x = true then some (some (.int x), σ) else none) ∧
  (∀ (d : Nat) (σ : Sg) (S : List Value) (l0 l2 l3 : Value) (k : Nat), exec d mL_law 231 [l0, .ref k, l2, l3] S σ = exec d mL_law 232 [l0, .ref k, l2, l3] (.ref k :: S) σ) ∧
  (∀ (d : Nat) (σ : Sg) (S : List Value) (l1 l2 l3 : Value) (k : Nat), exec d mL_law 232 [.ref k, l1, l2, l3] S σ = exec d mL_law 233 [.ref k, l1, l2, l3] (.ref k :: S) σ) ∧
  (∀ (d : Nat) (σ : Sg) (S : List Value) (l0 l1 l2 : Value) (x : Int32), exec d mL_law 233 [l0, l1, l2, .int x] S σ = exec d mL_law 234 [l0, l1, l2, .int x] (.int x :: S) σ) ∧
  (∀ (d : Nat) (σ : Sg) (S : List Value) (l0 l1 l2 l3 : Value), exec d mL_law 234 [l0, l1, l2, l3] S σ = exec d mL_law 235 [l0, l1, l2, l3] (.int (nI 1) :: S) σ) ∧
  (∀ (d : Nat) (σ : Sg) (S : List Value) (l0 l1 l2 l3 : Value) (x y : Int32), exec d mL_law 235 [l0, l1, l2, l3] (.int y :: .int x :: S) σ = exec d mL_law 236 [l0, l1, l2, l3] (.int (x + y) :: S) σ) ∧
  (∀ (d : Nat) (σ : Sg) (S : List Value) (l0 l1 l2 l3 : Value) (x : Int32), exec d mL_law 236 [l0, l1, l2, l3] (.int x :: .ref 66 :: S) σ = if inb x (σ 67 0).toNatClampNeg = true then exec d mL_law 237 [l0, l1, l2, l3] (.int (σ 66 x.toNatClampNeg) :: S) σ else none) ∧
  (∀ (d : Nat) (σ : Sg) (S : List Value) (l1 l2 l3 : Value) (k : Nat), exec d mL_law 237 [.ref k, l1, l2, l3] S σ = exec d mL_law 238 [.ref k, l1, l2, l3] (.ref k :: S) σ) ∧
  (∀ (d : Nat) (σ : Sg) (S : List Value) (l0 l1 l2 : Value) (x : Int32), exec d mL_law 238 [l0, l1, l2, .int x] S σ = exec d mL_law 239 [l0, l1, l2, .int x] (.int x :: S) σ) ∧
  (∀ (d : Nat) (σ : Sg) (S : List Value) (l0 l1 l2 l3 : Value), exec d mL_law 239 [l0, l1, l2, l3] S σ = exec d mL_law 240 [l0, l1, l2, l3] (.int (nI 2) :: S) σ) ∧
  (∀ (d : Nat) (σ : Sg) (S : List Value) (l0 l1 l2 l3 : Value) (x y : Int32), exec d mL_law 240 [l0, l1, l2, l3] (.int y :: .int x :: S) σ = exec d mL_law 241 [l0, l1, l2, l3] (.int (x + y) :: S) σ) ∧
  (∀ (d : Nat) (σ : Sg) (S : List Value) (l0 l1 l2 l3 : Value) (x : Int32), exec d mL_law 241 [l0, l1, l2, l3] (.int x :: .ref 66 :: S) σ = if inb x (σ 67 0).toNatClampNeg = true then exec d mL_law 242 [l0, l1, l2, l3] (.int (σ 66 x.toNatClampNeg) :: S) σ else none) ∧
  (∀ (d : Nat) (σ : Sg) (S : List Value) (l1 l2 l3 : Value) (k : Nat), exec d mL_law 242 [.ref k, l1, l2, l3] S σ = exec d mL_law 243 [.ref k, l1, l2, l3] (.ref k :: S) σ) ∧
  (∀ (d : Nat) (σ : Sg) (S : List Value) (l0 l1 l2 : Value) (x : Int32), exec d mL_law 243 [l0, l1, l2, .int x] S σ = exec d mL_law 244 [l0, l1, l2, .int x] (.int x :: S) σ) ∧
  (∀ (d : Nat) (σ : Sg) (S : List Value) (l0 l1 l2 l3 : Value), exec d mL_law 244 [l0, l1, l2, l3] S σ = exec d mL_law 245 [l0, l1, l2, l3] (.int (nI 3) :: S) σ) ∧
  (∀ (d : Nat) (σ : Sg) (S : List Value) (l0 l1 l2 l3 : Value) (x y : Int32), exec d mL_law 245 [l0, l1, l2, l3] (.int y :: .int x :: S) σ = exec d mL_law 246 [l0, l1, l2, l3] (.int (x + y) :: S) σ) ∧
  (∀ (d : Nat) (σ : Sg) (S : List Value) (l0 l1 l2 l3 : Value) (x : Int32), exec d mL_law 246 [l0, l1, l2, l3] (.int x :: .ref 66 :: S) σ = if inb x (σ 67 0).toNatClampNeg = true then exec d mL_law 247 [l0, l1, l2, l3] (.int (σ 66 x.toNatClampNeg) :: S) σ else none) ∧
  (∀ (d : Nat) (σ : Sg) (l0 l1 l2 l3 : Value) (x0 x1 x2 : Int32), exec d mL_law 247 [l0, l1, l2, l3] [.int x0, .int x1, .int x2, .ref 0] σ = kb (cal d mX6_set [.ref 0, .int x2, .int x1, .int x0] σ) (fun rs σ2 => exec d mL_law 250 [l0, l1, l2, l3] (rs ++ []) σ2)) ∧
  (∀ (d : Nat) (σ : Sg) (S : List Value) (l0 l1 l3 : Value) (k : Nat), exec d mL_law 250 [l0, l1, .ref k, l3] S σ = exec d mL_law 251 [l0, l1, .ref k, l3] (.ref k :: S) σ) ∧
  (∀ (d : Nat) (σ : Sg) (S : List Value) (l1 l2 l3 : Value) (k : Nat), exec d mL_law 251 [.ref k, l1, l2, l3] S σ = exec d mL_law 252 [.ref k, l1, l2, l3] (.ref k :: S) σ) ∧
  (∀ (d : Nat) (σ : Sg) (S : List Value) (l0 l1 l2 : Value) (x : Int32), exec d mL_law 252 [l0, l1, l2, .int x] S σ = exec d mL_law 253 [l0, l1, l2, .int x] (.int x :: S) σ) ∧
  (∀ (d : Nat) (σ : Sg) (S : List Value) (l0 l1 l2 l3 : Value), exec d mL_law 253 [l0, l1, l2, l3] S σ = exec d mL_law 254 [l0, l1, l2, l3] (.int (nI 1) :: S) σ) ∧
  (∀ (d : Nat) (σ : Sg) (S : List Value) (l0 l1 l2 l3 : Value) (x y : Int32), exec d mL_law 254 [l0, l1, l2, l3] (.int y :: .int x :: S) σ = exec d mL_law 255 [l0, l1, l2, l3] (.int (x + y) :: S) σ) ∧
  (∀ (d : Nat) (σ : Sg) (S : List Value) (l0 l1 l2 l3 : Value) (x : Int32), exec d mL_law 255 [l0, l1, l2, l3] (.int x :: .ref 66 :: S) σ = if inb x (σ 67 0).toNatClampNeg = true then exec d mL_law 256 [l0, l1, l2, l3] (.int (σ 66 x.toNatClampNeg) :: S) σ else none) ∧
  (∀ (d : Nat) (σ : Sg) (S : List Value) (l1 l2 l3 : Value) (k : Nat), exec d mL_law 256 [.ref k, l1, l2, l3] S σ = exec d mL_law 257 [.ref k, l1, l2, l3] (.ref k :: S) σ) ∧
  (∀ (d : Nat) (σ : Sg) (S : List Value) (l0 l1 l2 : Value) (x : Int32), exec d mL_law 257 [l0, l1, l2, .int x] S σ = exec d mL_law 258 [l0, l1, l2, .int x] (.int x :: S) σ) ∧
  (∀ (d : Nat) (σ : Sg) (S : List Value) (l0 l1 l2 l3 : Value), exec d mL_law 258 [l0, l1, l2, l3] S σ = exec d mL_law 259 [l0, l1, l2, l3] (.int (nI 2) :: S) σ) ∧
  (∀ (d : Nat) (σ : Sg) (S : List Value) (l0 l1 l2 l3 : Value) (x y : Int32), exec d mL_law 259 [l0, l1, l2, l3] (.int y :: .int x :: S) σ = exec d mL_law 260 [l0, l1, l2, l3] (.int (x + y) :: S) σ) ∧
  (∀ (d : Nat) (σ : Sg) (S : List Value) (l0 l1 l2 l3 : Value) (x : Int32), exec d mL_law 260 [l0, l1, l2, l3] (.int x :: .ref 66 :: S) σ = if inb x (σ 67 0).toNatClampNeg = true then exec d mL_law 261 [l0, l1, l2, l3] (.int (σ 66 x.toNatClampNeg) :: S) σ else none) ∧
  (∀ (d : Nat) (σ : Sg) (S : List Value) (l1 l2 l3 : Value) (k : Nat), exec d mL_law 261 [.ref k, l1, l2, l3] S σ = exec d mL_law 262 [.ref k, l1, l2, l3] (.ref k :: S) σ) ∧
  (∀ (d : Nat) (σ : Sg) (S : List Value) (l0 l1 l2 : Value) (x : Int32), exec d mL_law 262 [l0, l1, l2, .int x] S σ = exec d mL_law 263 [l0, l1, l2, .int x] (.int x :: S) σ) ∧
  (∀ (d : Nat) (σ : Sg) (S : List Value) (l0 l1 l2 l3 : Value), exec d mL_law 263 [l0, l1, l2, l3] S σ = exec d mL_law 264 [l0, l1, l2, l3] (.int (nI 3) :: S) σ) ∧
  (∀ (d : Nat) (σ : Sg) (S : List Value) (l0 l1 l2 l3 : Value) (x y : Int32), exec d mL_law 264 [l0, l1, l2, l3] (.int y :: .int x :: S) σ = exec d mL_law 265 [l0, l1, l2, l3] (.int (x + y) :: S) σ) :=
  ⟨fun d σ S l0 l1 l2 x => ex_iload_n (show decode mL_law.2.1 219 = .ok (.iload_n 3, 1) by decide +kernel) rfl,
  fun d σ S l0 l1 l2 l3 => ex_iconst (show decode mL_law.2.1 220 = .ok (.iconst 3, 1) by decide +kernel) (by decide +kernel),
  fun d σ S l0 l1 l2 l3 x y => ex_iadd (show decode mL_law.2.1 221 = .ok (.iadd, 1) by decide +kernel),
  fun d σ S l0 l1 l2 l3 x => ex_sald (by decide +kernel),
  fun d σ l0 l1 l2 l3 x0 x1 x2 x4 => ex_iv (hs := [912, 913, 914, 915, 101]) (show decode mL_law.2.1 223 = .ok (.invokevirtual 17, 3) by decide +kernel) lkV_8_17 ⟨rfl, Nat.le_of_ble_eq_true rfl, Nat.le_of_ble_eq_true rfl, fun _ => rfl⟩ rfl rfl,
  fun d σ S l0 l1 l2 l3 x y => ex_ceq (show decode mL_law.2.1 226 = .ok (.if_icmp .eq 918, 3) by decide +kernel) (by decide),
  fun d σ S l0 l1 l2 l3 => ex_iconst (show decode mL_law.2.1 229 = .ok (.iconst 0, 1) by decide +kernel) (by decide +kernel),
  fun d σ l0 l1 l2 l3 x => ex_zret (show decode mL_law.2.1 230 = .ok (.ireturn, 1) by decide +kernel) rfl,
  fun d σ S l0 l2 l3 k => ex_aload_n (show decode mL_law.2.1 231 = .ok (.aload_n 1, 1) by decide +kernel) rfl,
  fun d σ S l1 l2 l3 k => ex_aload_n (show decode mL_law.2.1 232 = .ok (.aload_n 0, 1) by decide +kernel) rfl,
  fun d σ S l0 l1 l2 x => ex_iload_n (show decode mL_law.2.1 233 = .ok (.iload_n 3, 1) by decide +kernel) rfl,
  fun d σ S l0 l1 l2 l3 => ex_iconst (show decode mL_law.2.1 234 = .ok (.iconst 1, 1) by decide +kernel) (by decide +kernel),
  fun d σ S l0 l1 l2 l3 x y => ex_iadd (show decode mL_law.2.1 235 = .ok (.iadd, 1) by decide +kernel),
  fun d σ S l0 l1 l2 l3 x => ex_sald (by decide +kernel),
  fun d σ S l1 l2 l3 k => ex_aload_n (show decode mL_law.2.1 237 = .ok (.aload_n 0, 1) by decide +kernel) rfl,
  fun d σ S l0 l1 l2 x => ex_iload_n (show decode mL_law.2.1 238 = .ok (.iload_n 3, 1) by decide +kernel) rfl,
  fun d σ S l0 l1 l2 l3 => ex_iconst (show decode mL_law.2.1 239 = .ok (.iconst 2, 1) by decide +kernel) (by decide +kernel),
  fun d σ S l0 l1 l2 l3 x y => ex_iadd (show decode mL_law.2.1 240 = .ok (.iadd, 1) by decide +kernel),
  fun d σ S l0 l1 l2 l3 x => ex_sald (by decide +kernel),
  fun d σ S l1 l2 l3 k => ex_aload_n (show decode mL_law.2.1 242 = .ok (.aload_n 0, 1) by decide +kernel) rfl,
  fun d σ S l0 l1 l2 x => ex_iload_n (show decode mL_law.2.1 243 = .ok (.iload_n 3, 1) by decide +kernel) rfl,
  fun d σ S l0 l1 l2 l3 => ex_iconst (show decode mL_law.2.1 244 = .ok (.iconst 3, 1) by decide +kernel) (by decide +kernel),
  fun d σ S l0 l1 l2 l3 x y => ex_iadd (show decode mL_law.2.1 245 = .ok (.iadd, 1) by decide +kernel),
  fun d σ S l0 l1 l2 l3 x => ex_sald (by decide +kernel),
  fun d σ l0 l1 l2 l3 x0 x1 x2 => ex_iv (hs := [401, 402, 403, 404, 94]) (show decode mL_law.2.1 247 = .ok (.invokevirtual 18, 3) by decide +kernel) lkV_8_18 ⟨rfl, Nat.le_of_ble_eq_true rfl, Nat.le_of_ble_eq_true rfl, fun _ => rfl⟩ rfl rfl,
  fun d σ S l0 l1 l3 k => ex_aload_n (show decode mL_law.2.1 250 = .ok (.aload_n 2, 1) by decide +kernel) rfl,
  fun d σ S l1 l2 l3 k => ex_aload_n (show decode mL_law.2.1 251 = .ok (.aload_n 0, 1) by decide +kernel) rfl,
  fun d σ S l0 l1 l2 x => ex_iload_n (show decode mL_law.2.1 252 = .ok (.iload_n 3, 1) by decide +kernel) rfl,
  fun d σ S l0 l1 l2 l3 => ex_iconst (show decode mL_law.2.1 253 = .ok (.iconst 1, 1) by decide +kernel) (by decide +kernel),
  fun d σ S l0 l1 l2 l3 x y => ex_iadd (show decode mL_law.2.1 254 = .ok (.iadd, 1) by decide +kernel),
  fun d σ S l0 l1 l2 l3 x => ex_sald (by decide +kernel),
  fun d σ S l1 l2 l3 k => ex_aload_n (show decode mL_law.2.1 256 = .ok (.aload_n 0, 1) by decide +kernel) rfl,
  fun d σ S l0 l1 l2 x => ex_iload_n (show decode mL_law.2.1 257 = .ok (.iload_n 3, 1) by decide +kernel) rfl,
  fun d σ S l0 l1 l2 l3 => ex_iconst (show decode mL_law.2.1 258 = .ok (.iconst 2, 1) by decide +kernel) (by decide +kernel),
  fun d σ S l0 l1 l2 l3 x y => ex_iadd (show decode mL_law.2.1 259 = .ok (.iadd, 1) by decide +kernel),
  fun d σ S l0 l1 l2 l3 x => ex_sald (by decide +kernel),
  fun d σ S l1 l2 l3 k => ex_aload_n (show decode mL_law.2.1 261 = .ok (.aload_n 0, 1) by decide +kernel) rfl,
  fun d σ S l0 l1 l2 x => ex_iload_n (show decode mL_law.2.1 262 = .ok (.iload_n 3, 1) by decide +kernel) rfl,
  fun d σ S l0 l1 l2 l3 => ex_iconst (show decode mL_law.2.1 263 = .ok (.iconst 3, 1) by decide +kernel) (by decide +kernel),
  fun d σ S l0 l1 l2 l3 x y => ex_iadd (show decode mL_law.2.1 264 = .ok (.iadd, 1) by decide +kernel)⟩
theorem kL_law_2 : (∀ (d : Nat) (σ : Sg) (S : List Value) (l0 l1 l2 l3 : Value) (x : Int32), exec d mL_law 265 [l0, l1, l2, l3] (.int x :: .ref 66 :: S) σ = if inb x (σ 67 0).toNatClampNeg = true then exec d mL_law 266 [l0, l1, l2, l3] (.int (σ 66 x.toNatClampNeg) :: S) σ else none) ∧
  (∀ (d : Nat) (σ : Sg) (l0 l1 l2 l3 : Value) (x0 x1 x2 x4 : Int32), exec d mL_law 266 [l0, l1, l2, l3] [.int x0, .int x1, .int x2, .ref 50, .int x4] σ = kb (cal d mX7_set [.ref 50, .int x2, .int x1, .int x0] σ) (fun rs σ2 => exec d mL_law 269 [l0, l1, l2, l3] (rs ++ [.int x4]) σ2)) ∧
  (∀ (d : Nat) (σ : Sg) (S : List Value) (l0 l1 l2 l3 : Value) (x y : Int32), exec d mL_law 269 [l0, l1, l2, l3] (.int y :: .int x :: S) σ = if x = y then exec d mL_law 1144 [l0, l1, l2, l3] S σ else exec d mL_law 272 [l0, l1, l2, l3] S σ) ∧
  (∀ (d : Nat) (σ : Sg) (S : List Value) (l0 l1 l2 l3 : Value), exec d mL_law 272 [l0, l1, l2, l3] S σ = exec d mL_law 273 [l0, l1, l2, l3] (.int (nI 0) :: S) σ) ∧
  (∀ (d : Nat) (σ : Sg) (l0 l1 l2 l3 : Value) (x : Int32), exec d mL_law 273 [l0, l1, l2, l3] [.int x] σ = if b01 x = true then some (some (.int x), σ) else none) ∧
  (∀ (d : Nat) (σ : Sg) (S : List Value) (l0 l2 l3 : Value) (k : Nat), exec d mL_law 274 [l0, .ref k, l2, l3] S σ = exec d mL_law 275 [l0, .ref k, l2, l3] (.ref k :: S) σ) ∧
  (∀ (d : Nat) (σ : Sg) (S : List Value) (l1 l2 l3 : Value) (k : Nat), exec d mL_law 275 [.ref k, l1, l2, l3] S σ = exec d mL_law 276 [.ref k, l1, l2, l3] (.ref k :: S) σ) ∧
  (∀ (d : Nat) (σ : Sg) (S : List Value) (l0 l1 l2 : Value) (x : Int32), exec d mL_law 276 [l0, l1, l2, .int x] S σ = exec d mL_law 277 [l0, l1, l2, .int x] (.int x :: S) σ) ∧
  (∀ (d : Nat) (σ : Sg) (S : List Value) (l0 l1 l2 l3 : Value), exec d mL_law 277 [l0, l1, l2, l3] S σ = exec d mL_law 278 [l0, l1, l2, l3] (.int (nI 1) :: S) σ) ∧
  (∀ (d : Nat) (σ : Sg) (S : List Value) (l0 l1 l2 l3 : Value) (x y : Int32), exec d mL_law 278 [l0, l1, l2, l3] (.int y :: .int x :: S) σ = exec d mL_law 279 [l0, l1, l2, l3] (.int (x + y) :: S) σ) ∧
  (∀ (d : Nat) (σ : Sg) (S : List Value) (l0 l1 l2 l3 : Value) (x : Int32), exec d mL_law 279 [l0, l1, l2, l3] (.int x :: .ref 66 :: S) σ = if inb x (σ 67 0).toNatClampNeg = true then exec d mL_law 280 [l0, l1, l2, l3] (.int (σ 66 x.toNatClampNeg) :: S) σ else none) ∧
  (∀ (d : Nat) (σ : Sg) (S : List Value) (l1 l2 l3 : Value) (k : Nat), exec d mL_law 280 [.ref k, l1, l2, l3] S σ = exec d mL_law 281 [.ref k, l1, l2, l3] (.ref k :: S) σ) ∧
  (∀ (d : Nat) (σ : Sg) (S : List Value) (l0 l1 l2 : Value) (x : Int32), exec d mL_law 281 [l0, l1, l2, .int x] S σ = exec d mL_law 282 [l0, l1, l2, .int x] (.int x :: S) σ) ∧
  (∀ (d : Nat) (σ : Sg) (S : List Value) (l0 l1 l2 l3 : Value), exec d mL_law 282 [l0, l1, l2, l3] S σ = exec d mL_law 283 [l0, l1, l2, l3] (.int (nI 2) :: S) σ) ∧
  (∀ (d : Nat) (σ : Sg) (S : List Value) (l0 l1 l2 l3 : Value) (x y : Int32), exec d mL_law 283 [l0, l1, l2, l3] (.int y :: .int x :: S) σ = exec d mL_law 284 [l0, l1, l2, l3] (.int (x + y) :: S) σ) ∧
  (∀ (d : Nat) (σ : Sg) (S : List Value) (l0 l1 l2 l3 : Value) (x : Int32), exec d mL_law 284 [l0, l1, l2, l3] (.int x :: .ref 66 :: S) σ = if inb x (σ 67 0).toNatClampNeg = true then exec d mL_law 285 [l0, l1, l2, l3] (.int (σ 66 x.toNatClampNeg) :: S) σ else none) ∧
  (∀ (d : Nat) (σ : Sg) (S : List Value) (l1 l2 l3 : Value) (k : Nat), exec d mL_law 285 [.ref k, l1, l2, l3] S σ = exec d mL_law 286 [.ref k, l1, l2, l3] (.ref k :: S) σ) ∧
  (∀ (d : Nat) (σ : Sg) (S : List Value) (l0 l1 l2 : Value) (x : Int32), exec d mL_law 286 [l0, l1, l2, .int x] S σ = exec d mL_law 287 [l0, l1, l2, .int x] (.int x :: S) σ) ∧
  (∀ (d : Nat) (σ : Sg) (S : List Value) (l0 l1 l2 l3 : Value), exec d mL_law 287 [l0, l1, l2, l3] S σ = exec d mL_law 288 [l0, l1, l2, l3] (.int (nI 3) :: S) σ) ∧
  (∀ (d : Nat) (σ : Sg) (S : List Value) (l0 l1 l2 l3 : Value) (x y : Int32), exec d mL_law 288 [l0, l1, l2, l3] (.int y :: .int x :: S) σ = exec d mL_law 289 [l0, l1, l2, l3] (.int (x + y) :: S) σ) ∧
  (∀ (d : Nat) (σ : Sg) (S : List Value) (l0 l1 l2 l3 : Value) (x : Int32), exec d mL_law 289 [l0, l1, l2, l3] (.int x :: .ref 66 :: S) σ = if inb x (σ 67 0).toNatClampNeg = true then exec d mL_law 290 [l0, l1, l2, l3] (.int (σ 66 x.toNatClampNeg) :: S) σ else none) ∧
  (∀ (d : Nat) (σ : Sg) (S : List Value) (l1 l2 l3 : Value) (k : Nat), exec d mL_law 290 [.ref k, l1, l2, l3] S σ = exec d mL_law 291 [.ref k, l1, l2, l3] (.ref k :: S) σ) ∧
  (∀ (d : Nat) (σ : Sg) (S : List Value) (l0 l1 l2 : Value) (x : Int32), exec d mL_law 291 [l0, l1, l2, .int x] S σ = exec d mL_law 292 [l0, l1, l2, .int x] (.int x :: S) σ) ∧
  (∀ (d : Nat) (σ : Sg) (S : List Value) (l0 l1 l2 l3 : Value), exec d mL_law 292 [l0, l1, l2, l3] S σ = exec d mL_law 293 [l0, l1, l2, l3] (.int (nI 4) :: S) σ) ∧
  (∀ (d : Nat) (σ : Sg) (S : List Value) (l0 l1 l2 l3 : Value) (x y : Int32), exec d mL_law 293 [l0, l1, l2, l3] (.int y :: .int x :: S) σ = exec d mL_law 294 [l0, l1, l2, l3] (.int (x + y) :: S) σ) ∧
  (∀ (d : Nat) (σ : Sg) (S : List Value) (l0 l1 l2 l3 : Value) (x : Int32), exec d mL_law 294 [l0, l1, l2, l3] (.int x :: .ref 66 :: S) σ = if inb x (σ 67 0).toNatClampNeg = true then exec d mL_law 295 [l0, l1, l2, l3] (.int (σ 66 x.toNatClampNeg) :: S) σ else none) ∧
  (∀ (d : Nat) (σ : Sg) (S : List Value) (l1 l2 l3 : Value) (k : Nat), exec d mL_law 295 [.ref k, l1, l2, l3] S σ = exec d mL_law 296 [.ref k, l1, l2, l3] (.ref k :: S) σ) ∧
  (∀ (d : Nat) (σ : Sg) (S : List Value) (l0 l1 l2 : Value) (x : Int32), exec d mL_law 296 [l0, l1, l2, .int x] S σ = exec d mL_law 297 [l0, l1, l2, .int x] (.int x :: S) σ) ∧
  (∀ (d : Nat) (σ : Sg) (S : List Value) (l0 l1 l2 l3 : Value), exec d mL_law 297 [l0, l1, l2, l3] S σ = exec d mL_law 298 [l0, l1, l2, l3] (.int (nI 5) :: S) σ) ∧
  (∀ (d : Nat) (σ : Sg) (S : List Value) (l0 l1 l2 l3 : Value) (x y : Int32), exec d mL_law 298 [l0, l1, l2, l3] (.int y :: .int x :: S) σ = exec d mL_law 299 [l0, l1, l2, l3] (.int (x + y) :: S) σ) ∧
  (∀ (d : Nat) (σ : Sg) (S : List Value) (l0 l1 l2 l3 : Value) (x : Int32), exec d mL_law 299 [l0, l1, l2, l3] (.int x :: .ref 66 :: S) σ = if inb x (σ 67 0).toNatClampNeg = true then exec d mL_law 300 [l0, l1, l2, l3] (.int (σ 66 x.toNatClampNeg) :: S) σ else none) ∧
  (∀ (d : Nat) (σ : Sg) (l0 l1 l2 l3 : Value) (x0 x1 x2 x3 x4 : Int32), exec d mL_law 300 [l0, l1, l2, l3] [.int x0, .int x1, .int x2, .int x3, .int x4, .ref 0] σ = kb (cal d mX6_copy [.ref 0, .int x4, .int x3, .int x2, .int x1, .int x0] σ) (fun rs σ2 => exec d mL_law 303 [l0, l1, l2, l3] (rs ++ []) σ2)) ∧
  (∀ (d : Nat) (σ : Sg) (S : List Value) (l0 l1 l3 : Value) (k : Nat), exec d mL_law 303 [l0, l1, .ref k, l3] S σ = exec d mL_law 304 [l0, l1, .ref k, l3] (.ref k :: S) σ) ∧
  (∀ (d : Nat) (σ : Sg) (S : List Value) (l1 l2 l3 : Value) (k : Nat), exec d mL_law 304 [.ref k, l1, l2, l3] S σ = exec d mL_law 305 [.ref k, l1, l2, l3] (.ref k :: S) σ) ∧
  (∀ (d : Nat) (σ : Sg) (S : List Value) (l0 l1 l2 : Value) (x : Int32), exec d mL_law 305 [l0, l1, l2, .int x] S σ = exec d mL_law 306 [l0, l1, l2, .int x] (.int x :: S) σ) ∧
  (∀ (d : Nat) (σ : Sg) (S : List Value) (l0 l1 l2 l3 : Value), exec d mL_law 306 [l0, l1, l2, l3] S σ = exec d mL_law 307 [l0, l1, l2, l3] (.int (nI 1) :: S) σ) ∧
  (∀ (d : Nat) (σ : Sg) (S : List Value) (l0 l1 l2 l3 : Value) (x y : Int32), exec d mL_law 307 [l0, l1, l2, l3] (.int y :: .int x :: S) σ = exec d mL_law 308 [l0, l1, l2, l3] (.int (x + y) :: S) σ) ∧
  (∀ (d : Nat) (σ : Sg) (S : List Value) (l0 l1 l2 l3 : Value) (x : Int32), exec d mL_law 308 [l0, l1, l2, l3] (.int x :: .ref 66 :: S) σ = if inb x (σ 67 0).toNatClampNeg = true then exec d mL_law 309 [l0, l1, l2, l3] (.int (σ 66 x.toNatClampNeg) :: S) σ else none) ∧
  (∀ (d : Nat) (σ : Sg) (S : List Value) (l1 l2 l3 : Value) (k : Nat), exec d mL_law 309 [.ref k, l1, l2, l3] S σ = exec d mL_law 310 [.ref k, l1, l2, l3] (.ref k :: S) σ) ∧
  (∀ (d : Nat) (σ : Sg) (S : List Value) (l0 l1 l2 : Value) (x : Int32), exec d mL_law 310 [l0, l1, l2, .int x] S σ = exec d mL_law 311 [l0, l1, l2, .int x] (.int x :: S) σ) :=
  ⟨fun d σ S l0 l1 l2 l3 x => ex_sald (by decide +kernel),
  fun d σ l0 l1 l2 l3 x0 x1 x2 x4 => ex_iv (hs := [934, 935, 936, 937, 101]) (show decode mL_law.2.1 266 = .ok (.invokevirtual 21, 3) by decide +kernel) lkV_8_21 ⟨rfl, Nat.le_of_ble_eq_true rfl, Nat.le_of_ble_eq_true rfl, fun _ => rfl⟩ rfl rfl,
  fun d σ S l0 l1 l2 l3 x y => ex_ceq (show decode mL_law.2.1 269 = .ok (.if_icmp .eq 875, 3) by decide +kernel) (by decide),
  fun d σ S l0 l1 l2 l3 => ex_iconst (show decode mL_law.2.1 272 = .ok (.iconst 0, 1) by decide +kernel) (by decide +kernel),
  fun d σ l0 l1 l2 l3 x => ex_zret (show decode mL_law.2.1 273 = .ok (.ireturn, 1) by decide +kernel) rfl,
  fun d σ S l0 l2 l3 k => ex_aload_n (show decode mL_law.2.1 274 = .ok (.aload_n 1, 1) by decide +kernel) rfl,
  fun d σ S l1 l2 l3 k => ex_aload_n (show decode mL_law.2.1 275 = .ok (.aload_n 0, 1) by decide +kernel) rfl,
  fun d σ S l0 l1 l2 x => ex_iload_n (show decode mL_law.2.1 276 = .ok (.iload_n 3, 1) by decide +kernel) rfl,
  fun d σ S l0 l1 l2 l3 => ex_iconst (show decode mL_law.2.1 277 = .ok (.iconst 1, 1) by decide +kernel) (by decide +kernel),
  fun d σ S l0 l1 l2 l3 x y => ex_iadd (show decode mL_law.2.1 278 = .ok (.iadd, 1) by decide +kernel),
  fun d σ S l0 l1 l2 l3 x => ex_sald (by decide +kernel),
  fun d σ S l1 l2 l3 k => ex_aload_n (show decode mL_law.2.1 280 = .ok (.aload_n 0, 1) by decide +kernel) rfl,
  fun d σ S l0 l1 l2 x => ex_iload_n (show decode mL_law.2.1 281 = .ok (.iload_n 3, 1) by decide +kernel) rfl,
  fun d σ S l0 l1 l2 l3 => ex_iconst (show decode mL_law.2.1 282 = .ok (.iconst 2, 1) by decide +kernel) (by decide +kernel),
  fun d σ S l0 l1 l2 l3 x y => ex_iadd (show decode mL_law.2.1 283 = .ok (.iadd, 1) by decide +kernel),
  fun d σ S l0 l1 l2 l3 x => ex_sald (by decide +kernel),
  fun d σ S l1 l2 l3 k => ex_aload_n (show decode mL_law.2.1 285 = .ok (.aload_n 0, 1) by decide +kernel) rfl,
  fun d σ S l0 l1 l2 x => ex_iload_n (show decode mL_law.2.1 286 = .ok (.iload_n 3, 1) by decide +kernel) rfl,
  fun d σ S l0 l1 l2 l3 => ex_iconst (show decode mL_law.2.1 287 = .ok (.iconst 3, 1) by decide +kernel) (by decide +kernel),
  fun d σ S l0 l1 l2 l3 x y => ex_iadd (show decode mL_law.2.1 288 = .ok (.iadd, 1) by decide +kernel),
  fun d σ S l0 l1 l2 l3 x => ex_sald (by decide +kernel),
  fun d σ S l1 l2 l3 k => ex_aload_n (show decode mL_law.2.1 290 = .ok (.aload_n 0, 1) by decide +kernel) rfl,
  fun d σ S l0 l1 l2 x => ex_iload_n (show decode mL_law.2.1 291 = .ok (.iload_n 3, 1) by decide +kernel) rfl,
  fun d σ S l0 l1 l2 l3 => ex_iconst (show decode mL_law.2.1 292 = .ok (.iconst 4, 1) by decide +kernel) (by decide +kernel),
  fun d σ S l0 l1 l2 l3 x y => ex_iadd (show decode mL_law.2.1 293 = .ok (.iadd, 1) by decide +kernel),
  fun d σ S l0 l1 l2 l3 x => ex_sald (by decide +kernel),
  fun d σ S l1 l2 l3 k => ex_aload_n (show decode mL_law.2.1 295 = .ok (.aload_n 0, 1) by decide +kernel) rfl,
  fun d σ S l0 l1 l2 x => ex_iload_n (show decode mL_law.2.1 296 = .ok (.iload_n 3, 1) by decide +kernel) rfl,
  fun d σ S l0 l1 l2 l3 => ex_iconst (show decode mL_law.2.1 297 = .ok (.iconst 5, 1) by decide +kernel) (by decide +kernel),
  fun d σ S l0 l1 l2 l3 x y => ex_iadd (show decode mL_law.2.1 298 = .ok (.iadd, 1) by decide +kernel),
  fun d σ S l0 l1 l2 l3 x => ex_sald (by decide +kernel),
  fun d σ l0 l1 l2 l3 x0 x1 x2 x3 x4 => ex_iv (hs := [413, 414, 415, 416, 94]) (show decode mL_law.2.1 300 = .ok (.invokevirtual 22, 3) by decide +kernel) lkV_8_22 ⟨rfl, Nat.le_of_ble_eq_true rfl, Nat.le_of_ble_eq_true rfl, fun _ => rfl⟩ rfl rfl,
  fun d σ S l0 l1 l3 k => ex_aload_n (show decode mL_law.2.1 303 = .ok (.aload_n 2, 1) by decide +kernel) rfl,
  fun d σ S l1 l2 l3 k => ex_aload_n (show decode mL_law.2.1 304 = .ok (.aload_n 0, 1) by decide +kernel) rfl,
  fun d σ S l0 l1 l2 x => ex_iload_n (show decode mL_law.2.1 305 = .ok (.iload_n 3, 1) by decide +kernel) rfl,
  fun d σ S l0 l1 l2 l3 => ex_iconst (show decode mL_law.2.1 306 = .ok (.iconst 1, 1) by decide +kernel) (by decide +kernel),
  fun d σ S l0 l1 l2 l3 x y => ex_iadd (show decode mL_law.2.1 307 = .ok (.iadd, 1) by decide +kernel),
  fun d σ S l0 l1 l2 l3 x => ex_sald (by decide +kernel),
  fun d σ S l1 l2 l3 k => ex_aload_n (show decode mL_law.2.1 309 = .ok (.aload_n 0, 1) by decide +kernel) rfl,
  fun d σ S l0 l1 l2 x => ex_iload_n (show decode mL_law.2.1 310 = .ok (.iload_n 3, 1) by decide +kernel) rfl⟩
theorem kL_law_3 : (∀ (d : Nat) (σ : Sg) (S : List Value) (l0 l1 l2 l3 : Value), exec d mL_law 311 [l0, l1, l2, l3] S σ = exec d mL_law 312 [l0, l1, l2, l3] (.int (nI 2) :: S) σ) ∧
  (∀ (d : Nat) (σ : Sg) (S : List Value) (l0 l1 l2 l3 : Value) (x y : Int32), exec d mL_law 312 [l0, l1, l2, l3] (.int y :: .int x :: S) σ = exec d mL_law 313 [l0, l1, l2, l3] (.int (x + y) :: S) σ) ∧
  (∀ (d : Nat) (σ : Sg) (S : List Value) (l0 l1 l2 l3 : Value) (x : Int32), exec d mL_law 313 [l0, l1, l2, l3] (.int x :: .ref 66 :: S) σ = if inb x (σ 67 0).toNatClampNeg = true then exec d mL_law 314 [l0, l1, l2, l3] (.int (σ 66 x.toNatClampNeg) :: S) σ else none) ∧
  (∀ (d : Nat) (σ : Sg) (S : List Value) (l1 l2 l3 : Value) (k : Nat), exec d mL_law 314 [.ref k, l1, l2, l3] S σ = exec d mL_law 315 [.ref k, l1, l2, l3] (.ref k :: S) σ) ∧
  (∀ (d : Nat) (σ : Sg) (S : List Value) (l0 l1 l2 : Value) (x : Int32), exec d mL_law 315 [l0, l1, l2, .int x] S σ = exec d mL_law 316 [l0, l1, l2, .int x] (.int x :: S) σ) ∧
  (∀ (d : Nat) (σ : Sg) (S : List Value) (l0 l1 l2 l3 : Value), exec d mL_law 316 [l0, l1, l2, l3] S σ = exec d mL_law 317 [l0, l1, l2, l3] (.int (nI 3) :: S) σ) ∧
  (∀ (d : Nat) (σ : Sg) (S : List Value) (l0 l1 l2 l3 : Value) (x y : Int32), exec d mL_law 317 [l0, l1, l2, l3] (.int y :: .int x :: S) σ = exec d mL_law 318 [l0, l1, l2, l3] (.int (x + y) :: S) σ) ∧
  (∀ (d : Nat) (σ : Sg) (S : List Value) (l0 l1 l2 l3 : Value) (x : Int32), exec d mL_law 318 [l0, l1, l2, l3] (.int x :: .ref 66 :: S) σ = if inb x (σ 67 0).toNatClampNeg = true then exec d mL_law 319 [l0, l1, l2, l3] (.int (σ 66 x.toNatClampNeg) :: S) σ else none) ∧
  (∀ (d : Nat) (σ : Sg) (S : List Value) (l1 l2 l3 : Value) (k : Nat), exec d mL_law 319 [.ref k, l1, l2, l3] S σ = exec d mL_law 320 [.ref k, l1, l2, l3] (.ref k :: S) σ) ∧
  (∀ (d : Nat) (σ : Sg) (S : List Value) (l0 l1 l2 : Value) (x : Int32), exec d mL_law 320 [l0, l1, l2, .int x] S σ = exec d mL_law 321 [l0, l1, l2, .int x] (.int x :: S) σ) ∧
  (∀ (d : Nat) (σ : Sg) (S : List Value) (l0 l1 l2 l3 : Value), exec d mL_law 321 [l0, l1, l2, l3] S σ = exec d mL_law 322 [l0, l1, l2, l3] (.int (nI 4) :: S) σ) ∧
  (∀ (d : Nat) (σ : Sg) (S : List Value) (l0 l1 l2 l3 : Value) (x y : Int32), exec d mL_law 322 [l0, l1, l2, l3] (.int y :: .int x :: S) σ = exec d mL_law 323 [l0, l1, l2, l3] (.int (x + y) :: S) σ) ∧
  (∀ (d : Nat) (σ : Sg) (S : List Value) (l0 l1 l2 l3 : Value) (x : Int32), exec d mL_law 323 [l0, l1, l2, l3] (.int x :: .ref 66 :: S) σ = if inb x (σ 67 0).toNatClampNeg = true then exec d mL_law 324 [l0, l1, l2, l3] (.int (σ 66 x.toNatClampNeg) :: S) σ else none) ∧
  (∀ (d : Nat) (σ : Sg) (S : List Value) (l1 l2 l3 : Value) (k : Nat), exec d mL_law 324 [.ref k, l1, l2, l3] S σ = exec d mL_law 325 [.ref k, l1, l2, l3] (.ref k :: S) σ) ∧
  (∀ (d : Nat) (σ : Sg) (S : List Value) (l0 l1 l2 : Value) (x : Int32), exec d mL_law 325 [l0, l1, l2, .int x] S σ = exec d mL_law 326 [l0, l1, l2, .int x] (.int x :: S) σ) ∧
  (∀ (d : Nat) (σ : Sg) (S : List Value) (l0 l1 l2 l3 : Value), exec d mL_law 326 [l0, l1, l2, l3] S σ = exec d mL_law 327 [l0, l1, l2, l3] (.int (nI 5) :: S) σ) ∧
  (∀ (d : Nat) (σ : Sg) (S : List Value) (l0 l1 l2 l3 : Value) (x y : Int32), exec d mL_law 327 [l0, l1, l2, l3] (.int y :: .int x :: S) σ = exec d mL_law 328 [l0, l1, l2, l3] (.int (x + y) :: S) σ) ∧
  (∀ (d : Nat) (σ : Sg) (S : List Value) (l0 l1 l2 l3 : Value) (x : Int32), exec d mL_law 328 [l0, l1, l2, l3] (.int x :: .ref 66 :: S) σ = if inb x (σ 67 0).toNatClampNeg = true then exec d mL_law 329 [l0, l1, l2, l3] (.int (σ 66 x.toNatClampNeg) :: S) σ else none) ∧
  (∀ (d : Nat) (σ : Sg) (l0 l1 l2 l3 : Value) (x0 x1 x2 x3 x4 x6 : Int32), exec d mL_law 329 [l0, l1, l2, l3] [.int x0, .int x1, .int x2, .int x3, .int x4, .ref 50, .int x6] σ = kb (cal d mX7_copy [.ref 50, .int x4, .int x3, .int x2, .int x1, .int x0] σ) (fun rs σ2 => exec d mL_law 332 [l0, l1, l2, l3] (rs ++ [.int x6]) σ2)) ∧
  (∀ (d : Nat) (σ : Sg) (S : List Value) (l0 l1 l2 l3 : Value) (x y : Int32), exec d mL_law 332 [l0, l1, l2, l3] (.int y :: .int x :: S) σ = if x = y then exec d mL_law 1144 [l0, l1, l2, l3] S σ else exec d mL_law 335 [l0, l1, l2, l3] S σ) ∧
  (∀ (d : Nat) (σ : Sg) (S : List Value) (l0 l1 l2 l3 : Value), exec d mL_law 335 [l0, l1, l2, l3] S σ = exec d mL_law 336 [l0, l1, l2, l3] (.int (nI 0) :: S) σ) ∧
  (∀ (d : Nat) (σ : Sg) (l0 l1 l2 l3 : Value) (x : Int32), exec d mL_law 336 [l0, l1, l2, l3] [.int x] σ = if b01 x = true then some (some (.int x), σ) else none) ∧
  (∀ (d : Nat) (σ : Sg) (S : List Value) (l0 l2 l3 : Value) (k : Nat), exec d mL_law 337 [l0, .ref k, l2, l3] S σ = exec d mL_law 338 [l0, .ref k, l2, l3] (.ref k :: S) σ) ∧
  (∀ (d : Nat) (σ : Sg) (S : List Value) (l1 l2 l3 : Value) (k : Nat), exec d mL_law 338 [.ref k, l1, l2, l3] S σ = exec d mL_law 339 [.ref k, l1, l2, l3] (.ref k :: S) σ) ∧
  (∀ (d : Nat) (σ : Sg) (S : List Value) (l0 l1 l2 : Value) (x : Int32), exec d mL_law 339 [l0, l1, l2, .int x] S σ = exec d mL_law 340 [l0, l1, l2, .int x] (.int x :: S) σ) ∧
  (∀ (d : Nat) (σ : Sg) (S : List Value) (l0 l1 l2 l3 : Value), exec d mL_law 340 [l0, l1, l2, l3] S σ = exec d mL_law 341 [l0, l1, l2, l3] (.int (nI 1) :: S) σ) ∧
  (∀ (d : Nat) (σ : Sg) (S : List Value) (l0 l1 l2 l3 : Value) (x y : Int32), exec d mL_law 341 [l0, l1, l2, l3] (.int y :: .int x :: S) σ = exec d mL_law 342 [l0, l1, l2, l3] (.int (x + y) :: S) σ) ∧
  (∀ (d : Nat) (σ : Sg) (S : List Value) (l0 l1 l2 l3 : Value) (x : Int32), exec d mL_law 342 [l0, l1, l2, l3] (.int x :: .ref 66 :: S) σ = if inb x (σ 67 0).toNatClampNeg = true then exec d mL_law 343 [l0, l1, l2, l3] (.int (σ 66 x.toNatClampNeg) :: S) σ else none) ∧
  (∀ (d : Nat) (σ : Sg) (l0 l1 l2 l3 : Value) (x0 : Int32), exec d mL_law 343 [l0, l1, l2, l3] [.int x0, .ref 0] σ = kb (cal d mX6_drop [.ref 0, .int x0] σ) (fun rs σ2 => exec d mL_law 346 [l0, l1, l2, l3] (rs ++ []) σ2)) ∧
  (∀ (d : Nat) (σ : Sg) (S : List Value) (l0 l1 l3 : Value) (k : Nat), exec d mL_law 346 [l0, l1, .ref k, l3] S σ = exec d mL_law 347 [l0, l1, .ref k, l3] (.ref k :: S) σ) ∧
  (∀ (d : Nat) (σ : Sg) (S : List Value) (l1 l2 l3 : Value) (k : Nat), exec d mL_law 347 [.ref k, l1, l2, l3] S σ = exec d mL_law 348 [.ref k, l1, l2, l3] (.ref k :: S) σ) ∧
  (∀ (d : Nat) (σ : Sg) (S : List Value) (l0 l1 l2 : Value) (x : Int32), exec d mL_law 348 [l0, l1, l2, .int x] S σ = exec d mL_law 349 [l0, l1, l2, .int x] (.int x :: S) σ) ∧
  (∀ (d : Nat) (σ : Sg) (S : List Value) (l0 l1 l2 l3 : Value), exec d mL_law 349 [l0, l1, l2, l3] S σ = exec d mL_law 350 [l0, l1, l2, l3] (.int (nI 1) :: S) σ) ∧
  (∀ (d : Nat) (σ : Sg) (S : List Value) (l0 l1 l2 l3 : Value) (x y : Int32), exec d mL_law 350 [l0, l1, l2, l3] (.int y :: .int x :: S) σ = exec d mL_law 351 [l0, l1, l2, l3] (.int (x + y) :: S) σ) ∧
  (∀ (d : Nat) (σ : Sg) (S : List Value) (l0 l1 l2 l3 : Value) (x : Int32), exec d mL_law 351 [l0, l1, l2, l3] (.int x :: .ref 66 :: S) σ = if inb x (σ 67 0).toNatClampNeg = true then exec d mL_law 352 [l0, l1, l2, l3] (.int (σ 66 x.toNatClampNeg) :: S) σ else none) ∧
  (∀ (d : Nat) (σ : Sg) (l0 l1 l2 l3 : Value) (x0 x2 : Int32), exec d mL_law 352 [l0, l1, l2, l3] [.int x0, .ref 50, .int x2] σ = kb (cal d mX7_drop [.ref 50, .int x0] σ) (fun rs σ2 => exec d mL_law 355 [l0, l1, l2, l3] (rs ++ [.int x2]) σ2)) ∧
  (∀ (d : Nat) (σ : Sg) (S : List Value) (l0 l1 l2 l3 : Value) (x y : Int32), exec d mL_law 355 [l0, l1, l2, l3] (.int y :: .int x :: S) σ = if x = y then exec d mL_law 1144 [l0, l1, l2, l3] S σ else exec d mL_law 358 [l0, l1, l2, l3] S σ) ∧
  (∀ (d : Nat) (σ : Sg) (S : List Value) (l0 l1 l2 l3 : Value), exec d mL_law 358 [l0, l1, l2, l3] S σ = exec d mL_law 359 [l0, l1, l2, l3] (.int (nI 0) :: S) σ) ∧
  (∀ (d : Nat) (σ : Sg) (l0 l1 l2 l3 : Value) (x : Int32), exec d mL_law 359 [l0, l1, l2, l3] [.int x] σ = if b01 x = true then some (some (.int x), σ) else none) ∧
  (∀ (d : Nat) (σ : Sg) (S : List Value) (l0 l2 l3 : Value) (k : Nat), exec d mL_law 360 [l0, .ref k, l2, l3] S σ = exec d mL_law 361 [l0, .ref k, l2, l3] (.ref k :: S) σ) :=
  ⟨fun d σ S l0 l1 l2 l3 => ex_iconst (show decode mL_law.2.1 311 = .ok (.iconst 2, 1) by decide +kernel) (by decide +kernel),
  fun d σ S l0 l1 l2 l3 x y => ex_iadd (show decode mL_law.2.1 312 = .ok (.iadd, 1) by decide +kernel),
  fun d σ S l0 l1 l2 l3 x => ex_sald (by decide +kernel),
  fun d σ S l1 l2 l3 k => ex_aload_n (show decode mL_law.2.1 314 = .ok (.aload_n 0, 1) by decide +kernel) rfl,
  fun d σ S l0 l1 l2 x => ex_iload_n (show decode mL_law.2.1 315 = .ok (.iload_n 3, 1) by decide +kernel) rfl,
  fun d σ S l0 l1 l2 l3 => ex_iconst (show decode mL_law.2.1 316 = .ok (.iconst 3, 1) by decide +kernel) (by decide +kernel),
  fun d σ S l0 l1 l2 l3 x y => ex_iadd (show decode mL_law.2.1 317 = .ok (.iadd, 1) by decide +kernel),
  fun d σ S l0 l1 l2 l3 x => ex_sald (by decide +kernel),
  fun d σ S l1 l2 l3 k => ex_aload_n (show decode mL_law.2.1 319 = .ok (.aload_n 0, 1) by decide +kernel) rfl,
  fun d σ S l0 l1 l2 x => ex_iload_n (show decode mL_law.2.1 320 = .ok (.iload_n 3, 1) by decide +kernel) rfl,
  fun d σ S l0 l1 l2 l3 => ex_iconst (show decode mL_law.2.1 321 = .ok (.iconst 4, 1) by decide +kernel) (by decide +kernel),
  fun d σ S l0 l1 l2 l3 x y => ex_iadd (show decode mL_law.2.1 322 = .ok (.iadd, 1) by decide +kernel),
  fun d σ S l0 l1 l2 l3 x => ex_sald (by decide +kernel),
  fun d σ S l1 l2 l3 k => ex_aload_n (show decode mL_law.2.1 324 = .ok (.aload_n 0, 1) by decide +kernel) rfl,
  fun d σ S l0 l1 l2 x => ex_iload_n (show decode mL_law.2.1 325 = .ok (.iload_n 3, 1) by decide +kernel) rfl,
  fun d σ S l0 l1 l2 l3 => ex_iconst (show decode mL_law.2.1 326 = .ok (.iconst 5, 1) by decide +kernel) (by decide +kernel),
  fun d σ S l0 l1 l2 l3 x y => ex_iadd (show decode mL_law.2.1 327 = .ok (.iadd, 1) by decide +kernel),
  fun d σ S l0 l1 l2 l3 x => ex_sald (by decide +kernel),
  fun d σ l0 l1 l2 l3 x0 x1 x2 x3 x4 x6 => ex_iv (hs := [938, 939, 940, 941, 101]) (show decode mL_law.2.1 329 = .ok (.invokevirtual 26, 3) by decide +kernel) lkV_8_26 ⟨rfl, Nat.le_of_ble_eq_true rfl, Nat.le_of_ble_eq_true rfl, fun _ => rfl⟩ rfl rfl,
  fun d σ S l0 l1 l2 l3 x y => ex_ceq (show decode mL_law.2.1 332 = .ok (.if_icmp .eq 812, 3) by decide +kernel) (by decide),
  fun d σ S l0 l1 l2 l3 => ex_iconst (show decode mL_law.2.1 335 = .ok (.iconst 0, 1) by decide +kernel) (by decide +kernel),
  fun d σ l0 l1 l2 l3 x => ex_zret (show decode mL_law.2.1 336 = .ok (.ireturn, 1) by decide +kernel) rfl,
  fun d σ S l0 l2 l3 k => ex_aload_n (show decode mL_law.2.1 337 = .ok (.aload_n 1, 1) by decide +kernel) rfl,
  fun d σ S l1 l2 l3 k => ex_aload_n (show decode mL_law.2.1 338 = .ok (.aload_n 0, 1) by decide +kernel) rfl,
  fun d σ S l0 l1 l2 x => ex_iload_n (show decode mL_law.2.1 339 = .ok (.iload_n 3, 1) by decide +kernel) rfl,
  fun d σ S l0 l1 l2 l3 => ex_iconst (show decode mL_law.2.1 340 = .ok (.iconst 1, 1) by decide +kernel) (by decide +kernel),
  fun d σ S l0 l1 l2 l3 x y => ex_iadd (show decode mL_law.2.1 341 = .ok (.iadd, 1) by decide +kernel),
  fun d σ S l0 l1 l2 l3 x => ex_sald (by decide +kernel),
  fun d σ l0 l1 l2 l3 x0 => ex_iv (hs := [424, 425, 426, 427, 94]) (show decode mL_law.2.1 343 = .ok (.invokevirtual 27, 3) by decide +kernel) lkV_8_27 ⟨rfl, Nat.le_of_ble_eq_true rfl, Nat.le_of_ble_eq_true rfl, fun _ => rfl⟩ rfl rfl,
  fun d σ S l0 l1 l3 k => ex_aload_n (show decode mL_law.2.1 346 = .ok (.aload_n 2, 1) by decide +kernel) rfl,
  fun d σ S l1 l2 l3 k => ex_aload_n (show decode mL_law.2.1 347 = .ok (.aload_n 0, 1) by decide +kernel) rfl,
  fun d σ S l0 l1 l2 x => ex_iload_n (show decode mL_law.2.1 348 = .ok (.iload_n 3, 1) by decide +kernel) rfl,
  fun d σ S l0 l1 l2 l3 => ex_iconst (show decode mL_law.2.1 349 = .ok (.iconst 1, 1) by decide +kernel) (by decide +kernel),
  fun d σ S l0 l1 l2 l3 x y => ex_iadd (show decode mL_law.2.1 350 = .ok (.iadd, 1) by decide +kernel),
  fun d σ S l0 l1 l2 l3 x => ex_sald (by decide +kernel),
  fun d σ l0 l1 l2 l3 x0 x2 => ex_iv (hs := [945, 946, 947, 948, 101]) (show decode mL_law.2.1 352 = .ok (.invokevirtual 31, 3) by decide +kernel) lkV_8_31 ⟨rfl, Nat.le_of_ble_eq_true rfl, Nat.le_of_ble_eq_true rfl, fun _ => rfl⟩ rfl rfl,
  fun d σ S l0 l1 l2 l3 x y => ex_ceq (show decode mL_law.2.1 355 = .ok (.if_icmp .eq 789, 3) by decide +kernel) (by decide),
  fun d σ S l0 l1 l2 l3 => ex_iconst (show decode mL_law.2.1 358 = .ok (.iconst 0, 1) by decide +kernel) (by decide +kernel),
  fun d σ l0 l1 l2 l3 x => ex_zret (show decode mL_law.2.1 359 = .ok (.ireturn, 1) by decide +kernel) rfl,
  fun d σ S l0 l2 l3 k => ex_aload_n (show decode mL_law.2.1 360 = .ok (.aload_n 1, 1) by decide +kernel) rfl⟩
theorem kL_law_4 : (∀ (d : Nat) (σ : Sg) (S : List Value) (l1 l2 l3 : Value) (k : Nat), exec d mL_law 361 [.ref k, l1, l2, l3] S σ = exec d mL_law 362 [.ref k, l1, l2, l3] (.ref k :: S) σ) ∧
  (∀ (d : Nat) (σ : Sg) (S : List Value) (l0 l1 l2 : Value) (x : Int32), exec d mL_law 362 [l0, l1, l2, .int x] S σ = exec d mL_law 363 [l0, l1, l2, .int x] (.int x :: S) σ) ∧
  (∀ (d : Nat) (σ : Sg) (S : List Value) (l0 l1 l2 l3 : Value), exec d mL_law 363 [l0, l1, l2, l3] S σ = exec d mL_law 364 [l0, l1, l2, l3] (.int (nI 1) :: S) σ) ∧
  (∀ (d : Nat) (σ : Sg) (S : List Value) (l0 l1 l2 l3 : Value) (x y : Int32), exec d mL_law 364 [l0, l1, l2, l3] (.int y :: .int x :: S) σ = exec d mL_law 365 [l0, l1, l2, l3] (.int (x + y) :: S) σ) ∧
  (∀ (d : Nat) (σ : Sg) (S : List Value) (l0 l1 l2 l3 : Value) (x : Int32), exec d mL_law 365 [l0, l1, l2, l3] (.int x :: .ref 66 :: S) σ = if inb x (σ 67 0).toNatClampNeg = true then exec d mL_law 366 [l0, l1, l2, l3] (.int (σ 66 x.toNatClampNeg) :: S) σ else none) ∧
  (∀ (d : Nat) (σ : Sg) (l0 l1 l2 l3 : Value) (x0 : Int32), exec d mL_law 366 [l0, l1, l2, l3] [.int x0, .ref 0] σ = kb (cal d mX6_feed [.ref 0, .int x0] σ) (fun rs σ2 => exec d mL_law 369 [l0, l1, l2, l3] (rs ++ []) σ2)) ∧
  (∀ (d : Nat) (σ : Sg) (S : List Value) (l0 l1 l3 : Value) (k : Nat), exec d mL_law 369 [l0, l1, .ref k, l3] S σ = exec d mL_law 370 [l0, l1, .ref k, l3] (.ref k :: S) σ) ∧
  (∀ (d : Nat) (σ : Sg) (S : List Value) (l1 l2 l3 : Value) (k : Nat), exec d mL_law 370 [.ref k, l1, l2, l3] S σ = exec d mL_law 371 [.ref k, l1, l2, l3] (.ref k :: S) σ) ∧
  (∀ (d : Nat) (σ : Sg) (S : List Value) (l0 l1 l2 : Value) (x : Int32), exec d mL_law 371 [l0, l1, l2, .int x] S σ = exec d mL_law 372 [l0, l1, l2, .int x] (.int x :: S) σ) ∧
  (∀ (d : Nat) (σ : Sg) (S : List Value) (l0 l1 l2 l3 : Value), exec d mL_law 372 [l0, l1, l2, l3] S σ = exec d mL_law 373 [l0, l1, l2, l3] (.int (nI 1) :: S) σ) ∧
  (∀ (d : Nat) (σ : Sg) (S : List Value) (l0 l1 l2 l3 : Value) (x y : Int32), exec d mL_law 373 [l0, l1, l2, l3] (.int y :: .int x :: S) σ = exec d mL_law 374 [l0, l1, l2, l3] (.int (x + y) :: S) σ) ∧
  (∀ (d : Nat) (σ : Sg) (S : List Value) (l0 l1 l2 l3 : Value) (x : Int32), exec d mL_law 374 [l0, l1, l2, l3] (.int x :: .ref 66 :: S) σ = if inb x (σ 67 0).toNatClampNeg = true then exec d mL_law 375 [l0, l1, l2, l3] (.int (σ 66 x.toNatClampNeg) :: S) σ else none) ∧
  (∀ (d : Nat) (σ : Sg) (l0 l1 l2 l3 : Value) (x0 x2 : Int32), exec d mL_law 375 [l0, l1, l2, l3] [.int x0, .ref 50, .int x2] σ = kb (cal d mX7_feed [.ref 50, .int x0] σ) (fun rs σ2 => exec d mL_law 378 [l0, l1, l2, l3] (rs ++ [.int x2]) σ2)) ∧
  (∀ (d : Nat) (σ : Sg) (S : List Value) (l0 l1 l2 l3 : Value) (x y : Int32), exec d mL_law 378 [l0, l1, l2, l3] (.int y :: .int x :: S) σ = if x = y then exec d mL_law 1144 [l0, l1, l2, l3] S σ else exec d mL_law 381 [l0, l1, l2, l3] S σ) ∧
  (∀ (d : Nat) (σ : Sg) (S : List Value) (l0 l1 l2 l3 : Value), exec d mL_law 381 [l0, l1, l2, l3] S σ = exec d mL_law 382 [l0, l1, l2, l3] (.int (nI 0) :: S) σ) ∧
  (∀ (d : Nat) (σ : Sg) (l0 l1 l2 l3 : Value) (x : Int32), exec d mL_law 382 [l0, l1, l2, l3] [.int x] σ = if b01 x = true then some (some (.int x), σ) else none) ∧
  (∀ (d : Nat) (σ : Sg) (S : List Value) (l0 l2 l3 : Value) (k : Nat), exec d mL_law 383 [l0, .ref k, l2, l3] S σ = exec d mL_law 384 [l0, .ref k, l2, l3] (.ref k :: S) σ) ∧
  (∀ (d : Nat) (σ : Sg) (l0 l1 l2 l3 : Value), exec d mL_law 384 [l0, l1, l2, l3] [.ref 0] σ = kb (cal d mX6_trial [.ref 0] σ) (fun rs σ2 => exec d mL_law 387 [l0, l1, l2, l3] (rs ++ []) σ2)) ∧
  (∀ (d : Nat) (σ : Sg) (S : List Value) (l0 l1 l3 : Value) (k : Nat), exec d mL_law 387 [l0, l1, .ref k, l3] S σ = exec d mL_law 388 [l0, l1, .ref k, l3] (.ref k :: S) σ) ∧
  (∀ (d : Nat) (σ : Sg) (l0 l1 l2 l3 : Value) (x1 : Int32), exec d mL_law 388 [l0, l1, l2, l3] [.ref 50, .int x1] σ = kb (cal d mX7_trial [.ref 50] σ) (fun rs σ2 => exec d mL_law 391 [l0, l1, l2, l3] (rs ++ [.int x1]) σ2)) ∧
  (∀ (d : Nat) (σ : Sg) (S : List Value) (l0 l1 l2 l3 : Value) (x y : Int32), exec d mL_law 391 [l0, l1, l2, l3] (.int y :: .int x :: S) σ = if x = y then exec d mL_law 1144 [l0, l1, l2, l3] S σ else exec d mL_law 394 [l0, l1, l2, l3] S σ) ∧
  (∀ (d : Nat) (σ : Sg) (S : List Value) (l0 l1 l2 l3 : Value), exec d mL_law 394 [l0, l1, l2, l3] S σ = exec d mL_law 395 [l0, l1, l2, l3] (.int (nI 0) :: S) σ) ∧
  (∀ (d : Nat) (σ : Sg) (l0 l1 l2 l3 : Value) (x : Int32), exec d mL_law 395 [l0, l1, l2, l3] [.int x] σ = if b01 x = true then some (some (.int x), σ) else none) ∧
  (∀ (d : Nat) (σ : Sg) (S : List Value) (l0 l2 l3 : Value) (k : Nat), exec d mL_law 396 [l0, .ref k, l2, l3] S σ = exec d mL_law 397 [l0, .ref k, l2, l3] (.ref k :: S) σ) ∧
  (∀ (d : Nat) (σ : Sg) (l0 l1 l2 l3 : Value), exec d mL_law 397 [l0, l1, l2, l3] [.ref 0] σ = kb (cal d mX6_fault [.ref 0] σ) (fun rs σ2 => exec d mL_law 400 [l0, l1, l2, l3] (rs ++ []) σ2)) ∧
  (∀ (d : Nat) (σ : Sg) (S : List Value) (l0 l1 l3 : Value) (k : Nat), exec d mL_law 400 [l0, l1, .ref k, l3] S σ = exec d mL_law 401 [l0, l1, .ref k, l3] (.ref k :: S) σ) ∧
  (∀ (d : Nat) (σ : Sg) (l0 l1 l2 l3 : Value) (x1 : Int32), exec d mL_law 401 [l0, l1, l2, l3] [.ref 50, .int x1] σ = kb (cal d mX7_fault [.ref 50] σ) (fun rs σ2 => exec d mL_law 404 [l0, l1, l2, l3] (rs ++ [.int x1]) σ2)) ∧
  (∀ (d : Nat) (σ : Sg) (S : List Value) (l0 l1 l2 l3 : Value) (x y : Int32), exec d mL_law 404 [l0, l1, l2, l3] (.int y :: .int x :: S) σ = if x = y then exec d mL_law 1144 [l0, l1, l2, l3] S σ else exec d mL_law 407 [l0, l1, l2, l3] S σ) ∧
  (∀ (d : Nat) (σ : Sg) (S : List Value) (l0 l1 l2 l3 : Value), exec d mL_law 407 [l0, l1, l2, l3] S σ = exec d mL_law 408 [l0, l1, l2, l3] (.int (nI 0) :: S) σ) ∧
  (∀ (d : Nat) (σ : Sg) (l0 l1 l2 l3 : Value) (x : Int32), exec d mL_law 408 [l0, l1, l2, l3] [.int x] σ = if b01 x = true then some (some (.int x), σ) else none) ∧
  (∀ (d : Nat) (σ : Sg) (S : List Value) (l0 l2 l3 : Value) (k : Nat), exec d mL_law 409 [l0, .ref k, l2, l3] S σ = exec d mL_law 410 [l0, .ref k, l2, l3] (.ref k :: S) σ) ∧
  (∀ (d : Nat) (σ : Sg) (l0 l1 l2 l3 : Value), exec d mL_law 410 [l0, l1, l2, l3] [.ref 0] σ = kb (cal d mX6_undo [.ref 0] σ) (fun rs σ2 => exec d mL_law 413 [l0, l1, l2, l3] (rs ++ []) σ2)) ∧
  (∀ (d : Nat) (σ : Sg) (S : List Value) (l0 l1 l3 : Value) (k : Nat), exec d mL_law 413 [l0, l1, .ref k, l3] S σ = exec d mL_law 414 [l0, l1, .ref k, l3] (.ref k :: S) σ) ∧
  (∀ (d : Nat) (σ : Sg) (l0 l1 l2 l3 : Value) (x1 : Int32), exec d mL_law 414 [l0, l1, l2, l3] [.ref 50, .int x1] σ = kb (cal d mX7_undo [.ref 50] σ) (fun rs σ2 => exec d mL_law 417 [l0, l1, l2, l3] (rs ++ [.int x1]) σ2)) ∧
  (∀ (d : Nat) (σ : Sg) (S : List Value) (l0 l1 l2 l3 : Value) (x y : Int32), exec d mL_law 417 [l0, l1, l2, l3] (.int y :: .int x :: S) σ = if x = y then exec d mL_law 1144 [l0, l1, l2, l3] S σ else exec d mL_law 420 [l0, l1, l2, l3] S σ) ∧
  (∀ (d : Nat) (σ : Sg) (S : List Value) (l0 l1 l2 l3 : Value), exec d mL_law 420 [l0, l1, l2, l3] S σ = exec d mL_law 421 [l0, l1, l2, l3] (.int (nI 0) :: S) σ) ∧
  (∀ (d : Nat) (σ : Sg) (l0 l1 l2 l3 : Value) (x : Int32), exec d mL_law 421 [l0, l1, l2, l3] [.int x] σ = if b01 x = true then some (some (.int x), σ) else none) ∧
  (∀ (d : Nat) (σ : Sg) (S : List Value) (l0 l2 l3 : Value) (k : Nat), exec d mL_law 422 [l0, .ref k, l2, l3] S σ = exec d mL_law 423 [l0, .ref k, l2, l3] (.ref k :: S) σ) ∧
  (∀ (d : Nat) (σ : Sg) (S : List Value) (l1 l2 l3 : Value) (k : Nat), exec d mL_law 423 [.ref k, l1, l2, l3] S σ = exec d mL_law 424 [.ref k, l1, l2, l3] (.ref k :: S) σ) ∧
  (∀ (d : Nat) (σ : Sg) (S : List Value) (l0 l1 l2 : Value) (x : Int32), exec d mL_law 424 [l0, l1, l2, .int x] S σ = exec d mL_law 425 [l0, l1, l2, .int x] (.int x :: S) σ) :=
  ⟨fun d σ S l1 l2 l3 k => ex_aload_n (show decode mL_law.2.1 361 = .ok (.aload_n 0, 1) by decide +kernel) rfl,
  fun d σ S l0 l1 l2 x => ex_iload_n (show decode mL_law.2.1 362 = .ok (.iload_n 3, 1) by decide +kernel) rfl,
  fun d σ S l0 l1 l2 l3 => ex_iconst (show decode mL_law.2.1 363 = .ok (.iconst 1, 1) by decide +kernel) (by decide +kernel),
  fun d σ S l0 l1 l2 l3 x y => ex_iadd (show decode mL_law.2.1 364 = .ok (.iadd, 1) by decide +kernel),
  fun d σ S l0 l1 l2 l3 x => ex_sald (by decide +kernel),
  fun d σ l0 l1 l2 l3 x0 => ex_iv (hs := [428, 429, 430, 431, 94]) (show decode mL_law.2.1 366 = .ok (.invokevirtual 32, 3) by decide +kernel) lkV_8_32 ⟨rfl, Nat.le_of_ble_eq_true rfl, Nat.le_of_ble_eq_true rfl, fun _ => rfl⟩ rfl rfl,
  fun d σ S l0 l1 l3 k => ex_aload_n (show decode mL_law.2.1 369 = .ok (.aload_n 2, 1) by decide +kernel) rfl,
  fun d σ S l1 l2 l3 k => ex_aload_n (show decode mL_law.2.1 370 = .ok (.aload_n 0, 1) by decide +kernel) rfl,
  fun d σ S l0 l1 l2 x => ex_iload_n (show decode mL_law.2.1 371 = .ok (.iload_n 3, 1) by decide +kernel) rfl,
  fun d σ S l0 l1 l2 l3 => ex_iconst (show decode mL_law.2.1 372 = .ok (.iconst 1, 1) by decide +kernel) (by decide +kernel),
  fun d σ S l0 l1 l2 l3 x y => ex_iadd (show decode mL_law.2.1 373 = .ok (.iadd, 1) by decide +kernel),
  fun d σ S l0 l1 l2 l3 x => ex_sald (by decide +kernel),
  fun d σ l0 l1 l2 l3 x0 x2 => ex_iv (hs := [949, 950, 951, 952, 101]) (show decode mL_law.2.1 375 = .ok (.invokevirtual 35, 3) by decide +kernel) lkV_8_35 ⟨rfl, Nat.le_of_ble_eq_true rfl, Nat.le_of_ble_eq_true rfl, fun _ => rfl⟩ rfl rfl,
  fun d σ S l0 l1 l2 l3 x y => ex_ceq (show decode mL_law.2.1 378 = .ok (.if_icmp .eq 766, 3) by decide +kernel) (by decide),
  fun d σ S l0 l1 l2 l3 => ex_iconst (show decode mL_law.2.1 381 = .ok (.iconst 0, 1) by decide +kernel) (by decide +kernel),
  fun d σ l0 l1 l2 l3 x => ex_zret (show decode mL_law.2.1 382 = .ok (.ireturn, 1) by decide +kernel) rfl,
  fun d σ S l0 l2 l3 k => ex_aload_n (show decode mL_law.2.1 383 = .ok (.aload_n 1, 1) by decide +kernel) rfl,
  fun d σ l0 l1 l2 l3 => ex_iv (hs := [437, 438, 439, 440, 94]) (show decode mL_law.2.1 384 = .ok (.invokevirtual 36, 3) by decide +kernel) lkV_8_36 ⟨rfl, Nat.le_of_ble_eq_true rfl, Nat.le_of_ble_eq_true rfl, fun _ => rfl⟩ rfl rfl,
  fun d σ S l0 l1 l3 k => ex_aload_n (show decode mL_law.2.1 387 = .ok (.aload_n 2, 1) by decide +kernel) rfl,
  fun d σ l0 l1 l2 l3 x1 => ex_iv (hs := [955, 956, 957, 958, 101]) (show decode mL_law.2.1 388 = .ok (.invokevirtual 40, 3) by decide +kernel) lkV_8_40 ⟨rfl, Nat.le_of_ble_eq_true rfl, Nat.le_of_ble_eq_true rfl, fun _ => rfl⟩ rfl rfl,
  fun d σ S l0 l1 l2 l3 x y => ex_ceq (show decode mL_law.2.1 391 = .ok (.if_icmp .eq 753, 3) by decide +kernel) (by decide),
  fun d σ S l0 l1 l2 l3 => ex_iconst (show decode mL_law.2.1 394 = .ok (.iconst 0, 1) by decide +kernel) (by decide +kernel),
  fun d σ l0 l1 l2 l3 x => ex_zret (show decode mL_law.2.1 395 = .ok (.ireturn, 1) by decide +kernel) rfl,
  fun d σ S l0 l2 l3 k => ex_aload_n (show decode mL_law.2.1 396 = .ok (.aload_n 1, 1) by decide +kernel) rfl,
  fun d σ l0 l1 l2 l3 => ex_iv (hs := [511, 512, 513, 514, 94]) (show decode mL_law.2.1 397 = .ok (.invokevirtual 41, 3) by decide +kernel) lkV_8_41 ⟨rfl, Nat.le_of_ble_eq_true rfl, Nat.le_of_ble_eq_true rfl, fun _ => rfl⟩ rfl rfl,
  fun d σ S l0 l1 l3 k => ex_aload_n (show decode mL_law.2.1 400 = .ok (.aload_n 2, 1) by decide +kernel) rfl,
  fun d σ l0 l1 l2 l3 x1 => ex_iv (hs := [1001, 1002, 1003, 1004, 101]) (show decode mL_law.2.1 401 = .ok (.invokevirtual 44, 3) by decide +kernel) lkV_8_44 ⟨rfl, Nat.le_of_ble_eq_true rfl, Nat.le_of_ble_eq_true rfl, fun _ => rfl⟩ rfl rfl,
  fun d σ S l0 l1 l2 l3 x y => ex_ceq (show decode mL_law.2.1 404 = .ok (.if_icmp .eq 740, 3) by decide +kernel) (by decide),
  fun d σ S l0 l1 l2 l3 => ex_iconst (show decode mL_law.2.1 407 = .ok (.iconst 0, 1) by decide +kernel) (by decide +kernel),
  fun d σ l0 l1 l2 l3 x => ex_zret (show decode mL_law.2.1 408 = .ok (.ireturn, 1) by decide +kernel) rfl,
  fun d σ S l0 l2 l3 k => ex_aload_n (show decode mL_law.2.1 409 = .ok (.aload_n 1, 1) by decide +kernel) rfl,
  fun d σ l0 l1 l2 l3 => ex_iv (hs := [515, 516, 517, 518, 94]) (show decode mL_law.2.1 410 = .ok (.invokevirtual 45, 3) by decide +kernel) lkV_8_45 ⟨rfl, Nat.le_of_ble_eq_true rfl, Nat.le_of_ble_eq_true rfl, fun _ => rfl⟩ rfl rfl,
  fun d σ S l0 l1 l3 k => ex_aload_n (show decode mL_law.2.1 413 = .ok (.aload_n 2, 1) by decide +kernel) rfl,
  fun d σ l0 l1 l2 l3 x1 => ex_iv (hs := [1005, 1006, 1007, 1008, 101]) (show decode mL_law.2.1 414 = .ok (.invokevirtual 48, 3) by decide +kernel) lkV_8_48 ⟨rfl, Nat.le_of_ble_eq_true rfl, Nat.le_of_ble_eq_true rfl, fun _ => rfl⟩ rfl rfl,
  fun d σ S l0 l1 l2 l3 x y => ex_ceq (show decode mL_law.2.1 417 = .ok (.if_icmp .eq 727, 3) by decide +kernel) (by decide),
  fun d σ S l0 l1 l2 l3 => ex_iconst (show decode mL_law.2.1 420 = .ok (.iconst 0, 1) by decide +kernel) (by decide +kernel),
  fun d σ l0 l1 l2 l3 x => ex_zret (show decode mL_law.2.1 421 = .ok (.ireturn, 1) by decide +kernel) rfl,
  fun d σ S l0 l2 l3 k => ex_aload_n (show decode mL_law.2.1 422 = .ok (.aload_n 1, 1) by decide +kernel) rfl,
  fun d σ S l1 l2 l3 k => ex_aload_n (show decode mL_law.2.1 423 = .ok (.aload_n 0, 1) by decide +kernel) rfl,
  fun d σ S l0 l1 l2 x => ex_iload_n (show decode mL_law.2.1 424 = .ok (.iload_n 3, 1) by decide +kernel) rfl⟩
theorem kL_law_5 : (∀ (d : Nat) (σ : Sg) (S : List Value) (l0 l1 l2 l3 : Value), exec d mL_law 425 [l0, l1, l2, l3] S σ = exec d mL_law 426 [l0, l1, l2, l3] (.int (nI 1) :: S) σ) ∧
  (∀ (d : Nat) (σ : Sg) (S : List Value) (l0 l1 l2 l3 : Value) (x y : Int32), exec d mL_law 426 [l0, l1, l2, l3] (.int y :: .int x :: S) σ = exec d mL_law 427 [l0, l1, l2, l3] (.int (x + y) :: S) σ) ∧
  (∀ (d : Nat) (σ : Sg) (S : List Value) (l0 l1 l2 l3 : Value) (x : Int32), exec d mL_law 427 [l0, l1, l2, l3] (.int x :: .ref 66 :: S) σ = if inb x (σ 67 0).toNatClampNeg = true then exec d mL_law 428 [l0, l1, l2, l3] (.int (σ 66 x.toNatClampNeg) :: S) σ else none) ∧
  (∀ (d : Nat) (σ : Sg) (l0 l1 l2 l3 : Value) (x0 : Int32), exec d mL_law 428 [l0, l1, l2, l3] [.int x0, .ref 0] σ = kb (cal d mX6_make [.ref 0, .int x0] σ) (fun rs σ2 => exec d mL_law 431 [l0, l1, l2, l3] (rs ++ []) σ2)) ∧
  (∀ (d : Nat) (σ : Sg) (S : List Value) (l0 l1 l3 : Value) (k : Nat), exec d mL_law 431 [l0, l1, .ref k, l3] S σ = exec d mL_law 432 [l0, l1, .ref k, l3] (.ref k :: S) σ) ∧
  (∀ (d : Nat) (σ : Sg) (S : List Value) (l1 l2 l3 : Value) (k : Nat), exec d mL_law 432 [.ref k, l1, l2, l3] S σ = exec d mL_law 433 [.ref k, l1, l2, l3] (.ref k :: S) σ) ∧
  (∀ (d : Nat) (σ : Sg) (S : List Value) (l0 l1 l2 : Value) (x : Int32), exec d mL_law 433 [l0, l1, l2, .int x] S σ = exec d mL_law 434 [l0, l1, l2, .int x] (.int x :: S) σ) ∧
  (∀ (d : Nat) (σ : Sg) (S : List Value) (l0 l1 l2 l3 : Value), exec d mL_law 434 [l0, l1, l2, l3] S σ = exec d mL_law 435 [l0, l1, l2, l3] (.int (nI 1) :: S) σ) ∧
  (∀ (d : Nat) (σ : Sg) (S : List Value) (l0 l1 l2 l3 : Value) (x y : Int32), exec d mL_law 435 [l0, l1, l2, l3] (.int y :: .int x :: S) σ = exec d mL_law 436 [l0, l1, l2, l3] (.int (x + y) :: S) σ) ∧
  (∀ (d : Nat) (σ : Sg) (S : List Value) (l0 l1 l2 l3 : Value) (x : Int32), exec d mL_law 436 [l0, l1, l2, l3] (.int x :: .ref 66 :: S) σ = if inb x (σ 67 0).toNatClampNeg = true then exec d mL_law 437 [l0, l1, l2, l3] (.int (σ 66 x.toNatClampNeg) :: S) σ else none) ∧
  (∀ (d : Nat) (σ : Sg) (l0 l1 l2 l3 : Value) (x0 x2 : Int32), exec d mL_law 437 [l0, l1, l2, l3] [.int x0, .ref 50, .int x2] σ = kb (cal d mX7_make [.ref 50, .int x0] σ) (fun rs σ2 => exec d mL_law 440 [l0, l1, l2, l3] (rs ++ [.int x2]) σ2)) ∧
  (∀ (d : Nat) (σ : Sg) (S : List Value) (l0 l1 l2 l3 : Value) (x y : Int32), exec d mL_law 440 [l0, l1, l2, l3] (.int y :: .int x :: S) σ = if x = y then exec d mL_law 1144 [l0, l1, l2, l3] S σ else exec d mL_law 443 [l0, l1, l2, l3] S σ) ∧
  (∀ (d : Nat) (σ : Sg) (S : List Value) (l0 l1 l2 l3 : Value), exec d mL_law 443 [l0, l1, l2, l3] S σ = exec d mL_law 444 [l0, l1, l2, l3] (.int (nI 0) :: S) σ) ∧
  (∀ (d : Nat) (σ : Sg) (l0 l1 l2 l3 : Value) (x : Int32), exec d mL_law 444 [l0, l1, l2, l3] [.int x] σ = if b01 x = true then some (some (.int x), σ) else none) ∧
  (∀ (d : Nat) (σ : Sg) (S : List Value) (l0 l2 l3 : Value) (k : Nat), exec d mL_law 445 [l0, .ref k, l2, l3] S σ = exec d mL_law 446 [l0, .ref k, l2, l3] (.ref k :: S) σ) ∧
  (∀ (d : Nat) (σ : Sg) (S : List Value) (l1 l2 l3 : Value) (k : Nat), exec d mL_law 446 [.ref k, l1, l2, l3] S σ = exec d mL_law 447 [.ref k, l1, l2, l3] (.ref k :: S) σ) ∧
  (∀ (d : Nat) (σ : Sg) (S : List Value) (l0 l1 l2 : Value) (x : Int32), exec d mL_law 447 [l0, l1, l2, .int x] S σ = exec d mL_law 448 [l0, l1, l2, .int x] (.int x :: S) σ) ∧
  (∀ (d : Nat) (σ : Sg) (S : List Value) (l0 l1 l2 l3 : Value), exec d mL_law 448 [l0, l1, l2, l3] S σ = exec d mL_law 449 [l0, l1, l2, l3] (.int (nI 1) :: S) σ) ∧
  (∀ (d : Nat) (σ : Sg) (S : List Value) (l0 l1 l2 l3 : Value) (x y : Int32), exec d mL_law 449 [l0, l1, l2, l3] (.int y :: .int x :: S) σ = exec d mL_law 450 [l0, l1, l2, l3] (.int (x + y) :: S) σ) ∧
  (∀ (d : Nat) (σ : Sg) (S : List Value) (l0 l1 l2 l3 : Value) (x : Int32), exec d mL_law 450 [l0, l1, l2, l3] (.int x :: .ref 66 :: S) σ = if inb x (σ 67 0).toNatClampNeg = true then exec d mL_law 451 [l0, l1, l2, l3] (.int (σ 66 x.toNatClampNeg) :: S) σ else none) ∧
  (∀ (d : Nat) (σ : Sg) (l0 l1 l2 l3 : Value) (x0 : Int32), exec d mL_law 451 [l0, l1, l2, l3] [.int x0, .ref 0] σ = kb (cal d mX6_mend [.ref 0, .int x0] σ) (fun rs σ2 => exec d mL_law 454 [l0, l1, l2, l3] (rs ++ []) σ2)) ∧
  (∀ (d : Nat) (σ : Sg) (S : List Value) (l0 l1 l3 : Value) (k : Nat), exec d mL_law 454 [l0, l1, .ref k, l3] S σ = exec d mL_law 455 [l0, l1, .ref k, l3] (.ref k :: S) σ) ∧
  (∀ (d : Nat) (σ : Sg) (S : List Value) (l1 l2 l3 : Value) (k : Nat), exec d mL_law 455 [.ref k, l1, l2, l3] S σ = exec d mL_law 456 [.ref k, l1, l2, l3] (.ref k :: S) σ) ∧
  (∀ (d : Nat) (σ : Sg) (S : List Value) (l0 l1 l2 : Value) (x : Int32), exec d mL_law 456 [l0, l1, l2, .int x] S σ = exec d mL_law 457 [l0, l1, l2, .int x] (.int x :: S) σ) ∧
  (∀ (d : Nat) (σ : Sg) (S : List Value) (l0 l1 l2 l3 : Value), exec d mL_law 457 [l0, l1, l2, l3] S σ = exec d mL_law 458 [l0, l1, l2, l3] (.int (nI 1) :: S) σ) ∧
  (∀ (d : Nat) (σ : Sg) (S : List Value) (l0 l1 l2 l3 : Value) (x y : Int32), exec d mL_law 458 [l0, l1, l2, l3] (.int y :: .int x :: S) σ = exec d mL_law 459 [l0, l1, l2, l3] (.int (x + y) :: S) σ) ∧
  (∀ (d : Nat) (σ : Sg) (S : List Value) (l0 l1 l2 l3 : Value) (x : Int32), exec d mL_law 459 [l0, l1, l2, l3] (.int x :: .ref 66 :: S) σ = if inb x (σ 67 0).toNatClampNeg = true then exec d mL_law 460 [l0, l1, l2, l3] (.int (σ 66 x.toNatClampNeg) :: S) σ else none) ∧
  (∀ (d : Nat) (σ : Sg) (l0 l1 l2 l3 : Value) (x0 x2 : Int32), exec d mL_law 460 [l0, l1, l2, l3] [.int x0, .ref 50, .int x2] σ = kb (cal d mX7_mend [.ref 50, .int x0] σ) (fun rs σ2 => exec d mL_law 463 [l0, l1, l2, l3] (rs ++ [.int x2]) σ2)) ∧
  (∀ (d : Nat) (σ : Sg) (S : List Value) (l0 l1 l2 l3 : Value) (x y : Int32), exec d mL_law 463 [l0, l1, l2, l3] (.int y :: .int x :: S) σ = if x = y then exec d mL_law 1144 [l0, l1, l2, l3] S σ else exec d mL_law 466 [l0, l1, l2, l3] S σ) ∧
  (∀ (d : Nat) (σ : Sg) (S : List Value) (l0 l1 l2 l3 : Value), exec d mL_law 466 [l0, l1, l2, l3] S σ = exec d mL_law 467 [l0, l1, l2, l3] (.int (nI 0) :: S) σ) ∧
  (∀ (d : Nat) (σ : Sg) (l0 l1 l2 l3 : Value) (x : Int32), exec d mL_law 467 [l0, l1, l2, l3] [.int x] σ = if b01 x = true then some (some (.int x), σ) else none) ∧
  (∀ (d : Nat) (σ : Sg) (S : List Value) (l0 l2 l3 : Value) (k : Nat), exec d mL_law 468 [l0, .ref k, l2, l3] S σ = exec d mL_law 469 [l0, .ref k, l2, l3] (.ref k :: S) σ) ∧
  (∀ (d : Nat) (σ : Sg) (S : List Value) (l1 l2 l3 : Value) (k : Nat), exec d mL_law 469 [.ref k, l1, l2, l3] S σ = exec d mL_law 470 [.ref k, l1, l2, l3] (.ref k :: S) σ) ∧
  (∀ (d : Nat) (σ : Sg) (S : List Value) (l0 l1 l2 : Value) (x : Int32), exec d mL_law 470 [l0, l1, l2, .int x] S σ = exec d mL_law 471 [l0, l1, l2, .int x] (.int x :: S) σ) ∧
  (∀ (d : Nat) (σ : Sg) (S : List Value) (l0 l1 l2 l3 : Value), exec d mL_law 471 [l0, l1, l2, l3] S σ = exec d mL_law 472 [l0, l1, l2, l3] (.int (nI 1) :: S) σ) ∧
  (∀ (d : Nat) (σ : Sg) (S : List Value) (l0 l1 l2 l3 : Value) (x y : Int32), exec d mL_law 472 [l0, l1, l2, l3] (.int y :: .int x :: S) σ = exec d mL_law 473 [l0, l1, l2, l3] (.int (x + y) :: S) σ) ∧
  (∀ (d : Nat) (σ : Sg) (S : List Value) (l0 l1 l2 l3 : Value) (x : Int32), exec d mL_law 473 [l0, l1, l2, l3] (.int x :: .ref 66 :: S) σ = if inb x (σ 67 0).toNatClampNeg = true then exec d mL_law 474 [l0, l1, l2, l3] (.int (σ 66 x.toNatClampNeg) :: S) σ else none) ∧
  (∀ (d : Nat) (σ : Sg) (l0 l1 l2 l3 : Value) (x0 : Int32), exec d mL_law 474 [l0, l1, l2, l3] [.int x0, .ref 0] σ = kb (cal d mX6_feast [.ref 0, .int x0] σ) (fun rs σ2 => exec d mL_law 477 [l0, l1, l2, l3] (rs ++ []) σ2)) ∧
  (∀ (d : Nat) (σ : Sg) (S : List Value) (l0 l1 l3 : Value) (k : Nat), exec d mL_law 477 [l0, l1, .ref k, l3] S σ = exec d mL_law 478 [l0, l1, .ref k, l3] (.ref k :: S) σ) ∧
  (∀ (d : Nat) (σ : Sg) (S : List Value) (l1 l2 l3 : Value) (k : Nat), exec d mL_law 478 [.ref k, l1, l2, l3] S σ = exec d mL_law 479 [.ref k, l1, l2, l3] (.ref k :: S) σ) :=
  ⟨fun d σ S l0 l1 l2 l3 => ex_iconst (show decode mL_law.2.1 425 = .ok (.iconst 1, 1) by decide +kernel) (by decide +kernel),
  fun d σ S l0 l1 l2 l3 x y => ex_iadd (show decode mL_law.2.1 426 = .ok (.iadd, 1) by decide +kernel),
  fun d σ S l0 l1 l2 l3 x => ex_sald (by decide +kernel),
  fun d σ l0 l1 l2 l3 x0 => ex_iv (hs := [524, 525, 526, 527, 94]) (show decode mL_law.2.1 428 = .ok (.invokevirtual 49, 3) by decide +kernel) lkV_8_49 ⟨rfl, Nat.le_of_ble_eq_true rfl, Nat.le_of_ble_eq_true rfl, fun _ => rfl⟩ rfl rfl,
  fun d σ S l0 l1 l3 k => ex_aload_n (show decode mL_law.2.1 431 = .ok (.aload_n 2, 1) by decide +kernel) rfl,
  fun d σ S l1 l2 l3 k => ex_aload_n (show decode mL_law.2.1 432 = .ok (.aload_n 0, 1) by decide +kernel) rfl,
  fun d σ S l0 l1 l2 x => ex_iload_n (show decode mL_law.2.1 433 = .ok (.iload_n 3, 1) by decide +kernel) rfl,
  fun d σ S l0 l1 l2 l3 => ex_iconst (show decode mL_law.2.1 434 = .ok (.iconst 1, 1) by decide +kernel) (by decide +kernel),
  fun d σ S l0 l1 l2 l3 x y => ex_iadd (show decode mL_law.2.1 435 = .ok (.iadd, 1) by decide +kernel),
  fun d σ S l0 l1 l2 l3 x => ex_sald (by decide +kernel),
  fun d σ l0 l1 l2 l3 x0 x2 => ex_iv (hs := [1010, 1011, 1012, 1013, 101]) (show decode mL_law.2.1 437 = .ok (.invokevirtual 52, 3) by decide +kernel) lkV_8_52 ⟨rfl, Nat.le_of_ble_eq_true rfl, Nat.le_of_ble_eq_true rfl, fun _ => rfl⟩ rfl rfl,
  fun d σ S l0 l1 l2 l3 x y => ex_ceq (show decode mL_law.2.1 440 = .ok (.if_icmp .eq 704, 3) by decide +kernel) (by decide),
  fun d σ S l0 l1 l2 l3 => ex_iconst (show decode mL_law.2.1 443 = .ok (.iconst 0, 1) by decide +kernel) (by decide +kernel),
  fun d σ l0 l1 l2 l3 x => ex_zret (show decode mL_law.2.1 444 = .ok (.ireturn, 1) by decide +kernel) rfl,
  fun d σ S l0 l2 l3 k => ex_aload_n (show decode mL_law.2.1 445 = .ok (.aload_n 1, 1) by decide +kernel) rfl,
  fun d σ S l1 l2 l3 k => ex_aload_n (show decode mL_law.2.1 446 = .ok (.aload_n 0, 1) by decide +kernel) rfl,
  fun d σ S l0 l1 l2 x => ex_iload_n (show decode mL_law.2.1 447 = .ok (.iload_n 3, 1) by decide +kernel) rfl,
  fun d σ S l0 l1 l2 l3 => ex_iconst (show decode mL_law.2.1 448 = .ok (.iconst 1, 1) by decide +kernel) (by decide +kernel),
  fun d σ S l0 l1 l2 l3 x y => ex_iadd (show decode mL_law.2.1 449 = .ok (.iadd, 1) by decide +kernel),
  fun d σ S l0 l1 l2 l3 x => ex_sald (by decide +kernel),
  fun d σ l0 l1 l2 l3 x0 => ex_iv (hs := [564, 565, 566, 567, 94]) (show decode mL_law.2.1 451 = .ok (.invokevirtual 53, 3) by decide +kernel) lkV_8_53 ⟨rfl, Nat.le_of_ble_eq_true rfl, Nat.le_of_ble_eq_true rfl, fun _ => rfl⟩ rfl rfl,
  fun d σ S l0 l1 l3 k => ex_aload_n (show decode mL_law.2.1 454 = .ok (.aload_n 2, 1) by decide +kernel) rfl,
  fun d σ S l1 l2 l3 k => ex_aload_n (show decode mL_law.2.1 455 = .ok (.aload_n 0, 1) by decide +kernel) rfl,
  fun d σ S l0 l1 l2 x => ex_iload_n (show decode mL_law.2.1 456 = .ok (.iload_n 3, 1) by decide +kernel) rfl,
  fun d σ S l0 l1 l2 l3 => ex_iconst (show decode mL_law.2.1 457 = .ok (.iconst 1, 1) by decide +kernel) (by decide +kernel),
  fun d σ S l0 l1 l2 l3 x y => ex_iadd (show decode mL_law.2.1 458 = .ok (.iadd, 1) by decide +kernel),
  fun d σ S l0 l1 l2 l3 x => ex_sald (by decide +kernel),
  fun d σ l0 l1 l2 l3 x0 x2 => ex_iv (hs := [1058, 1059, 1060, 1061, 101]) (show decode mL_law.2.1 460 = .ok (.invokevirtual 56, 3) by decide +kernel) lkV_8_56 ⟨rfl, Nat.le_of_ble_eq_true rfl, Nat.le_of_ble_eq_true rfl, fun _ => rfl⟩ rfl rfl,
  fun d σ S l0 l1 l2 l3 x y => ex_ceq (show decode mL_law.2.1 463 = .ok (.if_icmp .eq 681, 3) by decide +kernel) (by decide),
  fun d σ S l0 l1 l2 l3 => ex_iconst (show decode mL_law.2.1 466 = .ok (.iconst 0, 1) by decide +kernel) (by decide +kernel),
  fun d σ l0 l1 l2 l3 x => ex_zret (show decode mL_law.2.1 467 = .ok (.ireturn, 1) by decide +kernel) rfl,
  fun d σ S l0 l2 l3 k => ex_aload_n (show decode mL_law.2.1 468 = .ok (.aload_n 1, 1) by decide +kernel) rfl,
  fun d σ S l1 l2 l3 k => ex_aload_n (show decode mL_law.2.1 469 = .ok (.aload_n 0, 1) by decide +kernel) rfl,
  fun d σ S l0 l1 l2 x => ex_iload_n (show decode mL_law.2.1 470 = .ok (.iload_n 3, 1) by decide +kernel) rfl,
  fun d σ S l0 l1 l2 l3 => ex_iconst (show decode mL_law.2.1 471 = .ok (.iconst 1, 1) by decide +kernel) (by decide +kernel),
  fun d σ S l0 l1 l2 l3 x y => ex_iadd (show decode mL_law.2.1 472 = .ok (.iadd, 1) by decide +kernel),
  fun d σ S l0 l1 l2 l3 x => ex_sald (by decide +kernel),
  fun d σ l0 l1 l2 l3 x0 => ex_iv (hs := [573, 574, 575, 576, 94]) (show decode mL_law.2.1 474 = .ok (.invokevirtual 57, 3) by decide +kernel) lkV_8_57 ⟨rfl, Nat.le_of_ble_eq_true rfl, Nat.le_of_ble_eq_true rfl, fun _ => rfl⟩ rfl rfl,
  fun d σ S l0 l1 l3 k => ex_aload_n (show decode mL_law.2.1 477 = .ok (.aload_n 2, 1) by decide +kernel) rfl,
  fun d σ S l1 l2 l3 k => ex_aload_n (show decode mL_law.2.1 478 = .ok (.aload_n 0, 1) by decide +kernel) rfl⟩
theorem kL_law_6 : (∀ (d : Nat) (σ : Sg) (S : List Value) (l0 l1 l2 : Value) (x : Int32), exec d mL_law 479 [l0, l1, l2, .int x] S σ = exec d mL_law 480 [l0, l1, l2, .int x] (.int x :: S) σ) ∧
  (∀ (d : Nat) (σ : Sg) (S : List Value) (l0 l1 l2 l3 : Value), exec d mL_law 480 [l0, l1, l2, l3] S σ = exec d mL_law 481 [l0, l1, l2, l3] (.int (nI 1) :: S) σ) ∧
  (∀ (d : Nat) (σ : Sg) (S : List Value) (l0 l1 l2 l3 : Value) (x y : Int32), exec d mL_law 481 [l0, l1, l2, l3] (.int y :: .int x :: S) σ = exec d mL_law 482 [l0, l1, l2, l3] (.int (x + y) :: S) σ) ∧
  (∀ (d : Nat) (σ : Sg) (S : List Value) (l0 l1 l2 l3 : Value) (x : Int32), exec d mL_law 482 [l0, l1, l2, l3] (.int x :: .ref 66 :: S) σ = if inb x (σ 67 0).toNatClampNeg = true then exec d mL_law 483 [l0, l1, l2, l3] (.int (σ 66 x.toNatClampNeg) :: S) σ else none) ∧
  (∀ (d : Nat) (σ : Sg) (l0 l1 l2 l3 : Value) (x0 x2 : Int32), exec d mL_law 483 [l0, l1, l2, l3] [.int x0, .ref 50, .int x2] σ = kb (cal d mX7_feast [.ref 50, .int x0] σ) (fun rs σ2 => exec d mL_law 486 [l0, l1, l2, l3] (rs ++ [.int x2]) σ2)) ∧
  (∀ (d : Nat) (σ : Sg) (S : List Value) (l0 l1 l2 l3 : Value) (x y : Int32), exec d mL_law 486 [l0, l1, l2, l3] (.int y :: .int x :: S) σ = if x = y then exec d mL_law 1144 [l0, l1, l2, l3] S σ else exec d mL_law 489 [l0, l1, l2, l3] S σ) ∧
  (∀ (d : Nat) (σ : Sg) (S : List Value) (l0 l1 l2 l3 : Value), exec d mL_law 489 [l0, l1, l2, l3] S σ = exec d mL_law 490 [l0, l1, l2, l3] (.int (nI 0) :: S) σ) ∧
  (∀ (d : Nat) (σ : Sg) (l0 l1 l2 l3 : Value) (x : Int32), exec d mL_law 490 [l0, l1, l2, l3] [.int x] σ = if b01 x = true then some (some (.int x), σ) else none) ∧
  (∀ (d : Nat) (σ : Sg) (S : List Value) (l0 l2 l3 : Value) (k : Nat), exec d mL_law 491 [l0, .ref k, l2, l3] S σ = exec d mL_law 492 [l0, .ref k, l2, l3] (.ref k :: S) σ) ∧
  (∀ (d : Nat) (σ : Sg) (S : List Value) (l1 l2 l3 : Value) (k : Nat), exec d mL_law 492 [.ref k, l1, l2, l3] S σ = exec d mL_law 493 [.ref k, l1, l2, l3] (.ref k :: S) σ) ∧
  (∀ (d : Nat) (σ : Sg) (S : List Value) (l0 l1 l2 : Value) (x : Int32), exec d mL_law 493 [l0, l1, l2, .int x] S σ = exec d mL_law 494 [l0, l1, l2, .int x] (.int x :: S) σ) ∧
  (∀ (d : Nat) (σ : Sg) (S : List Value) (l0 l1 l2 l3 : Value), exec d mL_law 494 [l0, l1, l2, l3] S σ = exec d mL_law 495 [l0, l1, l2, l3] (.int (nI 1) :: S) σ) ∧
  (∀ (d : Nat) (σ : Sg) (S : List Value) (l0 l1 l2 l3 : Value) (x y : Int32), exec d mL_law 495 [l0, l1, l2, l3] (.int y :: .int x :: S) σ = exec d mL_law 496 [l0, l1, l2, l3] (.int (x + y) :: S) σ) ∧
  (∀ (d : Nat) (σ : Sg) (S : List Value) (l0 l1 l2 l3 : Value) (x : Int32), exec d mL_law 496 [l0, l1, l2, l3] (.int x :: .ref 66 :: S) σ = if inb x (σ 67 0).toNatClampNeg = true then exec d mL_law 497 [l0, l1, l2, l3] (.int (σ 66 x.toNatClampNeg) :: S) σ else none) ∧
  (∀ (d : Nat) (σ : Sg) (l0 l1 l2 l3 : Value) (x0 : Int32), exec d mL_law 497 [l0, l1, l2, l3] [.int x0, .ref 0] σ = kb (cal d mX6_idle [.ref 0, .int x0] σ) (fun rs σ2 => exec d mL_law 500 [l0, l1, l2, l3] (rs ++ []) σ2)) ∧
  (∀ (d : Nat) (σ : Sg) (S : List Value) (l0 l1 l3 : Value) (k : Nat), exec d mL_law 500 [l0, l1, .ref k, l3] S σ = exec d mL_law 501 [l0, l1, .ref k, l3] (.ref k :: S) σ) ∧
  (∀ (d : Nat) (σ : Sg) (S : List Value) (l1 l2 l3 : Value) (k : Nat), exec d mL_law 501 [.ref k, l1, l2, l3] S σ = exec d mL_law 502 [.ref k, l1, l2, l3] (.ref k :: S) σ) ∧
  (∀ (d : Nat) (σ : Sg) (S : List Value) (l0 l1 l2 : Value) (x : Int32), exec d mL_law 502 [l0, l1, l2, .int x] S σ = exec d mL_law 503 [l0, l1, l2, .int x] (.int x :: S) σ) ∧
  (∀ (d : Nat) (σ : Sg) (S : List Value) (l0 l1 l2 l3 : Value), exec d mL_law 503 [l0, l1, l2, l3] S σ = exec d mL_law 504 [l0, l1, l2, l3] (.int (nI 1) :: S) σ) ∧
  (∀ (d : Nat) (σ : Sg) (S : List Value) (l0 l1 l2 l3 : Value) (x y : Int32), exec d mL_law 504 [l0, l1, l2, l3] (.int y :: .int x :: S) σ = exec d mL_law 505 [l0, l1, l2, l3] (.int (x + y) :: S) σ) ∧
  (∀ (d : Nat) (σ : Sg) (S : List Value) (l0 l1 l2 l3 : Value) (x : Int32), exec d mL_law 505 [l0, l1, l2, l3] (.int x :: .ref 66 :: S) σ = if inb x (σ 67 0).toNatClampNeg = true then exec d mL_law 506 [l0, l1, l2, l3] (.int (σ 66 x.toNatClampNeg) :: S) σ else none) ∧
  (∀ (d : Nat) (σ : Sg) (l0 l1 l2 l3 : Value) (x0 x2 : Int32), exec d mL_law 506 [l0, l1, l2, l3] [.int x0, .ref 50, .int x2] σ = kb (cal d mX7_idle [.ref 50, .int x0] σ) (fun rs σ2 => exec d mL_law 509 [l0, l1, l2, l3] (rs ++ [.int x2]) σ2)) ∧
  (∀ (d : Nat) (σ : Sg) (S : List Value) (l0 l1 l2 l3 : Value) (x y : Int32), exec d mL_law 509 [l0, l1, l2, l3] (.int y :: .int x :: S) σ = if x = y then exec d mL_law 1144 [l0, l1, l2, l3] S σ else exec d mL_law 512 [l0, l1, l2, l3] S σ) ∧
  (∀ (d : Nat) (σ : Sg) (S : List Value) (l0 l1 l2 l3 : Value), exec d mL_law 512 [l0, l1, l2, l3] S σ = exec d mL_law 513 [l0, l1, l2, l3] (.int (nI 0) :: S) σ) ∧
  (∀ (d : Nat) (σ : Sg) (l0 l1 l2 l3 : Value) (x : Int32), exec d mL_law 513 [l0, l1, l2, l3] [.int x] σ = if b01 x = true then some (some (.int x), σ) else none) ∧
  (∀ (d : Nat) (σ : Sg) (S : List Value) (l0 l2 l3 : Value) (k : Nat), exec d mL_law 514 [l0, .ref k, l2, l3] S σ = exec d mL_law 515 [l0, .ref k, l2, l3] (.ref k :: S) σ) ∧
  (∀ (d : Nat) (σ : Sg) (l0 l1 l2 l3 : Value), exec d mL_law 515 [l0, l1, l2, l3] [.ref 0] σ = kb (cal d mX6_lesson [.ref 0] σ) (fun rs σ2 => exec d mL_law 518 [l0, l1, l2, l3] (rs ++ []) σ2)) ∧
  (∀ (d : Nat) (σ : Sg) (S : List Value) (l0 l1 l3 : Value) (k : Nat), exec d mL_law 518 [l0, l1, .ref k, l3] S σ = exec d mL_law 519 [l0, l1, .ref k, l3] (.ref k :: S) σ) ∧
  (∀ (d : Nat) (σ : Sg) (l0 l1 l2 l3 : Value) (x1 : Int32), exec d mL_law 519 [l0, l1, l2, l3] [.ref 50, .int x1] σ = kb (cal d mX7_lesson [.ref 50] σ) (fun rs σ2 => exec d mL_law 522 [l0, l1, l2, l3] (rs ++ [.int x1]) σ2)) ∧
  (∀ (d : Nat) (σ : Sg) (S : List Value) (l0 l1 l2 l3 : Value) (x y : Int32), exec d mL_law 522 [l0, l1, l2, l3] (.int y :: .int x :: S) σ = if x = y then exec d mL_law 1144 [l0, l1, l2, l3] S σ else exec d mL_law 525 [l0, l1, l2, l3] S σ) ∧
  (∀ (d : Nat) (σ : Sg) (S : List Value) (l0 l1 l2 l3 : Value), exec d mL_law 525 [l0, l1, l2, l3] S σ = exec d mL_law 526 [l0, l1, l2, l3] (.int (nI 0) :: S) σ) ∧
  (∀ (d : Nat) (σ : Sg) (l0 l1 l2 l3 : Value) (x : Int32), exec d mL_law 526 [l0, l1, l2, l3] [.int x] σ = if b01 x = true then some (some (.int x), σ) else none) ∧
  (∀ (d : Nat) (σ : Sg) (S : List Value) (l0 l2 l3 : Value) (k : Nat), exec d mL_law 527 [l0, .ref k, l2, l3] S σ = exec d mL_law 528 [l0, .ref k, l2, l3] (.ref k :: S) σ) ∧
  (∀ (d : Nat) (σ : Sg) (S : List Value) (l1 l2 l3 : Value) (k : Nat), exec d mL_law 528 [.ref k, l1, l2, l3] S σ = exec d mL_law 529 [.ref k, l1, l2, l3] (.ref k :: S) σ) ∧
  (∀ (d : Nat) (σ : Sg) (S : List Value) (l0 l1 l2 : Value) (x : Int32), exec d mL_law 529 [l0, l1, l2, .int x] S σ = exec d mL_law 530 [l0, l1, l2, .int x] (.int x :: S) σ) ∧
  (∀ (d : Nat) (σ : Sg) (S : List Value) (l0 l1 l2 l3 : Value), exec d mL_law 530 [l0, l1, l2, l3] S σ = exec d mL_law 531 [l0, l1, l2, l3] (.int (nI 1) :: S) σ) ∧
  (∀ (d : Nat) (σ : Sg) (S : List Value) (l0 l1 l2 l3 : Value) (x y : Int32), exec d mL_law 531 [l0, l1, l2, l3] (.int y :: .int x :: S) σ = exec d mL_law 532 [l0, l1, l2, l3] (.int (x + y) :: S) σ) ∧
  (∀ (d : Nat) (σ : Sg) (S : List Value) (l0 l1 l2 l3 : Value) (x : Int32), exec d mL_law 532 [l0, l1, l2, l3] (.int x :: .ref 66 :: S) σ = if inb x (σ 67 0).toNatClampNeg = true then exec d mL_law 533 [l0, l1, l2, l3] (.int (σ 66 x.toNatClampNeg) :: S) σ else none) ∧
  (∀ (d : Nat) (σ : Sg) (S : List Value) (l1 l2 l3 : Value) (k : Nat), exec d mL_law 533 [.ref k, l1, l2, l3] S σ = exec d mL_law 534 [.ref k, l1, l2, l3] (.ref k :: S) σ) ∧
  (∀ (d : Nat) (σ : Sg) (S : List Value) (l0 l1 l2 : Value) (x : Int32), exec d mL_law 534 [l0, l1, l2, .int x] S σ = exec d mL_law 535 [l0, l1, l2, .int x] (.int x :: S) σ) :=
  ⟨fun d σ S l0 l1 l2 x => ex_iload_n (show decode mL_law.2.1 479 = .ok (.iload_n 3, 1) by decide +kernel) rfl,
  fun d σ S l0 l1 l2 l3 => ex_iconst (show decode mL_law.2.1 480 = .ok (.iconst 1, 1) by decide +kernel) (by decide +kernel),
  fun d σ S l0 l1 l2 l3 x y => ex_iadd (show decode mL_law.2.1 481 = .ok (.iadd, 1) by decide +kernel),
  fun d σ S l0 l1 l2 l3 x => ex_sald (by decide +kernel),
  fun d σ l0 l1 l2 l3 x0 x2 => ex_iv (hs := [1062, 1063, 1064, 1065, 101]) (show decode mL_law.2.1 483 = .ok (.invokevirtual 60, 3) by decide +kernel) lkV_8_60 ⟨rfl, Nat.le_of_ble_eq_true rfl, Nat.le_of_ble_eq_true rfl, fun _ => rfl⟩ rfl rfl,
  fun d σ S l0 l1 l2 l3 x y => ex_ceq (show decode mL_law.2.1 486 = .ok (.if_icmp .eq 658, 3) by decide +kernel) (by decide),
  fun d σ S l0 l1 l2 l3 => ex_iconst (show decode mL_law.2.1 489 = .ok (.iconst 0, 1) by decide +kernel) (by decide +kernel),
  fun d σ l0 l1 l2 l3 x => ex_zret (show decode mL_law.2.1 490 = .ok (.ireturn, 1) by decide +kernel) rfl,
  fun d σ S l0 l2 l3 k => ex_aload_n (show decode mL_law.2.1 491 = .ok (.aload_n 1, 1) by decide +kernel) rfl,
  fun d σ S l1 l2 l3 k => ex_aload_n (show decode mL_law.2.1 492 = .ok (.aload_n 0, 1) by decide +kernel) rfl,
  fun d σ S l0 l1 l2 x => ex_iload_n (show decode mL_law.2.1 493 = .ok (.iload_n 3, 1) by decide +kernel) rfl,
  fun d σ S l0 l1 l2 l3 => ex_iconst (show decode mL_law.2.1 494 = .ok (.iconst 1, 1) by decide +kernel) (by decide +kernel),
  fun d σ S l0 l1 l2 l3 x y => ex_iadd (show decode mL_law.2.1 495 = .ok (.iadd, 1) by decide +kernel),
  fun d σ S l0 l1 l2 l3 x => ex_sald (by decide +kernel),
  fun d σ l0 l1 l2 l3 x0 => ex_iv (hs := [581, 582, 583, 584, 94]) (show decode mL_law.2.1 497 = .ok (.invokevirtual 61, 3) by decide +kernel) lkV_8_61 ⟨rfl, Nat.le_of_ble_eq_true rfl, Nat.le_of_ble_eq_true rfl, fun _ => rfl⟩ rfl rfl,
  fun d σ S l0 l1 l3 k => ex_aload_n (show decode mL_law.2.1 500 = .ok (.aload_n 2, 1) by decide +kernel) rfl,
  fun d σ S l1 l2 l3 k => ex_aload_n (show decode mL_law.2.1 501 = .ok (.aload_n 0, 1) by decide +kernel) rfl,
  fun d σ S l0 l1 l2 x => ex_iload_n (show decode mL_law.2.1 502 = .ok (.iload_n 3, 1) by decide +kernel) rfl,
  fun d σ S l0 l1 l2 l3 => ex_iconst (show decode mL_law.2.1 503 = .ok (.iconst 1, 1) by decide +kernel) (by decide +kernel),
  fun d σ S l0 l1 l2 l3 x y => ex_iadd (show decode mL_law.2.1 504 = .ok (.iadd, 1) by decide +kernel),
  fun d σ S l0 l1 l2 l3 x => ex_sald (by decide +kernel),
  fun d σ l0 l1 l2 l3 x0 x2 => ex_iv (hs := [1070, 1071, 1072, 1073, 101]) (show decode mL_law.2.1 506 = .ok (.invokevirtual 64, 3) by decide +kernel) lkV_8_64 ⟨rfl, Nat.le_of_ble_eq_true rfl, Nat.le_of_ble_eq_true rfl, fun _ => rfl⟩ rfl rfl,
  fun d σ S l0 l1 l2 l3 x y => ex_ceq (show decode mL_law.2.1 509 = .ok (.if_icmp .eq 635, 3) by decide +kernel) (by decide),
  fun d σ S l0 l1 l2 l3 => ex_iconst (show decode mL_law.2.1 512 = .ok (.iconst 0, 1) by decide +kernel) (by decide +kernel),
  fun d σ l0 l1 l2 l3 x => ex_zret (show decode mL_law.2.1 513 = .ok (.ireturn, 1) by decide +kernel) rfl,
  fun d σ S l0 l2 l3 k => ex_aload_n (show decode mL_law.2.1 514 = .ok (.aload_n 1, 1) by decide +kernel) rfl,
  fun d σ l0 l1 l2 l3 => ex_iv (hs := [585, 586, 587, 588, 94]) (show decode mL_law.2.1 515 = .ok (.invokevirtual 65, 3) by decide +kernel) lkV_8_65 ⟨rfl, Nat.le_of_ble_eq_true rfl, Nat.le_of_ble_eq_true rfl, fun _ => rfl⟩ rfl rfl,
  fun d σ S l0 l1 l3 k => ex_aload_n (show decode mL_law.2.1 518 = .ok (.aload_n 2, 1) by decide +kernel) rfl,
  fun d σ l0 l1 l2 l3 x1 => ex_iv (hs := [1079, 1080, 1081, 1082, 101]) (show decode mL_law.2.1 519 = .ok (.invokevirtual 68, 3) by decide +kernel) lkV_8_68 ⟨rfl, Nat.le_of_ble_eq_true rfl, Nat.le_of_ble_eq_true rfl, fun _ => rfl⟩ rfl rfl,
  fun d σ S l0 l1 l2 l3 x y => ex_ceq (show decode mL_law.2.1 522 = .ok (.if_icmp .eq 622, 3) by decide +kernel) (by decide),
  fun d σ S l0 l1 l2 l3 => ex_iconst (show decode mL_law.2.1 525 = .ok (.iconst 0, 1) by decide +kernel) (by decide +kernel),
  fun d σ l0 l1 l2 l3 x => ex_zret (show decode mL_law.2.1 526 = .ok (.ireturn, 1) by decide +kernel) rfl,
  fun d σ S l0 l2 l3 k => ex_aload_n (show decode mL_law.2.1 527 = .ok (.aload_n 1, 1) by decide +kernel) rfl,
  fun d σ S l1 l2 l3 k => ex_aload_n (show decode mL_law.2.1 528 = .ok (.aload_n 0, 1) by decide +kernel) rfl,
  fun d σ S l0 l1 l2 x => ex_iload_n (show decode mL_law.2.1 529 = .ok (.iload_n 3, 1) by decide +kernel) rfl,
  fun d σ S l0 l1 l2 l3 => ex_iconst (show decode mL_law.2.1 530 = .ok (.iconst 1, 1) by decide +kernel) (by decide +kernel),
  fun d σ S l0 l1 l2 l3 x y => ex_iadd (show decode mL_law.2.1 531 = .ok (.iadd, 1) by decide +kernel),
  fun d σ S l0 l1 l2 l3 x => ex_sald (by decide +kernel),
  fun d σ S l1 l2 l3 k => ex_aload_n (show decode mL_law.2.1 533 = .ok (.aload_n 0, 1) by decide +kernel) rfl,
  fun d σ S l0 l1 l2 x => ex_iload_n (show decode mL_law.2.1 534 = .ok (.iload_n 3, 1) by decide +kernel) rfl⟩
theorem kL_law_7 : (∀ (d : Nat) (σ : Sg) (S : List Value) (l0 l1 l2 l3 : Value), exec d mL_law 535 [l0, l1, l2, l3] S σ = exec d mL_law 536 [l0, l1, l2, l3] (.int (nI 2) :: S) σ) ∧
  (∀ (d : Nat) (σ : Sg) (S : List Value) (l0 l1 l2 l3 : Value) (x y : Int32), exec d mL_law 536 [l0, l1, l2, l3] (.int y :: .int x :: S) σ = exec d mL_law 537 [l0, l1, l2, l3] (.int (x + y) :: S) σ) ∧
  (∀ (d : Nat) (σ : Sg) (S : List Value) (l0 l1 l2 l3 : Value) (x : Int32), exec d mL_law 537 [l0, l1, l2, l3] (.int x :: .ref 66 :: S) σ = if inb x (σ 67 0).toNatClampNeg = true then exec d mL_law 538 [l0, l1, l2, l3] (.int (σ 66 x.toNatClampNeg) :: S) σ else none) ∧
  (∀ (d : Nat) (σ : Sg) (l0 l1 l2 l3 : Value) (x0 x1 : Int32), exec d mL_law 538 [l0, l1, l2, l3] [.int x0, .int x1, .ref 0] σ = kb (cal d mX6_part [.ref 0, .int x1, .int x0] σ) (fun rs σ2 => exec d mL_law 541 [l0, l1, l2, l3] (rs ++ []) σ2)) ∧
  (∀ (d : Nat) (σ : Sg) (S : List Value) (l0 l1 l3 : Value) (k : Nat), exec d mL_law 541 [l0, l1, .ref k, l3] S σ = exec d mL_law 542 [l0, l1, .ref k, l3] (.ref k :: S) σ) ∧
  (∀ (d : Nat) (σ : Sg) (S : List Value) (l1 l2 l3 : Value) (k : Nat), exec d mL_law 542 [.ref k, l1, l2, l3] S σ = exec d mL_law 543 [.ref k, l1, l2, l3] (.ref k :: S) σ) ∧
  (∀ (d : Nat) (σ : Sg) (S : List Value) (l0 l1 l2 : Value) (x : Int32), exec d mL_law 543 [l0, l1, l2, .int x] S σ = exec d mL_law 544 [l0, l1, l2, .int x] (.int x :: S) σ) ∧
  (∀ (d : Nat) (σ : Sg) (S : List Value) (l0 l1 l2 l3 : Value), exec d mL_law 544 [l0, l1, l2, l3] S σ = exec d mL_law 545 [l0, l1, l2, l3] (.int (nI 1) :: S) σ) ∧
  (∀ (d : Nat) (σ : Sg) (S : List Value) (l0 l1 l2 l3 : Value) (x y : Int32), exec d mL_law 545 [l0, l1, l2, l3] (.int y :: .int x :: S) σ = exec d mL_law 546 [l0, l1, l2, l3] (.int (x + y) :: S) σ) ∧
  (∀ (d : Nat) (σ : Sg) (S : List Value) (l0 l1 l2 l3 : Value) (x : Int32), exec d mL_law 546 [l0, l1, l2, l3] (.int x :: .ref 66 :: S) σ = if inb x (σ 67 0).toNatClampNeg = true then exec d mL_law 547 [l0, l1, l2, l3] (.int (σ 66 x.toNatClampNeg) :: S) σ else none) ∧
  (∀ (d : Nat) (σ : Sg) (S : List Value) (l1 l2 l3 : Value) (k : Nat), exec d mL_law 547 [.ref k, l1, l2, l3] S σ = exec d mL_law 548 [.ref k, l1, l2, l3] (.ref k :: S) σ) ∧
  (∀ (d : Nat) (σ : Sg) (S : List Value) (l0 l1 l2 : Value) (x : Int32), exec d mL_law 548 [l0, l1, l2, .int x] S σ = exec d mL_law 549 [l0, l1, l2, .int x] (.int x :: S) σ) ∧
  (∀ (d : Nat) (σ : Sg) (S : List Value) (l0 l1 l2 l3 : Value), exec d mL_law 549 [l0, l1, l2, l3] S σ = exec d mL_law 550 [l0, l1, l2, l3] (.int (nI 2) :: S) σ) ∧
  (∀ (d : Nat) (σ : Sg) (S : List Value) (l0 l1 l2 l3 : Value) (x y : Int32), exec d mL_law 550 [l0, l1, l2, l3] (.int y :: .int x :: S) σ = exec d mL_law 551 [l0, l1, l2, l3] (.int (x + y) :: S) σ) ∧
  (∀ (d : Nat) (σ : Sg) (S : List Value) (l0 l1 l2 l3 : Value) (x : Int32), exec d mL_law 551 [l0, l1, l2, l3] (.int x :: .ref 66 :: S) σ = if inb x (σ 67 0).toNatClampNeg = true then exec d mL_law 552 [l0, l1, l2, l3] (.int (σ 66 x.toNatClampNeg) :: S) σ else none) ∧
  (∀ (d : Nat) (σ : Sg) (l0 l1 l2 l3 : Value) (x0 x1 x3 : Int32), exec d mL_law 552 [l0, l1, l2, l3] [.int x0, .int x1, .ref 50, .int x3] σ = kb (cal d mX7_part [.ref 50, .int x1, .int x0] σ) (fun rs σ2 => exec d mL_law 555 [l0, l1, l2, l3] (rs ++ [.int x3]) σ2)) ∧
  (∀ (d : Nat) (σ : Sg) (S : List Value) (l0 l1 l2 l3 : Value) (x y : Int32), exec d mL_law 555 [l0, l1, l2, l3] (.int y :: .int x :: S) σ = if x = y then exec d mL_law 1144 [l0, l1, l2, l3] S σ else exec d mL_law 558 [l0, l1, l2, l3] S σ) ∧
  (∀ (d : Nat) (σ : Sg) (S : List Value) (l0 l1 l2 l3 : Value), exec d mL_law 558 [l0, l1, l2, l3] S σ = exec d mL_law 559 [l0, l1, l2, l3] (.int (nI 0) :: S) σ) ∧
  (∀ (d : Nat) (σ : Sg) (l0 l1 l2 l3 : Value) (x : Int32), exec d mL_law 559 [l0, l1, l2, l3] [.int x] σ = if b01 x = true then some (some (.int x), σ) else none) ∧
  (∀ (d : Nat) (σ : Sg) (S : List Value) (l0 l2 l3 : Value) (k : Nat), exec d mL_law 560 [l0, .ref k, l2, l3] S σ = exec d mL_law 561 [l0, .ref k, l2, l3] (.ref k :: S) σ) ∧
  (∀ (d : Nat) (σ : Sg) (S : List Value) (l1 l2 l3 : Value) (k : Nat), exec d mL_law 561 [.ref k, l1, l2, l3] S σ = exec d mL_law 562 [.ref k, l1, l2, l3] (.ref k :: S) σ) ∧
  (∀ (d : Nat) (σ : Sg) (S : List Value) (l0 l1 l2 : Value) (x : Int32), exec d mL_law 562 [l0, l1, l2, .int x] S σ = exec d mL_law 563 [l0, l1, l2, .int x] (.int x :: S) σ) ∧
  (∀ (d : Nat) (σ : Sg) (S : List Value) (l0 l1 l2 l3 : Value), exec d mL_law 563 [l0, l1, l2, l3] S σ = exec d mL_law 564 [l0, l1, l2, l3] (.int (nI 1) :: S) σ) ∧
  (∀ (d : Nat) (σ : Sg) (S : List Value) (l0 l1 l2 l3 : Value) (x y : Int32), exec d mL_law 564 [l0, l1, l2, l3] (.int y :: .int x :: S) σ = exec d mL_law 565 [l0, l1, l2, l3] (.int (x + y) :: S) σ) ∧
  (∀ (d : Nat) (σ : Sg) (S : List Value) (l0 l1 l2 l3 : Value) (x : Int32), exec d mL_law 565 [l0, l1, l2, l3] (.int x :: .ref 66 :: S) σ = if inb x (σ 67 0).toNatClampNeg = true then exec d mL_law 566 [l0, l1, l2, l3] (.int (σ 66 x.toNatClampNeg) :: S) σ else none) ∧
  (∀ (d : Nat) (σ : Sg) (S : List Value) (l1 l2 l3 : Value) (k : Nat), exec d mL_law 566 [.ref k, l1, l2, l3] S σ = exec d mL_law 567 [.ref k, l1, l2, l3] (.ref k :: S) σ) ∧
  (∀ (d : Nat) (σ : Sg) (S : List Value) (l0 l1 l2 : Value) (x : Int32), exec d mL_law 567 [l0, l1, l2, .int x] S σ = exec d mL_law 568 [l0, l1, l2, .int x] (.int x :: S) σ) ∧
  (∀ (d : Nat) (σ : Sg) (S : List Value) (l0 l1 l2 l3 : Value), exec d mL_law 568 [l0, l1, l2, l3] S σ = exec d mL_law 569 [l0, l1, l2, l3] (.int (nI 2) :: S) σ) ∧
  (∀ (d : Nat) (σ : Sg) (S : List Value) (l0 l1 l2 l3 : Value) (x y : Int32), exec d mL_law 569 [l0, l1, l2, l3] (.int y :: .int x :: S) σ = exec d mL_law 570 [l0, l1, l2, l3] (.int (x + y) :: S) σ) ∧
  (∀ (d : Nat) (σ : Sg) (S : List Value) (l0 l1 l2 l3 : Value) (x : Int32), exec d mL_law 570 [l0, l1, l2, l3] (.int x :: .ref 66 :: S) σ = if inb x (σ 67 0).toNatClampNeg = true then exec d mL_law 571 [l0, l1, l2, l3] (.int (σ 66 x.toNatClampNeg) :: S) σ else none) ∧
  (∀ (d : Nat) (σ : Sg) (l0 l1 l2 l3 : Value) (x0 x1 : Int32), exec d mL_law 571 [l0, l1, l2, l3] [.int x0, .int x1, .ref 0] σ = kb (cal d mX6_elder [.ref 0, .int x1, .int x0] σ) (fun rs σ2 => exec d mL_law 574 [l0, l1, l2, l3] (rs ++ []) σ2)) ∧
  (∀ (d : Nat) (σ : Sg) (S : List Value) (l0 l1 l3 : Value) (k : Nat), exec d mL_law 574 [l0, l1, .ref k, l3] S σ = exec d mL_law 575 [l0, l1, .ref k, l3] (.ref k :: S) σ) ∧
  (∀ (d : Nat) (σ : Sg) (S : List Value) (l1 l2 l3 : Value) (k : Nat), exec d mL_law 575 [.ref k, l1, l2, l3] S σ = exec d mL_law 576 [.ref k, l1, l2, l3] (.ref k :: S) σ) ∧
  (∀ (d : Nat) (σ : Sg) (S : List Value) (l0 l1 l2 : Value) (x : Int32), exec d mL_law 576 [l0, l1, l2, .int x] S σ = exec d mL_law 577 [l0, l1, l2, .int x] (.int x :: S) σ) ∧
  (∀ (d : Nat) (σ : Sg) (S : List Value) (l0 l1 l2 l3 : Value), exec d mL_law 577 [l0, l1, l2, l3] S σ = exec d mL_law 578 [l0, l1, l2, l3] (.int (nI 1) :: S) σ) ∧
  (∀ (d : Nat) (σ : Sg) (S : List Value) (l0 l1 l2 l3 : Value) (x y : Int32), exec d mL_law 578 [l0, l1, l2, l3] (.int y :: .int x :: S) σ = exec d mL_law 579 [l0, l1, l2, l3] (.int (x + y) :: S) σ) ∧
  (∀ (d : Nat) (σ : Sg) (S : List Value) (l0 l1 l2 l3 : Value) (x : Int32), exec d mL_law 579 [l0, l1, l2, l3] (.int x :: .ref 66 :: S) σ = if inb x (σ 67 0).toNatClampNeg = true then exec d mL_law 580 [l0, l1, l2, l3] (.int (σ 66 x.toNatClampNeg) :: S) σ else none) ∧
  (∀ (d : Nat) (σ : Sg) (S : List Value) (l1 l2 l3 : Value) (k : Nat), exec d mL_law 580 [.ref k, l1, l2, l3] S σ = exec d mL_law 581 [.ref k, l1, l2, l3] (.ref k :: S) σ) ∧
  (∀ (d : Nat) (σ : Sg) (S : List Value) (l0 l1 l2 : Value) (x : Int32), exec d mL_law 581 [l0, l1, l2, .int x] S σ = exec d mL_law 582 [l0, l1, l2, .int x] (.int x :: S) σ) ∧
  (∀ (d : Nat) (σ : Sg) (S : List Value) (l0 l1 l2 l3 : Value), exec d mL_law 582 [l0, l1, l2, l3] S σ = exec d mL_law 583 [l0, l1, l2, l3] (.int (nI 2) :: S) σ) :=
  ⟨fun d σ S l0 l1 l2 l3 => ex_iconst (show decode mL_law.2.1 535 = .ok (.iconst 2, 1) by decide +kernel) (by decide +kernel),
  fun d σ S l0 l1 l2 l3 x y => ex_iadd (show decode mL_law.2.1 536 = .ok (.iadd, 1) by decide +kernel),
  fun d σ S l0 l1 l2 l3 x => ex_sald (by decide +kernel),
  fun d σ l0 l1 l2 l3 x0 x1 => ex_iv (hs := [589, 590, 591, 592, 94]) (show decode mL_law.2.1 538 = .ok (.invokevirtual 69, 3) by decide +kernel) lkV_8_69 ⟨rfl, Nat.le_of_ble_eq_true rfl, Nat.le_of_ble_eq_true rfl, fun _ => rfl⟩ rfl rfl,
  fun d σ S l0 l1 l3 k => ex_aload_n (show decode mL_law.2.1 541 = .ok (.aload_n 2, 1) by decide +kernel) rfl,
  fun d σ S l1 l2 l3 k => ex_aload_n (show decode mL_law.2.1 542 = .ok (.aload_n 0, 1) by decide +kernel) rfl,
  fun d σ S l0 l1 l2 x => ex_iload_n (show decode mL_law.2.1 543 = .ok (.iload_n 3, 1) by decide +kernel) rfl,
  fun d σ S l0 l1 l2 l3 => ex_iconst (show decode mL_law.2.1 544 = .ok (.iconst 1, 1) by decide +kernel) (by decide +kernel),
  fun d σ S l0 l1 l2 l3 x y => ex_iadd (show decode mL_law.2.1 545 = .ok (.iadd, 1) by decide +kernel),
  fun d σ S l0 l1 l2 l3 x => ex_sald (by decide +kernel),
  fun d σ S l1 l2 l3 k => ex_aload_n (show decode mL_law.2.1 547 = .ok (.aload_n 0, 1) by decide +kernel) rfl,
  fun d σ S l0 l1 l2 x => ex_iload_n (show decode mL_law.2.1 548 = .ok (.iload_n 3, 1) by decide +kernel) rfl,
  fun d σ S l0 l1 l2 l3 => ex_iconst (show decode mL_law.2.1 549 = .ok (.iconst 2, 1) by decide +kernel) (by decide +kernel),
  fun d σ S l0 l1 l2 l3 x y => ex_iadd (show decode mL_law.2.1 550 = .ok (.iadd, 1) by decide +kernel),
  fun d σ S l0 l1 l2 l3 x => ex_sald (by decide +kernel),
  fun d σ l0 l1 l2 l3 x0 x1 x3 => ex_iv (hs := [1083, 1084, 1085, 1086, 101]) (show decode mL_law.2.1 552 = .ok (.invokevirtual 73, 3) by decide +kernel) lkV_8_73 ⟨rfl, Nat.le_of_ble_eq_true rfl, Nat.le_of_ble_eq_true rfl, fun _ => rfl⟩ rfl rfl,
  fun d σ S l0 l1 l2 l3 x y => ex_ceq (show decode mL_law.2.1 555 = .ok (.if_icmp .eq 589, 3) by decide +kernel) (by decide),
  fun d σ S l0 l1 l2 l3 => ex_iconst (show decode mL_law.2.1 558 = .ok (.iconst 0, 1) by decide +kernel) (by decide +kernel),
  fun d σ l0 l1 l2 l3 x => ex_zret (show decode mL_law.2.1 559 = .ok (.ireturn, 1) by decide +kernel) rfl,
  fun d σ S l0 l2 l3 k => ex_aload_n (show decode mL_law.2.1 560 = .ok (.aload_n 1, 1) by decide +kernel) rfl,
  fun d σ S l1 l2 l3 k => ex_aload_n (show decode mL_law.2.1 561 = .ok (.aload_n 0, 1) by decide +kernel) rfl,
  fun d σ S l0 l1 l2 x => ex_iload_n (show decode mL_law.2.1 562 = .ok (.iload_n 3, 1) by decide +kernel) rfl,
  fun d σ S l0 l1 l2 l3 => ex_iconst (show decode mL_law.2.1 563 = .ok (.iconst 1, 1) by decide +kernel) (by decide +kernel),
  fun d σ S l0 l1 l2 l3 x y => ex_iadd (show decode mL_law.2.1 564 = .ok (.iadd, 1) by decide +kernel),
  fun d σ S l0 l1 l2 l3 x => ex_sald (by decide +kernel),
  fun d σ S l1 l2 l3 k => ex_aload_n (show decode mL_law.2.1 566 = .ok (.aload_n 0, 1) by decide +kernel) rfl,
  fun d σ S l0 l1 l2 x => ex_iload_n (show decode mL_law.2.1 567 = .ok (.iload_n 3, 1) by decide +kernel) rfl,
  fun d σ S l0 l1 l2 l3 => ex_iconst (show decode mL_law.2.1 568 = .ok (.iconst 2, 1) by decide +kernel) (by decide +kernel),
  fun d σ S l0 l1 l2 l3 x y => ex_iadd (show decode mL_law.2.1 569 = .ok (.iadd, 1) by decide +kernel),
  fun d σ S l0 l1 l2 l3 x => ex_sald (by decide +kernel),
  fun d σ l0 l1 l2 l3 x0 x1 => ex_iv (hs := [596, 597, 598, 599, 94]) (show decode mL_law.2.1 571 = .ok (.invokevirtual 74, 3) by decide +kernel) lkV_8_74 ⟨rfl, Nat.le_of_ble_eq_true rfl, Nat.le_of_ble_eq_true rfl, fun _ => rfl⟩ rfl rfl,
  fun d σ S l0 l1 l3 k => ex_aload_n (show decode mL_law.2.1 574 = .ok (.aload_n 2, 1) by decide +kernel) rfl,
  fun d σ S l1 l2 l3 k => ex_aload_n (show decode mL_law.2.1 575 = .ok (.aload_n 0, 1) by decide +kernel) rfl,
  fun d σ S l0 l1 l2 x => ex_iload_n (show decode mL_law.2.1 576 = .ok (.iload_n 3, 1) by decide +kernel) rfl,
  fun d σ S l0 l1 l2 l3 => ex_iconst (show decode mL_law.2.1 577 = .ok (.iconst 1, 1) by decide +kernel) (by decide +kernel),
  fun d σ S l0 l1 l2 l3 x y => ex_iadd (show decode mL_law.2.1 578 = .ok (.iadd, 1) by decide +kernel),
  fun d σ S l0 l1 l2 l3 x => ex_sald (by decide +kernel),
  fun d σ S l1 l2 l3 k => ex_aload_n (show decode mL_law.2.1 580 = .ok (.aload_n 0, 1) by decide +kernel) rfl,
  fun d σ S l0 l1 l2 x => ex_iload_n (show decode mL_law.2.1 581 = .ok (.iload_n 3, 1) by decide +kernel) rfl,
  fun d σ S l0 l1 l2 l3 => ex_iconst (show decode mL_law.2.1 582 = .ok (.iconst 2, 1) by decide +kernel) (by decide +kernel)⟩
theorem kL_law_8 : (∀ (d : Nat) (σ : Sg) (S : List Value) (l0 l1 l2 l3 : Value) (x y : Int32), exec d mL_law 583 [l0, l1, l2, l3] (.int y :: .int x :: S) σ = exec d mL_law 584 [l0, l1, l2, l3] (.int (x + y) :: S) σ) ∧
  (∀ (d : Nat) (σ : Sg) (S : List Value) (l0 l1 l2 l3 : Value) (x : Int32), exec d mL_law 584 [l0, l1, l2, l3] (.int x :: .ref 66 :: S) σ = if inb x (σ 67 0).toNatClampNeg = true then exec d mL_law 585 [l0, l1, l2, l3] (.int (σ 66 x.toNatClampNeg) :: S) σ else none) ∧
  (∀ (d : Nat) (σ : Sg) (l0 l1 l2 l3 : Value) (x0 x1 x3 : Int32), exec d mL_law 585 [l0, l1, l2, l3] [.int x0, .int x1, .ref 50, .int x3] σ = kb (cal d mX7_elder [.ref 50, .int x1, .int x0] σ) (fun rs σ2 => exec d mL_law 588 [l0, l1, l2, l3] (rs ++ [.int x3]) σ2)) ∧
  (∀ (d : Nat) (σ : Sg) (S : List Value) (l0 l1 l2 l3 : Value) (x y : Int32), exec d mL_law 588 [l0, l1, l2, l3] (.int y :: .int x :: S) σ = if x = y then exec d mL_law 1144 [l0, l1, l2, l3] S σ else exec d mL_law 591 [l0, l1, l2, l3] S σ) ∧
  (∀ (d : Nat) (σ : Sg) (S : List Value) (l0 l1 l2 l3 : Value), exec d mL_law 591 [l0, l1, l2, l3] S σ = exec d mL_law 592 [l0, l1, l2, l3] (.int (nI 0) :: S) σ) ∧
  (∀ (d : Nat) (σ : Sg) (l0 l1 l2 l3 : Value) (x : Int32), exec d mL_law 592 [l0, l1, l2, l3] [.int x] σ = if b01 x = true then some (some (.int x), σ) else none) ∧
  (∀ (d : Nat) (σ : Sg) (S : List Value) (l0 l2 l3 : Value) (k : Nat), exec d mL_law 593 [l0, .ref k, l2, l3] S σ = exec d mL_law 594 [l0, .ref k, l2, l3] (.ref k :: S) σ) ∧
  (∀ (d : Nat) (σ : Sg) (S : List Value) (l1 l2 l3 : Value) (k : Nat), exec d mL_law 594 [.ref k, l1, l2, l3] S σ = exec d mL_law 595 [.ref k, l1, l2, l3] (.ref k :: S) σ) ∧
  (∀ (d : Nat) (σ : Sg) (S : List Value) (l0 l1 l2 : Value) (x : Int32), exec d mL_law 595 [l0, l1, l2, .int x] S σ = exec d mL_law 596 [l0, l1, l2, .int x] (.int x :: S) σ) ∧
  (∀ (d : Nat) (σ : Sg) (S : List Value) (l0 l1 l2 l3 : Value), exec d mL_law 596 [l0, l1, l2, l3] S σ = exec d mL_law 597 [l0, l1, l2, l3] (.int (nI 1) :: S) σ) ∧
  (∀ (d : Nat) (σ : Sg) (S : List Value) (l0 l1 l2 l3 : Value) (x y : Int32), exec d mL_law 597 [l0, l1, l2, l3] (.int y :: .int x :: S) σ = exec d mL_law 598 [l0, l1, l2, l3] (.int (x + y) :: S) σ) ∧
  (∀ (d : Nat) (σ : Sg) (S : List Value) (l0 l1 l2 l3 : Value) (x : Int32), exec d mL_law 598 [l0, l1, l2, l3] (.int x :: .ref 66 :: S) σ = if inb x (σ 67 0).toNatClampNeg = true then exec d mL_law 599 [l0, l1, l2, l3] (.int (σ 66 x.toNatClampNeg) :: S) σ else none) ∧
  (∀ (d : Nat) (σ : Sg) (l0 l1 l2 l3 : Value) (x0 : Int32), exec d mL_law 599 [l0, l1, l2, l3] [.int x0, .ref 0] σ = kb (cal d mX6_stand [.ref 0, .int x0] σ) (fun rs σ2 => exec d mL_law 602 [l0, l1, l2, l3] (rs ++ []) σ2)) ∧
  (∀ (d : Nat) (σ : Sg) (S : List Value) (l0 l1 l3 : Value) (k : Nat), exec d mL_law 602 [l0, l1, .ref k, l3] S σ = exec d mL_law 603 [l0, l1, .ref k, l3] (.ref k :: S) σ) ∧
  (∀ (d : Nat) (σ : Sg) (S : List Value) (l1 l2 l3 : Value) (k : Nat), exec d mL_law 603 [.ref k, l1, l2, l3] S σ = exec d mL_law 604 [.ref k, l1, l2, l3] (.ref k :: S) σ) ∧
  (∀ (d : Nat) (σ : Sg) (S : List Value) (l0 l1 l2 : Value) (x : Int32), exec d mL_law 604 [l0, l1, l2, .int x] S σ = exec d mL_law 605 [l0, l1, l2, .int x] (.int x :: S) σ) ∧
  (∀ (d : Nat) (σ : Sg) (S : List Value) (l0 l1 l2 l3 : Value), exec d mL_law 605 [l0, l1, l2, l3] S σ = exec d mL_law 606 [l0, l1, l2, l3] (.int (nI 1) :: S) σ) ∧
  (∀ (d : Nat) (σ : Sg) (S : List Value) (l0 l1 l2 l3 : Value) (x y : Int32), exec d mL_law 606 [l0, l1, l2, l3] (.int y :: .int x :: S) σ = exec d mL_law 607 [l0, l1, l2, l3] (.int (x + y) :: S) σ) ∧
  (∀ (d : Nat) (σ : Sg) (S : List Value) (l0 l1 l2 l3 : Value) (x : Int32), exec d mL_law 607 [l0, l1, l2, l3] (.int x :: .ref 66 :: S) σ = if inb x (σ 67 0).toNatClampNeg = true then exec d mL_law 608 [l0, l1, l2, l3] (.int (σ 66 x.toNatClampNeg) :: S) σ else none) ∧
  (∀ (d : Nat) (σ : Sg) (l0 l1 l2 l3 : Value) (x0 x2 : Int32), exec d mL_law 608 [l0, l1, l2, l3] [.int x0, .ref 50, .int x2] σ = kb (cal d mX7_stand [.ref 50, .int x0] σ) (fun rs σ2 => exec d mL_law 611 [l0, l1, l2, l3] (rs ++ [.int x2]) σ2)) ∧
  (∀ (d : Nat) (σ : Sg) (S : List Value) (l0 l1 l2 l3 : Value) (x y : Int32), exec d mL_law 611 [l0, l1, l2, l3] (.int y :: .int x :: S) σ = if x = y then exec d mL_law 1144 [l0, l1, l2, l3] S σ else exec d mL_law 614 [l0, l1, l2, l3] S σ) ∧
  (∀ (d : Nat) (σ : Sg) (S : List Value) (l0 l1 l2 l3 : Value), exec d mL_law 614 [l0, l1, l2, l3] S σ = exec d mL_law 615 [l0, l1, l2, l3] (.int (nI 0) :: S) σ) ∧
  (∀ (d : Nat) (σ : Sg) (l0 l1 l2 l3 : Value) (x : Int32), exec d mL_law 615 [l0, l1, l2, l3] [.int x] σ = if b01 x = true then some (some (.int x), σ) else none) ∧
  (∀ (d : Nat) (σ : Sg) (S : List Value) (l0 l2 l3 : Value) (k : Nat), exec d mL_law 616 [l0, .ref k, l2, l3] S σ = exec d mL_law 617 [l0, .ref k, l2, l3] (.ref k :: S) σ) ∧
  (∀ (d : Nat) (σ : Sg) (S : List Value) (l1 l2 l3 : Value) (k : Nat), exec d mL_law 617 [.ref k, l1, l2, l3] S σ = exec d mL_law 618 [.ref k, l1, l2, l3] (.ref k :: S) σ) ∧
  (∀ (d : Nat) (σ : Sg) (S : List Value) (l0 l1 l2 : Value) (x : Int32), exec d mL_law 618 [l0, l1, l2, .int x] S σ = exec d mL_law 619 [l0, l1, l2, .int x] (.int x :: S) σ) ∧
  (∀ (d : Nat) (σ : Sg) (S : List Value) (l0 l1 l2 l3 : Value), exec d mL_law 619 [l0, l1, l2, l3] S σ = exec d mL_law 620 [l0, l1, l2, l3] (.int (nI 1) :: S) σ) ∧
  (∀ (d : Nat) (σ : Sg) (S : List Value) (l0 l1 l2 l3 : Value) (x y : Int32), exec d mL_law 620 [l0, l1, l2, l3] (.int y :: .int x :: S) σ = exec d mL_law 621 [l0, l1, l2, l3] (.int (x + y) :: S) σ) ∧
  (∀ (d : Nat) (σ : Sg) (S : List Value) (l0 l1 l2 l3 : Value) (x : Int32), exec d mL_law 621 [l0, l1, l2, l3] (.int x :: .ref 66 :: S) σ = if inb x (σ 67 0).toNatClampNeg = true then exec d mL_law 622 [l0, l1, l2, l3] (.int (σ 66 x.toNatClampNeg) :: S) σ else none) ∧
  (∀ (d : Nat) (σ : Sg) (l0 l1 l2 l3 : Value) (x0 : Int32), exec d mL_law 622 [l0, l1, l2, l3] [.int x0, .ref 0] σ = kb (cal d mX6_fewest [.ref 0, .int x0] σ) (fun rs σ2 => exec d mL_law 625 [l0, l1, l2, l3] (rs ++ []) σ2)) ∧
  (∀ (d : Nat) (σ : Sg) (S : List Value) (l0 l1 l3 : Value) (k : Nat), exec d mL_law 625 [l0, l1, .ref k, l3] S σ = exec d mL_law 626 [l0, l1, .ref k, l3] (.ref k :: S) σ) ∧
  (∀ (d : Nat) (σ : Sg) (S : List Value) (l1 l2 l3 : Value) (k : Nat), exec d mL_law 626 [.ref k, l1, l2, l3] S σ = exec d mL_law 627 [.ref k, l1, l2, l3] (.ref k :: S) σ) ∧
  (∀ (d : Nat) (σ : Sg) (S : List Value) (l0 l1 l2 : Value) (x : Int32), exec d mL_law 627 [l0, l1, l2, .int x] S σ = exec d mL_law 628 [l0, l1, l2, .int x] (.int x :: S) σ) ∧
  (∀ (d : Nat) (σ : Sg) (S : List Value) (l0 l1 l2 l3 : Value), exec d mL_law 628 [l0, l1, l2, l3] S σ = exec d mL_law 629 [l0, l1, l2, l3] (.int (nI 1) :: S) σ) ∧
  (∀ (d : Nat) (σ : Sg) (S : List Value) (l0 l1 l2 l3 : Value) (x y : Int32), exec d mL_law 629 [l0, l1, l2, l3] (.int y :: .int x :: S) σ = exec d mL_law 630 [l0, l1, l2, l3] (.int (x + y) :: S) σ) ∧
  (∀ (d : Nat) (σ : Sg) (S : List Value) (l0 l1 l2 l3 : Value) (x : Int32), exec d mL_law 630 [l0, l1, l2, l3] (.int x :: .ref 66 :: S) σ = if inb x (σ 67 0).toNatClampNeg = true then exec d mL_law 631 [l0, l1, l2, l3] (.int (σ 66 x.toNatClampNeg) :: S) σ else none) ∧
  (∀ (d : Nat) (σ : Sg) (l0 l1 l2 l3 : Value) (x0 x2 : Int32), exec d mL_law 631 [l0, l1, l2, l3] [.int x0, .ref 50, .int x2] σ = kb (cal d mX7_fewest [.ref 50, .int x0] σ) (fun rs σ2 => exec d mL_law 634 [l0, l1, l2, l3] (rs ++ [.int x2]) σ2)) ∧
  (∀ (d : Nat) (σ : Sg) (S : List Value) (l0 l1 l2 l3 : Value) (x y : Int32), exec d mL_law 634 [l0, l1, l2, l3] (.int y :: .int x :: S) σ = if x = y then exec d mL_law 1144 [l0, l1, l2, l3] S σ else exec d mL_law 637 [l0, l1, l2, l3] S σ) ∧
  (∀ (d : Nat) (σ : Sg) (S : List Value) (l0 l1 l2 l3 : Value), exec d mL_law 637 [l0, l1, l2, l3] S σ = exec d mL_law 638 [l0, l1, l2, l3] (.int (nI 0) :: S) σ) ∧
  (∀ (d : Nat) (σ : Sg) (l0 l1 l2 l3 : Value) (x : Int32), exec d mL_law 638 [l0, l1, l2, l3] [.int x] σ = if b01 x = true then some (some (.int x), σ) else none) :=
  ⟨fun d σ S l0 l1 l2 l3 x y => ex_iadd (show decode mL_law.2.1 583 = .ok (.iadd, 1) by decide +kernel),
  fun d σ S l0 l1 l2 l3 x => ex_sald (by decide +kernel),
  fun d σ l0 l1 l2 l3 x0 x1 x3 => ex_iv (hs := [1088, 1089, 1090, 1091, 101]) (show decode mL_law.2.1 585 = .ok (.invokevirtual 77, 3) by decide +kernel) lkV_8_77 ⟨rfl, Nat.le_of_ble_eq_true rfl, Nat.le_of_ble_eq_true rfl, fun _ => rfl⟩ rfl rfl,
  fun d σ S l0 l1 l2 l3 x y => ex_ceq (show decode mL_law.2.1 588 = .ok (.if_icmp .eq 556, 3) by decide +kernel) (by decide),
  fun d σ S l0 l1 l2 l3 => ex_iconst (show decode mL_law.2.1 591 = .ok (.iconst 0, 1) by decide +kernel) (by decide +kernel),
  fun d σ l0 l1 l2 l3 x => ex_zret (show decode mL_law.2.1 592 = .ok (.ireturn, 1) by decide +kernel) rfl,
  fun d σ S l0 l2 l3 k => ex_aload_n (show decode mL_law.2.1 593 = .ok (.aload_n 1, 1) by decide +kernel) rfl,
  fun d σ S l1 l2 l3 k => ex_aload_n (show decode mL_law.2.1 594 = .ok (.aload_n 0, 1) by decide +kernel) rfl,
  fun d σ S l0 l1 l2 x => ex_iload_n (show decode mL_law.2.1 595 = .ok (.iload_n 3, 1) by decide +kernel) rfl,
  fun d σ S l0 l1 l2 l3 => ex_iconst (show decode mL_law.2.1 596 = .ok (.iconst 1, 1) by decide +kernel) (by decide +kernel),
  fun d σ S l0 l1 l2 l3 x y => ex_iadd (show decode mL_law.2.1 597 = .ok (.iadd, 1) by decide +kernel),
  fun d σ S l0 l1 l2 l3 x => ex_sald (by decide +kernel),
  fun d σ l0 l1 l2 l3 x0 => ex_iv (hs := [615, 616, 617, 618, 94]) (show decode mL_law.2.1 599 = .ok (.invokevirtual 78, 3) by decide +kernel) lkV_8_78 ⟨rfl, Nat.le_of_ble_eq_true rfl, Nat.le_of_ble_eq_true rfl, fun _ => rfl⟩ rfl rfl,
  fun d σ S l0 l1 l3 k => ex_aload_n (show decode mL_law.2.1 602 = .ok (.aload_n 2, 1) by decide +kernel) rfl,
  fun d σ S l1 l2 l3 k => ex_aload_n (show decode mL_law.2.1 603 = .ok (.aload_n 0, 1) by decide +kernel) rfl,
  fun d σ S l0 l1 l2 x => ex_iload_n (show decode mL_law.2.1 604 = .ok (.iload_n 3, 1) by decide +kernel) rfl,
  fun d σ S l0 l1 l2 l3 => ex_iconst (show decode mL_law.2.1 605 = .ok (.iconst 1, 1) by decide +kernel) (by decide +kernel),
  fun d σ S l0 l1 l2 l3 x y => ex_iadd (show decode mL_law.2.1 606 = .ok (.iadd, 1) by decide +kernel),
  fun d σ S l0 l1 l2 l3 x => ex_sald (by decide +kernel),
  fun d σ l0 l1 l2 l3 x0 x2 => ex_iv (hs := [1108, 1109, 1110, 1111, 101]) (show decode mL_law.2.1 608 = .ok (.invokevirtual 81, 3) by decide +kernel) lkV_8_81 ⟨rfl, Nat.le_of_ble_eq_true rfl, Nat.le_of_ble_eq_true rfl, fun _ => rfl⟩ rfl rfl,
  fun d σ S l0 l1 l2 l3 x y => ex_ceq (show decode mL_law.2.1 611 = .ok (.if_icmp .eq 533, 3) by decide +kernel) (by decide),
  fun d σ S l0 l1 l2 l3 => ex_iconst (show decode mL_law.2.1 614 = .ok (.iconst 0, 1) by decide +kernel) (by decide +kernel),
  fun d σ l0 l1 l2 l3 x => ex_zret (show decode mL_law.2.1 615 = .ok (.ireturn, 1) by decide +kernel) rfl,
  fun d σ S l0 l2 l3 k => ex_aload_n (show decode mL_law.2.1 616 = .ok (.aload_n 1, 1) by decide +kernel) rfl,
  fun d σ S l1 l2 l3 k => ex_aload_n (show decode mL_law.2.1 617 = .ok (.aload_n 0, 1) by decide +kernel) rfl,
  fun d σ S l0 l1 l2 x => ex_iload_n (show decode mL_law.2.1 618 = .ok (.iload_n 3, 1) by decide +kernel) rfl,
  fun d σ S l0 l1 l2 l3 => ex_iconst (show decode mL_law.2.1 619 = .ok (.iconst 1, 1) by decide +kernel) (by decide +kernel),
  fun d σ S l0 l1 l2 l3 x y => ex_iadd (show decode mL_law.2.1 620 = .ok (.iadd, 1) by decide +kernel),
  fun d σ S l0 l1 l2 l3 x => ex_sald (by decide +kernel),
  fun d σ l0 l1 l2 l3 x0 => ex_iv (hs := [628, 629, 630, 631, 94]) (show decode mL_law.2.1 622 = .ok (.invokevirtual 82, 3) by decide +kernel) lkV_8_82 ⟨rfl, Nat.le_of_ble_eq_true rfl, Nat.le_of_ble_eq_true rfl, fun _ => rfl⟩ rfl rfl,
  fun d σ S l0 l1 l3 k => ex_aload_n (show decode mL_law.2.1 625 = .ok (.aload_n 2, 1) by decide +kernel) rfl,
  fun d σ S l1 l2 l3 k => ex_aload_n (show decode mL_law.2.1 626 = .ok (.aload_n 0, 1) by decide +kernel) rfl,
  fun d σ S l0 l1 l2 x => ex_iload_n (show decode mL_law.2.1 627 = .ok (.iload_n 3, 1) by decide +kernel) rfl,
  fun d σ S l0 l1 l2 l3 => ex_iconst (show decode mL_law.2.1 628 = .ok (.iconst 1, 1) by decide +kernel) (by decide +kernel),
  fun d σ S l0 l1 l2 l3 x y => ex_iadd (show decode mL_law.2.1 629 = .ok (.iadd, 1) by decide +kernel),
  fun d σ S l0 l1 l2 l3 x => ex_sald (by decide +kernel),
  fun d σ l0 l1 l2 l3 x0 x2 => ex_iv (hs := [1124, 1125, 1126, 1127, 101]) (show decode mL_law.2.1 631 = .ok (.invokevirtual 85, 3) by decide +kernel) lkV_8_85 ⟨rfl, Nat.le_of_ble_eq_true rfl, Nat.le_of_ble_eq_true rfl, fun _ => rfl⟩ rfl rfl,
  fun d σ S l0 l1 l2 l3 x y => ex_ceq (show decode mL_law.2.1 634 = .ok (.if_icmp .eq 510, 3) by decide +kernel) (by decide),
  fun d σ S l0 l1 l2 l3 => ex_iconst (show decode mL_law.2.1 637 = .ok (.iconst 0, 1) by decide +kernel) (by decide +kernel),
  fun d σ l0 l1 l2 l3 x => ex_zret (show decode mL_law.2.1 638 = .ok (.ireturn, 1) by decide +kernel) rfl⟩
theorem kL_law_9 : (∀ (d : Nat) (σ : Sg) (S : List Value) (l0 l2 l3 : Value) (k : Nat), exec d mL_law 639 [l0, .ref k, l2, l3] S σ = exec d mL_law 640 [l0, .ref k, l2, l3] (.ref k :: S) σ) ∧
  (∀ (d : Nat) (σ : Sg) (l0 l1 l2 l3 : Value), exec d mL_law 640 [l0, l1, l2, l3] [.ref 0] σ = kb (cal d mX6_can [.ref 0] σ) (fun rs σ2 => exec d mL_law 643 [l0, l1, l2, l3] (rs ++ []) σ2)) ∧
  (∀ (d : Nat) (σ : Sg) (S : List Value) (l0 l1 l3 : Value) (k : Nat), exec d mL_law 643 [l0, l1, .ref k, l3] S σ = exec d mL_law 644 [l0, l1, .ref k, l3] (.ref k :: S) σ) ∧
  (∀ (d : Nat) (σ : Sg) (l0 l1 l2 l3 : Value) (x1 : Int32), exec d mL_law 644 [l0, l1, l2, l3] [.ref 50, .int x1] σ = kb (cal d mX7_can [.ref 50] σ) (fun rs σ2 => exec d mL_law 647 [l0, l1, l2, l3] (rs ++ [.int x1]) σ2)) ∧
  (∀ (d : Nat) (σ : Sg) (S : List Value) (l0 l1 l2 l3 : Value) (x y : Int32), exec d mL_law 647 [l0, l1, l2, l3] (.int y :: .int x :: S) σ = if x = y then exec d mL_law 1144 [l0, l1, l2, l3] S σ else exec d mL_law 650 [l0, l1, l2, l3] S σ) ∧
  (∀ (d : Nat) (σ : Sg) (S : List Value) (l0 l1 l2 l3 : Value), exec d mL_law 650 [l0, l1, l2, l3] S σ = exec d mL_law 651 [l0, l1, l2, l3] (.int (nI 0) :: S) σ) ∧
  (∀ (d : Nat) (σ : Sg) (l0 l1 l2 l3 : Value) (x : Int32), exec d mL_law 651 [l0, l1, l2, l3] [.int x] σ = if b01 x = true then some (some (.int x), σ) else none) ∧
  (∀ (d : Nat) (σ : Sg) (S : List Value) (l0 l2 l3 : Value) (k : Nat), exec d mL_law 652 [l0, .ref k, l2, l3] S σ = exec d mL_law 653 [l0, .ref k, l2, l3] (.ref k :: S) σ) ∧
  (∀ (d : Nat) (σ : Sg) (S : List Value) (l1 l2 l3 : Value) (k : Nat), exec d mL_law 653 [.ref k, l1, l2, l3] S σ = exec d mL_law 654 [.ref k, l1, l2, l3] (.ref k :: S) σ) ∧
  (∀ (d : Nat) (σ : Sg) (S : List Value) (l0 l1 l2 : Value) (x : Int32), exec d mL_law 654 [l0, l1, l2, .int x] S σ = exec d mL_law 655 [l0, l1, l2, .int x] (.int x :: S) σ) ∧
  (∀ (d : Nat) (σ : Sg) (S : List Value) (l0 l1 l2 l3 : Value), exec d mL_law 655 [l0, l1, l2, l3] S σ = exec d mL_law 656 [l0, l1, l2, l3] (.int (nI 1) :: S) σ) ∧
  (∀ (d : Nat) (σ : Sg) (S : List Value) (l0 l1 l2 l3 : Value) (x y : Int32), exec d mL_law 656 [l0, l1, l2, l3] (.int y :: .int x :: S) σ = exec d mL_law 657 [l0, l1, l2, l3] (.int (x + y) :: S) σ) ∧
  (∀ (d : Nat) (σ : Sg) (S : List Value) (l0 l1 l2 l3 : Value) (x : Int32), exec d mL_law 657 [l0, l1, l2, l3] (.int x :: .ref 66 :: S) σ = if inb x (σ 67 0).toNatClampNeg = true then exec d mL_law 658 [l0, l1, l2, l3] (.int (σ 66 x.toNatClampNeg) :: S) σ else none) ∧
  (∀ (d : Nat) (σ : Sg) (l0 l1 l2 l3 : Value) (x0 : Int32), exec d mL_law 658 [l0, l1, l2, l3] [.int x0, .ref 0] σ = kb (cal d mX6_feasts [.ref 0, .int x0] σ) (fun rs σ2 => exec d mL_law 661 [l0, l1, l2, l3] (rs ++ []) σ2)) ∧
  (∀ (d : Nat) (σ : Sg) (S : List Value) (l0 l1 l3 : Value) (k : Nat), exec d mL_law 661 [l0, l1, .ref k, l3] S σ = exec d mL_law 662 [l0, l1, .ref k, l3] (.ref k :: S) σ) ∧
  (∀ (d : Nat) (σ : Sg) (S : List Value) (l1 l2 l3 : Value) (k : Nat), exec d mL_law 662 [.ref k, l1, l2, l3] S σ = exec d mL_law 663 [.ref k, l1, l2, l3] (.ref k :: S) σ) ∧
  (∀ (d : Nat) (σ : Sg) (S : List Value) (l0 l1 l2 : Value) (x : Int32), exec d mL_law 663 [l0, l1, l2, .int x] S σ = exec d mL_law 664 [l0, l1, l2, .int x] (.int x :: S) σ) ∧
  (∀ (d : Nat) (σ : Sg) (S : List Value) (l0 l1 l2 l3 : Value), exec d mL_law 664 [l0, l1, l2, l3] S σ = exec d mL_law 665 [l0, l1, l2, l3] (.int (nI 1) :: S) σ) ∧
  (∀ (d : Nat) (σ : Sg) (S : List Value) (l0 l1 l2 l3 : Value) (x y : Int32), exec d mL_law 665 [l0, l1, l2, l3] (.int y :: .int x :: S) σ = exec d mL_law 666 [l0, l1, l2, l3] (.int (x + y) :: S) σ) ∧
  (∀ (d : Nat) (σ : Sg) (S : List Value) (l0 l1 l2 l3 : Value) (x : Int32), exec d mL_law 666 [l0, l1, l2, l3] (.int x :: .ref 66 :: S) σ = if inb x (σ 67 0).toNatClampNeg = true then exec d mL_law 667 [l0, l1, l2, l3] (.int (σ 66 x.toNatClampNeg) :: S) σ else none) ∧
  (∀ (d : Nat) (σ : Sg) (l0 l1 l2 l3 : Value) (x0 x2 : Int32), exec d mL_law 667 [l0, l1, l2, l3] [.int x0, .ref 50, .int x2] σ = kb (cal d mX7_feasts [.ref 50, .int x0] σ) (fun rs σ2 => exec d mL_law 670 [l0, l1, l2, l3] (rs ++ [.int x2]) σ2)) ∧
  (∀ (d : Nat) (σ : Sg) (S : List Value) (l0 l1 l2 l3 : Value) (x y : Int32), exec d mL_law 670 [l0, l1, l2, l3] (.int y :: .int x :: S) σ = if x = y then exec d mL_law 1144 [l0, l1, l2, l3] S σ else exec d mL_law 673 [l0, l1, l2, l3] S σ) ∧
  (∀ (d : Nat) (σ : Sg) (S : List Value) (l0 l1 l2 l3 : Value), exec d mL_law 673 [l0, l1, l2, l3] S σ = exec d mL_law 674 [l0, l1, l2, l3] (.int (nI 0) :: S) σ) ∧
  (∀ (d : Nat) (σ : Sg) (l0 l1 l2 l3 : Value) (x : Int32), exec d mL_law 674 [l0, l1, l2, l3] [.int x] σ = if b01 x = true then some (some (.int x), σ) else none) ∧
  (∀ (d : Nat) (σ : Sg) (S : List Value) (l0 l2 l3 : Value) (k : Nat), exec d mL_law 675 [l0, .ref k, l2, l3] S σ = exec d mL_law 676 [l0, .ref k, l2, l3] (.ref k :: S) σ) ∧
  (∀ (d : Nat) (σ : Sg) (S : List Value) (l1 l2 l3 : Value) (k : Nat), exec d mL_law 676 [.ref k, l1, l2, l3] S σ = exec d mL_law 677 [.ref k, l1, l2, l3] (.ref k :: S) σ) ∧
  (∀ (d : Nat) (σ : Sg) (S : List Value) (l0 l1 l2 : Value) (x : Int32), exec d mL_law 677 [l0, l1, l2, .int x] S σ = exec d mL_law 678 [l0, l1, l2, .int x] (.int x :: S) σ) ∧
  (∀ (d : Nat) (σ : Sg) (S : List Value) (l0 l1 l2 l3 : Value), exec d mL_law 678 [l0, l1, l2, l3] S σ = exec d mL_law 679 [l0, l1, l2, l3] (.int (nI 1) :: S) σ) ∧
  (∀ (d : Nat) (σ : Sg) (S : List Value) (l0 l1 l2 l3 : Value) (x y : Int32), exec d mL_law 679 [l0, l1, l2, l3] (.int y :: .int x :: S) σ = exec d mL_law 680 [l0, l1, l2, l3] (.int (x + y) :: S) σ) ∧
  (∀ (d : Nat) (σ : Sg) (S : List Value) (l0 l1 l2 l3 : Value) (x : Int32), exec d mL_law 680 [l0, l1, l2, l3] (.int x :: .ref 66 :: S) σ = if inb x (σ 67 0).toNatClampNeg = true then exec d mL_law 681 [l0, l1, l2, l3] (.int (σ 66 x.toNatClampNeg) :: S) σ else none) ∧
  (∀ (d : Nat) (σ : Sg) (l0 l1 l2 l3 : Value) (x0 : Int32), exec d mL_law 681 [l0, l1, l2, l3] [.int x0, .ref 0] σ = kb (cal d mX6_mends [.ref 0, .int x0] σ) (fun rs σ2 => exec d mL_law 684 [l0, l1, l2, l3] (rs ++ []) σ2)) ∧
  (∀ (d : Nat) (σ : Sg) (S : List Value) (l0 l1 l3 : Value) (k : Nat), exec d mL_law 684 [l0, l1, .ref k, l3] S σ = exec d mL_law 685 [l0, l1, .ref k, l3] (.ref k :: S) σ) ∧
  (∀ (d : Nat) (σ : Sg) (S : List Value) (l1 l2 l3 : Value) (k : Nat), exec d mL_law 685 [.ref k, l1, l2, l3] S σ = exec d mL_law 686 [.ref k, l1, l2, l3] (.ref k :: S) σ) ∧
  (∀ (d : Nat) (σ : Sg) (S : List Value) (l0 l1 l2 : Value) (x : Int32), exec d mL_law 686 [l0, l1, l2, .int x] S σ = exec d mL_law 687 [l0, l1, l2, .int x] (.int x :: S) σ) ∧
  (∀ (d : Nat) (σ : Sg) (S : List Value) (l0 l1 l2 l3 : Value), exec d mL_law 687 [l0, l1, l2, l3] S σ = exec d mL_law 688 [l0, l1, l2, l3] (.int (nI 1) :: S) σ) ∧
  (∀ (d : Nat) (σ : Sg) (S : List Value) (l0 l1 l2 l3 : Value) (x y : Int32), exec d mL_law 688 [l0, l1, l2, l3] (.int y :: .int x :: S) σ = exec d mL_law 689 [l0, l1, l2, l3] (.int (x + y) :: S) σ) ∧
  (∀ (d : Nat) (σ : Sg) (S : List Value) (l0 l1 l2 l3 : Value) (x : Int32), exec d mL_law 689 [l0, l1, l2, l3] (.int x :: .ref 66 :: S) σ = if inb x (σ 67 0).toNatClampNeg = true then exec d mL_law 690 [l0, l1, l2, l3] (.int (σ 66 x.toNatClampNeg) :: S) σ else none) ∧
  (∀ (d : Nat) (σ : Sg) (l0 l1 l2 l3 : Value) (x0 x2 : Int32), exec d mL_law 690 [l0, l1, l2, l3] [.int x0, .ref 50, .int x2] σ = kb (cal d mX7_mends [.ref 50, .int x0] σ) (fun rs σ2 => exec d mL_law 693 [l0, l1, l2, l3] (rs ++ [.int x2]) σ2)) ∧
  (∀ (d : Nat) (σ : Sg) (S : List Value) (l0 l1 l2 l3 : Value) (x y : Int32), exec d mL_law 693 [l0, l1, l2, l3] (.int y :: .int x :: S) σ = if x = y then exec d mL_law 1144 [l0, l1, l2, l3] S σ else exec d mL_law 696 [l0, l1, l2, l3] S σ) ∧
  (∀ (d : Nat) (σ : Sg) (S : List Value) (l0 l1 l2 l3 : Value), exec d mL_law 696 [l0, l1, l2, l3] S σ = exec d mL_law 697 [l0, l1, l2, l3] (.int (nI 0) :: S) σ) :=
  ⟨fun d σ S l0 l2 l3 k => ex_aload_n (show decode mL_law.2.1 639 = .ok (.aload_n 1, 1) by decide +kernel) rfl,
  fun d σ l0 l1 l2 l3 => ex_iv (hs := [661, 662, 663, 664, 94]) (show decode mL_law.2.1 640 = .ok (.invokevirtual 86, 3) by decide +kernel) lkV_8_86 ⟨rfl, Nat.le_of_ble_eq_true rfl, Nat.le_of_ble_eq_true rfl, fun _ => rfl⟩ rfl rfl,
  fun d σ S l0 l1 l3 k => ex_aload_n (show decode mL_law.2.1 643 = .ok (.aload_n 2, 1) by decide +kernel) rfl,
  fun d σ l0 l1 l2 l3 x1 => ex_iv (hs := [1141, 1142, 1143, 1144, 101]) (show decode mL_law.2.1 644 = .ok (.invokevirtual 89, 3) by decide +kernel) lkV_8_89 ⟨rfl, Nat.le_of_ble_eq_true rfl, Nat.le_of_ble_eq_true rfl, fun _ => rfl⟩ rfl rfl,
  fun d σ S l0 l1 l2 l3 x y => ex_ceq (show decode mL_law.2.1 647 = .ok (.if_icmp .eq 497, 3) by decide +kernel) (by decide),
  fun d σ S l0 l1 l2 l3 => ex_iconst (show decode mL_law.2.1 650 = .ok (.iconst 0, 1) by decide +kernel) (by decide +kernel),
  fun d σ l0 l1 l2 l3 x => ex_zret (show decode mL_law.2.1 651 = .ok (.ireturn, 1) by decide +kernel) rfl,
  fun d σ S l0 l2 l3 k => ex_aload_n (show decode mL_law.2.1 652 = .ok (.aload_n 1, 1) by decide +kernel) rfl,
  fun d σ S l1 l2 l3 k => ex_aload_n (show decode mL_law.2.1 653 = .ok (.aload_n 0, 1) by decide +kernel) rfl,
  fun d σ S l0 l1 l2 x => ex_iload_n (show decode mL_law.2.1 654 = .ok (.iload_n 3, 1) by decide +kernel) rfl,
  fun d σ S l0 l1 l2 l3 => ex_iconst (show decode mL_law.2.1 655 = .ok (.iconst 1, 1) by decide +kernel) (by decide +kernel),
  fun d σ S l0 l1 l2 l3 x y => ex_iadd (show decode mL_law.2.1 656 = .ok (.iadd, 1) by decide +kernel),
  fun d σ S l0 l1 l2 l3 x => ex_sald (by decide +kernel),
  fun d σ l0 l1 l2 l3 x0 => ex_iv (hs := [665, 666, 667, 668, 94]) (show decode mL_law.2.1 658 = .ok (.invokevirtual 90, 3) by decide +kernel) lkV_8_90 ⟨rfl, Nat.le_of_ble_eq_true rfl, Nat.le_of_ble_eq_true rfl, fun _ => rfl⟩ rfl rfl,
  fun d σ S l0 l1 l3 k => ex_aload_n (show decode mL_law.2.1 661 = .ok (.aload_n 2, 1) by decide +kernel) rfl,
  fun d σ S l1 l2 l3 k => ex_aload_n (show decode mL_law.2.1 662 = .ok (.aload_n 0, 1) by decide +kernel) rfl,
  fun d σ S l0 l1 l2 x => ex_iload_n (show decode mL_law.2.1 663 = .ok (.iload_n 3, 1) by decide +kernel) rfl,
  fun d σ S l0 l1 l2 l3 => ex_iconst (show decode mL_law.2.1 664 = .ok (.iconst 1, 1) by decide +kernel) (by decide +kernel),
  fun d σ S l0 l1 l2 l3 x y => ex_iadd (show decode mL_law.2.1 665 = .ok (.iadd, 1) by decide +kernel),
  fun d σ S l0 l1 l2 l3 x => ex_sald (by decide +kernel),
  fun d σ l0 l1 l2 l3 x0 x2 => ex_iv (hs := [1145, 1146, 1147, 1148, 101]) (show decode mL_law.2.1 667 = .ok (.invokevirtual 93, 3) by decide +kernel) lkV_8_93 ⟨rfl, Nat.le_of_ble_eq_true rfl, Nat.le_of_ble_eq_true rfl, fun _ => rfl⟩ rfl rfl,
  fun d σ S l0 l1 l2 l3 x y => ex_ceq (show decode mL_law.2.1 670 = .ok (.if_icmp .eq 474, 3) by decide +kernel) (by decide),
  fun d σ S l0 l1 l2 l3 => ex_iconst (show decode mL_law.2.1 673 = .ok (.iconst 0, 1) by decide +kernel) (by decide +kernel),
  fun d σ l0 l1 l2 l3 x => ex_zret (show decode mL_law.2.1 674 = .ok (.ireturn, 1) by decide +kernel) rfl,
  fun d σ S l0 l2 l3 k => ex_aload_n (show decode mL_law.2.1 675 = .ok (.aload_n 1, 1) by decide +kernel) rfl,
  fun d σ S l1 l2 l3 k => ex_aload_n (show decode mL_law.2.1 676 = .ok (.aload_n 0, 1) by decide +kernel) rfl,
  fun d σ S l0 l1 l2 x => ex_iload_n (show decode mL_law.2.1 677 = .ok (.iload_n 3, 1) by decide +kernel) rfl,
  fun d σ S l0 l1 l2 l3 => ex_iconst (show decode mL_law.2.1 678 = .ok (.iconst 1, 1) by decide +kernel) (by decide +kernel),
  fun d σ S l0 l1 l2 l3 x y => ex_iadd (show decode mL_law.2.1 679 = .ok (.iadd, 1) by decide +kernel),
  fun d σ S l0 l1 l2 l3 x => ex_sald (by decide +kernel),
  fun d σ l0 l1 l2 l3 x0 => ex_iv (hs := [682, 683, 684, 685, 94]) (show decode mL_law.2.1 681 = .ok (.invokevirtual 94, 3) by decide +kernel) lkV_8_94 ⟨rfl, Nat.le_of_ble_eq_true rfl, Nat.le_of_ble_eq_true rfl, fun _ => rfl⟩ rfl rfl,
  fun d σ S l0 l1 l3 k => ex_aload_n (show decode mL_law.2.1 684 = .ok (.aload_n 2, 1) by decide +kernel) rfl,
  fun d σ S l1 l2 l3 k => ex_aload_n (show decode mL_law.2.1 685 = .ok (.aload_n 0, 1) by decide +kernel) rfl,
  fun d σ S l0 l1 l2 x => ex_iload_n (show decode mL_law.2.1 686 = .ok (.iload_n 3, 1) by decide +kernel) rfl,
  fun d σ S l0 l1 l2 l3 => ex_iconst (show decode mL_law.2.1 687 = .ok (.iconst 1, 1) by decide +kernel) (by decide +kernel),
  fun d σ S l0 l1 l2 l3 x y => ex_iadd (show decode mL_law.2.1 688 = .ok (.iadd, 1) by decide +kernel),
  fun d σ S l0 l1 l2 l3 x => ex_sald (by decide +kernel),
  fun d σ l0 l1 l2 l3 x0 x2 => ex_iv (hs := [1153, 1154, 1155, 1156, 101]) (show decode mL_law.2.1 690 = .ok (.invokevirtual 97, 3) by decide +kernel) lkV_8_97 ⟨rfl, Nat.le_of_ble_eq_true rfl, Nat.le_of_ble_eq_true rfl, fun _ => rfl⟩ rfl rfl,
  fun d σ S l0 l1 l2 l3 x y => ex_ceq (show decode mL_law.2.1 693 = .ok (.if_icmp .eq 451, 3) by decide +kernel) (by decide),
  fun d σ S l0 l1 l2 l3 => ex_iconst (show decode mL_law.2.1 696 = .ok (.iconst 0, 1) by decide +kernel) (by decide +kernel)⟩
theorem kL_law_10 : (∀ (d : Nat) (σ : Sg) (l0 l1 l2 l3 : Value) (x : Int32), exec d mL_law 697 [l0, l1, l2, l3] [.int x] σ = if b01 x = true then some (some (.int x), σ) else none) ∧
  (∀ (d : Nat) (σ : Sg) (S : List Value) (l0 l2 l3 : Value) (k : Nat), exec d mL_law 698 [l0, .ref k, l2, l3] S σ = exec d mL_law 699 [l0, .ref k, l2, l3] (.ref k :: S) σ) ∧
  (∀ (d : Nat) (σ : Sg) (l0 l1 l2 l3 : Value), exec d mL_law 699 [l0, l1, l2, l3] [.ref 0] σ = kb (cal d mX6_decides [.ref 0] σ) (fun rs σ2 => exec d mL_law 702 [l0, l1, l2, l3] (rs ++ []) σ2)) ∧
  (∀ (d : Nat) (σ : Sg) (S : List Value) (l0 l1 l3 : Value) (k : Nat), exec d mL_law 702 [l0, l1, .ref k, l3] S σ = exec d mL_law 703 [l0, l1, .ref k, l3] (.ref k :: S) σ) ∧
  (∀ (d : Nat) (σ : Sg) (l0 l1 l2 l3 : Value) (x1 : Int32), exec d mL_law 703 [l0, l1, l2, l3] [.ref 50, .int x1] σ = kb (cal d mX7_decides [.ref 50] σ) (fun rs σ2 => exec d mL_law 706 [l0, l1, l2, l3] (rs ++ [.int x1]) σ2)) ∧
  (∀ (d : Nat) (σ : Sg) (S : List Value) (l0 l1 l2 l3 : Value) (x y : Int32), exec d mL_law 706 [l0, l1, l2, l3] (.int y :: .int x :: S) σ = if x = y then exec d mL_law 1144 [l0, l1, l2, l3] S σ else exec d mL_law 709 [l0, l1, l2, l3] S σ) ∧
  (∀ (d : Nat) (σ : Sg) (S : List Value) (l0 l1 l2 l3 : Value), exec d mL_law 709 [l0, l1, l2, l3] S σ = exec d mL_law 710 [l0, l1, l2, l3] (.int (nI 0) :: S) σ) ∧
  (∀ (d : Nat) (σ : Sg) (l0 l1 l2 l3 : Value) (x : Int32), exec d mL_law 710 [l0, l1, l2, l3] [.int x] σ = if b01 x = true then some (some (.int x), σ) else none) ∧
  (∀ (d : Nat) (σ : Sg) (S : List Value) (l0 l2 l3 : Value) (k : Nat), exec d mL_law 711 [l0, .ref k, l2, l3] S σ = exec d mL_law 712 [l0, .ref k, l2, l3] (.ref k :: S) σ) ∧
  (∀ (d : Nat) (σ : Sg) (S : List Value) (l1 l2 l3 : Value) (k : Nat), exec d mL_law 712 [.ref k, l1, l2, l3] S σ = exec d mL_law 713 [.ref k, l1, l2, l3] (.ref k :: S) σ) ∧
  (∀ (d : Nat) (σ : Sg) (S : List Value) (l0 l1 l2 : Value) (x : Int32), exec d mL_law 713 [l0, l1, l2, .int x] S σ = exec d mL_law 714 [l0, l1, l2, .int x] (.int x :: S) σ) ∧
  (∀ (d : Nat) (σ : Sg) (S : List Value) (l0 l1 l2 l3 : Value), exec d mL_law 714 [l0, l1, l2, l3] S σ = exec d mL_law 715 [l0, l1, l2, l3] (.int (nI 1) :: S) σ) ∧
  (∀ (d : Nat) (σ : Sg) (S : List Value) (l0 l1 l2 l3 : Value) (x y : Int32), exec d mL_law 715 [l0, l1, l2, l3] (.int y :: .int x :: S) σ = exec d mL_law 716 [l0, l1, l2, l3] (.int (x + y) :: S) σ) ∧
  (∀ (d : Nat) (σ : Sg) (S : List Value) (l0 l1 l2 l3 : Value) (x : Int32), exec d mL_law 716 [l0, l1, l2, l3] (.int x :: .ref 66 :: S) σ = if inb x (σ 67 0).toNatClampNeg = true then exec d mL_law 717 [l0, l1, l2, l3] (.int (σ 66 x.toNatClampNeg) :: S) σ else none) ∧
  (∀ (d : Nat) (σ : Sg) (S : List Value) (l1 l2 l3 : Value) (k : Nat), exec d mL_law 717 [.ref k, l1, l2, l3] S σ = exec d mL_law 718 [.ref k, l1, l2, l3] (.ref k :: S) σ) ∧
  (∀ (d : Nat) (σ : Sg) (S : List Value) (l0 l1 l2 : Value) (x : Int32), exec d mL_law 718 [l0, l1, l2, .int x] S σ = exec d mL_law 719 [l0, l1, l2, .int x] (.int x :: S) σ) ∧
  (∀ (d : Nat) (σ : Sg) (S : List Value) (l0 l1 l2 l3 : Value), exec d mL_law 719 [l0, l1, l2, l3] S σ = exec d mL_law 720 [l0, l1, l2, l3] (.int (nI 2) :: S) σ) ∧
  (∀ (d : Nat) (σ : Sg) (S : List Value) (l0 l1 l2 l3 : Value) (x y : Int32), exec d mL_law 720 [l0, l1, l2, l3] (.int y :: .int x :: S) σ = exec d mL_law 721 [l0, l1, l2, l3] (.int (x + y) :: S) σ) ∧
  (∀ (d : Nat) (σ : Sg) (S : List Value) (l0 l1 l2 l3 : Value) (x : Int32), exec d mL_law 721 [l0, l1, l2, l3] (.int x :: .ref 66 :: S) σ = if inb x (σ 67 0).toNatClampNeg = true then exec d mL_law 722 [l0, l1, l2, l3] (.int (σ 66 x.toNatClampNeg) :: S) σ else none) ∧
  (∀ (d : Nat) (σ : Sg) (S : List Value) (l1 l2 l3 : Value) (k : Nat), exec d mL_law 722 [.ref k, l1, l2, l3] S σ = exec d mL_law 723 [.ref k, l1, l2, l3] (.ref k :: S) σ) ∧
  (∀ (d : Nat) (σ : Sg) (S : List Value) (l0 l1 l2 : Value) (x : Int32), exec d mL_law 723 [l0, l1, l2, .int x] S σ = exec d mL_law 724 [l0, l1, l2, .int x] (.int x :: S) σ) ∧
  (∀ (d : Nat) (σ : Sg) (S : List Value) (l0 l1 l2 l3 : Value), exec d mL_law 724 [l0, l1, l2, l3] S σ = exec d mL_law 725 [l0, l1, l2, l3] (.int (nI 3) :: S) σ) ∧
  (∀ (d : Nat) (σ : Sg) (S : List Value) (l0 l1 l2 l3 : Value) (x y : Int32), exec d mL_law 725 [l0, l1, l2, l3] (.int y :: .int x :: S) σ = exec d mL_law 726 [l0, l1, l2, l3] (.int (x + y) :: S) σ) ∧
  (∀ (d : Nat) (σ : Sg) (S : List Value) (l0 l1 l2 l3 : Value) (x : Int32), exec d mL_law 726 [l0, l1, l2, l3] (.int x :: .ref 66 :: S) σ = if inb x (σ 67 0).toNatClampNeg = true then exec d mL_law 727 [l0, l1, l2, l3] (.int (σ 66 x.toNatClampNeg) :: S) σ else none) ∧
  (∀ (d : Nat) (σ : Sg) (l0 l1 l2 l3 : Value) (x0 x1 x2 : Int32), exec d mL_law 727 [l0, l1, l2, l3] [.int x0, .int x1, .int x2, .ref 0] σ = kb (cal d mX6_whereIs [.ref 0, .int x2, .int x1, .int x0] σ) (fun rs σ2 => exec d mL_law 730 [l0, l1, l2, l3] (rs ++ []) σ2)) ∧
  (∀ (d : Nat) (σ : Sg) (S : List Value) (l0 l1 l3 : Value) (k : Nat), exec d mL_law 730 [l0, l1, .ref k, l3] S σ = exec d mL_law 731 [l0, l1, .ref k, l3] (.ref k :: S) σ) ∧
  (∀ (d : Nat) (σ : Sg) (S : List Value) (l1 l2 l3 : Value) (k : Nat), exec d mL_law 731 [.ref k, l1, l2, l3] S σ = exec d mL_law 732 [.ref k, l1, l2, l3] (.ref k :: S) σ) ∧
  (∀ (d : Nat) (σ : Sg) (S : List Value) (l0 l1 l2 : Value) (x : Int32), exec d mL_law 732 [l0, l1, l2, .int x] S σ = exec d mL_law 733 [l0, l1, l2, .int x] (.int x :: S) σ) ∧
  (∀ (d : Nat) (σ : Sg) (S : List Value) (l0 l1 l2 l3 : Value), exec d mL_law 733 [l0, l1, l2, l3] S σ = exec d mL_law 734 [l0, l1, l2, l3] (.int (nI 1) :: S) σ) ∧
  (∀ (d : Nat) (σ : Sg) (S : List Value) (l0 l1 l2 l3 : Value) (x y : Int32), exec d mL_law 734 [l0, l1, l2, l3] (.int y :: .int x :: S) σ = exec d mL_law 735 [l0, l1, l2, l3] (.int (x + y) :: S) σ) ∧
  (∀ (d : Nat) (σ : Sg) (S : List Value) (l0 l1 l2 l3 : Value) (x : Int32), exec d mL_law 735 [l0, l1, l2, l3] (.int x :: .ref 66 :: S) σ = if inb x (σ 67 0).toNatClampNeg = true then exec d mL_law 736 [l0, l1, l2, l3] (.int (σ 66 x.toNatClampNeg) :: S) σ else none) ∧
  (∀ (d : Nat) (σ : Sg) (S : List Value) (l1 l2 l3 : Value) (k : Nat), exec d mL_law 736 [.ref k, l1, l2, l3] S σ = exec d mL_law 737 [.ref k, l1, l2, l3] (.ref k :: S) σ) ∧
  (∀ (d : Nat) (σ : Sg) (S : List Value) (l0 l1 l2 : Value) (x : Int32), exec d mL_law 737 [l0, l1, l2, .int x] S σ = exec d mL_law 738 [l0, l1, l2, .int x] (.int x :: S) σ) ∧
  (∀ (d : Nat) (σ : Sg) (S : List Value) (l0 l1 l2 l3 : Value), exec d mL_law 738 [l0, l1, l2, l3] S σ = exec d mL_law 739 [l0, l1, l2, l3] (.int (nI 2) :: S) σ) ∧
  (∀ (d : Nat) (σ : Sg) (S : List Value) (l0 l1 l2 l3 : Value) (x y : Int32), exec d mL_law 739 [l0, l1, l2, l3] (.int y :: .int x :: S) σ = exec d mL_law 740 [l0, l1, l2, l3] (.int (x + y) :: S) σ) ∧
  (∀ (d : Nat) (σ : Sg) (S : List Value) (l0 l1 l2 l3 : Value) (x : Int32), exec d mL_law 740 [l0, l1, l2, l3] (.int x :: .ref 66 :: S) σ = if inb x (σ 67 0).toNatClampNeg = true then exec d mL_law 741 [l0, l1, l2, l3] (.int (σ 66 x.toNatClampNeg) :: S) σ else none) ∧
  (∀ (d : Nat) (σ : Sg) (S : List Value) (l1 l2 l3 : Value) (k : Nat), exec d mL_law 741 [.ref k, l1, l2, l3] S σ = exec d mL_law 742 [.ref k, l1, l2, l3] (.ref k :: S) σ) ∧
  (∀ (d : Nat) (σ : Sg) (S : List Value) (l0 l1 l2 : Value) (x : Int32), exec d mL_law 742 [l0, l1, l2, .int x] S σ = exec d mL_law 743 [l0, l1, l2, .int x] (.int x :: S) σ) ∧
  (∀ (d : Nat) (σ : Sg) (S : List Value) (l0 l1 l2 l3 : Value), exec d mL_law 743 [l0, l1, l2, l3] S σ = exec d mL_law 744 [l0, l1, l2, l3] (.int (nI 3) :: S) σ) ∧
  (∀ (d : Nat) (σ : Sg) (S : List Value) (l0 l1 l2 l3 : Value) (x y : Int32), exec d mL_law 744 [l0, l1, l2, l3] (.int y :: .int x :: S) σ = exec d mL_law 745 [l0, l1, l2, l3] (.int (x + y) :: S) σ) :=
  ⟨fun d σ l0 l1 l2 l3 x => ex_zret (show decode mL_law.2.1 697 = .ok (.ireturn, 1) by decide +kernel) rfl,
  fun d σ S l0 l2 l3 k => ex_aload_n (show decode mL_law.2.1 698 = .ok (.aload_n 1, 1) by decide +kernel) rfl,
  fun d σ l0 l1 l2 l3 => ex_iv (hs := [695, 696, 697, 698, 94]) (show decode mL_law.2.1 699 = .ok (.invokevirtual 98, 3) by decide +kernel) lkV_8_98 ⟨rfl, Nat.le_of_ble_eq_true rfl, Nat.le_of_ble_eq_true rfl, fun _ => rfl⟩ rfl rfl,
  fun d σ S l0 l1 l3 k => ex_aload_n (show decode mL_law.2.1 702 = .ok (.aload_n 2, 1) by decide +kernel) rfl,
  fun d σ l0 l1 l2 l3 x1 => ex_iv (hs := [1157, 1158, 1159, 1160, 101]) (show decode mL_law.2.1 703 = .ok (.invokevirtual 101, 3) by decide +kernel) lkV_8_101 ⟨rfl, Nat.le_of_ble_eq_true rfl, Nat.le_of_ble_eq_true rfl, fun _ => rfl⟩ rfl rfl,
  fun d σ S l0 l1 l2 l3 x y => ex_ceq (show decode mL_law.2.1 706 = .ok (.if_icmp .eq 438, 3) by decide +kernel) (by decide),
  fun d σ S l0 l1 l2 l3 => ex_iconst (show decode mL_law.2.1 709 = .ok (.iconst 0, 1) by decide +kernel) (by decide +kernel),
  fun d σ l0 l1 l2 l3 x => ex_zret (show decode mL_law.2.1 710 = .ok (.ireturn, 1) by decide +kernel) rfl,
  fun d σ S l0 l2 l3 k => ex_aload_n (show decode mL_law.2.1 711 = .ok (.aload_n 1, 1) by decide +kernel) rfl,
  fun d σ S l1 l2 l3 k => ex_aload_n (show decode mL_law.2.1 712 = .ok (.aload_n 0, 1) by decide +kernel) rfl,
  fun d σ S l0 l1 l2 x => ex_iload_n (show decode mL_law.2.1 713 = .ok (.iload_n 3, 1) by decide +kernel) rfl,
  fun d σ S l0 l1 l2 l3 => ex_iconst (show decode mL_law.2.1 714 = .ok (.iconst 1, 1) by decide +kernel) (by decide +kernel),
  fun d σ S l0 l1 l2 l3 x y => ex_iadd (show decode mL_law.2.1 715 = .ok (.iadd, 1) by decide +kernel),
  fun d σ S l0 l1 l2 l3 x => ex_sald (by decide +kernel),
  fun d σ S l1 l2 l3 k => ex_aload_n (show decode mL_law.2.1 717 = .ok (.aload_n 0, 1) by decide +kernel) rfl,
  fun d σ S l0 l1 l2 x => ex_iload_n (show decode mL_law.2.1 718 = .ok (.iload_n 3, 1) by decide +kernel) rfl,
  fun d σ S l0 l1 l2 l3 => ex_iconst (show decode mL_law.2.1 719 = .ok (.iconst 2, 1) by decide +kernel) (by decide +kernel),
  fun d σ S l0 l1 l2 l3 x y => ex_iadd (show decode mL_law.2.1 720 = .ok (.iadd, 1) by decide +kernel),
  fun d σ S l0 l1 l2 l3 x => ex_sald (by decide +kernel),
  fun d σ S l1 l2 l3 k => ex_aload_n (show decode mL_law.2.1 722 = .ok (.aload_n 0, 1) by decide +kernel) rfl,
  fun d σ S l0 l1 l2 x => ex_iload_n (show decode mL_law.2.1 723 = .ok (.iload_n 3, 1) by decide +kernel) rfl,
  fun d σ S l0 l1 l2 l3 => ex_iconst (show decode mL_law.2.1 724 = .ok (.iconst 3, 1) by decide +kernel) (by decide +kernel),
  fun d σ S l0 l1 l2 l3 x y => ex_iadd (show decode mL_law.2.1 725 = .ok (.iadd, 1) by decide +kernel),
  fun d σ S l0 l1 l2 l3 x => ex_sald (by decide +kernel),
  fun d σ l0 l1 l2 l3 x0 x1 x2 => ex_iv (hs := [699, 700, 701, 702, 94]) (show decode mL_law.2.1 727 = .ok (.invokevirtual 102, 3) by decide +kernel) lkV_8_102 ⟨rfl, Nat.le_of_ble_eq_true rfl, Nat.le_of_ble_eq_true rfl, fun _ => rfl⟩ rfl rfl,
  fun d σ S l0 l1 l3 k => ex_aload_n (show decode mL_law.2.1 730 = .ok (.aload_n 2, 1) by decide +kernel) rfl,
  fun d σ S l1 l2 l3 k => ex_aload_n (show decode mL_law.2.1 731 = .ok (.aload_n 0, 1) by decide +kernel) rfl,
  fun d σ S l0 l1 l2 x => ex_iload_n (show decode mL_law.2.1 732 = .ok (.iload_n 3, 1) by decide +kernel) rfl,
  fun d σ S l0 l1 l2 l3 => ex_iconst (show decode mL_law.2.1 733 = .ok (.iconst 1, 1) by decide +kernel) (by decide +kernel),
  fun d σ S l0 l1 l2 l3 x y => ex_iadd (show decode mL_law.2.1 734 = .ok (.iadd, 1) by decide +kernel),
  fun d σ S l0 l1 l2 l3 x => ex_sald (by decide +kernel),
  fun d σ S l1 l2 l3 k => ex_aload_n (show decode mL_law.2.1 736 = .ok (.aload_n 0, 1) by decide +kernel) rfl,
  fun d σ S l0 l1 l2 x => ex_iload_n (show decode mL_law.2.1 737 = .ok (.iload_n 3, 1) by decide +kernel) rfl,
  fun d σ S l0 l1 l2 l3 => ex_iconst (show decode mL_law.2.1 738 = .ok (.iconst 2, 1) by decide +kernel) (by decide +kernel),
  fun d σ S l0 l1 l2 l3 x y => ex_iadd (show decode mL_law.2.1 739 = .ok (.iadd, 1) by decide +kernel),
  fun d σ S l0 l1 l2 l3 x => ex_sald (by decide +kernel),
  fun d σ S l1 l2 l3 k => ex_aload_n (show decode mL_law.2.1 741 = .ok (.aload_n 0, 1) by decide +kernel) rfl,
  fun d σ S l0 l1 l2 x => ex_iload_n (show decode mL_law.2.1 742 = .ok (.iload_n 3, 1) by decide +kernel) rfl,
  fun d σ S l0 l1 l2 l3 => ex_iconst (show decode mL_law.2.1 743 = .ok (.iconst 3, 1) by decide +kernel) (by decide +kernel),
  fun d σ S l0 l1 l2 l3 x y => ex_iadd (show decode mL_law.2.1 744 = .ok (.iadd, 1) by decide +kernel)⟩
theorem kL_law_11 : (∀ (d : Nat) (σ : Sg) (S : List Value) (l0 l1 l2 l3 : Value) (x : Int32), exec d mL_law 745 [l0, l1, l2, l3] (.int x :: .ref 66 :: S) σ = if inb x (σ 67 0).toNatClampNeg = true then exec d mL_law 746 [l0, l1, l2, l3] (.int (σ 66 x.toNatClampNeg) :: S) σ else none) ∧
  (∀ (d : Nat) (σ : Sg) (l0 l1 l2 l3 : Value) (x0 x1 x2 x4 : Int32), exec d mL_law 746 [l0, l1, l2, l3] [.int x0, .int x1, .int x2, .ref 50, .int x4] σ = kb (cal d mX7_whereIs [.ref 50, .int x2, .int x1, .int x0] σ) (fun rs σ2 => exec d mL_law 749 [l0, l1, l2, l3] (rs ++ [.int x4]) σ2)) ∧
  (∀ (d : Nat) (σ : Sg) (S : List Value) (l0 l1 l2 l3 : Value) (x y : Int32), exec d mL_law 749 [l0, l1, l2, l3] (.int y :: .int x :: S) σ = if x = y then exec d mL_law 1144 [l0, l1, l2, l3] S σ else exec d mL_law 752 [l0, l1, l2, l3] S σ) ∧
  (∀ (d : Nat) (σ : Sg) (S : List Value) (l0 l1 l2 l3 : Value), exec d mL_law 752 [l0, l1, l2, l3] S σ = exec d mL_law 753 [l0, l1, l2, l3] (.int (nI 0) :: S) σ) ∧
  (∀ (d : Nat) (σ : Sg) (l0 l1 l2 l3 : Value) (x : Int32), exec d mL_law 753 [l0, l1, l2, l3] [.int x] σ = if b01 x = true then some (some (.int x), σ) else none) ∧
  (∀ (d : Nat) (σ : Sg) (S : List Value) (l0 l2 l3 : Value) (k : Nat), exec d mL_law 754 [l0, .ref k, l2, l3] S σ = exec d mL_law 755 [l0, .ref k, l2, l3] (.ref k :: S) σ) ∧
  (∀ (d : Nat) (σ : Sg) (S : List Value) (l1 l2 l3 : Value) (k : Nat), exec d mL_law 755 [.ref k, l1, l2, l3] S σ = exec d mL_law 756 [.ref k, l1, l2, l3] (.ref k :: S) σ) ∧
  (∀ (d : Nat) (σ : Sg) (S : List Value) (l0 l1 l2 : Value) (x : Int32), exec d mL_law 756 [l0, l1, l2, .int x] S σ = exec d mL_law 757 [l0, l1, l2, .int x] (.int x :: S) σ) ∧
  (∀ (d : Nat) (σ : Sg) (S : List Value) (l0 l1 l2 l3 : Value), exec d mL_law 757 [l0, l1, l2, l3] S σ = exec d mL_law 758 [l0, l1, l2, l3] (.int (nI 1) :: S) σ) ∧
  (∀ (d : Nat) (σ : Sg) (S : List Value) (l0 l1 l2 l3 : Value) (x y : Int32), exec d mL_law 758 [l0, l1, l2, l3] (.int y :: .int x :: S) σ = exec d mL_law 759 [l0, l1, l2, l3] (.int (x + y) :: S) σ) ∧
  (∀ (d : Nat) (σ : Sg) (S : List Value) (l0 l1 l2 l3 : Value) (x : Int32), exec d mL_law 759 [l0, l1, l2, l3] (.int x :: .ref 66 :: S) σ = if inb x (σ 67 0).toNatClampNeg = true then exec d mL_law 760 [l0, l1, l2, l3] (.int (σ 66 x.toNatClampNeg) :: S) σ else none) ∧
  (∀ (d : Nat) (σ : Sg) (S : List Value) (l1 l2 l3 : Value) (k : Nat), exec d mL_law 760 [.ref k, l1, l2, l3] S σ = exec d mL_law 761 [.ref k, l1, l2, l3] (.ref k :: S) σ) ∧
  (∀ (d : Nat) (σ : Sg) (S : List Value) (l0 l1 l2 : Value) (x : Int32), exec d mL_law 761 [l0, l1, l2, .int x] S σ = exec d mL_law 762 [l0, l1, l2, .int x] (.int x :: S) σ) ∧
  (∀ (d : Nat) (σ : Sg) (S : List Value) (l0 l1 l2 l3 : Value), exec d mL_law 762 [l0, l1, l2, l3] S σ = exec d mL_law 763 [l0, l1, l2, l3] (.int (nI 2) :: S) σ) ∧
  (∀ (d : Nat) (σ : Sg) (S : List Value) (l0 l1 l2 l3 : Value) (x y : Int32), exec d mL_law 763 [l0, l1, l2, l3] (.int y :: .int x :: S) σ = exec d mL_law 764 [l0, l1, l2, l3] (.int (x + y) :: S) σ) ∧
  (∀ (d : Nat) (σ : Sg) (S : List Value) (l0 l1 l2 l3 : Value) (x : Int32), exec d mL_law 764 [l0, l1, l2, l3] (.int x :: .ref 66 :: S) σ = if inb x (σ 67 0).toNatClampNeg = true then exec d mL_law 765 [l0, l1, l2, l3] (.int (σ 66 x.toNatClampNeg) :: S) σ else none) ∧
  (∀ (d : Nat) (σ : Sg) (S : List Value) (l1 l2 l3 : Value) (k : Nat), exec d mL_law 765 [.ref k, l1, l2, l3] S σ = exec d mL_law 766 [.ref k, l1, l2, l3] (.ref k :: S) σ) ∧
  (∀ (d : Nat) (σ : Sg) (S : List Value) (l0 l1 l2 : Value) (x : Int32), exec d mL_law 766 [l0, l1, l2, .int x] S σ = exec d mL_law 767 [l0, l1, l2, .int x] (.int x :: S) σ) ∧
  (∀ (d : Nat) (σ : Sg) (S : List Value) (l0 l1 l2 l3 : Value), exec d mL_law 767 [l0, l1, l2, l3] S σ = exec d mL_law 768 [l0, l1, l2, l3] (.int (nI 3) :: S) σ) ∧
  (∀ (d : Nat) (σ : Sg) (S : List Value) (l0 l1 l2 l3 : Value) (x y : Int32), exec d mL_law 768 [l0, l1, l2, l3] (.int y :: .int x :: S) σ = exec d mL_law 769 [l0, l1, l2, l3] (.int (x + y) :: S) σ) ∧
  (∀ (d : Nat) (σ : Sg) (S : List Value) (l0 l1 l2 l3 : Value) (x : Int32), exec d mL_law 769 [l0, l1, l2, l3] (.int x :: .ref 66 :: S) σ = if inb x (σ 67 0).toNatClampNeg = true then exec d mL_law 770 [l0, l1, l2, l3] (.int (σ 66 x.toNatClampNeg) :: S) σ else none) ∧
  (∀ (d : Nat) (σ : Sg) (l0 l1 l2 l3 : Value) (x0 x1 x2 : Int32), exec d mL_law 770 [l0, l1, l2, l3] [.int x0, .int x1, .int x2, .ref 0] σ = kb (cal d mX6_skills [.ref 0, .int x2, .int x1, .int x0] σ) (fun rs σ2 => exec d mL_law 773 [l0, l1, l2, l3] (rs ++ []) σ2)) ∧
  (∀ (d : Nat) (σ : Sg) (S : List Value) (l0 l1 l3 : Value) (k : Nat), exec d mL_law 773 [l0, l1, .ref k, l3] S σ = exec d mL_law 774 [l0, l1, .ref k, l3] (.ref k :: S) σ) ∧
  (∀ (d : Nat) (σ : Sg) (S : List Value) (l1 l2 l3 : Value) (k : Nat), exec d mL_law 774 [.ref k, l1, l2, l3] S σ = exec d mL_law 775 [.ref k, l1, l2, l3] (.ref k :: S) σ) ∧
  (∀ (d : Nat) (σ : Sg) (S : List Value) (l0 l1 l2 : Value) (x : Int32), exec d mL_law 775 [l0, l1, l2, .int x] S σ = exec d mL_law 776 [l0, l1, l2, .int x] (.int x :: S) σ) ∧
  (∀ (d : Nat) (σ : Sg) (S : List Value) (l0 l1 l2 l3 : Value), exec d mL_law 776 [l0, l1, l2, l3] S σ = exec d mL_law 777 [l0, l1, l2, l3] (.int (nI 1) :: S) σ) ∧
  (∀ (d : Nat) (σ : Sg) (S : List Value) (l0 l1 l2 l3 : Value) (x y : Int32), exec d mL_law 777 [l0, l1, l2, l3] (.int y :: .int x :: S) σ = exec d mL_law 778 [l0, l1, l2, l3] (.int (x + y) :: S) σ) ∧
  (∀ (d : Nat) (σ : Sg) (S : List Value) (l0 l1 l2 l3 : Value) (x : Int32), exec d mL_law 778 [l0, l1, l2, l3] (.int x :: .ref 66 :: S) σ = if inb x (σ 67 0).toNatClampNeg = true then exec d mL_law 779 [l0, l1, l2, l3] (.int (σ 66 x.toNatClampNeg) :: S) σ else none) ∧
  (∀ (d : Nat) (σ : Sg) (S : List Value) (l1 l2 l3 : Value) (k : Nat), exec d mL_law 779 [.ref k, l1, l2, l3] S σ = exec d mL_law 780 [.ref k, l1, l2, l3] (.ref k :: S) σ) ∧
  (∀ (d : Nat) (σ : Sg) (S : List Value) (l0 l1 l2 : Value) (x : Int32), exec d mL_law 780 [l0, l1, l2, .int x] S σ = exec d mL_law 781 [l0, l1, l2, .int x] (.int x :: S) σ) ∧
  (∀ (d : Nat) (σ : Sg) (S : List Value) (l0 l1 l2 l3 : Value), exec d mL_law 781 [l0, l1, l2, l3] S σ = exec d mL_law 782 [l0, l1, l2, l3] (.int (nI 2) :: S) σ) ∧
  (∀ (d : Nat) (σ : Sg) (S : List Value) (l0 l1 l2 l3 : Value) (x y : Int32), exec d mL_law 782 [l0, l1, l2, l3] (.int y :: .int x :: S) σ = exec d mL_law 783 [l0, l1, l2, l3] (.int (x + y) :: S) σ) ∧
  (∀ (d : Nat) (σ : Sg) (S : List Value) (l0 l1 l2 l3 : Value) (x : Int32), exec d mL_law 783 [l0, l1, l2, l3] (.int x :: .ref 66 :: S) σ = if inb x (σ 67 0).toNatClampNeg = true then exec d mL_law 784 [l0, l1, l2, l3] (.int (σ 66 x.toNatClampNeg) :: S) σ else none) ∧
  (∀ (d : Nat) (σ : Sg) (S : List Value) (l1 l2 l3 : Value) (k : Nat), exec d mL_law 784 [.ref k, l1, l2, l3] S σ = exec d mL_law 785 [.ref k, l1, l2, l3] (.ref k :: S) σ) ∧
  (∀ (d : Nat) (σ : Sg) (S : List Value) (l0 l1 l2 : Value) (x : Int32), exec d mL_law 785 [l0, l1, l2, .int x] S σ = exec d mL_law 786 [l0, l1, l2, .int x] (.int x :: S) σ) ∧
  (∀ (d : Nat) (σ : Sg) (S : List Value) (l0 l1 l2 l3 : Value), exec d mL_law 786 [l0, l1, l2, l3] S σ = exec d mL_law 787 [l0, l1, l2, l3] (.int (nI 3) :: S) σ) ∧
  (∀ (d : Nat) (σ : Sg) (S : List Value) (l0 l1 l2 l3 : Value) (x y : Int32), exec d mL_law 787 [l0, l1, l2, l3] (.int y :: .int x :: S) σ = exec d mL_law 788 [l0, l1, l2, l3] (.int (x + y) :: S) σ) ∧
  (∀ (d : Nat) (σ : Sg) (S : List Value) (l0 l1 l2 l3 : Value) (x : Int32), exec d mL_law 788 [l0, l1, l2, l3] (.int x :: .ref 66 :: S) σ = if inb x (σ 67 0).toNatClampNeg = true then exec d mL_law 789 [l0, l1, l2, l3] (.int (σ 66 x.toNatClampNeg) :: S) σ else none) ∧
  (∀ (d : Nat) (σ : Sg) (l0 l1 l2 l3 : Value) (x0 x1 x2 x4 : Int32), exec d mL_law 789 [l0, l1, l2, l3] [.int x0, .int x1, .int x2, .ref 50, .int x4] σ = kb (cal d mX7_skills [.ref 50, .int x2, .int x1, .int x0] σ) (fun rs σ2 => exec d mL_law 792 [l0, l1, l2, l3] (rs ++ [.int x4]) σ2)) ∧
  (∀ (d : Nat) (σ : Sg) (S : List Value) (l0 l1 l2 l3 : Value) (x y : Int32), exec d mL_law 792 [l0, l1, l2, l3] (.int y :: .int x :: S) σ = if x = y then exec d mL_law 1144 [l0, l1, l2, l3] S σ else exec d mL_law 795 [l0, l1, l2, l3] S σ) :=
  ⟨fun d σ S l0 l1 l2 l3 x => ex_sald (by decide +kernel),
  fun d σ l0 l1 l2 l3 x0 x1 x2 x4 => ex_iv (hs := [1161, 1162, 1163, 1164, 101]) (show decode mL_law.2.1 746 = .ok (.invokevirtual 105, 3) by decide +kernel) lkV_8_105 ⟨rfl, Nat.le_of_ble_eq_true rfl, Nat.le_of_ble_eq_true rfl, fun _ => rfl⟩ rfl rfl,
  fun d σ S l0 l1 l2 l3 x y => ex_ceq (show decode mL_law.2.1 749 = .ok (.if_icmp .eq 395, 3) by decide +kernel) (by decide),
  fun d σ S l0 l1 l2 l3 => ex_iconst (show decode mL_law.2.1 752 = .ok (.iconst 0, 1) by decide +kernel) (by decide +kernel),
  fun d σ l0 l1 l2 l3 x => ex_zret (show decode mL_law.2.1 753 = .ok (.ireturn, 1) by decide +kernel) rfl,
  fun d σ S l0 l2 l3 k => ex_aload_n (show decode mL_law.2.1 754 = .ok (.aload_n 1, 1) by decide +kernel) rfl,
  fun d σ S l1 l2 l3 k => ex_aload_n (show decode mL_law.2.1 755 = .ok (.aload_n 0, 1) by decide +kernel) rfl,
  fun d σ S l0 l1 l2 x => ex_iload_n (show decode mL_law.2.1 756 = .ok (.iload_n 3, 1) by decide +kernel) rfl,
  fun d σ S l0 l1 l2 l3 => ex_iconst (show decode mL_law.2.1 757 = .ok (.iconst 1, 1) by decide +kernel) (by decide +kernel),
  fun d σ S l0 l1 l2 l3 x y => ex_iadd (show decode mL_law.2.1 758 = .ok (.iadd, 1) by decide +kernel),
  fun d σ S l0 l1 l2 l3 x => ex_sald (by decide +kernel),
  fun d σ S l1 l2 l3 k => ex_aload_n (show decode mL_law.2.1 760 = .ok (.aload_n 0, 1) by decide +kernel) rfl,
  fun d σ S l0 l1 l2 x => ex_iload_n (show decode mL_law.2.1 761 = .ok (.iload_n 3, 1) by decide +kernel) rfl,
  fun d σ S l0 l1 l2 l3 => ex_iconst (show decode mL_law.2.1 762 = .ok (.iconst 2, 1) by decide +kernel) (by decide +kernel),
  fun d σ S l0 l1 l2 l3 x y => ex_iadd (show decode mL_law.2.1 763 = .ok (.iadd, 1) by decide +kernel),
  fun d σ S l0 l1 l2 l3 x => ex_sald (by decide +kernel),
  fun d σ S l1 l2 l3 k => ex_aload_n (show decode mL_law.2.1 765 = .ok (.aload_n 0, 1) by decide +kernel) rfl,
  fun d σ S l0 l1 l2 x => ex_iload_n (show decode mL_law.2.1 766 = .ok (.iload_n 3, 1) by decide +kernel) rfl,
  fun d σ S l0 l1 l2 l3 => ex_iconst (show decode mL_law.2.1 767 = .ok (.iconst 3, 1) by decide +kernel) (by decide +kernel),
  fun d σ S l0 l1 l2 l3 x y => ex_iadd (show decode mL_law.2.1 768 = .ok (.iadd, 1) by decide +kernel),
  fun d σ S l0 l1 l2 l3 x => ex_sald (by decide +kernel),
  fun d σ l0 l1 l2 l3 x0 x1 x2 => ex_iv (hs := [712, 713, 714, 715, 94]) (show decode mL_law.2.1 770 = .ok (.invokevirtual 106, 3) by decide +kernel) lkV_8_106 ⟨rfl, Nat.le_of_ble_eq_true rfl, Nat.le_of_ble_eq_true rfl, fun _ => rfl⟩ rfl rfl,
  fun d σ S l0 l1 l3 k => ex_aload_n (show decode mL_law.2.1 773 = .ok (.aload_n 2, 1) by decide +kernel) rfl,
  fun d σ S l1 l2 l3 k => ex_aload_n (show decode mL_law.2.1 774 = .ok (.aload_n 0, 1) by decide +kernel) rfl,
  fun d σ S l0 l1 l2 x => ex_iload_n (show decode mL_law.2.1 775 = .ok (.iload_n 3, 1) by decide +kernel) rfl,
  fun d σ S l0 l1 l2 l3 => ex_iconst (show decode mL_law.2.1 776 = .ok (.iconst 1, 1) by decide +kernel) (by decide +kernel),
  fun d σ S l0 l1 l2 l3 x y => ex_iadd (show decode mL_law.2.1 777 = .ok (.iadd, 1) by decide +kernel),
  fun d σ S l0 l1 l2 l3 x => ex_sald (by decide +kernel),
  fun d σ S l1 l2 l3 k => ex_aload_n (show decode mL_law.2.1 779 = .ok (.aload_n 0, 1) by decide +kernel) rfl,
  fun d σ S l0 l1 l2 x => ex_iload_n (show decode mL_law.2.1 780 = .ok (.iload_n 3, 1) by decide +kernel) rfl,
  fun d σ S l0 l1 l2 l3 => ex_iconst (show decode mL_law.2.1 781 = .ok (.iconst 2, 1) by decide +kernel) (by decide +kernel),
  fun d σ S l0 l1 l2 l3 x y => ex_iadd (show decode mL_law.2.1 782 = .ok (.iadd, 1) by decide +kernel),
  fun d σ S l0 l1 l2 l3 x => ex_sald (by decide +kernel),
  fun d σ S l1 l2 l3 k => ex_aload_n (show decode mL_law.2.1 784 = .ok (.aload_n 0, 1) by decide +kernel) rfl,
  fun d σ S l0 l1 l2 x => ex_iload_n (show decode mL_law.2.1 785 = .ok (.iload_n 3, 1) by decide +kernel) rfl,
  fun d σ S l0 l1 l2 l3 => ex_iconst (show decode mL_law.2.1 786 = .ok (.iconst 3, 1) by decide +kernel) (by decide +kernel),
  fun d σ S l0 l1 l2 l3 x y => ex_iadd (show decode mL_law.2.1 787 = .ok (.iadd, 1) by decide +kernel),
  fun d σ S l0 l1 l2 l3 x => ex_sald (by decide +kernel),
  fun d σ l0 l1 l2 l3 x0 x1 x2 x4 => ex_iv (hs := [1169, 1170, 1171, 1172, 101]) (show decode mL_law.2.1 789 = .ok (.invokevirtual 109, 3) by decide +kernel) lkV_8_109 ⟨rfl, Nat.le_of_ble_eq_true rfl, Nat.le_of_ble_eq_true rfl, fun _ => rfl⟩ rfl rfl,
  fun d σ S l0 l1 l2 l3 x y => ex_ceq (show decode mL_law.2.1 792 = .ok (.if_icmp .eq 352, 3) by decide +kernel) (by decide)⟩
theorem kL_law_12 : (∀ (d : Nat) (σ : Sg) (S : List Value) (l0 l1 l2 l3 : Value), exec d mL_law 795 [l0, l1, l2, l3] S σ = exec d mL_law 796 [l0, l1, l2, l3] (.int (nI 0) :: S) σ) ∧
  (∀ (d : Nat) (σ : Sg) (l0 l1 l2 l3 : Value) (x : Int32), exec d mL_law 796 [l0, l1, l2, l3] [.int x] σ = if b01 x = true then some (some (.int x), σ) else none) ∧
  (∀ (d : Nat) (σ : Sg) (S : List Value) (l0 l2 l3 : Value) (k : Nat), exec d mL_law 797 [l0, .ref k, l2, l3] S σ = exec d mL_law 798 [l0, .ref k, l2, l3] (.ref k :: S) σ) ∧
  (∀ (d : Nat) (σ : Sg) (S : List Value) (l1 l2 l3 : Value) (k : Nat), exec d mL_law 798 [.ref k, l1, l2, l3] S σ = exec d mL_law 799 [.ref k, l1, l2, l3] (.ref k :: S) σ) ∧
  (∀ (d : Nat) (σ : Sg) (S : List Value) (l0 l1 l2 : Value) (x : Int32), exec d mL_law 799 [l0, l1, l2, .int x] S σ = exec d mL_law 800 [l0, l1, l2, .int x] (.int x :: S) σ) ∧
  (∀ (d : Nat) (σ : Sg) (S : List Value) (l0 l1 l2 l3 : Value), exec d mL_law 800 [l0, l1, l2, l3] S σ = exec d mL_law 801 [l0, l1, l2, l3] (.int (nI 1) :: S) σ) ∧
  (∀ (d : Nat) (σ : Sg) (S : List Value) (l0 l1 l2 l3 : Value) (x y : Int32), exec d mL_law 801 [l0, l1, l2, l3] (.int y :: .int x :: S) σ = exec d mL_law 802 [l0, l1, l2, l3] (.int (x + y) :: S) σ) ∧
  (∀ (d : Nat) (σ : Sg) (S : List Value) (l0 l1 l2 l3 : Value) (x : Int32), exec d mL_law 802 [l0, l1, l2, l3] (.int x :: .ref 66 :: S) σ = if inb x (σ 67 0).toNatClampNeg = true then exec d mL_law 803 [l0, l1, l2, l3] (.int (σ 66 x.toNatClampNeg) :: S) σ else none) ∧
  (∀ (d : Nat) (σ : Sg) (S : List Value) (l1 l2 l3 : Value) (k : Nat), exec d mL_law 803 [.ref k, l1, l2, l3] S σ = exec d mL_law 804 [.ref k, l1, l2, l3] (.ref k :: S) σ) ∧
  (∀ (d : Nat) (σ : Sg) (S : List Value) (l0 l1 l2 : Value) (x : Int32), exec d mL_law 804 [l0, l1, l2, .int x] S σ = exec d mL_law 805 [l0, l1, l2, .int x] (.int x :: S) σ) ∧
  (∀ (d : Nat) (σ : Sg) (S : List Value) (l0 l1 l2 l3 : Value), exec d mL_law 805 [l0, l1, l2, l3] S σ = exec d mL_law 806 [l0, l1, l2, l3] (.int (nI 2) :: S) σ) ∧
  (∀ (d : Nat) (σ : Sg) (S : List Value) (l0 l1 l2 l3 : Value) (x y : Int32), exec d mL_law 806 [l0, l1, l2, l3] (.int y :: .int x :: S) σ = exec d mL_law 807 [l0, l1, l2, l3] (.int (x + y) :: S) σ) ∧
  (∀ (d : Nat) (σ : Sg) (S : List Value) (l0 l1 l2 l3 : Value) (x : Int32), exec d mL_law 807 [l0, l1, l2, l3] (.int x :: .ref 66 :: S) σ = if inb x (σ 67 0).toNatClampNeg = true then exec d mL_law 808 [l0, l1, l2, l3] (.int (σ 66 x.toNatClampNeg) :: S) σ else none) ∧
  (∀ (d : Nat) (σ : Sg) (S : List Value) (l1 l2 l3 : Value) (k : Nat), exec d mL_law 808 [.ref k, l1, l2, l3] S σ = exec d mL_law 809 [.ref k, l1, l2, l3] (.ref k :: S) σ) ∧
  (∀ (d : Nat) (σ : Sg) (S : List Value) (l0 l1 l2 : Value) (x : Int32), exec d mL_law 809 [l0, l1, l2, .int x] S σ = exec d mL_law 810 [l0, l1, l2, .int x] (.int x :: S) σ) ∧
  (∀ (d : Nat) (σ : Sg) (S : List Value) (l0 l1 l2 l3 : Value), exec d mL_law 810 [l0, l1, l2, l3] S σ = exec d mL_law 811 [l0, l1, l2, l3] (.int (nI 3) :: S) σ) ∧
  (∀ (d : Nat) (σ : Sg) (S : List Value) (l0 l1 l2 l3 : Value) (x y : Int32), exec d mL_law 811 [l0, l1, l2, l3] (.int y :: .int x :: S) σ = exec d mL_law 812 [l0, l1, l2, l3] (.int (x + y) :: S) σ) ∧
  (∀ (d : Nat) (σ : Sg) (S : List Value) (l0 l1 l2 l3 : Value) (x : Int32), exec d mL_law 812 [l0, l1, l2, l3] (.int x :: .ref 66 :: S) σ = if inb x (σ 67 0).toNatClampNeg = true then exec d mL_law 813 [l0, l1, l2, l3] (.int (σ 66 x.toNatClampNeg) :: S) σ else none) ∧
  (∀ (d : Nat) (σ : Sg) (S : List Value) (l1 l2 l3 : Value) (k : Nat), exec d mL_law 813 [.ref k, l1, l2, l3] S σ = exec d mL_law 814 [.ref k, l1, l2, l3] (.ref k :: S) σ) ∧
  (∀ (d : Nat) (σ : Sg) (S : List Value) (l0 l1 l2 : Value) (x : Int32), exec d mL_law 814 [l0, l1, l2, .int x] S σ = exec d mL_law 815 [l0, l1, l2, .int x] (.int x :: S) σ) ∧
  (∀ (d : Nat) (σ : Sg) (S : List Value) (l0 l1 l2 l3 : Value), exec d mL_law 815 [l0, l1, l2, l3] S σ = exec d mL_law 816 [l0, l1, l2, l3] (.int (nI 4) :: S) σ) ∧
  (∀ (d : Nat) (σ : Sg) (S : List Value) (l0 l1 l2 l3 : Value) (x y : Int32), exec d mL_law 816 [l0, l1, l2, l3] (.int y :: .int x :: S) σ = exec d mL_law 817 [l0, l1, l2, l3] (.int (x + y) :: S) σ) ∧
  (∀ (d : Nat) (σ : Sg) (S : List Value) (l0 l1 l2 l3 : Value) (x : Int32), exec d mL_law 817 [l0, l1, l2, l3] (.int x :: .ref 66 :: S) σ = if inb x (σ 67 0).toNatClampNeg = true then exec d mL_law 818 [l0, l1, l2, l3] (.int (σ 66 x.toNatClampNeg) :: S) σ else none) ∧
  (∀ (d : Nat) (σ : Sg) (l0 l1 l2 l3 : Value) (x0 x1 x2 x3 : Int32), exec d mL_law 818 [l0, l1, l2, l3] [.int x0, .int x1, .int x2, .int x3, .ref 0] σ = kb (cal d mX6_who [.ref 0, .int x3, .int x2, .int x1, .int x0] σ) (fun rs σ2 => exec d mL_law 821 [l0, l1, l2, l3] (rs ++ []) σ2)) ∧
  (∀ (d : Nat) (σ : Sg) (S : List Value) (l0 l1 l3 : Value) (k : Nat), exec d mL_law 821 [l0, l1, .ref k, l3] S σ = exec d mL_law 822 [l0, l1, .ref k, l3] (.ref k :: S) σ) ∧
  (∀ (d : Nat) (σ : Sg) (S : List Value) (l1 l2 l3 : Value) (k : Nat), exec d mL_law 822 [.ref k, l1, l2, l3] S σ = exec d mL_law 823 [.ref k, l1, l2, l3] (.ref k :: S) σ) ∧
  (∀ (d : Nat) (σ : Sg) (S : List Value) (l0 l1 l2 : Value) (x : Int32), exec d mL_law 823 [l0, l1, l2, .int x] S σ = exec d mL_law 824 [l0, l1, l2, .int x] (.int x :: S) σ) ∧
  (∀ (d : Nat) (σ : Sg) (S : List Value) (l0 l1 l2 l3 : Value), exec d mL_law 824 [l0, l1, l2, l3] S σ = exec d mL_law 825 [l0, l1, l2, l3] (.int (nI 1) :: S) σ) ∧
  (∀ (d : Nat) (σ : Sg) (S : List Value) (l0 l1 l2 l3 : Value) (x y : Int32), exec d mL_law 825 [l0, l1, l2, l3] (.int y :: .int x :: S) σ = exec d mL_law 826 [l0, l1, l2, l3] (.int (x + y) :: S) σ) ∧
  (∀ (d : Nat) (σ : Sg) (S : List Value) (l0 l1 l2 l3 : Value) (x : Int32), exec d mL_law 826 [l0, l1, l2, l3] (.int x :: .ref 66 :: S) σ = if inb x (σ 67 0).toNatClampNeg = true then exec d mL_law 827 [l0, l1, l2, l3] (.int (σ 66 x.toNatClampNeg) :: S) σ else none) ∧
  (∀ (d : Nat) (σ : Sg) (S : List Value) (l1 l2 l3 : Value) (k : Nat), exec d mL_law 827 [.ref k, l1, l2, l3] S σ = exec d mL_law 828 [.ref k, l1, l2, l3] (.ref k :: S) σ) ∧
  (∀ (d : Nat) (σ : Sg) (S : List Value) (l0 l1 l2 : Value) (x : Int32), exec d mL_law 828 [l0, l1, l2, .int x] S σ = exec d mL_law 829 [l0, l1, l2, .int x] (.int x :: S) σ) ∧
  (∀ (d : Nat) (σ : Sg) (S : List Value) (l0 l1 l2 l3 : Value), exec d mL_law 829 [l0, l1, l2, l3] S σ = exec d mL_law 830 [l0, l1, l2, l3] (.int (nI 2) :: S) σ) ∧
  (∀ (d : Nat) (σ : Sg) (S : List Value) (l0 l1 l2 l3 : Value) (x y : Int32), exec d mL_law 830 [l0, l1, l2, l3] (.int y :: .int x :: S) σ = exec d mL_law 831 [l0, l1, l2, l3] (.int (x + y) :: S) σ) ∧
  (∀ (d : Nat) (σ : Sg) (S : List Value) (l0 l1 l2 l3 : Value) (x : Int32), exec d mL_law 831 [l0, l1, l2, l3] (.int x :: .ref 66 :: S) σ = if inb x (σ 67 0).toNatClampNeg = true then exec d mL_law 832 [l0, l1, l2, l3] (.int (σ 66 x.toNatClampNeg) :: S) σ else none) ∧
  (∀ (d : Nat) (σ : Sg) (S : List Value) (l1 l2 l3 : Value) (k : Nat), exec d mL_law 832 [.ref k, l1, l2, l3] S σ = exec d mL_law 833 [.ref k, l1, l2, l3] (.ref k :: S) σ) ∧
  (∀ (d : Nat) (σ : Sg) (S : List Value) (l0 l1 l2 : Value) (x : Int32), exec d mL_law 833 [l0, l1, l2, .int x] S σ = exec d mL_law 834 [l0, l1, l2, .int x] (.int x :: S) σ) ∧
  (∀ (d : Nat) (σ : Sg) (S : List Value) (l0 l1 l2 l3 : Value), exec d mL_law 834 [l0, l1, l2, l3] S σ = exec d mL_law 835 [l0, l1, l2, l3] (.int (nI 3) :: S) σ) ∧
  (∀ (d : Nat) (σ : Sg) (S : List Value) (l0 l1 l2 l3 : Value) (x y : Int32), exec d mL_law 835 [l0, l1, l2, l3] (.int y :: .int x :: S) σ = exec d mL_law 836 [l0, l1, l2, l3] (.int (x + y) :: S) σ) ∧
  (∀ (d : Nat) (σ : Sg) (S : List Value) (l0 l1 l2 l3 : Value) (x : Int32), exec d mL_law 836 [l0, l1, l2, l3] (.int x :: .ref 66 :: S) σ = if inb x (σ 67 0).toNatClampNeg = true then exec d mL_law 837 [l0, l1, l2, l3] (.int (σ 66 x.toNatClampNeg) :: S) σ else none) :=
  ⟨fun d σ S l0 l1 l2 l3 => ex_iconst (show decode mL_law.2.1 795 = .ok (.iconst 0, 1) by decide +kernel) (by decide +kernel),
  fun d σ l0 l1 l2 l3 x => ex_zret (show decode mL_law.2.1 796 = .ok (.ireturn, 1) by decide +kernel) rfl,
  fun d σ S l0 l2 l3 k => ex_aload_n (show decode mL_law.2.1 797 = .ok (.aload_n 1, 1) by decide +kernel) rfl,
  fun d σ S l1 l2 l3 k => ex_aload_n (show decode mL_law.2.1 798 = .ok (.aload_n 0, 1) by decide +kernel) rfl,
  fun d σ S l0 l1 l2 x => ex_iload_n (show decode mL_law.2.1 799 = .ok (.iload_n 3, 1) by decide +kernel) rfl,
  fun d σ S l0 l1 l2 l3 => ex_iconst (show decode mL_law.2.1 800 = .ok (.iconst 1, 1) by decide +kernel) (by decide +kernel),
  fun d σ S l0 l1 l2 l3 x y => ex_iadd (show decode mL_law.2.1 801 = .ok (.iadd, 1) by decide +kernel),
  fun d σ S l0 l1 l2 l3 x => ex_sald (by decide +kernel),
  fun d σ S l1 l2 l3 k => ex_aload_n (show decode mL_law.2.1 803 = .ok (.aload_n 0, 1) by decide +kernel) rfl,
  fun d σ S l0 l1 l2 x => ex_iload_n (show decode mL_law.2.1 804 = .ok (.iload_n 3, 1) by decide +kernel) rfl,
  fun d σ S l0 l1 l2 l3 => ex_iconst (show decode mL_law.2.1 805 = .ok (.iconst 2, 1) by decide +kernel) (by decide +kernel),
  fun d σ S l0 l1 l2 l3 x y => ex_iadd (show decode mL_law.2.1 806 = .ok (.iadd, 1) by decide +kernel),
  fun d σ S l0 l1 l2 l3 x => ex_sald (by decide +kernel),
  fun d σ S l1 l2 l3 k => ex_aload_n (show decode mL_law.2.1 808 = .ok (.aload_n 0, 1) by decide +kernel) rfl,
  fun d σ S l0 l1 l2 x => ex_iload_n (show decode mL_law.2.1 809 = .ok (.iload_n 3, 1) by decide +kernel) rfl,
  fun d σ S l0 l1 l2 l3 => ex_iconst (show decode mL_law.2.1 810 = .ok (.iconst 3, 1) by decide +kernel) (by decide +kernel),
  fun d σ S l0 l1 l2 l3 x y => ex_iadd (show decode mL_law.2.1 811 = .ok (.iadd, 1) by decide +kernel),
  fun d σ S l0 l1 l2 l3 x => ex_sald (by decide +kernel),
  fun d σ S l1 l2 l3 k => ex_aload_n (show decode mL_law.2.1 813 = .ok (.aload_n 0, 1) by decide +kernel) rfl,
  fun d σ S l0 l1 l2 x => ex_iload_n (show decode mL_law.2.1 814 = .ok (.iload_n 3, 1) by decide +kernel) rfl,
  fun d σ S l0 l1 l2 l3 => ex_iconst (show decode mL_law.2.1 815 = .ok (.iconst 4, 1) by decide +kernel) (by decide +kernel),
  fun d σ S l0 l1 l2 l3 x y => ex_iadd (show decode mL_law.2.1 816 = .ok (.iadd, 1) by decide +kernel),
  fun d σ S l0 l1 l2 l3 x => ex_sald (by decide +kernel),
  fun d σ l0 l1 l2 l3 x0 x1 x2 x3 => ex_iv (hs := [722, 723, 724, 725, 94]) (show decode mL_law.2.1 818 = .ok (.invokevirtual 110, 3) by decide +kernel) lkV_8_110 ⟨rfl, Nat.le_of_ble_eq_true rfl, Nat.le_of_ble_eq_true rfl, fun _ => rfl⟩ rfl rfl,
  fun d σ S l0 l1 l3 k => ex_aload_n (show decode mL_law.2.1 821 = .ok (.aload_n 2, 1) by decide +kernel) rfl,
  fun d σ S l1 l2 l3 k => ex_aload_n (show decode mL_law.2.1 822 = .ok (.aload_n 0, 1) by decide +kernel) rfl,
  fun d σ S l0 l1 l2 x => ex_iload_n (show decode mL_law.2.1 823 = .ok (.iload_n 3, 1) by decide +kernel) rfl,
  fun d σ S l0 l1 l2 l3 => ex_iconst (show decode mL_law.2.1 824 = .ok (.iconst 1, 1) by decide +kernel) (by decide +kernel),
  fun d σ S l0 l1 l2 l3 x y => ex_iadd (show decode mL_law.2.1 825 = .ok (.iadd, 1) by decide +kernel),
  fun d σ S l0 l1 l2 l3 x => ex_sald (by decide +kernel),
  fun d σ S l1 l2 l3 k => ex_aload_n (show decode mL_law.2.1 827 = .ok (.aload_n 0, 1) by decide +kernel) rfl,
  fun d σ S l0 l1 l2 x => ex_iload_n (show decode mL_law.2.1 828 = .ok (.iload_n 3, 1) by decide +kernel) rfl,
  fun d σ S l0 l1 l2 l3 => ex_iconst (show decode mL_law.2.1 829 = .ok (.iconst 2, 1) by decide +kernel) (by decide +kernel),
  fun d σ S l0 l1 l2 l3 x y => ex_iadd (show decode mL_law.2.1 830 = .ok (.iadd, 1) by decide +kernel),
  fun d σ S l0 l1 l2 l3 x => ex_sald (by decide +kernel),
  fun d σ S l1 l2 l3 k => ex_aload_n (show decode mL_law.2.1 832 = .ok (.aload_n 0, 1) by decide +kernel) rfl,
  fun d σ S l0 l1 l2 x => ex_iload_n (show decode mL_law.2.1 833 = .ok (.iload_n 3, 1) by decide +kernel) rfl,
  fun d σ S l0 l1 l2 l3 => ex_iconst (show decode mL_law.2.1 834 = .ok (.iconst 3, 1) by decide +kernel) (by decide +kernel),
  fun d σ S l0 l1 l2 l3 x y => ex_iadd (show decode mL_law.2.1 835 = .ok (.iadd, 1) by decide +kernel),
  fun d σ S l0 l1 l2 l3 x => ex_sald (by decide +kernel)⟩
theorem kL_law_13 : (∀ (d : Nat) (σ : Sg) (S : List Value) (l1 l2 l3 : Value) (k : Nat), exec d mL_law 837 [.ref k, l1, l2, l3] S σ = exec d mL_law 838 [.ref k, l1, l2, l3] (.ref k :: S) σ) ∧
  (∀ (d : Nat) (σ : Sg) (S : List Value) (l0 l1 l2 : Value) (x : Int32), exec d mL_law 838 [l0, l1, l2, .int x] S σ = exec d mL_law 839 [l0, l1, l2, .int x] (.int x :: S) σ) ∧
  (∀ (d : Nat) (σ : Sg) (S : List Value) (l0 l1 l2 l3 : Value), exec d mL_law 839 [l0, l1, l2, l3] S σ = exec d mL_law 840 [l0, l1, l2, l3] (.int (nI 4) :: S) σ) ∧
  (∀ (d : Nat) (σ : Sg) (S : List Value) (l0 l1 l2 l3 : Value) (x y : Int32), exec d mL_law 840 [l0, l1, l2, l3] (.int y :: .int x :: S) σ = exec d mL_law 841 [l0, l1, l2, l3] (.int (x + y) :: S) σ) ∧
  (∀ (d : Nat) (σ : Sg) (S : List Value) (l0 l1 l2 l3 : Value) (x : Int32), exec d mL_law 841 [l0, l1, l2, l3] (.int x :: .ref 66 :: S) σ = if inb x (σ 67 0).toNatClampNeg = true then exec d mL_law 842 [l0, l1, l2, l3] (.int (σ 66 x.toNatClampNeg) :: S) σ else none) ∧
  (∀ (d : Nat) (σ : Sg) (l0 l1 l2 l3 : Value) (x0 x1 x2 x3 x5 : Int32), exec d mL_law 842 [l0, l1, l2, l3] [.int x0, .int x1, .int x2, .int x3, .ref 50, .int x5] σ = kb (cal d mX7_who [.ref 50, .int x3, .int x2, .int x1, .int x0] σ) (fun rs σ2 => exec d mL_law 845 [l0, l1, l2, l3] (rs ++ [.int x5]) σ2)) ∧
  (∀ (d : Nat) (σ : Sg) (S : List Value) (l0 l1 l2 l3 : Value) (x y : Int32), exec d mL_law 845 [l0, l1, l2, l3] (.int y :: .int x :: S) σ = if x = y then exec d mL_law 1144 [l0, l1, l2, l3] S σ else exec d mL_law 848 [l0, l1, l2, l3] S σ) ∧
  (∀ (d : Nat) (σ : Sg) (S : List Value) (l0 l1 l2 l3 : Value), exec d mL_law 848 [l0, l1, l2, l3] S σ = exec d mL_law 849 [l0, l1, l2, l3] (.int (nI 0) :: S) σ) ∧
  (∀ (d : Nat) (σ : Sg) (l0 l1 l2 l3 : Value) (x : Int32), exec d mL_law 849 [l0, l1, l2, l3] [.int x] σ = if b01 x = true then some (some (.int x), σ) else none) ∧
  (∀ (d : Nat) (σ : Sg) (S : List Value) (l0 l2 l3 : Value) (k : Nat), exec d mL_law 850 [l0, .ref k, l2, l3] S σ = exec d mL_law 851 [l0, .ref k, l2, l3] (.ref k :: S) σ) ∧
  (∀ (d : Nat) (σ : Sg) (S : List Value) (l1 l2 l3 : Value) (k : Nat), exec d mL_law 851 [.ref k, l1, l2, l3] S σ = exec d mL_law 852 [.ref k, l1, l2, l3] (.ref k :: S) σ) ∧
  (∀ (d : Nat) (σ : Sg) (S : List Value) (l0 l1 l2 : Value) (x : Int32), exec d mL_law 852 [l0, l1, l2, .int x] S σ = exec d mL_law 853 [l0, l1, l2, .int x] (.int x :: S) σ) ∧
  (∀ (d : Nat) (σ : Sg) (S : List Value) (l0 l1 l2 l3 : Value), exec d mL_law 853 [l0, l1, l2, l3] S σ = exec d mL_law 854 [l0, l1, l2, l3] (.int (nI 1) :: S) σ) ∧
  (∀ (d : Nat) (σ : Sg) (S : List Value) (l0 l1 l2 l3 : Value) (x y : Int32), exec d mL_law 854 [l0, l1, l2, l3] (.int y :: .int x :: S) σ = exec d mL_law 855 [l0, l1, l2, l3] (.int (x + y) :: S) σ) ∧
  (∀ (d : Nat) (σ : Sg) (S : List Value) (l0 l1 l2 l3 : Value) (x : Int32), exec d mL_law 855 [l0, l1, l2, l3] (.int x :: .ref 66 :: S) σ = if inb x (σ 67 0).toNatClampNeg = true then exec d mL_law 856 [l0, l1, l2, l3] (.int (σ 66 x.toNatClampNeg) :: S) σ else none) ∧
  (∀ (d : Nat) (σ : Sg) (S : List Value) (l1 l2 l3 : Value) (k : Nat), exec d mL_law 856 [.ref k, l1, l2, l3] S σ = exec d mL_law 857 [.ref k, l1, l2, l3] (.ref k :: S) σ) ∧
  (∀ (d : Nat) (σ : Sg) (S : List Value) (l0 l1 l2 : Value) (x : Int32), exec d mL_law 857 [l0, l1, l2, .int x] S σ = exec d mL_law 858 [l0, l1, l2, .int x] (.int x :: S) σ) ∧
  (∀ (d : Nat) (σ : Sg) (S : List Value) (l0 l1 l2 l3 : Value), exec d mL_law 858 [l0, l1, l2, l3] S σ = exec d mL_law 859 [l0, l1, l2, l3] (.int (nI 2) :: S) σ) ∧
  (∀ (d : Nat) (σ : Sg) (S : List Value) (l0 l1 l2 l3 : Value) (x y : Int32), exec d mL_law 859 [l0, l1, l2, l3] (.int y :: .int x :: S) σ = exec d mL_law 860 [l0, l1, l2, l3] (.int (x + y) :: S) σ) ∧
  (∀ (d : Nat) (σ : Sg) (S : List Value) (l0 l1 l2 l3 : Value) (x : Int32), exec d mL_law 860 [l0, l1, l2, l3] (.int x :: .ref 66 :: S) σ = if inb x (σ 67 0).toNatClampNeg = true then exec d mL_law 861 [l0, l1, l2, l3] (.int (σ 66 x.toNatClampNeg) :: S) σ else none) ∧
  (∀ (d : Nat) (σ : Sg) (l0 l1 l2 l3 : Value) (x0 x1 : Int32), exec d mL_law 861 [l0, l1, l2, l3] [.int x0, .int x1, .ref 0] σ = kb (cal d mX6_err [.ref 0, .int x1, .int x0] σ) (fun rs σ2 => exec d mL_law 864 [l0, l1, l2, l3] (rs ++ []) σ2)) ∧
  (∀ (d : Nat) (σ : Sg) (S : List Value) (l0 l1 l3 : Value) (k : Nat), exec d mL_law 864 [l0, l1, .ref k, l3] S σ = exec d mL_law 865 [l0, l1, .ref k, l3] (.ref k :: S) σ) ∧
  (∀ (d : Nat) (σ : Sg) (S : List Value) (l1 l2 l3 : Value) (k : Nat), exec d mL_law 865 [.ref k, l1, l2, l3] S σ = exec d mL_law 866 [.ref k, l1, l2, l3] (.ref k :: S) σ) ∧
  (∀ (d : Nat) (σ : Sg) (S : List Value) (l0 l1 l2 : Value) (x : Int32), exec d mL_law 866 [l0, l1, l2, .int x] S σ = exec d mL_law 867 [l0, l1, l2, .int x] (.int x :: S) σ) ∧
  (∀ (d : Nat) (σ : Sg) (S : List Value) (l0 l1 l2 l3 : Value), exec d mL_law 867 [l0, l1, l2, l3] S σ = exec d mL_law 868 [l0, l1, l2, l3] (.int (nI 1) :: S) σ) ∧
  (∀ (d : Nat) (σ : Sg) (S : List Value) (l0 l1 l2 l3 : Value) (x y : Int32), exec d mL_law 868 [l0, l1, l2, l3] (.int y :: .int x :: S) σ = exec d mL_law 869 [l0, l1, l2, l3] (.int (x + y) :: S) σ) ∧
  (∀ (d : Nat) (σ : Sg) (S : List Value) (l0 l1 l2 l3 : Value) (x : Int32), exec d mL_law 869 [l0, l1, l2, l3] (.int x :: .ref 66 :: S) σ = if inb x (σ 67 0).toNatClampNeg = true then exec d mL_law 870 [l0, l1, l2, l3] (.int (σ 66 x.toNatClampNeg) :: S) σ else none) ∧
  (∀ (d : Nat) (σ : Sg) (S : List Value) (l1 l2 l3 : Value) (k : Nat), exec d mL_law 870 [.ref k, l1, l2, l3] S σ = exec d mL_law 871 [.ref k, l1, l2, l3] (.ref k :: S) σ) ∧
  (∀ (d : Nat) (σ : Sg) (S : List Value) (l0 l1 l2 : Value) (x : Int32), exec d mL_law 871 [l0, l1, l2, .int x] S σ = exec d mL_law 872 [l0, l1, l2, .int x] (.int x :: S) σ) ∧
  (∀ (d : Nat) (σ : Sg) (S : List Value) (l0 l1 l2 l3 : Value), exec d mL_law 872 [l0, l1, l2, l3] S σ = exec d mL_law 873 [l0, l1, l2, l3] (.int (nI 2) :: S) σ) ∧
  (∀ (d : Nat) (σ : Sg) (S : List Value) (l0 l1 l2 l3 : Value) (x y : Int32), exec d mL_law 873 [l0, l1, l2, l3] (.int y :: .int x :: S) σ = exec d mL_law 874 [l0, l1, l2, l3] (.int (x + y) :: S) σ) ∧
  (∀ (d : Nat) (σ : Sg) (S : List Value) (l0 l1 l2 l3 : Value) (x : Int32), exec d mL_law 874 [l0, l1, l2, l3] (.int x :: .ref 66 :: S) σ = if inb x (σ 67 0).toNatClampNeg = true then exec d mL_law 875 [l0, l1, l2, l3] (.int (σ 66 x.toNatClampNeg) :: S) σ else none) ∧
  (∀ (d : Nat) (σ : Sg) (l0 l1 l2 l3 : Value) (x0 x1 : Int32) (x3 : Int64), exec d mL_law 875 [l0, l1, l2, l3] [.int x0, .int x1, .ref 50, .long x3] σ = kb (cal d mX7_err [.ref 50, .int x1, .int x0] σ) (fun rs σ2 => exec d mL_law 878 [l0, l1, l2, l3] (rs ++ [.long x3]) σ2)) ∧
  (∀ (d : Nat) (σ : Sg) (S : List Value) (l0 l1 l2 l3 : Value) (x y : Int64), exec d mL_law 878 [l0, l1, l2, l3] (.long y :: .long x :: S) σ = exec d mL_law 879 [l0, l1, l2, l3] (.int (lg_cmp x y) :: S) σ) ∧
  (∀ (d : Nat) (σ : Sg) (S : List Value) (l0 l1 l2 l3 : Value) (x : Int32), exec d mL_law 879 [l0, l1, l2, l3] (.int x :: S) σ = if x = nI 0 then exec d mL_law 1144 [l0, l1, l2, l3] S σ else exec d mL_law 882 [l0, l1, l2, l3] S σ) ∧
  (∀ (d : Nat) (σ : Sg) (S : List Value) (l0 l1 l2 l3 : Value), exec d mL_law 882 [l0, l1, l2, l3] S σ = exec d mL_law 883 [l0, l1, l2, l3] (.int (nI 0) :: S) σ) ∧
  (∀ (d : Nat) (σ : Sg) (l0 l1 l2 l3 : Value) (x : Int32), exec d mL_law 883 [l0, l1, l2, l3] [.int x] σ = if b01 x = true then some (some (.int x), σ) else none) ∧
  (∀ (d : Nat) (σ : Sg) (S : List Value) (l0 l2 l3 : Value) (k : Nat), exec d mL_law 884 [l0, .ref k, l2, l3] S σ = exec d mL_law 885 [l0, .ref k, l2, l3] (.ref k :: S) σ) ∧
  (∀ (d : Nat) (σ : Sg) (S : List Value) (l1 l2 l3 : Value) (k : Nat), exec d mL_law 885 [.ref k, l1, l2, l3] S σ = exec d mL_law 886 [.ref k, l1, l2, l3] (.ref k :: S) σ) ∧
  (∀ (d : Nat) (σ : Sg) (S : List Value) (l0 l1 l2 : Value) (x : Int32), exec d mL_law 886 [l0, l1, l2, .int x] S σ = exec d mL_law 887 [l0, l1, l2, .int x] (.int x :: S) σ) :=
  ⟨fun d σ S l1 l2 l3 k => ex_aload_n (show decode mL_law.2.1 837 = .ok (.aload_n 0, 1) by decide +kernel) rfl,
  fun d σ S l0 l1 l2 x => ex_iload_n (show decode mL_law.2.1 838 = .ok (.iload_n 3, 1) by decide +kernel) rfl,
  fun d σ S l0 l1 l2 l3 => ex_iconst (show decode mL_law.2.1 839 = .ok (.iconst 4, 1) by decide +kernel) (by decide +kernel),
  fun d σ S l0 l1 l2 l3 x y => ex_iadd (show decode mL_law.2.1 840 = .ok (.iadd, 1) by decide +kernel),
  fun d σ S l0 l1 l2 l3 x => ex_sald (by decide +kernel),
  fun d σ l0 l1 l2 l3 x0 x1 x2 x3 x5 => ex_iv (hs := [1173, 1174, 1175, 1176, 101]) (show decode mL_law.2.1 842 = .ok (.invokevirtual 114, 3) by decide +kernel) lkV_8_114 ⟨rfl, Nat.le_of_ble_eq_true rfl, Nat.le_of_ble_eq_true rfl, fun _ => rfl⟩ rfl rfl,
  fun d σ S l0 l1 l2 l3 x y => ex_ceq (show decode mL_law.2.1 845 = .ok (.if_icmp .eq 299, 3) by decide +kernel) (by decide),
  fun d σ S l0 l1 l2 l3 => ex_iconst (show decode mL_law.2.1 848 = .ok (.iconst 0, 1) by decide +kernel) (by decide +kernel),
  fun d σ l0 l1 l2 l3 x => ex_zret (show decode mL_law.2.1 849 = .ok (.ireturn, 1) by decide +kernel) rfl,
  fun d σ S l0 l2 l3 k => ex_aload_n (show decode mL_law.2.1 850 = .ok (.aload_n 1, 1) by decide +kernel) rfl,
  fun d σ S l1 l2 l3 k => ex_aload_n (show decode mL_law.2.1 851 = .ok (.aload_n 0, 1) by decide +kernel) rfl,
  fun d σ S l0 l1 l2 x => ex_iload_n (show decode mL_law.2.1 852 = .ok (.iload_n 3, 1) by decide +kernel) rfl,
  fun d σ S l0 l1 l2 l3 => ex_iconst (show decode mL_law.2.1 853 = .ok (.iconst 1, 1) by decide +kernel) (by decide +kernel),
  fun d σ S l0 l1 l2 l3 x y => ex_iadd (show decode mL_law.2.1 854 = .ok (.iadd, 1) by decide +kernel),
  fun d σ S l0 l1 l2 l3 x => ex_sald (by decide +kernel),
  fun d σ S l1 l2 l3 k => ex_aload_n (show decode mL_law.2.1 856 = .ok (.aload_n 0, 1) by decide +kernel) rfl,
  fun d σ S l0 l1 l2 x => ex_iload_n (show decode mL_law.2.1 857 = .ok (.iload_n 3, 1) by decide +kernel) rfl,
  fun d σ S l0 l1 l2 l3 => ex_iconst (show decode mL_law.2.1 858 = .ok (.iconst 2, 1) by decide +kernel) (by decide +kernel),
  fun d σ S l0 l1 l2 l3 x y => ex_iadd (show decode mL_law.2.1 859 = .ok (.iadd, 1) by decide +kernel),
  fun d σ S l0 l1 l2 l3 x => ex_sald (by decide +kernel),
  fun d σ l0 l1 l2 l3 x0 x1 => ex_iv (hs := [730, 731, 732, 733, 94]) (show decode mL_law.2.1 861 = .ok (.invokevirtual 115, 3) by decide +kernel) lkV_8_115 ⟨rfl, Nat.le_of_ble_eq_true rfl, Nat.le_of_ble_eq_true rfl, fun _ => rfl⟩ rfl rfl,
  fun d σ S l0 l1 l3 k => ex_aload_n (show decode mL_law.2.1 864 = .ok (.aload_n 2, 1) by decide +kernel) rfl,
  fun d σ S l1 l2 l3 k => ex_aload_n (show decode mL_law.2.1 865 = .ok (.aload_n 0, 1) by decide +kernel) rfl,
  fun d σ S l0 l1 l2 x => ex_iload_n (show decode mL_law.2.1 866 = .ok (.iload_n 3, 1) by decide +kernel) rfl,
  fun d σ S l0 l1 l2 l3 => ex_iconst (show decode mL_law.2.1 867 = .ok (.iconst 1, 1) by decide +kernel) (by decide +kernel),
  fun d σ S l0 l1 l2 l3 x y => ex_iadd (show decode mL_law.2.1 868 = .ok (.iadd, 1) by decide +kernel),
  fun d σ S l0 l1 l2 l3 x => ex_sald (by decide +kernel),
  fun d σ S l1 l2 l3 k => ex_aload_n (show decode mL_law.2.1 870 = .ok (.aload_n 0, 1) by decide +kernel) rfl,
  fun d σ S l0 l1 l2 x => ex_iload_n (show decode mL_law.2.1 871 = .ok (.iload_n 3, 1) by decide +kernel) rfl,
  fun d σ S l0 l1 l2 l3 => ex_iconst (show decode mL_law.2.1 872 = .ok (.iconst 2, 1) by decide +kernel) (by decide +kernel),
  fun d σ S l0 l1 l2 l3 x y => ex_iadd (show decode mL_law.2.1 873 = .ok (.iadd, 1) by decide +kernel),
  fun d σ S l0 l1 l2 l3 x => ex_sald (by decide +kernel),
  fun d σ l0 l1 l2 l3 x0 x1 x3 => ex_iv (hs := [1178, 1179, 1180, 1181, 101]) (show decode mL_law.2.1 875 = .ok (.invokevirtual 119, 3) by decide +kernel) lkV_8_119 ⟨rfl, Nat.le_of_ble_eq_true rfl, Nat.le_of_ble_eq_true rfl, fun _ => rfl⟩ rfl rfl,
  fun d σ S l0 l1 l2 l3 x y => ex_lcmp (show decode mL_law.2.1 878 = .ok (.lcmp, 1) by decide +kernel),
  fun d σ S l0 l1 l2 l3 x => ex_zeq (show decode mL_law.2.1 879 = .ok (.ifCond .eq 265, 3) by decide +kernel) (by decide),
  fun d σ S l0 l1 l2 l3 => ex_iconst (show decode mL_law.2.1 882 = .ok (.iconst 0, 1) by decide +kernel) (by decide +kernel),
  fun d σ l0 l1 l2 l3 x => ex_zret (show decode mL_law.2.1 883 = .ok (.ireturn, 1) by decide +kernel) rfl,
  fun d σ S l0 l2 l3 k => ex_aload_n (show decode mL_law.2.1 884 = .ok (.aload_n 1, 1) by decide +kernel) rfl,
  fun d σ S l1 l2 l3 k => ex_aload_n (show decode mL_law.2.1 885 = .ok (.aload_n 0, 1) by decide +kernel) rfl,
  fun d σ S l0 l1 l2 x => ex_iload_n (show decode mL_law.2.1 886 = .ok (.iload_n 3, 1) by decide +kernel) rfl⟩
theorem kL_law_14 : (∀ (d : Nat) (σ : Sg) (S : List Value) (l0 l1 l2 l3 : Value), exec d mL_law 887 [l0, l1, l2, l3] S σ = exec d mL_law 888 [l0, l1, l2, l3] (.int (nI 1) :: S) σ) ∧
  (∀ (d : Nat) (σ : Sg) (S : List Value) (l0 l1 l2 l3 : Value) (x y : Int32), exec d mL_law 888 [l0, l1, l2, l3] (.int y :: .int x :: S) σ = exec d mL_law 889 [l0, l1, l2, l3] (.int (x + y) :: S) σ) ∧
  (∀ (d : Nat) (σ : Sg) (S : List Value) (l0 l1 l2 l3 : Value) (x : Int32), exec d mL_law 889 [l0, l1, l2, l3] (.int x :: .ref 66 :: S) σ = if inb x (σ 67 0).toNatClampNeg = true then exec d mL_law 890 [l0, l1, l2, l3] (.int (σ 66 x.toNatClampNeg) :: S) σ else none) ∧
  (∀ (d : Nat) (σ : Sg) (l0 l1 l2 l3 : Value) (x0 : Int32), exec d mL_law 890 [l0, l1, l2, l3] [.int x0, .ref 0] σ = kb (cal d mX6_worth [.ref 0, .int x0] σ) (fun rs σ2 => exec d mL_law 893 [l0, l1, l2, l3] (rs ++ []) σ2)) ∧
  (∀ (d : Nat) (σ : Sg) (S : List Value) (l0 l1 l3 : Value) (k : Nat), exec d mL_law 893 [l0, l1, .ref k, l3] S σ = exec d mL_law 894 [l0, l1, .ref k, l3] (.ref k :: S) σ) ∧
  (∀ (d : Nat) (σ : Sg) (S : List Value) (l1 l2 l3 : Value) (k : Nat), exec d mL_law 894 [.ref k, l1, l2, l3] S σ = exec d mL_law 895 [.ref k, l1, l2, l3] (.ref k :: S) σ) ∧
  (∀ (d : Nat) (σ : Sg) (S : List Value) (l0 l1 l2 : Value) (x : Int32), exec d mL_law 895 [l0, l1, l2, .int x] S σ = exec d mL_law 896 [l0, l1, l2, .int x] (.int x :: S) σ) ∧
  (∀ (d : Nat) (σ : Sg) (S : List Value) (l0 l1 l2 l3 : Value), exec d mL_law 896 [l0, l1, l2, l3] S σ = exec d mL_law 897 [l0, l1, l2, l3] (.int (nI 1) :: S) σ) ∧
  (∀ (d : Nat) (σ : Sg) (S : List Value) (l0 l1 l2 l3 : Value) (x y : Int32), exec d mL_law 897 [l0, l1, l2, l3] (.int y :: .int x :: S) σ = exec d mL_law 898 [l0, l1, l2, l3] (.int (x + y) :: S) σ) ∧
  (∀ (d : Nat) (σ : Sg) (S : List Value) (l0 l1 l2 l3 : Value) (x : Int32), exec d mL_law 898 [l0, l1, l2, l3] (.int x :: .ref 66 :: S) σ = if inb x (σ 67 0).toNatClampNeg = true then exec d mL_law 899 [l0, l1, l2, l3] (.int (σ 66 x.toNatClampNeg) :: S) σ else none) ∧
  (∀ (d : Nat) (σ : Sg) (l0 l1 l2 l3 : Value) (x0 x2 : Int32), exec d mL_law 899 [l0, l1, l2, l3] [.int x0, .ref 50, .int x2] σ = kb (cal d mX7_worth [.ref 50, .int x0] σ) (fun rs σ2 => exec d mL_law 902 [l0, l1, l2, l3] (rs ++ [.int x2]) σ2)) ∧
  (∀ (d : Nat) (σ : Sg) (S : List Value) (l0 l1 l2 l3 : Value) (x y : Int32), exec d mL_law 902 [l0, l1, l2, l3] (.int y :: .int x :: S) σ = if x = y then exec d mL_law 1144 [l0, l1, l2, l3] S σ else exec d mL_law 905 [l0, l1, l2, l3] S σ) ∧
  (∀ (d : Nat) (σ : Sg) (S : List Value) (l0 l1 l2 l3 : Value), exec d mL_law 905 [l0, l1, l2, l3] S σ = exec d mL_law 906 [l0, l1, l2, l3] (.int (nI 0) :: S) σ) ∧
  (∀ (d : Nat) (σ : Sg) (l0 l1 l2 l3 : Value) (x : Int32), exec d mL_law 906 [l0, l1, l2, l3] [.int x] σ = if b01 x = true then some (some (.int x), σ) else none) ∧
  (∀ (d : Nat) (σ : Sg) (S : List Value) (l0 l2 l3 : Value) (k : Nat), exec d mL_law 907 [l0, .ref k, l2, l3] S σ = exec d mL_law 908 [l0, .ref k, l2, l3] (.ref k :: S) σ) ∧
  (∀ (d : Nat) (σ : Sg) (S : List Value) (l1 l2 l3 : Value) (k : Nat), exec d mL_law 908 [.ref k, l1, l2, l3] S σ = exec d mL_law 909 [.ref k, l1, l2, l3] (.ref k :: S) σ) ∧
  (∀ (d : Nat) (σ : Sg) (S : List Value) (l0 l1 l2 : Value) (x : Int32), exec d mL_law 909 [l0, l1, l2, .int x] S σ = exec d mL_law 910 [l0, l1, l2, .int x] (.int x :: S) σ) ∧
  (∀ (d : Nat) (σ : Sg) (S : List Value) (l0 l1 l2 l3 : Value), exec d mL_law 910 [l0, l1, l2, l3] S σ = exec d mL_law 911 [l0, l1, l2, l3] (.int (nI 1) :: S) σ) ∧
  (∀ (d : Nat) (σ : Sg) (S : List Value) (l0 l1 l2 l3 : Value) (x y : Int32), exec d mL_law 911 [l0, l1, l2, l3] (.int y :: .int x :: S) σ = exec d mL_law 912 [l0, l1, l2, l3] (.int (x + y) :: S) σ) ∧
  (∀ (d : Nat) (σ : Sg) (S : List Value) (l0 l1 l2 l3 : Value) (x : Int32), exec d mL_law 912 [l0, l1, l2, l3] (.int x :: .ref 66 :: S) σ = if inb x (σ 67 0).toNatClampNeg = true then exec d mL_law 913 [l0, l1, l2, l3] (.int (σ 66 x.toNatClampNeg) :: S) σ else none) ∧
  (∀ (d : Nat) (σ : Sg) (S : List Value) (l1 l2 l3 : Value) (k : Nat), exec d mL_law 913 [.ref k, l1, l2, l3] S σ = exec d mL_law 914 [.ref k, l1, l2, l3] (.ref k :: S) σ) ∧
  (∀ (d : Nat) (σ : Sg) (S : List Value) (l0 l1 l2 : Value) (x : Int32), exec d mL_law 914 [l0, l1, l2, .int x] S σ = exec d mL_law 915 [l0, l1, l2, .int x] (.int x :: S) σ) ∧
  (∀ (d : Nat) (σ : Sg) (S : List Value) (l0 l1 l2 l3 : Value), exec d mL_law 915 [l0, l1, l2, l3] S σ = exec d mL_law 916 [l0, l1, l2, l3] (.int (nI 2) :: S) σ) ∧
  (∀ (d : Nat) (σ : Sg) (S : List Value) (l0 l1 l2 l3 : Value) (x y : Int32), exec d mL_law 916 [l0, l1, l2, l3] (.int y :: .int x :: S) σ = exec d mL_law 917 [l0, l1, l2, l3] (.int (x + y) :: S) σ) ∧
  (∀ (d : Nat) (σ : Sg) (S : List Value) (l0 l1 l2 l3 : Value) (x : Int32), exec d mL_law 917 [l0, l1, l2, l3] (.int x :: .ref 66 :: S) σ = if inb x (σ 67 0).toNatClampNeg = true then exec d mL_law 918 [l0, l1, l2, l3] (.int (σ 66 x.toNatClampNeg) :: S) σ else none) ∧
  (∀ (d : Nat) (σ : Sg) (S : List Value) (l1 l2 l3 : Value) (k : Nat), exec d mL_law 918 [.ref k, l1, l2, l3] S σ = exec d mL_law 919 [.ref k, l1, l2, l3] (.ref k :: S) σ) ∧
  (∀ (d : Nat) (σ : Sg) (S : List Value) (l0 l1 l2 : Value) (x : Int32), exec d mL_law 919 [l0, l1, l2, .int x] S σ = exec d mL_law 920 [l0, l1, l2, .int x] (.int x :: S) σ) ∧
  (∀ (d : Nat) (σ : Sg) (S : List Value) (l0 l1 l2 l3 : Value), exec d mL_law 920 [l0, l1, l2, l3] S σ = exec d mL_law 921 [l0, l1, l2, l3] (.int (nI 3) :: S) σ) ∧
  (∀ (d : Nat) (σ : Sg) (S : List Value) (l0 l1 l2 l3 : Value) (x y : Int32), exec d mL_law 921 [l0, l1, l2, l3] (.int y :: .int x :: S) σ = exec d mL_law 922 [l0, l1, l2, l3] (.int (x + y) :: S) σ) ∧
  (∀ (d : Nat) (σ : Sg) (S : List Value) (l0 l1 l2 l3 : Value) (x : Int32), exec d mL_law 922 [l0, l1, l2, l3] (.int x :: .ref 66 :: S) σ = if inb x (σ 67 0).toNatClampNeg = true then exec d mL_law 923 [l0, l1, l2, l3] (.int (σ 66 x.toNatClampNeg) :: S) σ else none) ∧
  (∀ (d : Nat) (σ : Sg) (l0 l1 l2 l3 : Value) (x0 x1 x2 : Int32), exec d mL_law 923 [l0, l1, l2, l3] [.int x0, .int x1, .int x2, .ref 0] σ = kb (cal d mX6_drawn [.ref 0, .int x2, .int x1, .int x0] σ) (fun rs σ2 => exec d mL_law 926 [l0, l1, l2, l3] (rs ++ []) σ2)) ∧
  (∀ (d : Nat) (σ : Sg) (S : List Value) (l0 l1 l3 : Value) (k : Nat), exec d mL_law 926 [l0, l1, .ref k, l3] S σ = exec d mL_law 927 [l0, l1, .ref k, l3] (.ref k :: S) σ) ∧
  (∀ (d : Nat) (σ : Sg) (S : List Value) (l1 l2 l3 : Value) (k : Nat), exec d mL_law 927 [.ref k, l1, l2, l3] S σ = exec d mL_law 928 [.ref k, l1, l2, l3] (.ref k :: S) σ) ∧
  (∀ (d : Nat) (σ : Sg) (S : List Value) (l0 l1 l2 : Value) (x : Int32), exec d mL_law 928 [l0, l1, l2, .int x] S σ = exec d mL_law 929 [l0, l1, l2, .int x] (.int x :: S) σ) ∧
  (∀ (d : Nat) (σ : Sg) (S : List Value) (l0 l1 l2 l3 : Value), exec d mL_law 929 [l0, l1, l2, l3] S σ = exec d mL_law 930 [l0, l1, l2, l3] (.int (nI 1) :: S) σ) ∧
  (∀ (d : Nat) (σ : Sg) (S : List Value) (l0 l1 l2 l3 : Value) (x y : Int32), exec d mL_law 930 [l0, l1, l2, l3] (.int y :: .int x :: S) σ = exec d mL_law 931 [l0, l1, l2, l3] (.int (x + y) :: S) σ) ∧
  (∀ (d : Nat) (σ : Sg) (S : List Value) (l0 l1 l2 l3 : Value) (x : Int32), exec d mL_law 931 [l0, l1, l2, l3] (.int x :: .ref 66 :: S) σ = if inb x (σ 67 0).toNatClampNeg = true then exec d mL_law 932 [l0, l1, l2, l3] (.int (σ 66 x.toNatClampNeg) :: S) σ else none) ∧
  (∀ (d : Nat) (σ : Sg) (S : List Value) (l1 l2 l3 : Value) (k : Nat), exec d mL_law 932 [.ref k, l1, l2, l3] S σ = exec d mL_law 933 [.ref k, l1, l2, l3] (.ref k :: S) σ) ∧
  (∀ (d : Nat) (σ : Sg) (S : List Value) (l0 l1 l2 : Value) (x : Int32), exec d mL_law 933 [l0, l1, l2, .int x] S σ = exec d mL_law 934 [l0, l1, l2, .int x] (.int x :: S) σ) ∧
  (∀ (d : Nat) (σ : Sg) (S : List Value) (l0 l1 l2 l3 : Value), exec d mL_law 934 [l0, l1, l2, l3] S σ = exec d mL_law 935 [l0, l1, l2, l3] (.int (nI 2) :: S) σ) :=
  ⟨fun d σ S l0 l1 l2 l3 => ex_iconst (show decode mL_law.2.1 887 = .ok (.iconst 1, 1) by decide +kernel) (by decide +kernel),
  fun d σ S l0 l1 l2 l3 x y => ex_iadd (show decode mL_law.2.1 888 = .ok (.iadd, 1) by decide +kernel),
  fun d σ S l0 l1 l2 l3 x => ex_sald (by decide +kernel),
  fun d σ l0 l1 l2 l3 x0 => ex_iv (hs := [744, 745, 746, 747, 94]) (show decode mL_law.2.1 890 = .ok (.invokevirtual 120, 3) by decide +kernel) lkV_8_120 ⟨rfl, Nat.le_of_ble_eq_true rfl, Nat.le_of_ble_eq_true rfl, fun _ => rfl⟩ rfl rfl,
  fun d σ S l0 l1 l3 k => ex_aload_n (show decode mL_law.2.1 893 = .ok (.aload_n 2, 1) by decide +kernel) rfl,
  fun d σ S l1 l2 l3 k => ex_aload_n (show decode mL_law.2.1 894 = .ok (.aload_n 0, 1) by decide +kernel) rfl,
  fun d σ S l0 l1 l2 x => ex_iload_n (show decode mL_law.2.1 895 = .ok (.iload_n 3, 1) by decide +kernel) rfl,
  fun d σ S l0 l1 l2 l3 => ex_iconst (show decode mL_law.2.1 896 = .ok (.iconst 1, 1) by decide +kernel) (by decide +kernel),
  fun d σ S l0 l1 l2 l3 x y => ex_iadd (show decode mL_law.2.1 897 = .ok (.iadd, 1) by decide +kernel),
  fun d σ S l0 l1 l2 l3 x => ex_sald (by decide +kernel),
  fun d σ l0 l1 l2 l3 x0 x2 => ex_iv (hs := [1185, 1186, 1187, 1188, 101]) (show decode mL_law.2.1 899 = .ok (.invokevirtual 123, 3) by decide +kernel) lkV_8_123 ⟨rfl, Nat.le_of_ble_eq_true rfl, Nat.le_of_ble_eq_true rfl, fun _ => rfl⟩ rfl rfl,
  fun d σ S l0 l1 l2 l3 x y => ex_ceq (show decode mL_law.2.1 902 = .ok (.if_icmp .eq 242, 3) by decide +kernel) (by decide),
  fun d σ S l0 l1 l2 l3 => ex_iconst (show decode mL_law.2.1 905 = .ok (.iconst 0, 1) by decide +kernel) (by decide +kernel),
  fun d σ l0 l1 l2 l3 x => ex_zret (show decode mL_law.2.1 906 = .ok (.ireturn, 1) by decide +kernel) rfl,
  fun d σ S l0 l2 l3 k => ex_aload_n (show decode mL_law.2.1 907 = .ok (.aload_n 1, 1) by decide +kernel) rfl,
  fun d σ S l1 l2 l3 k => ex_aload_n (show decode mL_law.2.1 908 = .ok (.aload_n 0, 1) by decide +kernel) rfl,
  fun d σ S l0 l1 l2 x => ex_iload_n (show decode mL_law.2.1 909 = .ok (.iload_n 3, 1) by decide +kernel) rfl,
  fun d σ S l0 l1 l2 l3 => ex_iconst (show decode mL_law.2.1 910 = .ok (.iconst 1, 1) by decide +kernel) (by decide +kernel),
  fun d σ S l0 l1 l2 l3 x y => ex_iadd (show decode mL_law.2.1 911 = .ok (.iadd, 1) by decide +kernel),
  fun d σ S l0 l1 l2 l3 x => ex_sald (by decide +kernel),
  fun d σ S l1 l2 l3 k => ex_aload_n (show decode mL_law.2.1 913 = .ok (.aload_n 0, 1) by decide +kernel) rfl,
  fun d σ S l0 l1 l2 x => ex_iload_n (show decode mL_law.2.1 914 = .ok (.iload_n 3, 1) by decide +kernel) rfl,
  fun d σ S l0 l1 l2 l3 => ex_iconst (show decode mL_law.2.1 915 = .ok (.iconst 2, 1) by decide +kernel) (by decide +kernel),
  fun d σ S l0 l1 l2 l3 x y => ex_iadd (show decode mL_law.2.1 916 = .ok (.iadd, 1) by decide +kernel),
  fun d σ S l0 l1 l2 l3 x => ex_sald (by decide +kernel),
  fun d σ S l1 l2 l3 k => ex_aload_n (show decode mL_law.2.1 918 = .ok (.aload_n 0, 1) by decide +kernel) rfl,
  fun d σ S l0 l1 l2 x => ex_iload_n (show decode mL_law.2.1 919 = .ok (.iload_n 3, 1) by decide +kernel) rfl,
  fun d σ S l0 l1 l2 l3 => ex_iconst (show decode mL_law.2.1 920 = .ok (.iconst 3, 1) by decide +kernel) (by decide +kernel),
  fun d σ S l0 l1 l2 l3 x y => ex_iadd (show decode mL_law.2.1 921 = .ok (.iadd, 1) by decide +kernel),
  fun d σ S l0 l1 l2 l3 x => ex_sald (by decide +kernel),
  fun d σ l0 l1 l2 l3 x0 x1 x2 => ex_iv (hs := [748, 749, 750, 751, 94]) (show decode mL_law.2.1 923 = .ok (.invokevirtual 124, 3) by decide +kernel) lkV_8_124 ⟨rfl, Nat.le_of_ble_eq_true rfl, Nat.le_of_ble_eq_true rfl, fun _ => rfl⟩ rfl rfl,
  fun d σ S l0 l1 l3 k => ex_aload_n (show decode mL_law.2.1 926 = .ok (.aload_n 2, 1) by decide +kernel) rfl,
  fun d σ S l1 l2 l3 k => ex_aload_n (show decode mL_law.2.1 927 = .ok (.aload_n 0, 1) by decide +kernel) rfl,
  fun d σ S l0 l1 l2 x => ex_iload_n (show decode mL_law.2.1 928 = .ok (.iload_n 3, 1) by decide +kernel) rfl,
  fun d σ S l0 l1 l2 l3 => ex_iconst (show decode mL_law.2.1 929 = .ok (.iconst 1, 1) by decide +kernel) (by decide +kernel),
  fun d σ S l0 l1 l2 l3 x y => ex_iadd (show decode mL_law.2.1 930 = .ok (.iadd, 1) by decide +kernel),
  fun d σ S l0 l1 l2 l3 x => ex_sald (by decide +kernel),
  fun d σ S l1 l2 l3 k => ex_aload_n (show decode mL_law.2.1 932 = .ok (.aload_n 0, 1) by decide +kernel) rfl,
  fun d σ S l0 l1 l2 x => ex_iload_n (show decode mL_law.2.1 933 = .ok (.iload_n 3, 1) by decide +kernel) rfl,
  fun d σ S l0 l1 l2 l3 => ex_iconst (show decode mL_law.2.1 934 = .ok (.iconst 2, 1) by decide +kernel) (by decide +kernel)⟩
theorem kL_law_15 : (∀ (d : Nat) (σ : Sg) (S : List Value) (l0 l1 l2 l3 : Value) (x y : Int32), exec d mL_law 935 [l0, l1, l2, l3] (.int y :: .int x :: S) σ = exec d mL_law 936 [l0, l1, l2, l3] (.int (x + y) :: S) σ) ∧
  (∀ (d : Nat) (σ : Sg) (S : List Value) (l0 l1 l2 l3 : Value) (x : Int32), exec d mL_law 936 [l0, l1, l2, l3] (.int x :: .ref 66 :: S) σ = if inb x (σ 67 0).toNatClampNeg = true then exec d mL_law 937 [l0, l1, l2, l3] (.int (σ 66 x.toNatClampNeg) :: S) σ else none) ∧
  (∀ (d : Nat) (σ : Sg) (S : List Value) (l1 l2 l3 : Value) (k : Nat), exec d mL_law 937 [.ref k, l1, l2, l3] S σ = exec d mL_law 938 [.ref k, l1, l2, l3] (.ref k :: S) σ) ∧
  (∀ (d : Nat) (σ : Sg) (S : List Value) (l0 l1 l2 : Value) (x : Int32), exec d mL_law 938 [l0, l1, l2, .int x] S σ = exec d mL_law 939 [l0, l1, l2, .int x] (.int x :: S) σ) ∧
  (∀ (d : Nat) (σ : Sg) (S : List Value) (l0 l1 l2 l3 : Value), exec d mL_law 939 [l0, l1, l2, l3] S σ = exec d mL_law 940 [l0, l1, l2, l3] (.int (nI 3) :: S) σ) ∧
  (∀ (d : Nat) (σ : Sg) (S : List Value) (l0 l1 l2 l3 : Value) (x y : Int32), exec d mL_law 940 [l0, l1, l2, l3] (.int y :: .int x :: S) σ = exec d mL_law 941 [l0, l1, l2, l3] (.int (x + y) :: S) σ) ∧
  (∀ (d : Nat) (σ : Sg) (S : List Value) (l0 l1 l2 l3 : Value) (x : Int32), exec d mL_law 941 [l0, l1, l2, l3] (.int x :: .ref 66 :: S) σ = if inb x (σ 67 0).toNatClampNeg = true then exec d mL_law 942 [l0, l1, l2, l3] (.int (σ 66 x.toNatClampNeg) :: S) σ else none) ∧
  (∀ (d : Nat) (σ : Sg) (l0 l1 l2 l3 : Value) (x0 x1 x2 x4 : Int32), exec d mL_law 942 [l0, l1, l2, l3] [.int x0, .int x1, .int x2, .ref 50, .int x4] σ = kb (cal d mX7_drawn [.ref 50, .int x2, .int x1, .int x0] σ) (fun rs σ2 => exec d mL_law 945 [l0, l1, l2, l3] (rs ++ [.int x4]) σ2)) ∧
  (∀ (d : Nat) (σ : Sg) (S : List Value) (l0 l1 l2 l3 : Value) (x y : Int32), exec d mL_law 945 [l0, l1, l2, l3] (.int y :: .int x :: S) σ = if x = y then exec d mL_law 1144 [l0, l1, l2, l3] S σ else exec d mL_law 948 [l0, l1, l2, l3] S σ) ∧
  (∀ (d : Nat) (σ : Sg) (S : List Value) (l0 l1 l2 l3 : Value), exec d mL_law 948 [l0, l1, l2, l3] S σ = exec d mL_law 949 [l0, l1, l2, l3] (.int (nI 0) :: S) σ) ∧
  (∀ (d : Nat) (σ : Sg) (l0 l1 l2 l3 : Value) (x : Int32), exec d mL_law 949 [l0, l1, l2, l3] [.int x] σ = if b01 x = true then some (some (.int x), σ) else none) ∧
  (∀ (d : Nat) (σ : Sg) (S : List Value) (l0 l2 l3 : Value) (k : Nat), exec d mL_law 950 [l0, .ref k, l2, l3] S σ = exec d mL_law 951 [l0, .ref k, l2, l3] (.ref k :: S) σ) ∧
  (∀ (d : Nat) (σ : Sg) (S : List Value) (l1 l2 l3 : Value) (k : Nat), exec d mL_law 951 [.ref k, l1, l2, l3] S σ = exec d mL_law 952 [.ref k, l1, l2, l3] (.ref k :: S) σ) ∧
  (∀ (d : Nat) (σ : Sg) (S : List Value) (l0 l1 l2 : Value) (x : Int32), exec d mL_law 952 [l0, l1, l2, .int x] S σ = exec d mL_law 953 [l0, l1, l2, .int x] (.int x :: S) σ) ∧
  (∀ (d : Nat) (σ : Sg) (S : List Value) (l0 l1 l2 l3 : Value), exec d mL_law 953 [l0, l1, l2, l3] S σ = exec d mL_law 954 [l0, l1, l2, l3] (.int (nI 1) :: S) σ) ∧
  (∀ (d : Nat) (σ : Sg) (S : List Value) (l0 l1 l2 l3 : Value) (x y : Int32), exec d mL_law 954 [l0, l1, l2, l3] (.int y :: .int x :: S) σ = exec d mL_law 955 [l0, l1, l2, l3] (.int (x + y) :: S) σ) ∧
  (∀ (d : Nat) (σ : Sg) (S : List Value) (l0 l1 l2 l3 : Value) (x : Int32), exec d mL_law 955 [l0, l1, l2, l3] (.int x :: .ref 66 :: S) σ = if inb x (σ 67 0).toNatClampNeg = true then exec d mL_law 956 [l0, l1, l2, l3] (.int (σ 66 x.toNatClampNeg) :: S) σ else none) ∧
  (∀ (d : Nat) (σ : Sg) (l0 l1 l2 l3 : Value) (x0 : Int32), exec d mL_law 956 [l0, l1, l2, l3] [.int x0, .ref 0] σ = kb (cal d mX6_image [.ref 0, .int x0] σ) (fun rs σ2 => exec d mL_law 959 [l0, l1, l2, l3] (rs ++ []) σ2)) ∧
  (∀ (d : Nat) (σ : Sg) (S : List Value) (l0 l1 l3 : Value) (k : Nat), exec d mL_law 959 [l0, l1, .ref k, l3] S σ = exec d mL_law 960 [l0, l1, .ref k, l3] (.ref k :: S) σ) ∧
  (∀ (d : Nat) (σ : Sg) (S : List Value) (l1 l2 l3 : Value) (k : Nat), exec d mL_law 960 [.ref k, l1, l2, l3] S σ = exec d mL_law 961 [.ref k, l1, l2, l3] (.ref k :: S) σ) ∧
  (∀ (d : Nat) (σ : Sg) (S : List Value) (l0 l1 l2 : Value) (x : Int32), exec d mL_law 961 [l0, l1, l2, .int x] S σ = exec d mL_law 962 [l0, l1, l2, .int x] (.int x :: S) σ) ∧
  (∀ (d : Nat) (σ : Sg) (S : List Value) (l0 l1 l2 l3 : Value), exec d mL_law 962 [l0, l1, l2, l3] S σ = exec d mL_law 963 [l0, l1, l2, l3] (.int (nI 1) :: S) σ) ∧
  (∀ (d : Nat) (σ : Sg) (S : List Value) (l0 l1 l2 l3 : Value) (x y : Int32), exec d mL_law 963 [l0, l1, l2, l3] (.int y :: .int x :: S) σ = exec d mL_law 964 [l0, l1, l2, l3] (.int (x + y) :: S) σ) ∧
  (∀ (d : Nat) (σ : Sg) (S : List Value) (l0 l1 l2 l3 : Value) (x : Int32), exec d mL_law 964 [l0, l1, l2, l3] (.int x :: .ref 66 :: S) σ = if inb x (σ 67 0).toNatClampNeg = true then exec d mL_law 965 [l0, l1, l2, l3] (.int (σ 66 x.toNatClampNeg) :: S) σ else none) ∧
  (∀ (d : Nat) (σ : Sg) (l0 l1 l2 l3 : Value) (x0 x2 : Int32), exec d mL_law 965 [l0, l1, l2, l3] [.int x0, .ref 50, .int x2] σ = kb (cal d mX7_image [.ref 50, .int x0] σ) (fun rs σ2 => exec d mL_law 968 [l0, l1, l2, l3] (rs ++ [.int x2]) σ2)) ∧
  (∀ (d : Nat) (σ : Sg) (S : List Value) (l0 l1 l2 l3 : Value) (x y : Int32), exec d mL_law 968 [l0, l1, l2, l3] (.int y :: .int x :: S) σ = if x = y then exec d mL_law 1144 [l0, l1, l2, l3] S σ else exec d mL_law 971 [l0, l1, l2, l3] S σ) ∧
  (∀ (d : Nat) (σ : Sg) (S : List Value) (l0 l1 l2 l3 : Value), exec d mL_law 971 [l0, l1, l2, l3] S σ = exec d mL_law 972 [l0, l1, l2, l3] (.int (nI 0) :: S) σ) ∧
  (∀ (d : Nat) (σ : Sg) (l0 l1 l2 l3 : Value) (x : Int32), exec d mL_law 972 [l0, l1, l2, l3] [.int x] σ = if b01 x = true then some (some (.int x), σ) else none) ∧
  (∀ (d : Nat) (σ : Sg) (S : List Value) (l0 l2 l3 : Value) (k : Nat), exec d mL_law 973 [l0, .ref k, l2, l3] S σ = exec d mL_law 974 [l0, .ref k, l2, l3] (.ref k :: S) σ) ∧
  (∀ (d : Nat) (σ : Sg) (S : List Value) (l1 l2 l3 : Value) (k : Nat), exec d mL_law 974 [.ref k, l1, l2, l3] S σ = exec d mL_law 975 [.ref k, l1, l2, l3] (.ref k :: S) σ) ∧
  (∀ (d : Nat) (σ : Sg) (S : List Value) (l0 l1 l2 : Value) (x : Int32), exec d mL_law 975 [l0, l1, l2, .int x] S σ = exec d mL_law 976 [l0, l1, l2, .int x] (.int x :: S) σ) ∧
  (∀ (d : Nat) (σ : Sg) (S : List Value) (l0 l1 l2 l3 : Value), exec d mL_law 976 [l0, l1, l2, l3] S σ = exec d mL_law 977 [l0, l1, l2, l3] (.int (nI 1) :: S) σ) ∧
  (∀ (d : Nat) (σ : Sg) (S : List Value) (l0 l1 l2 l3 : Value) (x y : Int32), exec d mL_law 977 [l0, l1, l2, l3] (.int y :: .int x :: S) σ = exec d mL_law 978 [l0, l1, l2, l3] (.int (x + y) :: S) σ) ∧
  (∀ (d : Nat) (σ : Sg) (S : List Value) (l0 l1 l2 l3 : Value) (x : Int32), exec d mL_law 978 [l0, l1, l2, l3] (.int x :: .ref 66 :: S) σ = if inb x (σ 67 0).toNatClampNeg = true then exec d mL_law 979 [l0, l1, l2, l3] (.int (σ 66 x.toNatClampNeg) :: S) σ else none) ∧
  (∀ (d : Nat) (σ : Sg) (l0 l1 l2 l3 : Value) (x0 : Int32), exec d mL_law 979 [l0, l1, l2, l3] [.int x0, .ref 0] σ = kb (cal d mX6_restore [.ref 0, .int x0] σ) (fun rs σ2 => exec d mL_law 982 [l0, l1, l2, l3] (rs ++ []) σ2)) ∧
  (∀ (d : Nat) (σ : Sg) (S : List Value) (l0 l1 l3 : Value) (k : Nat), exec d mL_law 982 [l0, l1, .ref k, l3] S σ = exec d mL_law 983 [l0, l1, .ref k, l3] (.ref k :: S) σ) ∧
  (∀ (d : Nat) (σ : Sg) (S : List Value) (l1 l2 l3 : Value) (k : Nat), exec d mL_law 983 [.ref k, l1, l2, l3] S σ = exec d mL_law 984 [.ref k, l1, l2, l3] (.ref k :: S) σ) ∧
  (∀ (d : Nat) (σ : Sg) (S : List Value) (l0 l1 l2 : Value) (x : Int32), exec d mL_law 984 [l0, l1, l2, .int x] S σ = exec d mL_law 985 [l0, l1, l2, .int x] (.int x :: S) σ) ∧
  (∀ (d : Nat) (σ : Sg) (S : List Value) (l0 l1 l2 l3 : Value), exec d mL_law 985 [l0, l1, l2, l3] S σ = exec d mL_law 986 [l0, l1, l2, l3] (.int (nI 1) :: S) σ) ∧
  (∀ (d : Nat) (σ : Sg) (S : List Value) (l0 l1 l2 l3 : Value) (x y : Int32), exec d mL_law 986 [l0, l1, l2, l3] (.int y :: .int x :: S) σ = exec d mL_law 987 [l0, l1, l2, l3] (.int (x + y) :: S) σ) :=
  ⟨fun d σ S l0 l1 l2 l3 x y => ex_iadd (show decode mL_law.2.1 935 = .ok (.iadd, 1) by decide +kernel),
  fun d σ S l0 l1 l2 l3 x => ex_sald (by decide +kernel),
  fun d σ S l1 l2 l3 k => ex_aload_n (show decode mL_law.2.1 937 = .ok (.aload_n 0, 1) by decide +kernel) rfl,
  fun d σ S l0 l1 l2 x => ex_iload_n (show decode mL_law.2.1 938 = .ok (.iload_n 3, 1) by decide +kernel) rfl,
  fun d σ S l0 l1 l2 l3 => ex_iconst (show decode mL_law.2.1 939 = .ok (.iconst 3, 1) by decide +kernel) (by decide +kernel),
  fun d σ S l0 l1 l2 l3 x y => ex_iadd (show decode mL_law.2.1 940 = .ok (.iadd, 1) by decide +kernel),
  fun d σ S l0 l1 l2 l3 x => ex_sald (by decide +kernel),
  fun d σ l0 l1 l2 l3 x0 x1 x2 x4 => ex_iv (hs := [1189, 1190, 1191, 1192, 101]) (show decode mL_law.2.1 942 = .ok (.invokevirtual 127, 3) by decide +kernel) lkV_8_127 ⟨rfl, Nat.le_of_ble_eq_true rfl, Nat.le_of_ble_eq_true rfl, fun _ => rfl⟩ rfl rfl,
  fun d σ S l0 l1 l2 l3 x y => ex_ceq (show decode mL_law.2.1 945 = .ok (.if_icmp .eq 199, 3) by decide +kernel) (by decide),
  fun d σ S l0 l1 l2 l3 => ex_iconst (show decode mL_law.2.1 948 = .ok (.iconst 0, 1) by decide +kernel) (by decide +kernel),
  fun d σ l0 l1 l2 l3 x => ex_zret (show decode mL_law.2.1 949 = .ok (.ireturn, 1) by decide +kernel) rfl,
  fun d σ S l0 l2 l3 k => ex_aload_n (show decode mL_law.2.1 950 = .ok (.aload_n 1, 1) by decide +kernel) rfl,
  fun d σ S l1 l2 l3 k => ex_aload_n (show decode mL_law.2.1 951 = .ok (.aload_n 0, 1) by decide +kernel) rfl,
  fun d σ S l0 l1 l2 x => ex_iload_n (show decode mL_law.2.1 952 = .ok (.iload_n 3, 1) by decide +kernel) rfl,
  fun d σ S l0 l1 l2 l3 => ex_iconst (show decode mL_law.2.1 953 = .ok (.iconst 1, 1) by decide +kernel) (by decide +kernel),
  fun d σ S l0 l1 l2 l3 x y => ex_iadd (show decode mL_law.2.1 954 = .ok (.iadd, 1) by decide +kernel),
  fun d σ S l0 l1 l2 l3 x => ex_sald (by decide +kernel),
  fun d σ l0 l1 l2 l3 x0 => ex_iv (hs := [762, 763, 764, 765, 94]) (show decode mL_law.2.1 956 = .ok (.invokevirtual 128, 3) by decide +kernel) lkV_8_128 ⟨rfl, Nat.le_of_ble_eq_true rfl, Nat.le_of_ble_eq_true rfl, fun _ => rfl⟩ rfl rfl,
  fun d σ S l0 l1 l3 k => ex_aload_n (show decode mL_law.2.1 959 = .ok (.aload_n 2, 1) by decide +kernel) rfl,
  fun d σ S l1 l2 l3 k => ex_aload_n (show decode mL_law.2.1 960 = .ok (.aload_n 0, 1) by decide +kernel) rfl,
  fun d σ S l0 l1 l2 x => ex_iload_n (show decode mL_law.2.1 961 = .ok (.iload_n 3, 1) by decide +kernel) rfl,
  fun d σ S l0 l1 l2 l3 => ex_iconst (show decode mL_law.2.1 962 = .ok (.iconst 1, 1) by decide +kernel) (by decide +kernel),
  fun d σ S l0 l1 l2 l3 x y => ex_iadd (show decode mL_law.2.1 963 = .ok (.iadd, 1) by decide +kernel),
  fun d σ S l0 l1 l2 l3 x => ex_sald (by decide +kernel),
  fun d σ l0 l1 l2 l3 x0 x2 => ex_iv (hs := [1198, 1199, 1200, 1201, 101]) (show decode mL_law.2.1 965 = .ok (.invokevirtual 131, 3) by decide +kernel) lkV_8_131 ⟨rfl, Nat.le_of_ble_eq_true rfl, Nat.le_of_ble_eq_true rfl, fun _ => rfl⟩ rfl rfl,
  fun d σ S l0 l1 l2 l3 x y => ex_ceq (show decode mL_law.2.1 968 = .ok (.if_icmp .eq 176, 3) by decide +kernel) (by decide),
  fun d σ S l0 l1 l2 l3 => ex_iconst (show decode mL_law.2.1 971 = .ok (.iconst 0, 1) by decide +kernel) (by decide +kernel),
  fun d σ l0 l1 l2 l3 x => ex_zret (show decode mL_law.2.1 972 = .ok (.ireturn, 1) by decide +kernel) rfl,
  fun d σ S l0 l2 l3 k => ex_aload_n (show decode mL_law.2.1 973 = .ok (.aload_n 1, 1) by decide +kernel) rfl,
  fun d σ S l1 l2 l3 k => ex_aload_n (show decode mL_law.2.1 974 = .ok (.aload_n 0, 1) by decide +kernel) rfl,
  fun d σ S l0 l1 l2 x => ex_iload_n (show decode mL_law.2.1 975 = .ok (.iload_n 3, 1) by decide +kernel) rfl,
  fun d σ S l0 l1 l2 l3 => ex_iconst (show decode mL_law.2.1 976 = .ok (.iconst 1, 1) by decide +kernel) (by decide +kernel),
  fun d σ S l0 l1 l2 l3 x y => ex_iadd (show decode mL_law.2.1 977 = .ok (.iadd, 1) by decide +kernel),
  fun d σ S l0 l1 l2 l3 x => ex_sald (by decide +kernel),
  fun d σ l0 l1 l2 l3 x0 => ex_iv (hs := [770, 771, 772, 773, 94]) (show decode mL_law.2.1 979 = .ok (.invokevirtual 132, 3) by decide +kernel) lkV_8_132 ⟨rfl, Nat.le_of_ble_eq_true rfl, Nat.le_of_ble_eq_true rfl, fun _ => rfl⟩ rfl rfl,
  fun d σ S l0 l1 l3 k => ex_aload_n (show decode mL_law.2.1 982 = .ok (.aload_n 2, 1) by decide +kernel) rfl,
  fun d σ S l1 l2 l3 k => ex_aload_n (show decode mL_law.2.1 983 = .ok (.aload_n 0, 1) by decide +kernel) rfl,
  fun d σ S l0 l1 l2 x => ex_iload_n (show decode mL_law.2.1 984 = .ok (.iload_n 3, 1) by decide +kernel) rfl,
  fun d σ S l0 l1 l2 l3 => ex_iconst (show decode mL_law.2.1 985 = .ok (.iconst 1, 1) by decide +kernel) (by decide +kernel),
  fun d σ S l0 l1 l2 l3 x y => ex_iadd (show decode mL_law.2.1 986 = .ok (.iadd, 1) by decide +kernel)⟩
theorem kL_law_16 : (∀ (d : Nat) (σ : Sg) (S : List Value) (l0 l1 l2 l3 : Value) (x : Int32), exec d mL_law 987 [l0, l1, l2, l3] (.int x :: .ref 66 :: S) σ = if inb x (σ 67 0).toNatClampNeg = true then exec d mL_law 988 [l0, l1, l2, l3] (.int (σ 66 x.toNatClampNeg) :: S) σ else none) ∧
  (∀ (d : Nat) (σ : Sg) (l0 l1 l2 l3 : Value) (x0 x2 : Int32), exec d mL_law 988 [l0, l1, l2, l3] [.int x0, .ref 50, .int x2] σ = kb (cal d mX7_restore [.ref 50, .int x0] σ) (fun rs σ2 => exec d mL_law 991 [l0, l1, l2, l3] (rs ++ [.int x2]) σ2)) ∧
  (∀ (d : Nat) (σ : Sg) (S : List Value) (l0 l1 l2 l3 : Value) (x y : Int32), exec d mL_law 991 [l0, l1, l2, l3] (.int y :: .int x :: S) σ = if x = y then exec d mL_law 1144 [l0, l1, l2, l3] S σ else exec d mL_law 994 [l0, l1, l2, l3] S σ) ∧
  (∀ (d : Nat) (σ : Sg) (S : List Value) (l0 l1 l2 l3 : Value), exec d mL_law 994 [l0, l1, l2, l3] S σ = exec d mL_law 995 [l0, l1, l2, l3] (.int (nI 0) :: S) σ) ∧
  (∀ (d : Nat) (σ : Sg) (l0 l1 l2 l3 : Value) (x : Int32), exec d mL_law 995 [l0, l1, l2, l3] [.int x] σ = if b01 x = true then some (some (.int x), σ) else none) ∧
  (∀ (d : Nat) (σ : Sg) (S : List Value) (l0 l2 l3 : Value) (k : Nat), exec d mL_law 996 [l0, .ref k, l2, l3] S σ = exec d mL_law 997 [l0, .ref k, l2, l3] (.ref k :: S) σ) ∧
  (∀ (d : Nat) (σ : Sg) (S : List Value) (l1 l2 l3 : Value) (k : Nat), exec d mL_law 997 [.ref k, l1, l2, l3] S σ = exec d mL_law 998 [.ref k, l1, l2, l3] (.ref k :: S) σ) ∧
  (∀ (d : Nat) (σ : Sg) (S : List Value) (l0 l1 l2 : Value) (x : Int32), exec d mL_law 998 [l0, l1, l2, .int x] S σ = exec d mL_law 999 [l0, l1, l2, .int x] (.int x :: S) σ) ∧
  (∀ (d : Nat) (σ : Sg) (S : List Value) (l0 l1 l2 l3 : Value), exec d mL_law 999 [l0, l1, l2, l3] S σ = exec d mL_law 1000 [l0, l1, l2, l3] (.int (nI 1) :: S) σ) ∧
  (∀ (d : Nat) (σ : Sg) (S : List Value) (l0 l1 l2 l3 : Value) (x y : Int32), exec d mL_law 1000 [l0, l1, l2, l3] (.int y :: .int x :: S) σ = exec d mL_law 1001 [l0, l1, l2, l3] (.int (x + y) :: S) σ) ∧
  (∀ (d : Nat) (σ : Sg) (S : List Value) (l0 l1 l2 l3 : Value) (x : Int32), exec d mL_law 1001 [l0, l1, l2, l3] (.int x :: .ref 66 :: S) σ = if inb x (σ 67 0).toNatClampNeg = true then exec d mL_law 1002 [l0, l1, l2, l3] (.int (σ 66 x.toNatClampNeg) :: S) σ else none) ∧
  (∀ (d : Nat) (σ : Sg) (l0 l1 l2 l3 : Value) (x0 : Int32), exec d mL_law 1002 [l0, l1, l2, l3] [.int x0, .ref 0] σ = kb (cal d mX6_kind [.ref 0, .int x0] σ) (fun rs σ2 => exec d mL_law 1005 [l0, l1, l2, l3] (rs ++ []) σ2)) ∧
  (∀ (d : Nat) (σ : Sg) (S : List Value) (l0 l1 l3 : Value) (k : Nat), exec d mL_law 1005 [l0, l1, .ref k, l3] S σ = exec d mL_law 1006 [l0, l1, .ref k, l3] (.ref k :: S) σ) ∧
  (∀ (d : Nat) (σ : Sg) (S : List Value) (l1 l2 l3 : Value) (k : Nat), exec d mL_law 1006 [.ref k, l1, l2, l3] S σ = exec d mL_law 1007 [.ref k, l1, l2, l3] (.ref k :: S) σ) ∧
  (∀ (d : Nat) (σ : Sg) (S : List Value) (l0 l1 l2 : Value) (x : Int32), exec d mL_law 1007 [l0, l1, l2, .int x] S σ = exec d mL_law 1008 [l0, l1, l2, .int x] (.int x :: S) σ) ∧
  (∀ (d : Nat) (σ : Sg) (S : List Value) (l0 l1 l2 l3 : Value), exec d mL_law 1008 [l0, l1, l2, l3] S σ = exec d mL_law 1009 [l0, l1, l2, l3] (.int (nI 1) :: S) σ) ∧
  (∀ (d : Nat) (σ : Sg) (S : List Value) (l0 l1 l2 l3 : Value) (x y : Int32), exec d mL_law 1009 [l0, l1, l2, l3] (.int y :: .int x :: S) σ = exec d mL_law 1010 [l0, l1, l2, l3] (.int (x + y) :: S) σ) ∧
  (∀ (d : Nat) (σ : Sg) (S : List Value) (l0 l1 l2 l3 : Value) (x : Int32), exec d mL_law 1010 [l0, l1, l2, l3] (.int x :: .ref 66 :: S) σ = if inb x (σ 67 0).toNatClampNeg = true then exec d mL_law 1011 [l0, l1, l2, l3] (.int (σ 66 x.toNatClampNeg) :: S) σ else none) ∧
  (∀ (d : Nat) (σ : Sg) (l0 l1 l2 l3 : Value) (x0 x2 : Int32), exec d mL_law 1011 [l0, l1, l2, l3] [.int x0, .ref 50, .int x2] σ = kb (cal d mX7_kind [.ref 50, .int x0] σ) (fun rs σ2 => exec d mL_law 1014 [l0, l1, l2, l3] (rs ++ [.int x2]) σ2)) ∧
  (∀ (d : Nat) (σ : Sg) (S : List Value) (l0 l1 l2 l3 : Value) (x y : Int32), exec d mL_law 1014 [l0, l1, l2, l3] (.int y :: .int x :: S) σ = if x = y then exec d mL_law 1144 [l0, l1, l2, l3] S σ else exec d mL_law 1017 [l0, l1, l2, l3] S σ) ∧
  (∀ (d : Nat) (σ : Sg) (S : List Value) (l0 l1 l2 l3 : Value), exec d mL_law 1017 [l0, l1, l2, l3] S σ = exec d mL_law 1018 [l0, l1, l2, l3] (.int (nI 0) :: S) σ) ∧
  (∀ (d : Nat) (σ : Sg) (l0 l1 l2 l3 : Value) (x : Int32), exec d mL_law 1018 [l0, l1, l2, l3] [.int x] σ = if b01 x = true then some (some (.int x), σ) else none) ∧
  (∀ (d : Nat) (σ : Sg) (S : List Value) (l0 l2 l3 : Value) (k : Nat), exec d mL_law 1019 [l0, .ref k, l2, l3] S σ = exec d mL_law 1020 [l0, .ref k, l2, l3] (.ref k :: S) σ) ∧
  (∀ (d : Nat) (σ : Sg) (S : List Value) (l1 l2 l3 : Value) (k : Nat), exec d mL_law 1020 [.ref k, l1, l2, l3] S σ = exec d mL_law 1021 [.ref k, l1, l2, l3] (.ref k :: S) σ) ∧
  (∀ (d : Nat) (σ : Sg) (S : List Value) (l0 l1 l2 : Value) (x : Int32), exec d mL_law 1021 [l0, l1, l2, .int x] S σ = exec d mL_law 1022 [l0, l1, l2, .int x] (.int x :: S) σ) ∧
  (∀ (d : Nat) (σ : Sg) (S : List Value) (l0 l1 l2 l3 : Value), exec d mL_law 1022 [l0, l1, l2, l3] S σ = exec d mL_law 1023 [l0, l1, l2, l3] (.int (nI 1) :: S) σ) ∧
  (∀ (d : Nat) (σ : Sg) (S : List Value) (l0 l1 l2 l3 : Value) (x y : Int32), exec d mL_law 1023 [l0, l1, l2, l3] (.int y :: .int x :: S) σ = exec d mL_law 1024 [l0, l1, l2, l3] (.int (x + y) :: S) σ) ∧
  (∀ (d : Nat) (σ : Sg) (S : List Value) (l0 l1 l2 l3 : Value) (x : Int32), exec d mL_law 1024 [l0, l1, l2, l3] (.int x :: .ref 66 :: S) σ = if inb x (σ 67 0).toNatClampNeg = true then exec d mL_law 1025 [l0, l1, l2, l3] (.int (σ 66 x.toNatClampNeg) :: S) σ else none) ∧
  (∀ (d : Nat) (σ : Sg) (S : List Value) (l1 l2 l3 : Value) (k : Nat), exec d mL_law 1025 [.ref k, l1, l2, l3] S σ = exec d mL_law 1026 [.ref k, l1, l2, l3] (.ref k :: S) σ) ∧
  (∀ (d : Nat) (σ : Sg) (S : List Value) (l0 l1 l2 : Value) (x : Int32), exec d mL_law 1026 [l0, l1, l2, .int x] S σ = exec d mL_law 1027 [l0, l1, l2, .int x] (.int x :: S) σ) ∧
  (∀ (d : Nat) (σ : Sg) (S : List Value) (l0 l1 l2 l3 : Value), exec d mL_law 1027 [l0, l1, l2, l3] S σ = exec d mL_law 1028 [l0, l1, l2, l3] (.int (nI 2) :: S) σ) ∧
  (∀ (d : Nat) (σ : Sg) (S : List Value) (l0 l1 l2 l3 : Value) (x y : Int32), exec d mL_law 1028 [l0, l1, l2, l3] (.int y :: .int x :: S) σ = exec d mL_law 1029 [l0, l1, l2, l3] (.int (x + y) :: S) σ) ∧
  (∀ (d : Nat) (σ : Sg) (S : List Value) (l0 l1 l2 l3 : Value) (x : Int32), exec d mL_law 1029 [l0, l1, l2, l3] (.int x :: .ref 66 :: S) σ = if inb x (σ 67 0).toNatClampNeg = true then exec d mL_law 1030 [l0, l1, l2, l3] (.int (σ 66 x.toNatClampNeg) :: S) σ else none) ∧
  (∀ (d : Nat) (σ : Sg) (l0 l1 l2 l3 : Value) (x0 x1 : Int32), exec d mL_law 1030 [l0, l1, l2, l3] [.int x0, .int x1, .ref 0] σ = kb (cal d mX6_as [.ref 0, .int x1, .int x0] σ) (fun rs σ2 => exec d mL_law 1033 [l0, l1, l2, l3] (rs ++ []) σ2)) ∧
  (∀ (d : Nat) (σ : Sg) (S : List Value) (l0 l1 l3 : Value) (k : Nat), exec d mL_law 1033 [l0, l1, .ref k, l3] S σ = exec d mL_law 1034 [l0, l1, .ref k, l3] (.ref k :: S) σ) ∧
  (∀ (d : Nat) (σ : Sg) (S : List Value) (l1 l2 l3 : Value) (k : Nat), exec d mL_law 1034 [.ref k, l1, l2, l3] S σ = exec d mL_law 1035 [.ref k, l1, l2, l3] (.ref k :: S) σ) ∧
  (∀ (d : Nat) (σ : Sg) (S : List Value) (l0 l1 l2 : Value) (x : Int32), exec d mL_law 1035 [l0, l1, l2, .int x] S σ = exec d mL_law 1036 [l0, l1, l2, .int x] (.int x :: S) σ) ∧
  (∀ (d : Nat) (σ : Sg) (S : List Value) (l0 l1 l2 l3 : Value), exec d mL_law 1036 [l0, l1, l2, l3] S σ = exec d mL_law 1037 [l0, l1, l2, l3] (.int (nI 1) :: S) σ) ∧
  (∀ (d : Nat) (σ : Sg) (S : List Value) (l0 l1 l2 l3 : Value) (x y : Int32), exec d mL_law 1037 [l0, l1, l2, l3] (.int y :: .int x :: S) σ = exec d mL_law 1038 [l0, l1, l2, l3] (.int (x + y) :: S) σ) ∧
  (∀ (d : Nat) (σ : Sg) (S : List Value) (l0 l1 l2 l3 : Value) (x : Int32), exec d mL_law 1038 [l0, l1, l2, l3] (.int x :: .ref 66 :: S) σ = if inb x (σ 67 0).toNatClampNeg = true then exec d mL_law 1039 [l0, l1, l2, l3] (.int (σ 66 x.toNatClampNeg) :: S) σ else none) :=
  ⟨fun d σ S l0 l1 l2 l3 x => ex_sald (by decide +kernel),
  fun d σ l0 l1 l2 l3 x0 x2 => ex_iv (hs := [1202, 1203, 1204, 1205, 101]) (show decode mL_law.2.1 988 = .ok (.invokevirtual 135, 3) by decide +kernel) lkV_8_135 ⟨rfl, Nat.le_of_ble_eq_true rfl, Nat.le_of_ble_eq_true rfl, fun _ => rfl⟩ rfl rfl,
  fun d σ S l0 l1 l2 l3 x y => ex_ceq (show decode mL_law.2.1 991 = .ok (.if_icmp .eq 153, 3) by decide +kernel) (by decide),
  fun d σ S l0 l1 l2 l3 => ex_iconst (show decode mL_law.2.1 994 = .ok (.iconst 0, 1) by decide +kernel) (by decide +kernel),
  fun d σ l0 l1 l2 l3 x => ex_zret (show decode mL_law.2.1 995 = .ok (.ireturn, 1) by decide +kernel) rfl,
  fun d σ S l0 l2 l3 k => ex_aload_n (show decode mL_law.2.1 996 = .ok (.aload_n 1, 1) by decide +kernel) rfl,
  fun d σ S l1 l2 l3 k => ex_aload_n (show decode mL_law.2.1 997 = .ok (.aload_n 0, 1) by decide +kernel) rfl,
  fun d σ S l0 l1 l2 x => ex_iload_n (show decode mL_law.2.1 998 = .ok (.iload_n 3, 1) by decide +kernel) rfl,
  fun d σ S l0 l1 l2 l3 => ex_iconst (show decode mL_law.2.1 999 = .ok (.iconst 1, 1) by decide +kernel) (by decide +kernel),
  fun d σ S l0 l1 l2 l3 x y => ex_iadd (show decode mL_law.2.1 1000 = .ok (.iadd, 1) by decide +kernel),
  fun d σ S l0 l1 l2 l3 x => ex_sald (by decide +kernel),
  fun d σ l0 l1 l2 l3 x0 => ex_iv (hs := [774, 775, 776, 777, 94]) (show decode mL_law.2.1 1002 = .ok (.invokevirtual 136, 3) by decide +kernel) lkV_8_136 ⟨rfl, Nat.le_of_ble_eq_true rfl, Nat.le_of_ble_eq_true rfl, fun _ => rfl⟩ rfl rfl,
  fun d σ S l0 l1 l3 k => ex_aload_n (show decode mL_law.2.1 1005 = .ok (.aload_n 2, 1) by decide +kernel) rfl,
  fun d σ S l1 l2 l3 k => ex_aload_n (show decode mL_law.2.1 1006 = .ok (.aload_n 0, 1) by decide +kernel) rfl,
  fun d σ S l0 l1 l2 x => ex_iload_n (show decode mL_law.2.1 1007 = .ok (.iload_n 3, 1) by decide +kernel) rfl,
  fun d σ S l0 l1 l2 l3 => ex_iconst (show decode mL_law.2.1 1008 = .ok (.iconst 1, 1) by decide +kernel) (by decide +kernel),
  fun d σ S l0 l1 l2 l3 x y => ex_iadd (show decode mL_law.2.1 1009 = .ok (.iadd, 1) by decide +kernel),
  fun d σ S l0 l1 l2 l3 x => ex_sald (by decide +kernel),
  fun d σ l0 l1 l2 l3 x0 x2 => ex_iv (hs := [1206, 1207, 1208, 1209, 101]) (show decode mL_law.2.1 1011 = .ok (.invokevirtual 139, 3) by decide +kernel) lkV_8_139 ⟨rfl, Nat.le_of_ble_eq_true rfl, Nat.le_of_ble_eq_true rfl, fun _ => rfl⟩ rfl rfl,
  fun d σ S l0 l1 l2 l3 x y => ex_ceq (show decode mL_law.2.1 1014 = .ok (.if_icmp .eq 130, 3) by decide +kernel) (by decide),
  fun d σ S l0 l1 l2 l3 => ex_iconst (show decode mL_law.2.1 1017 = .ok (.iconst 0, 1) by decide +kernel) (by decide +kernel),
  fun d σ l0 l1 l2 l3 x => ex_zret (show decode mL_law.2.1 1018 = .ok (.ireturn, 1) by decide +kernel) rfl,
  fun d σ S l0 l2 l3 k => ex_aload_n (show decode mL_law.2.1 1019 = .ok (.aload_n 1, 1) by decide +kernel) rfl,
  fun d σ S l1 l2 l3 k => ex_aload_n (show decode mL_law.2.1 1020 = .ok (.aload_n 0, 1) by decide +kernel) rfl,
  fun d σ S l0 l1 l2 x => ex_iload_n (show decode mL_law.2.1 1021 = .ok (.iload_n 3, 1) by decide +kernel) rfl,
  fun d σ S l0 l1 l2 l3 => ex_iconst (show decode mL_law.2.1 1022 = .ok (.iconst 1, 1) by decide +kernel) (by decide +kernel),
  fun d σ S l0 l1 l2 l3 x y => ex_iadd (show decode mL_law.2.1 1023 = .ok (.iadd, 1) by decide +kernel),
  fun d σ S l0 l1 l2 l3 x => ex_sald (by decide +kernel),
  fun d σ S l1 l2 l3 k => ex_aload_n (show decode mL_law.2.1 1025 = .ok (.aload_n 0, 1) by decide +kernel) rfl,
  fun d σ S l0 l1 l2 x => ex_iload_n (show decode mL_law.2.1 1026 = .ok (.iload_n 3, 1) by decide +kernel) rfl,
  fun d σ S l0 l1 l2 l3 => ex_iconst (show decode mL_law.2.1 1027 = .ok (.iconst 2, 1) by decide +kernel) (by decide +kernel),
  fun d σ S l0 l1 l2 l3 x y => ex_iadd (show decode mL_law.2.1 1028 = .ok (.iadd, 1) by decide +kernel),
  fun d σ S l0 l1 l2 l3 x => ex_sald (by decide +kernel),
  fun d σ l0 l1 l2 l3 x0 x1 => ex_iv (hs := [778, 779, 780, 781, 94]) (show decode mL_law.2.1 1030 = .ok (.invokevirtual 140, 3) by decide +kernel) lkV_8_140 ⟨rfl, Nat.le_of_ble_eq_true rfl, Nat.le_of_ble_eq_true rfl, fun _ => rfl⟩ rfl rfl,
  fun d σ S l0 l1 l3 k => ex_aload_n (show decode mL_law.2.1 1033 = .ok (.aload_n 2, 1) by decide +kernel) rfl,
  fun d σ S l1 l2 l3 k => ex_aload_n (show decode mL_law.2.1 1034 = .ok (.aload_n 0, 1) by decide +kernel) rfl,
  fun d σ S l0 l1 l2 x => ex_iload_n (show decode mL_law.2.1 1035 = .ok (.iload_n 3, 1) by decide +kernel) rfl,
  fun d σ S l0 l1 l2 l3 => ex_iconst (show decode mL_law.2.1 1036 = .ok (.iconst 1, 1) by decide +kernel) (by decide +kernel),
  fun d σ S l0 l1 l2 l3 x y => ex_iadd (show decode mL_law.2.1 1037 = .ok (.iadd, 1) by decide +kernel),
  fun d σ S l0 l1 l2 l3 x => ex_sald (by decide +kernel)⟩
theorem kL_law_17 : (∀ (d : Nat) (σ : Sg) (S : List Value) (l1 l2 l3 : Value) (k : Nat), exec d mL_law 1039 [.ref k, l1, l2, l3] S σ = exec d mL_law 1040 [.ref k, l1, l2, l3] (.ref k :: S) σ) ∧
  (∀ (d : Nat) (σ : Sg) (S : List Value) (l0 l1 l2 : Value) (x : Int32), exec d mL_law 1040 [l0, l1, l2, .int x] S σ = exec d mL_law 1041 [l0, l1, l2, .int x] (.int x :: S) σ) ∧
  (∀ (d : Nat) (σ : Sg) (S : List Value) (l0 l1 l2 l3 : Value), exec d mL_law 1041 [l0, l1, l2, l3] S σ = exec d mL_law 1042 [l0, l1, l2, l3] (.int (nI 2) :: S) σ) ∧
  (∀ (d : Nat) (σ : Sg) (S : List Value) (l0 l1 l2 l3 : Value) (x y : Int32), exec d mL_law 1042 [l0, l1, l2, l3] (.int y :: .int x :: S) σ = exec d mL_law 1043 [l0, l1, l2, l3] (.int (x + y) :: S) σ) ∧
  (∀ (d : Nat) (σ : Sg) (S : List Value) (l0 l1 l2 l3 : Value) (x : Int32), exec d mL_law 1043 [l0, l1, l2, l3] (.int x :: .ref 66 :: S) σ = if inb x (σ 67 0).toNatClampNeg = true then exec d mL_law 1044 [l0, l1, l2, l3] (.int (σ 66 x.toNatClampNeg) :: S) σ else none) ∧
  (∀ (d : Nat) (σ : Sg) (l0 l1 l2 l3 : Value) (x0 x1 x3 : Int32), exec d mL_law 1044 [l0, l1, l2, l3] [.int x0, .int x1, .ref 50, .int x3] σ = kb (cal d mX7_as [.ref 50, .int x1, .int x0] σ) (fun rs σ2 => exec d mL_law 1047 [l0, l1, l2, l3] (rs ++ [.int x3]) σ2)) ∧
  (∀ (d : Nat) (σ : Sg) (S : List Value) (l0 l1 l2 l3 : Value) (x y : Int32), exec d mL_law 1047 [l0, l1, l2, l3] (.int y :: .int x :: S) σ = if x = y then exec d mL_law 1144 [l0, l1, l2, l3] S σ else exec d mL_law 1050 [l0, l1, l2, l3] S σ) ∧
  (∀ (d : Nat) (σ : Sg) (S : List Value) (l0 l1 l2 l3 : Value), exec d mL_law 1050 [l0, l1, l2, l3] S σ = exec d mL_law 1051 [l0, l1, l2, l3] (.int (nI 0) :: S) σ) ∧
  (∀ (d : Nat) (σ : Sg) (l0 l1 l2 l3 : Value) (x : Int32), exec d mL_law 1051 [l0, l1, l2, l3] [.int x] σ = if b01 x = true then some (some (.int x), σ) else none) ∧
  (∀ (d : Nat) (σ : Sg) (S : List Value) (l0 l2 l3 : Value) (k : Nat), exec d mL_law 1052 [l0, .ref k, l2, l3] S σ = exec d mL_law 1053 [l0, .ref k, l2, l3] (.ref k :: S) σ) ∧
  (∀ (d : Nat) (σ : Sg) (S : List Value) (l1 l2 l3 : Value) (k : Nat), exec d mL_law 1053 [.ref k, l1, l2, l3] S σ = exec d mL_law 1054 [.ref k, l1, l2, l3] (.ref k :: S) σ) ∧
  (∀ (d : Nat) (σ : Sg) (S : List Value) (l0 l1 l2 : Value) (x : Int32), exec d mL_law 1054 [l0, l1, l2, .int x] S σ = exec d mL_law 1055 [l0, l1, l2, .int x] (.int x :: S) σ) ∧
  (∀ (d : Nat) (σ : Sg) (S : List Value) (l0 l1 l2 l3 : Value), exec d mL_law 1055 [l0, l1, l2, l3] S σ = exec d mL_law 1056 [l0, l1, l2, l3] (.int (nI 1) :: S) σ) ∧
  (∀ (d : Nat) (σ : Sg) (S : List Value) (l0 l1 l2 l3 : Value) (x y : Int32), exec d mL_law 1056 [l0, l1, l2, l3] (.int y :: .int x :: S) σ = exec d mL_law 1057 [l0, l1, l2, l3] (.int (x + y) :: S) σ) ∧
  (∀ (d : Nat) (σ : Sg) (S : List Value) (l0 l1 l2 l3 : Value) (x : Int32), exec d mL_law 1057 [l0, l1, l2, l3] (.int x :: .ref 66 :: S) σ = if inb x (σ 67 0).toNatClampNeg = true then exec d mL_law 1058 [l0, l1, l2, l3] (.int (σ 66 x.toNatClampNeg) :: S) σ else none) ∧
  (∀ (d : Nat) (σ : Sg) (S : List Value) (l1 l2 l3 : Value) (k : Nat), exec d mL_law 1058 [.ref k, l1, l2, l3] S σ = exec d mL_law 1059 [.ref k, l1, l2, l3] (.ref k :: S) σ) ∧
  (∀ (d : Nat) (σ : Sg) (S : List Value) (l0 l1 l2 : Value) (x : Int32), exec d mL_law 1059 [l0, l1, l2, .int x] S σ = exec d mL_law 1060 [l0, l1, l2, .int x] (.int x :: S) σ) ∧
  (∀ (d : Nat) (σ : Sg) (S : List Value) (l0 l1 l2 l3 : Value), exec d mL_law 1060 [l0, l1, l2, l3] S σ = exec d mL_law 1061 [l0, l1, l2, l3] (.int (nI 2) :: S) σ) ∧
  (∀ (d : Nat) (σ : Sg) (S : List Value) (l0 l1 l2 l3 : Value) (x y : Int32), exec d mL_law 1061 [l0, l1, l2, l3] (.int y :: .int x :: S) σ = exec d mL_law 1062 [l0, l1, l2, l3] (.int (x + y) :: S) σ) ∧
  (∀ (d : Nat) (σ : Sg) (S : List Value) (l0 l1 l2 l3 : Value) (x : Int32), exec d mL_law 1062 [l0, l1, l2, l3] (.int x :: .ref 66 :: S) σ = if inb x (σ 67 0).toNatClampNeg = true then exec d mL_law 1063 [l0, l1, l2, l3] (.int (σ 66 x.toNatClampNeg) :: S) σ else none) ∧
  (∀ (d : Nat) (σ : Sg) (l0 l1 l2 l3 : Value) (x0 x1 : Int32), exec d mL_law 1063 [l0, l1, l2, l3] [.int x0, .int x1, .ref 0] σ = kb (cal d mX6_ask [.ref 0, .int x1, .int x0] σ) (fun rs σ2 => exec d mL_law 1066 [l0, l1, l2, l3] (rs ++ []) σ2)) ∧
  (∀ (d : Nat) (σ : Sg) (S : List Value) (l0 l1 l3 : Value) (k : Nat), exec d mL_law 1066 [l0, l1, .ref k, l3] S σ = exec d mL_law 1067 [l0, l1, .ref k, l3] (.ref k :: S) σ) ∧
  (∀ (d : Nat) (σ : Sg) (S : List Value) (l1 l2 l3 : Value) (k : Nat), exec d mL_law 1067 [.ref k, l1, l2, l3] S σ = exec d mL_law 1068 [.ref k, l1, l2, l3] (.ref k :: S) σ) ∧
  (∀ (d : Nat) (σ : Sg) (S : List Value) (l0 l1 l2 : Value) (x : Int32), exec d mL_law 1068 [l0, l1, l2, .int x] S σ = exec d mL_law 1069 [l0, l1, l2, .int x] (.int x :: S) σ) ∧
  (∀ (d : Nat) (σ : Sg) (S : List Value) (l0 l1 l2 l3 : Value), exec d mL_law 1069 [l0, l1, l2, l3] S σ = exec d mL_law 1070 [l0, l1, l2, l3] (.int (nI 1) :: S) σ) ∧
  (∀ (d : Nat) (σ : Sg) (S : List Value) (l0 l1 l2 l3 : Value) (x y : Int32), exec d mL_law 1070 [l0, l1, l2, l3] (.int y :: .int x :: S) σ = exec d mL_law 1071 [l0, l1, l2, l3] (.int (x + y) :: S) σ) ∧
  (∀ (d : Nat) (σ : Sg) (S : List Value) (l0 l1 l2 l3 : Value) (x : Int32), exec d mL_law 1071 [l0, l1, l2, l3] (.int x :: .ref 66 :: S) σ = if inb x (σ 67 0).toNatClampNeg = true then exec d mL_law 1072 [l0, l1, l2, l3] (.int (σ 66 x.toNatClampNeg) :: S) σ else none) ∧
  (∀ (d : Nat) (σ : Sg) (S : List Value) (l1 l2 l3 : Value) (k : Nat), exec d mL_law 1072 [.ref k, l1, l2, l3] S σ = exec d mL_law 1073 [.ref k, l1, l2, l3] (.ref k :: S) σ) ∧
  (∀ (d : Nat) (σ : Sg) (S : List Value) (l0 l1 l2 : Value) (x : Int32), exec d mL_law 1073 [l0, l1, l2, .int x] S σ = exec d mL_law 1074 [l0, l1, l2, .int x] (.int x :: S) σ) ∧
  (∀ (d : Nat) (σ : Sg) (S : List Value) (l0 l1 l2 l3 : Value), exec d mL_law 1074 [l0, l1, l2, l3] S σ = exec d mL_law 1075 [l0, l1, l2, l3] (.int (nI 2) :: S) σ) ∧
  (∀ (d : Nat) (σ : Sg) (S : List Value) (l0 l1 l2 l3 : Value) (x y : Int32), exec d mL_law 1075 [l0, l1, l2, l3] (.int y :: .int x :: S) σ = exec d mL_law 1076 [l0, l1, l2, l3] (.int (x + y) :: S) σ) ∧
  (∀ (d : Nat) (σ : Sg) (S : List Value) (l0 l1 l2 l3 : Value) (x : Int32), exec d mL_law 1076 [l0, l1, l2, l3] (.int x :: .ref 66 :: S) σ = if inb x (σ 67 0).toNatClampNeg = true then exec d mL_law 1077 [l0, l1, l2, l3] (.int (σ 66 x.toNatClampNeg) :: S) σ else none) ∧
  (∀ (d : Nat) (σ : Sg) (l0 l1 l2 l3 : Value) (x0 x1 x3 : Int32), exec d mL_law 1077 [l0, l1, l2, l3] [.int x0, .int x1, .ref 50, .int x3] σ = kb (cal d mX7_ask [.ref 50, .int x1, .int x0] σ) (fun rs σ2 => exec d mL_law 1080 [l0, l1, l2, l3] (rs ++ [.int x3]) σ2)) ∧
  (∀ (d : Nat) (σ : Sg) (S : List Value) (l0 l1 l2 l3 : Value) (x y : Int32), exec d mL_law 1080 [l0, l1, l2, l3] (.int y :: .int x :: S) σ = if x = y then exec d mL_law 1144 [l0, l1, l2, l3] S σ else exec d mL_law 1083 [l0, l1, l2, l3] S σ) ∧
  (∀ (d : Nat) (σ : Sg) (S : List Value) (l0 l1 l2 l3 : Value), exec d mL_law 1083 [l0, l1, l2, l3] S σ = exec d mL_law 1084 [l0, l1, l2, l3] (.int (nI 0) :: S) σ) ∧
  (∀ (d : Nat) (σ : Sg) (l0 l1 l2 l3 : Value) (x : Int32), exec d mL_law 1084 [l0, l1, l2, l3] [.int x] σ = if b01 x = true then some (some (.int x), σ) else none) ∧
  (∀ (d : Nat) (σ : Sg) (S : List Value) (l0 l2 l3 : Value) (k : Nat), exec d mL_law 1085 [l0, .ref k, l2, l3] S σ = exec d mL_law 1086 [l0, .ref k, l2, l3] (.ref k :: S) σ) ∧
  (∀ (d : Nat) (σ : Sg) (S : List Value) (l1 l2 l3 : Value) (k : Nat), exec d mL_law 1086 [.ref k, l1, l2, l3] S σ = exec d mL_law 1087 [.ref k, l1, l2, l3] (.ref k :: S) σ) ∧
  (∀ (d : Nat) (σ : Sg) (S : List Value) (l0 l1 l2 : Value) (x : Int32), exec d mL_law 1087 [l0, l1, l2, .int x] S σ = exec d mL_law 1088 [l0, l1, l2, .int x] (.int x :: S) σ) ∧
  (∀ (d : Nat) (σ : Sg) (S : List Value) (l0 l1 l2 l3 : Value), exec d mL_law 1088 [l0, l1, l2, l3] S σ = exec d mL_law 1089 [l0, l1, l2, l3] (.int (nI 1) :: S) σ) :=
  ⟨fun d σ S l1 l2 l3 k => ex_aload_n (show decode mL_law.2.1 1039 = .ok (.aload_n 0, 1) by decide +kernel) rfl,
  fun d σ S l0 l1 l2 x => ex_iload_n (show decode mL_law.2.1 1040 = .ok (.iload_n 3, 1) by decide +kernel) rfl,
  fun d σ S l0 l1 l2 l3 => ex_iconst (show decode mL_law.2.1 1041 = .ok (.iconst 2, 1) by decide +kernel) (by decide +kernel),
  fun d σ S l0 l1 l2 l3 x y => ex_iadd (show decode mL_law.2.1 1042 = .ok (.iadd, 1) by decide +kernel),
  fun d σ S l0 l1 l2 l3 x => ex_sald (by decide +kernel),
  fun d σ l0 l1 l2 l3 x0 x1 x3 => ex_iv (hs := [1210, 1211, 1212, 1213, 101]) (show decode mL_law.2.1 1044 = .ok (.invokevirtual 143, 3) by decide +kernel) lkV_8_143 ⟨rfl, Nat.le_of_ble_eq_true rfl, Nat.le_of_ble_eq_true rfl, fun _ => rfl⟩ rfl rfl,
  fun d σ S l0 l1 l2 l3 x y => ex_ceq (show decode mL_law.2.1 1047 = .ok (.if_icmp .eq 97, 3) by decide +kernel) (by decide),
  fun d σ S l0 l1 l2 l3 => ex_iconst (show decode mL_law.2.1 1050 = .ok (.iconst 0, 1) by decide +kernel) (by decide +kernel),
  fun d σ l0 l1 l2 l3 x => ex_zret (show decode mL_law.2.1 1051 = .ok (.ireturn, 1) by decide +kernel) rfl,
  fun d σ S l0 l2 l3 k => ex_aload_n (show decode mL_law.2.1 1052 = .ok (.aload_n 1, 1) by decide +kernel) rfl,
  fun d σ S l1 l2 l3 k => ex_aload_n (show decode mL_law.2.1 1053 = .ok (.aload_n 0, 1) by decide +kernel) rfl,
  fun d σ S l0 l1 l2 x => ex_iload_n (show decode mL_law.2.1 1054 = .ok (.iload_n 3, 1) by decide +kernel) rfl,
  fun d σ S l0 l1 l2 l3 => ex_iconst (show decode mL_law.2.1 1055 = .ok (.iconst 1, 1) by decide +kernel) (by decide +kernel),
  fun d σ S l0 l1 l2 l3 x y => ex_iadd (show decode mL_law.2.1 1056 = .ok (.iadd, 1) by decide +kernel),
  fun d σ S l0 l1 l2 l3 x => ex_sald (by decide +kernel),
  fun d σ S l1 l2 l3 k => ex_aload_n (show decode mL_law.2.1 1058 = .ok (.aload_n 0, 1) by decide +kernel) rfl,
  fun d σ S l0 l1 l2 x => ex_iload_n (show decode mL_law.2.1 1059 = .ok (.iload_n 3, 1) by decide +kernel) rfl,
  fun d σ S l0 l1 l2 l3 => ex_iconst (show decode mL_law.2.1 1060 = .ok (.iconst 2, 1) by decide +kernel) (by decide +kernel),
  fun d σ S l0 l1 l2 l3 x y => ex_iadd (show decode mL_law.2.1 1061 = .ok (.iadd, 1) by decide +kernel),
  fun d σ S l0 l1 l2 l3 x => ex_sald (by decide +kernel),
  fun d σ l0 l1 l2 l3 x0 x1 => ex_iv (hs := [785, 786, 787, 788, 94]) (show decode mL_law.2.1 1063 = .ok (.invokevirtual 144, 3) by decide +kernel) lkV_8_144 ⟨rfl, Nat.le_of_ble_eq_true rfl, Nat.le_of_ble_eq_true rfl, fun _ => rfl⟩ rfl rfl,
  fun d σ S l0 l1 l3 k => ex_aload_n (show decode mL_law.2.1 1066 = .ok (.aload_n 2, 1) by decide +kernel) rfl,
  fun d σ S l1 l2 l3 k => ex_aload_n (show decode mL_law.2.1 1067 = .ok (.aload_n 0, 1) by decide +kernel) rfl,
  fun d σ S l0 l1 l2 x => ex_iload_n (show decode mL_law.2.1 1068 = .ok (.iload_n 3, 1) by decide +kernel) rfl,
  fun d σ S l0 l1 l2 l3 => ex_iconst (show decode mL_law.2.1 1069 = .ok (.iconst 1, 1) by decide +kernel) (by decide +kernel),
  fun d σ S l0 l1 l2 l3 x y => ex_iadd (show decode mL_law.2.1 1070 = .ok (.iadd, 1) by decide +kernel),
  fun d σ S l0 l1 l2 l3 x => ex_sald (by decide +kernel),
  fun d σ S l1 l2 l3 k => ex_aload_n (show decode mL_law.2.1 1072 = .ok (.aload_n 0, 1) by decide +kernel) rfl,
  fun d σ S l0 l1 l2 x => ex_iload_n (show decode mL_law.2.1 1073 = .ok (.iload_n 3, 1) by decide +kernel) rfl,
  fun d σ S l0 l1 l2 l3 => ex_iconst (show decode mL_law.2.1 1074 = .ok (.iconst 2, 1) by decide +kernel) (by decide +kernel),
  fun d σ S l0 l1 l2 l3 x y => ex_iadd (show decode mL_law.2.1 1075 = .ok (.iadd, 1) by decide +kernel),
  fun d σ S l0 l1 l2 l3 x => ex_sald (by decide +kernel),
  fun d σ l0 l1 l2 l3 x0 x1 x3 => ex_iv (hs := [1214, 1215, 1216, 1217, 101]) (show decode mL_law.2.1 1077 = .ok (.invokevirtual 147, 3) by decide +kernel) lkV_8_147 ⟨rfl, Nat.le_of_ble_eq_true rfl, Nat.le_of_ble_eq_true rfl, fun _ => rfl⟩ rfl rfl,
  fun d σ S l0 l1 l2 l3 x y => ex_ceq (show decode mL_law.2.1 1080 = .ok (.if_icmp .eq 64, 3) by decide +kernel) (by decide),
  fun d σ S l0 l1 l2 l3 => ex_iconst (show decode mL_law.2.1 1083 = .ok (.iconst 0, 1) by decide +kernel) (by decide +kernel),
  fun d σ l0 l1 l2 l3 x => ex_zret (show decode mL_law.2.1 1084 = .ok (.ireturn, 1) by decide +kernel) rfl,
  fun d σ S l0 l2 l3 k => ex_aload_n (show decode mL_law.2.1 1085 = .ok (.aload_n 1, 1) by decide +kernel) rfl,
  fun d σ S l1 l2 l3 k => ex_aload_n (show decode mL_law.2.1 1086 = .ok (.aload_n 0, 1) by decide +kernel) rfl,
  fun d σ S l0 l1 l2 x => ex_iload_n (show decode mL_law.2.1 1087 = .ok (.iload_n 3, 1) by decide +kernel) rfl,
  fun d σ S l0 l1 l2 l3 => ex_iconst (show decode mL_law.2.1 1088 = .ok (.iconst 1, 1) by decide +kernel) (by decide +kernel)⟩
theorem kL_law_18 : (∀ (d : Nat) (σ : Sg) (S : List Value) (l0 l1 l2 l3 : Value) (x y : Int32), exec d mL_law 1089 [l0, l1, l2, l3] (.int y :: .int x :: S) σ = exec d mL_law 1090 [l0, l1, l2, l3] (.int (x + y) :: S) σ) ∧
  (∀ (d : Nat) (σ : Sg) (S : List Value) (l0 l1 l2 l3 : Value) (x : Int32), exec d mL_law 1090 [l0, l1, l2, l3] (.int x :: .ref 66 :: S) σ = if inb x (σ 67 0).toNatClampNeg = true then exec d mL_law 1091 [l0, l1, l2, l3] (.int (σ 66 x.toNatClampNeg) :: S) σ else none) ∧
  (∀ (d : Nat) (σ : Sg) (l0 l1 l2 l3 : Value) (x0 : Int32), exec d mL_law 1091 [l0, l1, l2, l3] [.int x0, .ref 0] σ = kb (cal d mX6_trace [.ref 0, .int x0] σ) (fun rs σ2 => exec d mL_law 1094 [l0, l1, l2, l3] (rs ++ []) σ2)) ∧
  (∀ (d : Nat) (σ : Sg) (S : List Value) (l0 l1 l3 : Value) (k : Nat), exec d mL_law 1094 [l0, l1, .ref k, l3] S σ = exec d mL_law 1095 [l0, l1, .ref k, l3] (.ref k :: S) σ) ∧
  (∀ (d : Nat) (σ : Sg) (S : List Value) (l1 l2 l3 : Value) (k : Nat), exec d mL_law 1095 [.ref k, l1, l2, l3] S σ = exec d mL_law 1096 [.ref k, l1, l2, l3] (.ref k :: S) σ) ∧
  (∀ (d : Nat) (σ : Sg) (S : List Value) (l0 l1 l2 : Value) (x : Int32), exec d mL_law 1096 [l0, l1, l2, .int x] S σ = exec d mL_law 1097 [l0, l1, l2, .int x] (.int x :: S) σ) ∧
  (∀ (d : Nat) (σ : Sg) (S : List Value) (l0 l1 l2 l3 : Value), exec d mL_law 1097 [l0, l1, l2, l3] S σ = exec d mL_law 1098 [l0, l1, l2, l3] (.int (nI 1) :: S) σ) ∧
  (∀ (d : Nat) (σ : Sg) (S : List Value) (l0 l1 l2 l3 : Value) (x y : Int32), exec d mL_law 1098 [l0, l1, l2, l3] (.int y :: .int x :: S) σ = exec d mL_law 1099 [l0, l1, l2, l3] (.int (x + y) :: S) σ) ∧
  (∀ (d : Nat) (σ : Sg) (S : List Value) (l0 l1 l2 l3 : Value) (x : Int32), exec d mL_law 1099 [l0, l1, l2, l3] (.int x :: .ref 66 :: S) σ = if inb x (σ 67 0).toNatClampNeg = true then exec d mL_law 1100 [l0, l1, l2, l3] (.int (σ 66 x.toNatClampNeg) :: S) σ else none) ∧
  (∀ (d : Nat) (σ : Sg) (l0 l1 l2 l3 : Value) (x0 x2 : Int32), exec d mL_law 1100 [l0, l1, l2, l3] [.int x0, .ref 50, .int x2] σ = kb (cal d mX7_trace [.ref 50, .int x0] σ) (fun rs σ2 => exec d mL_law 1103 [l0, l1, l2, l3] (rs ++ [.int x2]) σ2)) ∧
  (∀ (d : Nat) (σ : Sg) (S : List Value) (l0 l1 l2 l3 : Value) (x y : Int32), exec d mL_law 1103 [l0, l1, l2, l3] (.int y :: .int x :: S) σ = if x = y then exec d mL_law 1144 [l0, l1, l2, l3] S σ else exec d mL_law 1106 [l0, l1, l2, l3] S σ) ∧
  (∀ (d : Nat) (σ : Sg) (S : List Value) (l0 l1 l2 l3 : Value), exec d mL_law 1106 [l0, l1, l2, l3] S σ = exec d mL_law 1107 [l0, l1, l2, l3] (.int (nI 0) :: S) σ) ∧
  (∀ (d : Nat) (σ : Sg) (l0 l1 l2 l3 : Value) (x : Int32), exec d mL_law 1107 [l0, l1, l2, l3] [.int x] σ = if b01 x = true then some (some (.int x), σ) else none) ∧
  (∀ (d : Nat) (σ : Sg) (S : List Value) (l0 l2 l3 : Value) (k : Nat), exec d mL_law 1108 [l0, .ref k, l2, l3] S σ = exec d mL_law 1109 [l0, .ref k, l2, l3] (.ref k :: S) σ) ∧
  (∀ (d : Nat) (σ : Sg) (S : List Value) (l1 l2 l3 : Value) (k : Nat), exec d mL_law 1109 [.ref k, l1, l2, l3] S σ = exec d mL_law 1110 [.ref k, l1, l2, l3] (.ref k :: S) σ) ∧
  (∀ (d : Nat) (σ : Sg) (S : List Value) (l0 l1 l2 : Value) (x : Int32), exec d mL_law 1110 [l0, l1, l2, .int x] S σ = exec d mL_law 1111 [l0, l1, l2, .int x] (.int x :: S) σ) ∧
  (∀ (d : Nat) (σ : Sg) (S : List Value) (l0 l1 l2 l3 : Value), exec d mL_law 1111 [l0, l1, l2, l3] S σ = exec d mL_law 1112 [l0, l1, l2, l3] (.int (nI 1) :: S) σ) ∧
  (∀ (d : Nat) (σ : Sg) (S : List Value) (l0 l1 l2 l3 : Value) (x y : Int32), exec d mL_law 1112 [l0, l1, l2, l3] (.int y :: .int x :: S) σ = exec d mL_law 1113 [l0, l1, l2, l3] (.int (x + y) :: S) σ) ∧
  (∀ (d : Nat) (σ : Sg) (S : List Value) (l0 l1 l2 l3 : Value) (x : Int32), exec d mL_law 1113 [l0, l1, l2, l3] (.int x :: .ref 66 :: S) σ = if inb x (σ 67 0).toNatClampNeg = true then exec d mL_law 1114 [l0, l1, l2, l3] (.int (σ 66 x.toNatClampNeg) :: S) σ else none) ∧
  (∀ (d : Nat) (σ : Sg) (l0 l1 l2 l3 : Value) (x0 : Int32), exec d mL_law 1114 [l0, l1, l2, l3] [.int x0, .ref 0] σ = kb (cal d mX6_count [.ref 0, .int x0] σ) (fun rs σ2 => exec d mL_law 1117 [l0, l1, l2, l3] (rs ++ []) σ2)) ∧
  (∀ (d : Nat) (σ : Sg) (S : List Value) (l0 l1 l3 : Value) (k : Nat), exec d mL_law 1117 [l0, l1, .ref k, l3] S σ = exec d mL_law 1118 [l0, l1, .ref k, l3] (.ref k :: S) σ) ∧
  (∀ (d : Nat) (σ : Sg) (S : List Value) (l1 l2 l3 : Value) (k : Nat), exec d mL_law 1118 [.ref k, l1, l2, l3] S σ = exec d mL_law 1119 [.ref k, l1, l2, l3] (.ref k :: S) σ) ∧
  (∀ (d : Nat) (σ : Sg) (S : List Value) (l0 l1 l2 : Value) (x : Int32), exec d mL_law 1119 [l0, l1, l2, .int x] S σ = exec d mL_law 1120 [l0, l1, l2, .int x] (.int x :: S) σ) ∧
  (∀ (d : Nat) (σ : Sg) (S : List Value) (l0 l1 l2 l3 : Value), exec d mL_law 1120 [l0, l1, l2, l3] S σ = exec d mL_law 1121 [l0, l1, l2, l3] (.int (nI 1) :: S) σ) ∧
  (∀ (d : Nat) (σ : Sg) (S : List Value) (l0 l1 l2 l3 : Value) (x y : Int32), exec d mL_law 1121 [l0, l1, l2, l3] (.int y :: .int x :: S) σ = exec d mL_law 1122 [l0, l1, l2, l3] (.int (x + y) :: S) σ) ∧
  (∀ (d : Nat) (σ : Sg) (S : List Value) (l0 l1 l2 l3 : Value) (x : Int32), exec d mL_law 1122 [l0, l1, l2, l3] (.int x :: .ref 66 :: S) σ = if inb x (σ 67 0).toNatClampNeg = true then exec d mL_law 1123 [l0, l1, l2, l3] (.int (σ 66 x.toNatClampNeg) :: S) σ else none) ∧
  (∀ (d : Nat) (σ : Sg) (l0 l1 l2 l3 : Value) (x0 x2 : Int32), exec d mL_law 1123 [l0, l1, l2, l3] [.int x0, .ref 50, .int x2] σ = kb (cal d mX7_count [.ref 50, .int x0] σ) (fun rs σ2 => exec d mL_law 1126 [l0, l1, l2, l3] (rs ++ [.int x2]) σ2)) ∧
  (∀ (d : Nat) (σ : Sg) (S : List Value) (l0 l1 l2 l3 : Value) (x y : Int32), exec d mL_law 1126 [l0, l1, l2, l3] (.int y :: .int x :: S) σ = if x = y then exec d mL_law 1144 [l0, l1, l2, l3] S σ else exec d mL_law 1129 [l0, l1, l2, l3] S σ) ∧
  (∀ (d : Nat) (σ : Sg) (S : List Value) (l0 l1 l2 l3 : Value), exec d mL_law 1129 [l0, l1, l2, l3] S σ = exec d mL_law 1130 [l0, l1, l2, l3] (.int (nI 0) :: S) σ) ∧
  (∀ (d : Nat) (σ : Sg) (l0 l1 l2 l3 : Value) (x : Int32), exec d mL_law 1130 [l0, l1, l2, l3] [.int x] σ = if b01 x = true then some (some (.int x), σ) else none) ∧
  (∀ (d : Nat) (σ : Sg) (S : List Value) (l0 l2 l3 : Value) (k : Nat), exec d mL_law 1131 [l0, .ref k, l2, l3] S σ = exec d mL_law 1132 [l0, .ref k, l2, l3] (.ref k :: S) σ) ∧
  (∀ (d : Nat) (σ : Sg) (l0 l1 l2 l3 : Value), exec d mL_law 1132 [l0, l1, l2, l3] [.ref 0] σ = kb (cal d mX6_status [.ref 0] σ) (fun rs σ2 => exec d mL_law 1135 [l0, l1, l2, l3] (rs ++ []) σ2)) ∧
  (∀ (d : Nat) (σ : Sg) (S : List Value) (l0 l1 l3 : Value) (k : Nat), exec d mL_law 1135 [l0, l1, .ref k, l3] S σ = exec d mL_law 1136 [l0, l1, .ref k, l3] (.ref k :: S) σ) ∧
  (∀ (d : Nat) (σ : Sg) (l0 l1 l2 l3 : Value) (x1 : Int32), exec d mL_law 1136 [l0, l1, l2, l3] [.ref 50, .int x1] σ = kb (cal d mX7_status [.ref 50] σ) (fun rs σ2 => exec d mL_law 1139 [l0, l1, l2, l3] (rs ++ [.int x1]) σ2)) ∧
  (∀ (d : Nat) (σ : Sg) (S : List Value) (l0 l1 l2 l3 : Value) (x y : Int32), exec d mL_law 1139 [l0, l1, l2, l3] (.int y :: .int x :: S) σ = if x = y then exec d mL_law 1144 [l0, l1, l2, l3] S σ else exec d mL_law 1142 [l0, l1, l2, l3] S σ) ∧
  (∀ (d : Nat) (σ : Sg) (S : List Value) (l0 l1 l2 l3 : Value), exec d mL_law 1142 [l0, l1, l2, l3] S σ = exec d mL_law 1143 [l0, l1, l2, l3] (.int (nI 0) :: S) σ) ∧
  (∀ (d : Nat) (σ : Sg) (l0 l1 l2 l3 : Value) (x : Int32), exec d mL_law 1143 [l0, l1, l2, l3] [.int x] σ = if b01 x = true then some (some (.int x), σ) else none) ∧
  (∀ (d : Nat) (σ : Sg) (S : List Value) (l0 l1 : Value) (k : Nat) (x : Int32), exec d mL_law 1144 [l0, l1, .ref k, .int x] S σ = exec d mL_law 1147 [l0, l1, .ref k, .int (x + nI 6)] S σ) ∧
  (∀ (d : Nat) (σ : Sg) (S : List Value) (l0 l1 l2 l3 : Value), exec d mL_law 1147 [l0, l1, l2, l3] S σ = exec d mL_law 18 [l0, l1, l2, l3] S σ) ∧
  (∀ (d : Nat) (σ : Sg) (S : List Value) (l0 l1 l2 l3 : Value), exec d mL_law 1150 [l0, l1, l2, l3] S σ = exec d mL_law 1151 [l0, l1, l2, l3] (.int (nI 1) :: S) σ) :=
  ⟨fun d σ S l0 l1 l2 l3 x y => ex_iadd (show decode mL_law.2.1 1089 = .ok (.iadd, 1) by decide +kernel),
  fun d σ S l0 l1 l2 l3 x => ex_sald (by decide +kernel),
  fun d σ l0 l1 l2 l3 x0 => ex_iv (hs := [811, 812, 813, 814, 94]) (show decode mL_law.2.1 1091 = .ok (.invokevirtual 148, 3) by decide +kernel) lkV_8_148 ⟨rfl, Nat.le_of_ble_eq_true rfl, Nat.le_of_ble_eq_true rfl, fun _ => rfl⟩ rfl rfl,
  fun d σ S l0 l1 l3 k => ex_aload_n (show decode mL_law.2.1 1094 = .ok (.aload_n 2, 1) by decide +kernel) rfl,
  fun d σ S l1 l2 l3 k => ex_aload_n (show decode mL_law.2.1 1095 = .ok (.aload_n 0, 1) by decide +kernel) rfl,
  fun d σ S l0 l1 l2 x => ex_iload_n (show decode mL_law.2.1 1096 = .ok (.iload_n 3, 1) by decide +kernel) rfl,
  fun d σ S l0 l1 l2 l3 => ex_iconst (show decode mL_law.2.1 1097 = .ok (.iconst 1, 1) by decide +kernel) (by decide +kernel),
  fun d σ S l0 l1 l2 l3 x y => ex_iadd (show decode mL_law.2.1 1098 = .ok (.iadd, 1) by decide +kernel),
  fun d σ S l0 l1 l2 l3 x => ex_sald (by decide +kernel),
  fun d σ l0 l1 l2 l3 x0 x2 => ex_iv (hs := [1246, 1247, 1248, 1249, 101]) (show decode mL_law.2.1 1100 = .ok (.invokevirtual 151, 3) by decide +kernel) lkV_8_151 ⟨rfl, Nat.le_of_ble_eq_true rfl, Nat.le_of_ble_eq_true rfl, fun _ => rfl⟩ rfl rfl,
  fun d σ S l0 l1 l2 l3 x y => ex_ceq (show decode mL_law.2.1 1103 = .ok (.if_icmp .eq 41, 3) by decide +kernel) (by decide),
  fun d σ S l0 l1 l2 l3 => ex_iconst (show decode mL_law.2.1 1106 = .ok (.iconst 0, 1) by decide +kernel) (by decide +kernel),
  fun d σ l0 l1 l2 l3 x => ex_zret (show decode mL_law.2.1 1107 = .ok (.ireturn, 1) by decide +kernel) rfl,
  fun d σ S l0 l2 l3 k => ex_aload_n (show decode mL_law.2.1 1108 = .ok (.aload_n 1, 1) by decide +kernel) rfl,
  fun d σ S l1 l2 l3 k => ex_aload_n (show decode mL_law.2.1 1109 = .ok (.aload_n 0, 1) by decide +kernel) rfl,
  fun d σ S l0 l1 l2 x => ex_iload_n (show decode mL_law.2.1 1110 = .ok (.iload_n 3, 1) by decide +kernel) rfl,
  fun d σ S l0 l1 l2 l3 => ex_iconst (show decode mL_law.2.1 1111 = .ok (.iconst 1, 1) by decide +kernel) (by decide +kernel),
  fun d σ S l0 l1 l2 l3 x y => ex_iadd (show decode mL_law.2.1 1112 = .ok (.iadd, 1) by decide +kernel),
  fun d σ S l0 l1 l2 l3 x => ex_sald (by decide +kernel),
  fun d σ l0 l1 l2 l3 x0 => ex_iv (hs := [815, 816, 817, 818, 94]) (show decode mL_law.2.1 1114 = .ok (.invokevirtual 152, 3) by decide +kernel) lkV_8_152 ⟨rfl, Nat.le_of_ble_eq_true rfl, Nat.le_of_ble_eq_true rfl, fun _ => rfl⟩ rfl rfl,
  fun d σ S l0 l1 l3 k => ex_aload_n (show decode mL_law.2.1 1117 = .ok (.aload_n 2, 1) by decide +kernel) rfl,
  fun d σ S l1 l2 l3 k => ex_aload_n (show decode mL_law.2.1 1118 = .ok (.aload_n 0, 1) by decide +kernel) rfl,
  fun d σ S l0 l1 l2 x => ex_iload_n (show decode mL_law.2.1 1119 = .ok (.iload_n 3, 1) by decide +kernel) rfl,
  fun d σ S l0 l1 l2 l3 => ex_iconst (show decode mL_law.2.1 1120 = .ok (.iconst 1, 1) by decide +kernel) (by decide +kernel),
  fun d σ S l0 l1 l2 l3 x y => ex_iadd (show decode mL_law.2.1 1121 = .ok (.iadd, 1) by decide +kernel),
  fun d σ S l0 l1 l2 l3 x => ex_sald (by decide +kernel),
  fun d σ l0 l1 l2 l3 x0 x2 => ex_iv (hs := [1250, 1251, 1252, 1253, 101]) (show decode mL_law.2.1 1123 = .ok (.invokevirtual 155, 3) by decide +kernel) lkV_8_155 ⟨rfl, Nat.le_of_ble_eq_true rfl, Nat.le_of_ble_eq_true rfl, fun _ => rfl⟩ rfl rfl,
  fun d σ S l0 l1 l2 l3 x y => ex_ceq (show decode mL_law.2.1 1126 = .ok (.if_icmp .eq 18, 3) by decide +kernel) (by decide),
  fun d σ S l0 l1 l2 l3 => ex_iconst (show decode mL_law.2.1 1129 = .ok (.iconst 0, 1) by decide +kernel) (by decide +kernel),
  fun d σ l0 l1 l2 l3 x => ex_zret (show decode mL_law.2.1 1130 = .ok (.ireturn, 1) by decide +kernel) rfl,
  fun d σ S l0 l2 l3 k => ex_aload_n (show decode mL_law.2.1 1131 = .ok (.aload_n 1, 1) by decide +kernel) rfl,
  fun d σ l0 l1 l2 l3 => ex_iv (hs := [823, 824, 825, 826, 94]) (show decode mL_law.2.1 1132 = .ok (.invokevirtual 156, 3) by decide +kernel) lkV_8_156 ⟨rfl, Nat.le_of_ble_eq_true rfl, Nat.le_of_ble_eq_true rfl, fun _ => rfl⟩ rfl rfl,
  fun d σ S l0 l1 l3 k => ex_aload_n (show decode mL_law.2.1 1135 = .ok (.aload_n 2, 1) by decide +kernel) rfl,
  fun d σ l0 l1 l2 l3 x1 => ex_iv (hs := [1254, 1255, 1256, 1257, 101]) (show decode mL_law.2.1 1136 = .ok (.invokevirtual 159, 3) by decide +kernel) lkV_8_159 ⟨rfl, Nat.le_of_ble_eq_true rfl, Nat.le_of_ble_eq_true rfl, fun _ => rfl⟩ rfl rfl,
  fun d σ S l0 l1 l2 l3 x y => ex_ceq (show decode mL_law.2.1 1139 = .ok (.if_icmp .eq 5, 3) by decide +kernel) (by decide),
  fun d σ S l0 l1 l2 l3 => ex_iconst (show decode mL_law.2.1 1142 = .ok (.iconst 0, 1) by decide +kernel) (by decide +kernel),
  fun d σ l0 l1 l2 l3 x => ex_zret (show decode mL_law.2.1 1143 = .ok (.ireturn, 1) by decide +kernel) rfl,
  fun d σ S l0 l1 k x => ex_iinc (show decode mL_law.2.1 1144 = .ok (.iinc 3 6, 3) by decide +kernel) rfl (by decide +kernel) (Nat.le_of_ble_eq_true rfl) rfl,
  fun d σ S l0 l1 l2 l3 => ex_goto (show decode mL_law.2.1 1147 = .ok (.goto (-1129), 3) by decide +kernel) (by decide),
  fun d σ S l0 l1 l2 l3 => ex_iconst (show decode mL_law.2.1 1150 = .ok (.iconst 1, 1) by decide +kernel) (by decide +kernel)⟩
theorem kL_law_19 : ∀ (d : Nat) (σ : Sg) (l0 l1 l2 l3 : Value) (x : Int32), exec d mL_law 1151 [l0, l1, l2, l3] [.int x] σ = if b01 x = true then some (some (.int x), σ) else none := fun d σ l0 l1 l2 l3 x => ex_zret (show decode mL_law.2.1 1151 = .ok (.ireturn, 1) by decide +kernel) rfl
theorem hL_law_18 : ∀ (d : Nat) (σ : Sg) (S : List Value) (l0 l1 l2 : Value) (x : Int32), exec d mL_law 18 [l0, l1, l2, .int x] S σ = exec d mL_law 19 [l0, l1, l2, .int x] (.int x :: S) σ := fun d σ S l0 l1 l2 x => ex_iload_n (show decode mL_law.2.1 18 = .ok (.iload_n 3, 1) by decide +kernel) rfl
