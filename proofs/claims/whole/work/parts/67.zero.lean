/-! behind the constructors -/
abbrev V0 : ST := (zT, zT, zT, [], zT, zT, fun _ _ => 0, 0, zT, 0, 0, 0, zT)
theorem WF_0 : WF zT := by
  unfold WF
  refine ⟨by decide, by decide, fun i hi => ?_, fun p hp => absurd hp (Nat.not_lt_zero p), fun e he => absurd he (Nat.not_lt_zero e), fun _ => by decide, fun h => absurd h (by decide)⟩
  simp at hi
theorem OK_0 : OKV V0 := ⟨WF_0, WF_0, WF_0, by simp, fun j hj => absurd hj (by simp), fun r _ => by simp, by omega, fun j hj => by omega, by omega, by omega, by omega, fun j hj => by omega⟩
theorem XT_0 {σ : Sg} {c : Nat} (h : ∀ j, j < 9 → σ c j = nI 0) : XT σ c zT :=
  ⟨h 0 (by omega), h 1 (by omega), h 2 (by omega), h 3 (by omega), h 4 (by omega), h 5 (by omega), h 6 (by omega), h 7 (by omega), h 8 (by omega), fun p hp => absurd hp (Nat.not_lt_zero p), fun p hp => absurd hp (Nat.not_lt_zero p), fun p hp => absurd hp (Nat.not_lt_zero p), fun p hp => absurd hp (Nat.not_lt_zero p), fun p hp => absurd hp (Nat.not_lt_zero p), fun p hp => absurd hp (Nat.not_lt_zero p), fun p hp => absurd hp (Nat.not_lt_zero p), fun p hp => absurd hp (Nat.not_lt_zero p)⟩
theorem XR_0 {σ : Sg} (h : ∀ a j, a < 50 → σ a j = nI 0) : XR σ V0 := by
  refine ⟨XT_0 (fun j _ => h 8 j (by omega)), XT_0 (fun j _ => h 17 j (by omega)), XT_0 (fun j _ => h 26 j (by omega)), ⟨h 44 1 (by omega), 0, by omega, h 44 2 (by omega), fun j hj => absurd hj (by simp)⟩, ⟨fun r _ => by rw [h 2 r (by omega)]; rfl, fun r _ hz => absurd rfl hz, fun r _ hz => absurd rfl hz, fun r _ i hi => absurd hi (Nat.not_lt_zero _)⟩, ⟨h 6 1 (by omega), fun j hj => by omega⟩, h 0 9 (by omega), h 0 10 (by omega), ⟨h 48 1 (by omega), fun j hj => by omega⟩⟩
theorem MT_0 {σ : Sg} {b : Nat} (h : ∀ j, σ 51 j = nI 0) : MT σ b zT :=
  ⟨fun k _ => h _, fun p hp => absurd hp (Nat.not_lt_zero p), fun p hp => absurd hp (Nat.not_lt_zero p), fun p hp => absurd hp (Nat.not_lt_zero p), fun p hp => absurd hp (Nat.not_lt_zero p), fun p hp => absurd hp (Nat.not_lt_zero p), fun p hp => absurd hp (Nat.not_lt_zero p), fun p hp => absurd hp (Nat.not_lt_zero p)⟩
theorem MR_0 {σ : Sg} (h : ∀ a j, 50 ≤ a → a < 66 → a ≠ 55 → σ a j = nI 0) (h5 : ∀ r, r < 8 → σ 55 r = -1) : MR σ V0 := by
  refine ⟨MT_0 (fun j => h 51 j (by omega) (by omega) (by omega)), MT_0 (fun j => h 51 j (by omega) (by omega) (by omega)), MT_0 (fun j => h 51 j (by omega) (by omega) (by omega)), ⟨h 52 0 (by omega) (by omega) (by omega), h 52 1 (by omega) (by omega) (by omega)⟩, ⟨h 50 3 (by omega) (by omega) (by omega), fun j hj => absurd hj (by simp)⟩, ⟨fun r hr => by rw [h5 r hr]; rfl, fun r _ hz => absurd rfl hz, fun r _ i hi => absurd hi (Nat.not_lt_zero _)⟩, ⟨h 50 9 (by omega) (by omega) (by omega), fun j hj => by omega⟩, h 50 10 (by omega) (by omega) (by omega), h 50 7 (by omega) (by omega) (by omega), ⟨h 50 12 (by omega) (by omega) (by omega), fun j hj => by omega⟩⟩
/-- the state behind the constructors, with a script of N ints -/
def s0 (N : Nat) (xs : Nat → Int32) : Sg := fun a j => if a = 55 then -1 else if a = 66 then xs j else if a = 67 then nI N else nI 0
theorem LwS_0 {N : Nat} (xs : Nat → Int32) (hN : N < 2147483648) : LwS (s0 N xs) N := by
  refine ⟨⟨V0, XR_0 (fun a j ha => ?_), MR_0 (fun a j h1 h2 h3 => ?_) (fun r _ => rfl), OK_0⟩, rfl, hN⟩
  · unfold s0; rw [if_neg (by omega), if_neg (by omega), if_neg (by omega)]
  · unfold s0; rw [if_neg (by omega), if_neg (by omega), if_neg (by omega)]
theorem law_all {N : Nat} (xs : Nat → Int32) (hN : N < 2147483648) (d : Nat) : ∃ σ', exec (d + 30) mL_law 18 [.ref 66, .ref 0, .ref 50, .int (nI 0)] [] (s0 N xs) = some (some (.int (nI 1)), σ') := law_loop d N 0 _ (by omega) (by omega) (LwS_0 xs hN)
