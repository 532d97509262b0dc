/-! the law's loop -/
theorem ev_rsh : ∀ (n d : Nat) (m : MD) (pc : Nat) (L S : List Value) (σ : Sg) (r : Option Value) (σ' : Sg), ev n d m pc L S σ = some (r, σ') → ∃ ri, rsh ri m r
  | 0, _, _, _, _, _, _, _, _, h => by simp [ev] at h
  | n + 1, d, m, pc, L, S, σ, r, σ', h => by
    rw [ev] at h
    match hs : stp m pc L S σ with
    | .inl o =>
      rw [hs] at h
      dsimp only at h
      subst h
      obtain ⟨ri, _, h2, _⟩ := step_dn hs
      exact ⟨ri, h2⟩
    | .inr (.inl (pc', L', S', τ)) =>
      rw [hs] at h
      exact ev_rsh n d m pc' L' S' τ r σ' h
    | .inr (.inr (m', as, pc', L', S')) =>
      rw [hs] at h
      match d, h with
      | 0, h => cases h
      | d' + 1, h =>
        dsimp only at h
        match hc : ev n d' m' 0 (ini m' as) [] σ with
        | some (r', τ) =>
          rw [hc] at h
          exact ev_rsh n (d' + 1) m pc' L' (r'.toList ++ S') τ r σ' h
        | none => rw [hc] at h; cases h
theorem cal_int {d : Nat} {m : MD} {as : List Value} {σ σ' : Sg} {r : Value} (hm : m.2.2.2.1 = some .int) (h : cal d m as σ = some (some r, σ')) : ∃ x, r = .int x := by
  match d, h with
  | 0, h => cases h
  | d + 1, h =>
    obtain ⟨n, hn⟩ := exec_some.mp (show exec d m 0 (ini m as) [] σ = some (some r, σ') from h)
    obtain ⟨ri, hr⟩ := ev_rsh n d m 0 _ _ σ _ σ' hn
    rcases hr with ⟨v, _, h1, _⟩ | ⟨v, _, _, h2⟩ | ⟨k, _, _, h2⟩ | ⟨_, h1, _⟩
    · cases h1; exact ⟨v, rfl⟩
    · rw [hm] at h2; cases h2
    · rw [hm] at h2; simp [isO] at h2
    · cases h1
theorem bo_int {x m : MD} {as : List Value} (hb : BO x m as) (hx : x.2.2.2.1 = some .int) {σ : Sg} {V : ST} (h1 : XR σ V) (h2 : MR σ V) (ok : OKV V) (d : Nat) : ∃ r σ1 σ2 V', cal (d + 30) x (.ref 0 :: as) σ = some (some (.int r), σ1) ∧ cal (d + 30) m (.ref 50 :: as) σ1 = some (some (.int r), σ2) ∧ XR σ2 V' ∧ MR σ2 V' ∧ OKV V' ∧ (∀ a, 66 ≤ a → σ1 a = σ a) ∧ ∀ a, 66 ≤ a → σ2 a = σ a := by
  obtain ⟨r, V', hX, hM, ok'⟩ := hb V ok
  obtain ⟨σ1, e1, e2, e3⟩ := hX σ d h1
  obtain ⟨z, rfl⟩ := cal_int hx e1
  obtain ⟨σ2, f1, f2, f3⟩ := hM σ1 d (MR_same h2 (fun a q _ => e3 a q))
  exact ⟨z, σ1, σ2, V', e1, f1, XR_same e2 (fun a q => f3 a (by omega)), f2, ok', fun a q => e3 a (by omega), fun a q => by rw [f3 a (by omega), e3 a (by omega)]⟩
theorem cal_long {d : Nat} {m : MD} {as : List Value} {σ σ' : Sg} {r : Value} (hm : m.2.2.2.1 = some .long) (h : cal d m as σ = some (some r, σ')) : ∃ x, r = .long x := by
  match d, h with
  | 0, h => cases h
  | d + 1, h =>
    obtain ⟨n, hn⟩ := exec_some.mp (show exec d m 0 (ini m as) [] σ = some (some r, σ') from h)
    obtain ⟨ri, hr⟩ := ev_rsh n d m 0 _ _ σ _ σ' hn
    rcases hr with ⟨v, _, h1, h2⟩ | ⟨v, _, h1, _⟩ | ⟨k, _, _, h2⟩ | ⟨_, h1, _⟩
    · rw [hm] at h2; simp [rtI] at h2
    · cases h1; exact ⟨v, rfl⟩
    · rw [hm] at h2; simp [isO] at h2
    · cases h1
theorem bo_long {x m : MD} {as : List Value} (hb : BO x m as) (hx : x.2.2.2.1 = some .long) {σ : Sg} {V : ST} (h1 : XR σ V) (h2 : MR σ V) (ok : OKV V) (d : Nat) : ∃ r σ1 σ2 V', cal (d + 30) x (.ref 0 :: as) σ = some (some (.long r), σ1) ∧ cal (d + 30) m (.ref 50 :: as) σ1 = some (some (.long r), σ2) ∧ XR σ2 V' ∧ MR σ2 V' ∧ OKV V' ∧ (∀ a, 66 ≤ a → σ1 a = σ a) ∧ ∀ a, 66 ≤ a → σ2 a = σ a := by
  obtain ⟨r, V', hX, hM, ok'⟩ := hb V ok
  obtain ⟨σ1, e1, e2, e3⟩ := hX σ d h1
  obtain ⟨z, rfl⟩ := cal_long hx e1
  obtain ⟨σ2, f1, f2, f3⟩ := hM σ1 d (MR_same h2 (fun a q _ => e3 a q))
  exact ⟨z, σ1, σ2, V', e1, f1, XR_same e2 (fun a q => f3 a (by omega)), f2, ok', fun a q => e3 a (by omega), fun a q => by rw [f3 a (by omega), e3 a (by omega)]⟩
/-- a state the law's loop stands in -/
def LwS (σ : Sg) (N : Nat) : Prop := (∃ V, XR σ V ∧ MR σ V ∧ OKV V) ∧ σ 67 0 = nI N ∧ N < 2147483648
