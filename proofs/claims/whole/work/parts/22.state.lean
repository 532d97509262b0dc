/-! the state of both, by one value -/
abbrev ST : Type := TT × TT × TT × List TT × TT × TT × (Nat → Nat → Int32) × Nat × TT × Nat × Nat × Nat × TT
abbrev zT : TT := fun _ => 0
def XA (σ : Sg) (A : List TT) : Prop := σ 44 1 = nI A.length ∧ ∃ nx, nx < 24 ∧ σ 44 2 = nI nx ∧ ∀ j, j < A.length → ∀ k, k < 6 → σ 45 (6 * ((nx + 23 - j) % 24) + k) = nI (A.getD j zT k)
def MA (σ : Sg) (A : List TT) : Prop := σ 50 3 = nI A.length ∧ ∀ j, j < A.length → ∀ k, k < 6 → σ 53 (6 * (A.length - 1 - j) + k) = nI (A.getD j zT k)
def XW (σ : Sg) (rz rl : TT) (it : Nat → Nat → Int32) : Prop := (∀ r, r < 8 → σ 2 r = nI (if rz r = 0 then 0 else 1)) ∧ (∀ r, r < 8 → rz r ≠ 0 → σ 3 r = nI (rl r)) ∧ (∀ r, r < 8 → rz r ≠ 0 → σ 4 r = nI (rz r - 1)) ∧ ∀ r, r < 8 → ∀ i, i + 1 < rz r → σ 5 (r * 40 + i) = it r i
def MW (σ : Sg) (rz rl : TT) (it : Nat → Nat → Int32) : Prop := (∀ r, r < 8 → σ 55 r = if rz r = 0 then -1 else nI (rz r - 1)) ∧ (∀ r, r < 8 → rz r ≠ 0 → σ 56 r = nI (rl r)) ∧ ∀ r, r < 8 → ∀ i, i + 1 < rz r → σ 54 (40 * r + i) = it r i
def XP (σ : Sg) (tn : Nat) (tp : TT) : Prop := σ 6 1 = nI tn ∧ ∀ j, j < tn → σ 7 j = nI (tp j)
def MP (σ : Sg) (tn : Nat) (tp : TT) : Prop := σ 50 9 = nI tn ∧ ∀ j, j < tn → σ 57 j = nI (tp j)
def XC (σ : Sg) (cn : Nat) (ct : TT) : Prop := σ 48 1 = nI cn ∧ ∀ j, j < cn → σ 49 j = nI (ct j)
def MC (σ : Sg) (cn : Nat) (ct : TT) : Prop := σ 50 12 = nI cn ∧ ∀ j, j < cn → σ 58 j = nI (ct j)
def XR (σ : Sg) : ST → Prop := fun (T, I0, I1, A, rz, rl, it, tn, tp, ft, fs, cn, ct) => XT σ 8 T ∧ XT σ 17 I0 ∧ XT σ 26 I1 ∧ XA σ A ∧ XW σ rz rl it ∧ XP σ tn tp ∧ σ 0 9 = nI ft ∧ σ 0 10 = nI fs ∧ XC σ cn ct
def MR (σ : Sg) : ST → Prop := fun (T, I0, I1, A, rz, rl, it, tn, tp, ft, fs, cn, ct) => MT σ 0 T ∧ MT σ 52 I0 ∧ MT σ 104 I1 ∧ (σ 52 0 = nI (I0 6) ∧ σ 52 1 = nI (I1 6)) ∧ MA σ A ∧ MW σ rz rl it ∧ MP σ tn tp ∧ σ 50 10 = nI ft ∧ σ 50 7 = nI fs ∧ MC σ cn ct
/-- a trial with another's changing numbers -/
def rst (T a : TT) : TT := fun k => if k < 6 then a k else T k
def OKV : ST → Prop := fun (T, I0, I1, A, rz, rl, _, tn, tp, ft, fs, cn, ct) => WF T ∧ WF I0 ∧ WF I1 ∧ A.length ≤ 24 ∧ (∀ j, j < A.length → WF (rst T (A.getD j zT))) ∧ (∀ r, r < 8 → rz r ≤ 41 ∧ rl r ≤ 2) ∧ tn ≤ 120 ∧ (∀ j, j < tn → tp j < 256) ∧ ft < 10 ∧ fs < 10 ∧ cn ≤ 16 ∧ (∀ j, j < cn → ct j < 100)
theorem XR_same {σ σ' : Sg} {V : ST} (h : XR σ V) (hs : ∀ a, a < 50 → σ' a = σ a) : XR σ' V := by
  obtain ⟨T, I0, I1, A, rz, rl, it, tn, tp, ft, fs, cn, ct⟩ := V
  obtain ⟨h1, h2, h3, h4, h5, h6, h7, h8, h9⟩ := h
  refine ⟨XT_cg h1 (fun a _ _ => hs a (by omega)), XT_cg h2 (fun a _ _ => hs a (by omega)), XT_cg h3 (fun a _ _ => hs a (by omega)), ?_, ?_, ?_, ?_, ?_, ?_⟩
  · unfold XA; rw [hs 44 (by omega), hs 45 (by omega)]; exact h4
  · unfold XW; rw [hs 2 (by omega), hs 3 (by omega), hs 4 (by omega), hs 5 (by omega)]; exact h5
  · unfold XP; rw [hs 6 (by omega), hs 7 (by omega)]; exact h6
  · rw [hs 0 (by omega)]; exact h7
  · rw [hs 0 (by omega)]; exact h8
  · unfold XC; rw [hs 48 (by omega), hs 49 (by omega)]; exact h9
theorem MT_same {σ σ' : Sg} {b : Nat} {T : TT} (h : MT σ b T) (hs : σ' 51 = σ 51) : MT σ' b T := by unfold MT; rw [hs]; exact h
theorem MR_same {σ σ' : Sg} {V : ST} (h : MR σ V) (hs : ∀ a, 50 ≤ a → a < 66 → σ' a = σ a) : MR σ' V := by
  obtain ⟨T, I0, I1, A, rz, rl, it, tn, tp, ft, fs, cn, ct⟩ := V
  obtain ⟨h1, h2, h3, h4, h5, h6, h7, h8, h9, h10⟩ := h
  refine ⟨MT_same h1 (hs 51 (by omega) (by omega)), MT_same h2 (hs 51 (by omega) (by omega)), MT_same h3 (hs 51 (by omega) (by omega)), ?_, ?_, ?_, ?_, ?_, ?_, ?_⟩
  · rw [hs 52 (by omega) (by omega)]; exact h4
  · unfold MA; rw [hs 50 (by omega) (by omega), hs 53 (by omega) (by omega)]; exact h5
  · unfold MW; rw [hs 54 (by omega) (by omega), hs 55 (by omega) (by omega), hs 56 (by omega) (by omega)]; exact h6
  · unfold MP; rw [hs 50 (by omega) (by omega), hs 57 (by omega) (by omega)]; exact h7
  · rw [hs 50 (by omega) (by omega)]; exact h8
  · rw [hs 50 (by omega) (by omega)]; exact h9
  · unfold MC; rw [hs 50 (by omega) (by omega), hs 58 (by omega) (by omega)]; exact h10
/-- what a call of the class does -/
def XO (m : MD) (as : List Value) (V : ST) (r : Value) (V' : ST) : Prop := ∀ σ d, XR σ V → ∃ σ', cal (d + 30) m (.ref 0 :: as) σ = some (some r, σ') ∧ XR σ' V' ∧ ∀ a, 50 ≤ a → σ' a = σ a
def MO (m : MD) (as : List Value) (V : ST) (r : Value) (V' : ST) : Prop := ∀ σ d, MR σ V → ∃ σ', cal (d + 30) m (.ref 50 :: as) σ = some (some r, σ') ∧ MR σ' V' ∧ ∀ a, a < 50 ∨ 66 ≤ a → σ' a = σ a
/-- both answer alike, and hold one state again -/
def BO (x m : MD) (as : List Value) : Prop := ∀ V, OKV V → ∃ r V', XO x as V r V' ∧ MO m as V r V' ∧ OKV V'
/-- the foretelling calls: nothing of the state changes but the status -/
theorem XR_st {σ σ' : Sg} {T I0 I1 : TT} {A : List TT} {rz rl : TT} {it : Nat → Nat → Int32} {tn : Nat} {tp : TT} {ft fs cn : Nat} {ct : TT} (fs' : Nat) (h : XR σ (T, I0, I1, A, rz, rl, it, tn, tp, ft, fs, cn, ct)) (hs : ∀ a, (2 ≤ a ∧ a < 35) ∨ a = 44 ∨ a = 45 ∨ a = 48 ∨ a = 49 → σ' a = σ a) (h9 : σ' 0 9 = σ 0 9) (h10 : σ' 0 10 = nI fs') : XR σ' (T, I0, I1, A, rz, rl, it, tn, tp, ft, fs', cn, ct) := by
  obtain ⟨g1, g2, g3, g4, g5, g6, g7, g8, g9⟩ := h
  refine ⟨XT_cg g1 (fun a _ _ => hs a (by omega)), XT_cg g2 (fun a _ _ => hs a (by omega)), XT_cg g3 (fun a _ _ => hs a (by omega)), ?_, ?_, ?_, ?_, h10, ?_⟩
  · unfold XA; rw [hs 44 (by omega), hs 45 (by omega)]; exact g4
  · unfold XW; rw [hs 2 (by omega), hs 3 (by omega), hs 4 (by omega), hs 5 (by omega)]; exact g5
  · unfold XP; rw [hs 6 (by omega), hs 7 (by omega)]; exact g6
  · rw [h9]; exact g7
  · unfold XC; rw [hs 48 (by omega), hs 49 (by omega)]; exact g9
theorem MR_st {σ σ' : Sg} {T I0 I1 : TT} {A : List TT} {rz rl : TT} {it : Nat → Nat → Int32} {tn : Nat} {tp : TT} {ft fs cn : Nat} {ct : TT} (w1 : WF T) (w2 : WF I0) (w3 : WF I1) (fs' : Nat) (h : MR σ (T, I0, I1, A, rz, rl, it, tn, tp, ft, fs, cn, ct)) (hw : ∀ j, j < 156 → σ' 51 j = σ 51 j) (hs : ∀ a, 52 ≤ a ∧ a < 59 → σ' a = σ a) (h3 : σ' 50 3 = σ 50 3) (h9 : σ' 50 9 = σ 50 9) (h10 : σ' 50 10 = σ 50 10) (h12 : σ' 50 12 = σ 50 12) (h7 : σ' 50 7 = nI fs') : MR σ' (T, I0, I1, A, rz, rl, it, tn, tp, ft, fs', cn, ct) := by
  obtain ⟨g1, g2, g3, g4, g5, g6, g7, g8, g9, g10⟩ := h
  have a1 := w1.1
  have a2 := w2.1
  have a3 := w3.1
  refine ⟨MT_cg (by omega) (by omega) g1 (fun j _ _ => hw j (by omega)), MT_cg (by omega) (by omega) g2 (fun j _ _ => hw j (by omega)), MT_cg (by omega) (by omega) g3 (fun j _ _ => hw j (by omega)), ?_, ?_, ?_, ?_, ?_, h7, ?_⟩
  · rw [hs 52 (by omega)]; exact g4
  · unfold MA; rw [h3, hs 53 (by omega)]; exact g5
  · unfold MW; rw [hs 54 (by omega), hs 55 (by omega), hs 56 (by omega)]; exact g6
  · unfold MP; rw [h9, hs 57 (by omega)]; exact g7
  · rw [h10]; exact g8
  · unfold MC; rw [h12, hs 58 (by omega)]; exact g10
theorem XO_st {m : MD} {as : List Value} {T I0 I1 : TT} {A : List TT} {rz rl : TT} {it : Nat → Nat → Int32} {tn : Nat} {tp : TT} {ft fs cn : Nat} {ct : TT} {r : Value} (fs' : Nat) (h : ∀ σ d, XR σ (T, I0, I1, A, rz, rl, it, tn, tp, ft, fs, cn, ct) → cal (d + 30) m (.ref 0 :: as) σ = some (some r, up σ 0 10 (nI fs'))) : XO m as (T, I0, I1, A, rz, rl, it, tn, tp, ft, fs, cn, ct) r (T, I0, I1, A, rz, rl, it, tn, tp, ft, fs', cn, ct) := fun σ d hx =>
  ⟨_, h σ d hx, XR_st fs' hx (fun a ha => up_of (by omega)) (up_j (by omega)) up_s, fun a ha => up_of (by omega)⟩
theorem MO_st {m : MD} {as : List Value} {T I0 I1 : TT} {A : List TT} {rz rl : TT} {it : Nat → Nat → Int32} {tn : Nat} {tp : TT} {ft fs cn : Nat} {ct : TT} {r : Value} (ok : OKV (T, I0, I1, A, rz, rl, it, tn, tp, ft, fs, cn, ct)) (fs' : Nat) (h : ∀ σ d, MR σ (T, I0, I1, A, rz, rl, it, tn, tp, ft, fs, cn, ct) → cal (d + 30) m (.ref 50 :: as) σ = some (some r, up σ 50 7 (nI fs'))) : MO m as (T, I0, I1, A, rz, rl, it, tn, tp, ft, fs, cn, ct) r (T, I0, I1, A, rz, rl, it, tn, tp, ft, fs', cn, ct) := fun σ d hx =>
  ⟨_, h σ d hx, MR_st ok.1 ok.2.1 ok.2.2.1 fs' hx (fun j _ => up_k (by omega)) (fun a ha => up_of (by omega)) (up_j (by omega)) (up_j (by omega)) (up_j (by omega)) (up_j (by omega)) up_s, fun a ha => up_of (by omega)⟩
theorem OK_st {T I0 I1 : TT} {A : List TT} {rz rl : TT} {it : Nat → Nat → Int32} {tn : Nat} {tp : TT} {ft fs cn : Nat} {ct : TT} (ok : OKV (T, I0, I1, A, rz, rl, it, tn, tp, ft, fs, cn, ct)) {fs' : Nat} (h : fs' < 10) : OKV (T, I0, I1, A, rz, rl, it, tn, tp, ft, fs', cn, ct) := by
  obtain ⟨h1, h2, h3, h4, h5, h6, h7, h8, h9, h10, h11, h12⟩ := ok
  exact ⟨h1, h2, h3, h4, h5, h6, h7, h8, h9, h, h11, h12⟩
/-- nothing changes -/
theorem XO_id {m : MD} {as : List Value} {V : ST} {r : Value} (h : ∀ σ d, XR σ V → cal (d + 30) m (.ref 0 :: as) σ = some (some r, σ)) : XO m as V r V := fun σ d hx => ⟨σ, h σ d hx, hx, fun _ _ => rfl⟩
theorem MO_id {m : MD} {as : List Value} {V : ST} {r : Value} (h : ∀ σ d, MR σ V → cal (d + 30) m (.ref 50 :: as) σ = some (some r, σ)) : MO m as V r V := fun σ d hx => ⟨σ, h σ d hx, hx, fun _ _ => rfl⟩
def upf (σ : Sg) (k : Nat) (g : Nat → Int32) : Sg := fun a => if a = k then g else σ a
theorem upf_s {σ : Sg} {k : Nat} {g : Nat → Int32} : upf σ k g k = g := by simp [upf]
theorem upf_k {σ : Sg} {k a : Nat} {g : Nat → Int32} (h : a ≠ k) : upf σ k g a = σ a := by simp [upf, h]
theorem up_upf {σ : Sg} {k j : Nat} {v : Int32} {g : Nat → Int32} : upf (up σ k j v) k g = upf σ k g := by
  funext a
  by_cases h : a = k
  · simp [upf, h]
  · rw [upf_k h, upf_k h, up_of h]
