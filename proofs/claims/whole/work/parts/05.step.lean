/-! one instruction, and the runs -/
def fvl (σ : Sg) (k f : Nat) : Value := match shR k f with
  | some j => .ref j
  | none => .int (σ k f)
def rok (as : List Value) (m : MD) : Bool := match rv0 as with
  | some k => match shO k with
    | some (ci, _) => ci == m.2.2.2.2.1
    | none => false
  | none => false
def ccl (m' : MD) (pc : Nat) (L S : List Value) (virt : Bool) : Act :=
  if (S.take m'.2.2.2.2.2).length = m'.2.2.2.2.2 ∧ csm (S.drop m'.2.2.2.2.2) ≤ 8 ∧ csm (S.take m'.2.2.2.2.2) ≤ m'.2.2.1 ∧ (virt = true → rok (S.take m'.2.2.2.2.2).reverse m' = true) then cl m' (S.take m'.2.2.2.2.2).reverse (pc + 3) L (S.drop m'.2.2.2.2.2) else bad
def acp (pc : Nat) (L S : List Value) (σ : Sg) : Act := match S with
  | .int n :: .int dp :: .ref k1 :: .int sp :: .ref k0 :: S' => match shA k0, shA k1 with
    | some (false, n0), some (false, n1) => if (¬ sp < 0 ∧ ¬ dp < 0 ∧ ¬ n < 0 ∧ sp.toNatClampNeg + n.toNatClampNeg ≤ n0 ∧ dp.toNatClampNeg + n.toNatClampNeg ≤ n1) ∧ csm S' ≤ 8 then go (pc + 3) L S' (cpA σ k0 k1 sp.toNatClampNeg dp.toNatClampNeg n.toNatClampNeg) else bad
    | _, _ => bad
  | _ => bad
def gtf (m : MD) (pc idx : Nat) (L S : List Value) (σ : Sg) : Act := s1R S fun k S' => match lkup tF m.2.2.2.2.1 idx, shO k with
  | some (ci, f, _), some (cj, n) => if ci = cj ∧ f < n then go (pc + 3) L (fvl σ k f :: S') σ else bad
  | _, _ => bad
def ptf (m : MD) (pc idx : Nat) (L S : List Value) (σ : Sg) : Act := sIR S fun v k S' => match lkup tF m.2.2.2.2.1 idx, shO k with
  | some (ci, f, _), some (cj, n) => if ci = cj ∧ f < n ∧ shR k f = none then match lkup tP ci f with
      | some 1 => go (pc + 3) L S' (up σ k f v)
      | some 2 => if b01 v = true then go (pc + 3) L S' (up σ k f v) else bad
      | _ => bad
    else bad
  | _, _ => bad
def ald (b : Bool) (pc : Nat) (L S : List Value) (σ : Sg) : Act := sIR S fun i k S' => match shA k with
  | some (b', n) => if b' = b ∧ inb i n = true then go (pc + 1) L (.int (σ k i.toNatClampNeg) :: S') σ else bad
  | none => if b = false ∧ k = nC ∧ inb i (σ (nC + 1) 0).toNatClampNeg = true then go (pc + 1) L (.int (σ k i.toNatClampNeg) :: S') σ else bad
def ast (b : Bool) (pc : Nat) (L S : List Value) (σ : Sg) : Act := sIIR S fun v i k S' => match shA k with
  | some (b', n) => if b' = b ∧ inb i n = true ∧ (b = true → b01 v = true) then go (pc + 1) L S' (up σ k i.toNatClampNeg v) else bad
  | none => bad
def ist (m : MD) (pc : Nat) (i : Instr) (len : Nat) (L S : List Value) (σ : Sg) : Act := match i with
  | .iconst n => gd len 1 (go (pc + 1) L (.int (Int32.ofInt n) :: S) σ)
  | .bipush n => gd len 2 (go (pc + 2) L (.int (Int8.ofInt n).toInt32 :: S) σ)
  | .sipush n => gd len 3 (go (pc + 3) L (.int (Int16.ofInt n).toInt32 :: S) σ)
  | .ldc i => match lkup tC m.2.2.2.2.1 i with
    | some (v, _) => gd len 2 (go (pc + 2) L (.int v :: S) σ)
    | none => bad
  | .ldc_w i => match lkup tC m.2.2.2.2.1 i with
    | some (v, _) => gd len 3 (go (pc + 3) L (.int v :: S) σ)
    | none => bad
  | .ldc2_w i => match lkup tL m.2.2.2.2.1 i with
    | some (v, _) => gd len 3 (go (pc + 3) L (.long v :: S) σ)
    | none => bad
  | .lconst n => gd len 1 (go (pc + 1) L (.long (Int64.ofNat (n : Nat)) :: S) σ)
  | .iload i => ldI L i fun x => gd len 2 (go (pc + 2) L (.int x :: S) σ)
  | .iload_n n => ldI L (n : Nat) fun x => gd len 1 (go (pc + 1) L (.int x :: S) σ)
  | .lload i => ldJ L i fun x => gd len 2 (go (pc + 2) L (.long x :: S) σ)
  | .lload_n n => ldJ L (n : Nat) fun x => gd len 1 (go (pc + 1) L (.long x :: S) σ)
  | .aload i => ldA L i fun x => gd len 2 (go (pc + 2) L (.ref x :: S) σ)
  | .aload_n n => ldA L (n : Nat) fun x => gd len 1 (go (pc + 1) L (.ref x :: S) σ)
  | .istore i => s1I S fun x S' => if i < L.length then gd len 2 (go (pc + 2) (stL1 L i (.int x)) S' σ) else bad
  | .istore_n n => s1I S fun x S' => if (n : Nat) < L.length then gd len 1 (go (pc + 1) (stL1 L (n : Nat) (.int x)) S' σ) else bad
  | .lstore i => s1J S fun x S' => if i + 1 < L.length then gd len 2 (go (pc + 2) (stL2 L i (.long x)) S' σ) else bad
  | .lstore_n n => s1J S fun x S' => if (n : Nat) + 1 < L.length then gd len 1 (go (pc + 1) (stL2 L (n : Nat) (.long x)) S' σ) else bad
  | .iinc i c => ldI L i fun x => if i < L.length then gd len 3 (go (pc + 3) (stL1 L i (.int (x + Int32.ofInt c))) S σ) else bad
  | .iadd => s2I S fun x y S' => gd len 1 (go (pc + 1) L (.int (x + y) :: S') σ)
  | .isub => s2I S fun x y S' => gd len 1 (go (pc + 1) L (.int (x - y) :: S') σ)
  | .imul => s2I S fun x y S' => gd len 1 (go (pc + 1) L (.int (x * y) :: S') σ)
  | .iand => s2I S fun x y S' => gd len 1 (go (pc + 1) L (.int (x &&& y) :: S') σ)
  | .ior => s2I S fun x y S' => gd len 1 (go (pc + 1) L (.int (x ||| y) :: S') σ)
  | .ixor => s2I S fun x y S' => gd len 1 (go (pc + 1) L (.int (x ^^^ y) :: S') σ)
  | .ishl => s2I S fun x y S' => gd len 1 (go (pc + 1) L (.int (x <<< (y &&& 31)) :: S') σ)
  | .ishr => s2I S fun x y S' => gd len 1 (go (pc + 1) L (.int (x >>> (y &&& 31)) :: S') σ)
  | .iushr => s2I S fun x y S' => gd len 1 (go (pc + 1) L (.int (x.toUInt32 >>> (y.toUInt32 &&& Int32.toUInt32 31)).toInt32 :: S') σ)
  | .idiv => s2I S fun x y S' => if y = 0 then bad else gd len 1 (go (pc + 1) L (.int (x / y) :: S') σ)
  | .ineg => s1I S fun x S' => gd len 1 (go (pc + 1) L (.int (-x) :: S') σ)
  | .i2l => s1I S fun x S' => gd len 1 (go (pc + 1) L (.long x.toInt64 :: S') σ)
  | .l2i => s1J S fun x S' => gd len 1 (go (pc + 1) L (.int x.toInt32 :: S') σ)
  | .i2b => s1I S fun x S' => gd len 1 (go (pc + 1) L (.int x.toInt8.toInt32 :: S') σ)
  | .i2s => s1I S fun x S' => gd len 1 (go (pc + 1) L (.int x.toInt16.toInt32 :: S') σ)
  | .ladd => s2J S fun x y S' => gd len 1 (go (pc + 1) L (.long (x + y) :: S') σ)
  | .lmul => s2J S fun x y S' => gd len 1 (go (pc + 1) L (.long (x * y) :: S') σ)
  | .ldiv => s2J S fun x y S' => if y = 0 then bad else gd len 1 (go (pc + 1) L (.long (x / y) :: S') σ)
  | .lrem => s2J S fun x y S' => if y = 0 then bad else gd len 1 (go (pc + 1) L (.long (x - x / y * y) :: S') σ)
  | .lcmp => s2J S fun x y S' => gd len 1 (go (pc + 1) L (.int (lg_cmp x y) :: S') σ)
  | .dup => s1V S fun v S' => gd len 1 (go (pc + 1) L (v :: v :: S') σ)
  | .pop => s1V S fun _ S' => gd len 1 (go (pc + 1) L S' σ)
  | .dup2 => s2V S fun v w S' => gd len 1 (go (pc + 1) L (v :: w :: v :: w :: S') σ)
  | .if_icmp c off => s2I S fun x y S' => gd len 3 (bjm (icb c x y) ((pc : Int) + off) (pc + 3) L S' σ)
  | .ifCond c off => s1I S fun x S' => gd len 3 (bjm (icb c x 0) ((pc : Int) + off) (pc + 3) L S' σ)
  | .goto off => gd len 3 (jmp ((pc : Int) + off) L S σ)
  | .tableswitch dflt lo hi offs => s1I S fun x S' => tsw x pc dflt lo hi offs L S' σ
  | .lookupswitch dflt ps => s1I S fun x S' => lsw x pc dflt ps L S' σ
  | .getfield idx => gd len 3 (gtf m pc idx L S σ)
  | .putfield idx => gd len 3 (ptf m pc idx L S σ)
  | .iaload => gd len 1 (ald false pc L S σ)
  | .baload => gd len 1 (ald true pc L S σ)
  | .iastore => gd len 1 (ast false pc L S σ)
  | .bastore => gd len 1 (ast true pc L S σ)
  | .arraylength => s1R S fun k S' => if k = nC then gd len 1 (go (pc + 1) L (.int (σ (nC + 1) 0) :: S') σ) else bad
  | .invokestatic idx => match lkup tS m.2.2.2.2.1 idx with
    | some (m', _) => gd len 3 (ccl m' pc L S false)
    | none => match lkup tA m.2.2.2.2.1 idx with
      | some (0, _) => gd len 3 (acp pc L S σ)
      | some (1, _) => s2I S fun x y S' => if csm S' ≤ 8 then gd len 3 (go (pc + 3) L (.int (if y < x then y else x) :: S') σ) else bad
      | some (2, _) => s2I S fun x y S' => if csm S' ≤ 8 then gd len 3 (go (pc + 3) L (.int (if x < y then y else x) :: S') σ) else bad
      | _ => bad
  | .invokevirtual idx => match lkup tV m.2.2.2.2.1 idx with
    | some (m', _) => gd len 3 (ccl m' pc L S true)
    | none => bad
  | .ireturn => match S with
    | [.int v] => if len = 1 ∧ rtI m.2.2.2.1 v = true then dn (some (.int v)) σ else bad
    | _ => bad
  | .lreturn => match S with
    | [.long v] => if len = 1 ∧ m.2.2.2.1 = some .long then dn (some (.long v)) σ else bad
    | _ => bad
  | .areturn => match S with
    | [.ref k] => if len = 1 ∧ isO m.2.2.2.1 = true then dn (some (.ref k)) σ else bad
    | _ => bad
  | .return_ => match S with
    | [] => if len = 1 ∧ m.2.2.2.1 = none then dn none σ else bad
    | _ => bad
  | _ => bad
def stp (m : MD) (pc : Nat) (L S : List Value) (σ : Sg) : Act := match decode m.2.1 pc with
  | .ok (i, len) => ist m pc i len L S σ
  | .error _ => bad
def ini (m : MD) (as : List Value) : List Value := (as.flatMap fun v => if v.category = 2 then [v, uu] else [v]) ++ List.replicate (m.2.2.1 - csm as) uu
def ev : Nat → Nat → MD → Nat → List Value → List Value → Sg → Oc
  | 0, _, _, _, _, _, _ => none
  | n + 1, d, m, pc, L, S, σ => match stp m pc L S σ with
    | .inl o => o
    | .inr (.inl (pc', L', S', σ')) => ev n d m pc' L' S' σ'
    | .inr (.inr (m', as, pc', L', S')) => match d with
      | 0 => none
      | d' + 1 => match ev n d' m' 0 (ini m' as) [] σ with
        | some (r, σ') => ev n d m pc' L' (r.toList ++ S') σ'
        | none => none
theorem ev_mono : ∀ {n : Nat} {d : Nat} {m : MD} {pc : Nat} {L S : List Value} {σ : Sg} {x : Option Value × Sg}, ev n d m pc L S σ = some x → ev (n + 1) d m pc L S σ = some x := by
  intro n
  induction n with
  | zero => intro d m pc L S σ x h; simp [ev] at h
  | succ n ih =>
    intro d m pc L S σ x h
    rw [ev] at h ⊢
    match hs : stp m pc L S σ with
    | .inl o => rw [hs] at h; exact h
    | .inr (.inl (pc', L', S', σ')) => rw [hs] at h; exact ih h
    | .inr (.inr (m', as, pc', L', S')) =>
      rw [hs] at h
      match d, h with
      | 0, h => exact h
      | d' + 1, h =>
        dsimp only at h ⊢
        match hc : ev n d' m' 0 (ini m' as) [] σ with
        | some (r, σ') =>
          rw [hc] at h
          rw [ih hc]
          exact ih h
        | none => rw [hc] at h; cases h
theorem ev_le {n k : Nat} (hk : n ≤ k) {d : Nat} {m : MD} {pc : Nat} {L S : List Value} {σ : Sg} {x : Option Value × Sg} (h : ev n d m pc L S σ = some x) : ev k d m pc L S σ = some x := by
  induction hk with
  | refl => exact h
  | step _ ih => exact ev_mono ih
theorem ev_det {n k d : Nat} {m : MD} {pc : Nat} {L S : List Value} {σ : Sg} {x y : Option Value × Sg} (h : ev n d m pc L S σ = some x) (h' : ev k d m pc L S σ = some y) : x = y := by
  rcases Nat.le_total n k with q | q
  · exact Option.some.inj ((ev_le q h).symm.trans h')
  · exact Option.some.inj (h.symm.trans (ev_le q h'))
noncomputable def exec (d : Nat) (m : MD) (pc : Nat) (L S : List Value) (σ : Sg) : Oc :=
  Classical.epsilon (fun o : Oc => (∃ n x, ev n d m pc L S σ = some x ∧ o = some x) ∨ ((∀ n, ev n d m pc L S σ = none) ∧ o = none))
theorem exec_some {d : Nat} {m : MD} {pc : Nat} {L S : List Value} {σ : Sg} {x : Option Value × Sg} : exec d m pc L S σ = some x ↔ ∃ n, ev n d m pc L S σ = some x := by
  have hex : ∃ o : Oc, (∃ n x, ev n d m pc L S σ = some x ∧ o = some x) ∨ ((∀ n, ev n d m pc L S σ = none) ∧ o = none) := by
    by_cases h : ∃ n x, ev n d m pc L S σ = some x
    · obtain ⟨n, x, h⟩ := h
      exact ⟨some x, Or.inl ⟨n, x, h, rfl⟩⟩
    · refine ⟨none, Or.inr ⟨fun n => ?_, rfl⟩⟩
      cases hc : ev n d m pc L S σ with
      | none => rfl
      | some x => exact absurd ⟨n, x, hc⟩ h
  have hs := Classical.epsilon_spec hex
  constructor
  · intro h
    rcases hs with ⟨n, y, h1, h2⟩ | ⟨h1, h2⟩
    · have : some x = some y := h.symm.trans h2
      cases this
      exact ⟨n, h1⟩
    · have : some x = none := h.symm.trans h2
      cases this
  · rintro ⟨n, h⟩
    rcases hs with ⟨k, y, h1, h2⟩ | ⟨h1, h2⟩
    · cases ev_det h h1
      exact h2
    · rw [h1 n] at h; cases h
noncomputable def cal (d : Nat) (m : MD) (as : List Value) (σ : Sg) : Oc := match d with
  | 0 => none
  | d' + 1 => exec d' m 0 (ini m as) [] σ
def kb (o : Oc) (f : List Value → Sg → Oc) : Oc := match o with
  | some (r, σ) => f r.toList σ
  | none => none
theorem kb_v {v : Value} {σ : Sg} {f : List Value → Sg → Oc} : kb (some (some v, σ)) f = f [v] σ := rfl
theorem kb_n {σ : Sg} {f : List Value → Sg → Oc} : kb (some (none, σ)) f = f [] σ := rfl
theorem exec_dn {d : Nat} {m : MD} {pc : Nat} {L S : List Value} {σ σ' : Sg} {r : Option Value} (h : stp m pc L S σ = dn r σ') : exec d m pc L S σ = some (r, σ') :=
  exec_some.mpr ⟨1, by rw [ev, h]⟩
theorem exec_bad {d : Nat} {m : MD} {pc : Nat} {L S : List Value} {σ : Sg} (h : stp m pc L S σ = bad) : exec d m pc L S σ = none := by
  cases hc : exec d m pc L S σ with
  | none => rfl
  | some x =>
    obtain ⟨n, hn⟩ := exec_some.mp hc
    cases n with
    | zero => simp [ev] at hn
    | succ n => rw [ev, h] at hn; cases hn
theorem exec_go {d : Nat} {m : MD} {pc pc' : Nat} {L S L' S' : List Value} {σ σ' : Sg} (h : stp m pc L S σ = go pc' L' S' σ') : exec d m pc L S σ = exec d m pc' L' S' σ' := by
  cases hc : exec d m pc' L' S' σ' with
  | some x =>
    obtain ⟨n, hn⟩ := exec_some.mp hc
    exact exec_some.mpr ⟨n + 1, by rw [ev, h]; exact hn⟩
  | none =>
    cases hd : exec d m pc L S σ with
    | none => rfl
    | some x =>
      obtain ⟨n, hn⟩ := exec_some.mp hd
      cases n with
      | zero => simp [ev] at hn
      | succ n =>
        rw [ev, h] at hn
        rw [exec_some.mpr ⟨n, hn⟩] at hc
        cases hc
theorem exec_cl {d : Nat} {m m' : MD} {pc pc' : Nat} {L S L' S' as : List Value} {σ : Sg} (h : stp m pc L S σ = cl m' as pc' L' S') : exec d m pc L S σ = kb (cal d m' as σ) (fun rs σ' => exec d m pc' L' (rs ++ S') σ') := by
  cases d with
  | zero =>
    cases hd : exec 0 m pc L S σ with
    | none => rfl
    | some x =>
      obtain ⟨n, hn⟩ := exec_some.mp hd
      cases n with
      | zero => simp [ev] at hn
      | succ n => rw [ev, h] at hn; cases hn
  | succ d =>
    cases hc : exec d m' 0 (ini m' as) [] σ with
    | none =>
      have : cal (d + 1) m' as σ = none := hc
      rw [this]
      cases hd : exec (d + 1) m pc L S σ with
      | none => rfl
      | some x =>
        obtain ⟨n, hn⟩ := exec_some.mp hd
        cases n with
        | zero => simp [ev] at hn
        | succ n =>
          rw [ev, h] at hn
          dsimp only at hn
          cases he : ev n d m' 0 (ini m' as) [] σ with
          | none => rw [he] at hn; cases hn
          | some y => rw [exec_some.mpr ⟨n, he⟩] at hc; cases hc
    | some y =>
      obtain ⟨r, σ1⟩ := y
      have : cal (d + 1) m' as σ = some (r, σ1) := hc
      rw [this]
      show exec (d + 1) m pc L S σ = exec (d + 1) m pc' L' (r.toList ++ S') σ1
      obtain ⟨k, hk⟩ := exec_some.mp hc
      cases hd : exec (d + 1) m pc' L' (r.toList ++ S') σ1 with
      | some x =>
        obtain ⟨n, hn⟩ := exec_some.mp hd
        refine exec_some.mpr ⟨(n + k) + 1, ?_⟩
        rw [ev, h]
        dsimp only
        rw [ev_le (Nat.le_add_left k n) hk]
        exact ev_le (Nat.le_add_right n k) hn
      | none =>
        cases he : exec (d + 1) m pc L S σ with
        | none => rfl
        | some x =>
          obtain ⟨n, hn⟩ := exec_some.mp he
          cases n with
          | zero => simp [ev] at hn
          | succ n =>
            rw [ev, h] at hn
            dsimp only at hn
            cases hf : ev n d m' 0 (ini m' as) [] σ with
            | none => rw [hf] at hn; cases hn
            | some z =>
              cases ev_det hf hk
              rw [hf] at hn
              rw [exec_some.mpr ⟨n, hn⟩] at hd
              cases hd
theorem stp_of {m : MD} {pc : Nat} {i : Instr} {len : Nat} {L S : List Value} {σ : Sg} (h : decode m.2.1 pc = .ok (i, len)) : stp m pc L S σ = ist m pc i len L S σ := by
  unfold stp; rw [h]
theorem exec_br {d : Nat} {m : MD} {pc t f : Nat} {L S L' S' : List Value} {σ σ' : Sg} {c : Prop} [Decidable c] (h : stp m pc L S σ = go (if decide c = true then t else f) L' S' σ') : exec d m pc L S σ = if c then exec d m t L' S' σ' else exec d m f L' S' σ' := by
  rw [exec_go h]
  by_cases hc : c <;> simp [hc]
theorem exec_if {d : Nat} {m : MD} {pc pc' : Nat} {L S L' S' : List Value} {σ σ' : Sg} {c : Prop} [Decidable c] (h : stp m pc L S σ = if c then go pc' L' S' σ' else bad) : exec d m pc L S σ = if c then exec d m pc' L' S' σ' else none := by
  by_cases hc : c
  · rw [if_pos hc] at h ⊢; exact exec_go h
  · rw [if_neg hc] at h ⊢; exact exec_bad h
theorem exec_dnif {d : Nat} {m : MD} {pc : Nat} {L S : List Value} {σ σ' : Sg} {r : Option Value} {c : Prop} [Decidable c] (h : stp m pc L S σ = if c then dn r σ' else bad) : exec d m pc L S σ = if c then some (r, σ') else none := by
  by_cases hc : c
  · rw [if_pos hc] at h ⊢; exact exec_dn h
  · rw [if_neg hc] at h ⊢; exact exec_bad h
