/-! the small machine's instructions as equations -/
section EX
variable {d : Nat} {m m' : MD} {pc idx t f : Nat} {L L' S S' as : List Value} {σ : Sg} {i : Nat} {x y : Int32} {u v : Int64} {k : Nat}
theorem ex_iconst {n : Int} (h : decode m.2.1 pc = .ok (.iconst n, 1)) (hv : Int32.ofInt n = x) : exec d m pc L S σ = exec d m (pc + 1) L (.int x :: S) σ := by subst hv; exact exec_go (stp_of h)
theorem ex_bipush {n : Int} (h : decode m.2.1 pc = .ok (.bipush n, 2)) (hv : (Int8.ofInt n).toInt32 = x) : exec d m pc L S σ = exec d m (pc + 2) L (.int x :: S) σ := by subst hv; exact exec_go (stp_of h)
theorem ex_sipush {n : Int} (h : decode m.2.1 pc = .ok (.sipush n, 3)) (hv : (Int16.ofInt n).toInt32 = x) : exec d m pc L S σ = exec d m (pc + 3) L (.int x :: S) σ := by subst hv; exact exec_go (stp_of h)
theorem ex_ldc {hh : Nat} (h : decode m.2.1 pc = .ok (.ldc idx, 2)) (hk : lkup tC m.2.2.2.2.1 idx = some (x, hh)) : exec d m pc L S σ = exec d m (pc + 2) L (.int x :: S) σ := exec_go ((stp_of h).trans (by simp only [ist, hk, gd]; rfl))
theorem ex_ldcw {hh : Nat} (h : decode m.2.1 pc = .ok (.ldc_w idx, 3)) (hk : lkup tC m.2.2.2.2.1 idx = some (x, hh)) : exec d m pc L S σ = exec d m (pc + 3) L (.int x :: S) σ := exec_go ((stp_of h).trans (by simp only [ist, hk, gd]; rfl))
theorem ex_ldc2 {hh : Nat} (h : decode m.2.1 pc = .ok (.ldc2_w idx, 3)) (hk : lkup tL m.2.2.2.2.1 idx = some (u, hh)) : exec d m pc L S σ = exec d m (pc + 3) L (.long u :: S) σ := exec_go ((stp_of h).trans (by simp only [ist, hk, gd]; rfl))
theorem ex_lconst {n : Fin 2} (h : decode m.2.1 pc = .ok (.lconst n, 1)) (hv : Int64.ofNat (n : Nat) = u) : exec d m pc L S σ = exec d m (pc + 1) L (.long u :: S) σ := by subst hv; exact exec_go (stp_of h)
theorem ex_iload (h : decode m.2.1 pc = .ok (.iload i, 2)) (hL : L[i]? = some (.int x)) : exec d m pc L S σ = exec d m (pc + 2) L (.int x :: S) σ := exec_go ((stp_of h).trans (by simp only [ist, ldI, hL, gd]; rfl))
theorem ex_iload_n {n : Fin 4} (h : decode m.2.1 pc = .ok (.iload_n n, 1)) (hL : L[(n : Nat)]? = some (.int x)) : exec d m pc L S σ = exec d m (pc + 1) L (.int x :: S) σ := exec_go ((stp_of h).trans (by simp only [ist, ldI, hL, gd]; rfl))
theorem ex_lload (h : decode m.2.1 pc = .ok (.lload i, 2)) (hL : L[i]? = some (.long u)) : exec d m pc L S σ = exec d m (pc + 2) L (.long u :: S) σ := exec_go ((stp_of h).trans (by simp only [ist, ldJ, hL, gd]; rfl))
theorem ex_lload_n {n : Fin 4} (h : decode m.2.1 pc = .ok (.lload_n n, 1)) (hL : L[(n : Nat)]? = some (.long u)) : exec d m pc L S σ = exec d m (pc + 1) L (.long u :: S) σ := exec_go ((stp_of h).trans (by simp only [ist, ldJ, hL, gd]; rfl))
theorem ex_aload (h : decode m.2.1 pc = .ok (.aload i, 2)) (hL : L[i]? = some (.ref k)) : exec d m pc L S σ = exec d m (pc + 2) L (.ref k :: S) σ := exec_go ((stp_of h).trans (by simp only [ist, ldA, hL, gd]; rfl))
theorem ex_aload_n {n : Fin 4} (h : decode m.2.1 pc = .ok (.aload_n n, 1)) (hL : L[(n : Nat)]? = some (.ref k)) : exec d m pc L S σ = exec d m (pc + 1) L (.ref k :: S) σ := exec_go ((stp_of h).trans (by simp only [ist, ldA, hL, gd]; rfl))
theorem ex_istore (h : decode m.2.1 pc = .ok (.istore i, 2)) (hl : i < L.length) (hL : stL1 L i (.int x) = L') : exec d m pc L (.int x :: S) σ = exec d m (pc + 2) L' S σ := by subst hL; exact exec_go ((stp_of h).trans (by simp only [ist, s1I, hl, if_true, gd]))
theorem ex_istore_n {n : Fin 4} (h : decode m.2.1 pc = .ok (.istore_n n, 1)) (hl : (n : Nat) < L.length) (hL : stL1 L (n : Nat) (.int x) = L') : exec d m pc L (.int x :: S) σ = exec d m (pc + 1) L' S σ := by subst hL; exact exec_go ((stp_of h).trans (by simp only [ist, s1I, hl, if_true, gd]))
theorem ex_lstore (h : decode m.2.1 pc = .ok (.lstore i, 2)) (hl : i + 1 < L.length) (hL : stL2 L i (.long u) = L') : exec d m pc L (.long u :: S) σ = exec d m (pc + 2) L' S σ := by subst hL; exact exec_go ((stp_of h).trans (by simp only [ist, s1J, hl, if_true, gd]))
theorem ex_lstore_n {n : Fin 4} (h : decode m.2.1 pc = .ok (.lstore_n n, 1)) (hl : (n : Nat) + 1 < L.length) (hL : stL2 L (n : Nat) (.long u) = L') : exec d m pc L (.long u :: S) σ = exec d m (pc + 1) L' S σ := by subst hL; exact exec_go ((stp_of h).trans (by simp only [ist, s1J, hl, if_true, gd]))
theorem ex_iinc {c : Int} {y : Int32} (h : decode m.2.1 pc = .ok (.iinc i c, 3)) (hv : L[i]? = some (.int x)) (hc : Int32.ofInt c = y) (hl : i < L.length) (hL : stL1 L i (.int (x + y)) = L') : exec d m pc L S σ = exec d m (pc + 3) L' S σ := by subst hc; subst hL; exact exec_go ((stp_of h).trans (by simp only [ist, ldI, hv, hl, if_true, gd]))
theorem ex_iadd (h : decode m.2.1 pc = .ok (.iadd, 1)) : exec d m pc L (.int y :: .int x :: S) σ = exec d m (pc + 1) L (.int (x + y) :: S) σ := exec_go (stp_of h)
theorem ex_isub (h : decode m.2.1 pc = .ok (.isub, 1)) : exec d m pc L (.int y :: .int x :: S) σ = exec d m (pc + 1) L (.int (x - y) :: S) σ := exec_go (stp_of h)
theorem ex_imul (h : decode m.2.1 pc = .ok (.imul, 1)) : exec d m pc L (.int y :: .int x :: S) σ = exec d m (pc + 1) L (.int (x * y) :: S) σ := exec_go (stp_of h)
theorem ex_iand (h : decode m.2.1 pc = .ok (.iand, 1)) : exec d m pc L (.int y :: .int x :: S) σ = exec d m (pc + 1) L (.int (x &&& y) :: S) σ := exec_go (stp_of h)
theorem ex_ior (h : decode m.2.1 pc = .ok (.ior, 1)) : exec d m pc L (.int y :: .int x :: S) σ = exec d m (pc + 1) L (.int (x ||| y) :: S) σ := exec_go (stp_of h)
theorem ex_ixor (h : decode m.2.1 pc = .ok (.ixor, 1)) : exec d m pc L (.int y :: .int x :: S) σ = exec d m (pc + 1) L (.int (x ^^^ y) :: S) σ := exec_go (stp_of h)
theorem ex_ishl (h : decode m.2.1 pc = .ok (.ishl, 1)) : exec d m pc L (.int y :: .int x :: S) σ = exec d m (pc + 1) L (.int (x <<< (y &&& 31)) :: S) σ := exec_go (stp_of h)
theorem ex_ishr (h : decode m.2.1 pc = .ok (.ishr, 1)) : exec d m pc L (.int y :: .int x :: S) σ = exec d m (pc + 1) L (.int (x >>> (y &&& 31)) :: S) σ := exec_go (stp_of h)
theorem ex_iushr (h : decode m.2.1 pc = .ok (.iushr, 1)) : exec d m pc L (.int y :: .int x :: S) σ = exec d m (pc + 1) L (.int (x.toUInt32 >>> (y.toUInt32 &&& Int32.toUInt32 31)).toInt32 :: S) σ := exec_go (stp_of h)
theorem ex_idiv (h : decode m.2.1 pc = .ok (.idiv, 1)) : exec d m pc L (.int y :: .int x :: S) σ = if y = 0 then none else exec d m (pc + 1) L (.int (x / y) :: S) σ := by
  by_cases hy : y = 0
  · rw [if_pos hy]; exact exec_bad ((stp_of h).trans (by simp only [ist, s2I, hy, if_true]))
  · rw [if_neg hy]; exact exec_go ((stp_of h).trans (by simp only [ist, s2I, hy, if_false, gd, if_true]))
theorem ex_ineg (h : decode m.2.1 pc = .ok (.ineg, 1)) : exec d m pc L (.int x :: S) σ = exec d m (pc + 1) L (.int (-x) :: S) σ := exec_go (stp_of h)
theorem ex_i2l (h : decode m.2.1 pc = .ok (.i2l, 1)) : exec d m pc L (.int x :: S) σ = exec d m (pc + 1) L (.long x.toInt64 :: S) σ := exec_go (stp_of h)
theorem ex_l2i (h : decode m.2.1 pc = .ok (.l2i, 1)) : exec d m pc L (.long u :: S) σ = exec d m (pc + 1) L (.int u.toInt32 :: S) σ := exec_go (stp_of h)
theorem ex_i2b (h : decode m.2.1 pc = .ok (.i2b, 1)) : exec d m pc L (.int x :: S) σ = exec d m (pc + 1) L (.int x.toInt8.toInt32 :: S) σ := exec_go (stp_of h)
theorem ex_i2s (h : decode m.2.1 pc = .ok (.i2s, 1)) : exec d m pc L (.int x :: S) σ = exec d m (pc + 1) L (.int x.toInt16.toInt32 :: S) σ := exec_go (stp_of h)
theorem ex_ladd (h : decode m.2.1 pc = .ok (.ladd, 1)) : exec d m pc L (.long v :: .long u :: S) σ = exec d m (pc + 1) L (.long (u + v) :: S) σ := exec_go (stp_of h)
theorem ex_lmul (h : decode m.2.1 pc = .ok (.lmul, 1)) : exec d m pc L (.long v :: .long u :: S) σ = exec d m (pc + 1) L (.long (u * v) :: S) σ := exec_go (stp_of h)
theorem ex_lcmp (h : decode m.2.1 pc = .ok (.lcmp, 1)) : exec d m pc L (.long v :: .long u :: S) σ = exec d m (pc + 1) L (.int (lg_cmp u v) :: S) σ := exec_go (stp_of h)
theorem ex_ldiv (h : decode m.2.1 pc = .ok (.ldiv, 1)) : exec d m pc L (.long v :: .long u :: S) σ = if v = 0 then none else exec d m (pc + 1) L (.long (u / v) :: S) σ := by
  by_cases hy : v = 0
  · rw [if_pos hy]; exact exec_bad ((stp_of h).trans (by simp only [ist, s2J, hy, if_true]))
  · rw [if_neg hy]; exact exec_go ((stp_of h).trans (by simp only [ist, s2J, hy, if_false, gd, if_true]))
theorem ex_lrem (h : decode m.2.1 pc = .ok (.lrem, 1)) : exec d m pc L (.long v :: .long u :: S) σ = if v = 0 then none else exec d m (pc + 1) L (.long (u - u / v * v) :: S) σ := by
  by_cases hy : v = 0
  · rw [if_pos hy]; exact exec_bad ((stp_of h).trans (by simp only [ist, s2J, hy, if_true]))
  · rw [if_neg hy]; exact exec_go ((stp_of h).trans (by simp only [ist, s2J, hy, if_false, gd, if_true]))
theorem ex_dup {w : Value} (h : decode m.2.1 pc = .ok (.dup, 1)) (hw : w.category = 1) : exec d m pc L (w :: S) σ = exec d m (pc + 1) L (w :: w :: S) σ := exec_go ((stp_of h).trans (by simp only [ist, s1V, hw, if_true, gd]))
theorem ex_pop {w : Value} (h : decode m.2.1 pc = .ok (.pop, 1)) (hw : w.category = 1) : exec d m pc L (w :: S) σ = exec d m (pc + 1) L S σ := exec_go ((stp_of h).trans (by simp only [ist, s1V, hw, if_true, gd]))
theorem ex_dup2 {w z : Value} (h : decode m.2.1 pc = .ok (.dup2, 1)) (hw : w.category = 1) (hz : z.category = 1) : exec d m pc L (w :: z :: S) σ = exec d m (pc + 1) L (w :: z :: w :: z :: S) σ := exec_go ((stp_of h).trans (by simp only [ist, s2V, hw, hz, and_self, if_true, gd]))
theorem bjm_of {b : Bool} {t : Int} {tn f : Nat} {L S : List Value} {σ : Sg} (ht : t = (tn : Int)) : bjm b t f L S σ = go (if b = true then tn else f) L S σ := by
  subst ht
  unfold bjm
  rw [if_pos (by omega)]
  rfl
theorem ex_goto {off : Int} (h : decode m.2.1 pc = .ok (.goto off, 3)) (ht : (pc : Int) + off = (t : Int)) : exec d m pc L S σ = exec d m t L S σ := exec_go ((stp_of h).trans (by
  simp only [ist, gd, if_true, jmp]
  rw [ht, if_pos (by omega)]
  rfl))
theorem ex_ceq {off : Int} (h : decode m.2.1 pc = .ok (.if_icmp .eq off, 3)) (ht : (pc : Int) + off = (t : Int)) : exec d m pc L (.int y :: .int x :: S) σ = if x = y then exec d m t L S σ else exec d m (pc + 3) L S σ := exec_br ((stp_of h).trans (bjm_of ht))
theorem ex_cne {off : Int} (h : decode m.2.1 pc = .ok (.if_icmp .ne off, 3)) (ht : (pc : Int) + off = (t : Int)) : exec d m pc L (.int y :: .int x :: S) σ = if x = y then exec d m (pc + 3) L S σ else exec d m t L S σ := by
  have q := exec_br (d := d) (c := ¬ x = y) ((stp_of (L := L) (S := .int y :: .int x :: S) (σ := σ) h).trans (bjm_of ht))
  rw [q]
  by_cases hc : x = y <;> simp [hc]
theorem ex_clt {off : Int} (h : decode m.2.1 pc = .ok (.if_icmp .lt off, 3)) (ht : (pc : Int) + off = (t : Int)) : exec d m pc L (.int y :: .int x :: S) σ = if x < y then exec d m t L S σ else exec d m (pc + 3) L S σ := exec_br ((stp_of h).trans (bjm_of ht))
theorem ex_cge {off : Int} (h : decode m.2.1 pc = .ok (.if_icmp .ge off, 3)) (ht : (pc : Int) + off = (t : Int)) : exec d m pc L (.int y :: .int x :: S) σ = if y ≤ x then exec d m t L S σ else exec d m (pc + 3) L S σ := exec_br ((stp_of h).trans (bjm_of ht))
theorem ex_cgt {off : Int} (h : decode m.2.1 pc = .ok (.if_icmp .gt off, 3)) (ht : (pc : Int) + off = (t : Int)) : exec d m pc L (.int y :: .int x :: S) σ = if y < x then exec d m t L S σ else exec d m (pc + 3) L S σ := exec_br ((stp_of h).trans (bjm_of ht))
theorem ex_cle {off : Int} (h : decode m.2.1 pc = .ok (.if_icmp .le off, 3)) (ht : (pc : Int) + off = (t : Int)) : exec d m pc L (.int y :: .int x :: S) σ = if x ≤ y then exec d m t L S σ else exec d m (pc + 3) L S σ := exec_br ((stp_of h).trans (bjm_of ht))
theorem ex_zeq {off : Int} (h : decode m.2.1 pc = .ok (.ifCond .eq off, 3)) (ht : (pc : Int) + off = (t : Int)) : exec d m pc L (.int x :: S) σ = if x = nI 0 then exec d m t L S σ else exec d m (pc + 3) L S σ := exec_br ((stp_of h).trans (bjm_of ht))
theorem ex_zne {off : Int} (h : decode m.2.1 pc = .ok (.ifCond .ne off, 3)) (ht : (pc : Int) + off = (t : Int)) : exec d m pc L (.int x :: S) σ = if x = nI 0 then exec d m (pc + 3) L S σ else exec d m t L S σ := by
  have q := exec_br (d := d) (c := ¬ x = nI 0) ((stp_of (L := L) (S := .int x :: S) (σ := σ) h).trans (bjm_of ht))
  rw [q]
  by_cases hc : x = nI 0 <;> simp [hc]
theorem ex_zlt {off : Int} (h : decode m.2.1 pc = .ok (.ifCond .lt off, 3)) (ht : (pc : Int) + off = (t : Int)) : exec d m pc L (.int x :: S) σ = if x < nI 0 then exec d m t L S σ else exec d m (pc + 3) L S σ := exec_br ((stp_of h).trans (bjm_of ht))
theorem ex_zge {off : Int} (h : decode m.2.1 pc = .ok (.ifCond .ge off, 3)) (ht : (pc : Int) + off = (t : Int)) : exec d m pc L (.int x :: S) σ = if nI 0 ≤ x then exec d m t L S σ else exec d m (pc + 3) L S σ := exec_br ((stp_of h).trans (bjm_of ht))
theorem ex_zgt {off : Int} (h : decode m.2.1 pc = .ok (.ifCond .gt off, 3)) (ht : (pc : Int) + off = (t : Int)) : exec d m pc L (.int x :: S) σ = if nI 0 < x then exec d m t L S σ else exec d m (pc + 3) L S σ := exec_br ((stp_of h).trans (bjm_of ht))
theorem ex_zle {off : Int} (h : decode m.2.1 pc = .ok (.ifCond .le off, 3)) (ht : (pc : Int) + off = (t : Int)) : exec d m pc L (.int x :: S) σ = if x ≤ nI 0 then exec d m t L S σ else exec d m (pc + 3) L S σ := exec_br ((stp_of h).trans (bjm_of ht))
theorem ex_get {ci ff n hh : Nat} (h : decode m.2.1 pc = .ok (.getfield idx, 3) ∧ lkup tF m.2.2.2.2.1 idx = some (ci, ff, hh) ∧ shO k = some (ci, n) ∧ ff < n ∧ shR k ff = none) : exec d m pc L (.ref k :: S) σ = exec d m (pc + 3) L (.int (σ k ff) :: S) σ := by
  obtain ⟨h1, h2, h3, h4, h5⟩ := h
  exact exec_go ((stp_of h1).trans (by simp only [ist, gd, if_true, gtf, s1R, h2, h3, h4, and_self, fvl, h5]))
theorem ex_getr {ci ff n hh j : Nat} (h : decode m.2.1 pc = .ok (.getfield idx, 3) ∧ lkup tF m.2.2.2.2.1 idx = some (ci, ff, hh) ∧ shO k = some (ci, n) ∧ ff < n ∧ shR k ff = some j) : exec d m pc L (.ref k :: S) σ = exec d m (pc + 3) L (.ref j :: S) σ := by
  obtain ⟨h1, h2, h3, h4, h5⟩ := h
  exact exec_go ((stp_of h1).trans (by simp only [ist, gd, if_true, gtf, s1R, h2, h3, h4, and_self, fvl, h5]))
theorem ex_put {ci ff n hh : Nat} (h : decode m.2.1 pc = .ok (.putfield idx, 3) ∧ lkup tF m.2.2.2.2.1 idx = some (ci, ff, hh) ∧ shO k = some (ci, n) ∧ ff < n ∧ shR k ff = none ∧ lkup tP ci ff = some 1) : exec d m pc L (.int x :: .ref k :: S) σ = exec d m (pc + 3) L S (up σ k ff x) := by
  obtain ⟨h1, h2, h3, h4, h5, h6⟩ := h
  exact exec_go ((stp_of h1).trans (by simp only [ist, gd, if_true, ptf, sIR, h2, h3, h4, and_self, h5, h6]))
theorem ex_putz {ci ff n hh : Nat} (h : decode m.2.1 pc = .ok (.putfield idx, 3) ∧ lkup tF m.2.2.2.2.1 idx = some (ci, ff, hh) ∧ shO k = some (ci, n) ∧ ff < n ∧ shR k ff = none ∧ lkup tP ci ff = some 2) : exec d m pc L (.int x :: .ref k :: S) σ = if b01 x = true then exec d m (pc + 3) L S (up σ k ff x) else none := by
  obtain ⟨h1, h2, h3, h4, h5, h6⟩ := h
  exact exec_if ((stp_of h1).trans (by simp only [ist, gd, if_true, ptf, sIR, h2, h3, h4, and_self, h5, h6]))
theorem ex_iald {n : Nat} (h : decode m.2.1 pc = .ok (.iaload, 1) ∧ shA k = some (false, n)) : exec d m pc L (.int x :: .ref k :: S) σ = if inb x n = true then exec d m (pc + 1) L (.int (σ k x.toNatClampNeg) :: S) σ else none := by
  obtain ⟨h1, h2⟩ := h
  exact exec_if ((stp_of h1).trans (by simp only [ist, gd, if_true, ald, sIR, h2, true_and]))
theorem ex_bald {n : Nat} (h : decode m.2.1 pc = .ok (.baload, 1) ∧ shA k = some (true, n)) : exec d m pc L (.int x :: .ref k :: S) σ = if inb x n = true then exec d m (pc + 1) L (.int (σ k x.toNatClampNeg) :: S) σ else none := by
  obtain ⟨h1, h2⟩ := h
  exact exec_if ((stp_of h1).trans (by simp only [ist, gd, if_true, ald, sIR, h2, true_and]))
theorem ex_sald (h : decode m.2.1 pc = .ok (.iaload, 1) ∧ shA nC = none) : exec d m pc L (.int x :: .ref nC :: S) σ = if inb x (σ (nC + 1) 0).toNatClampNeg = true then exec d m (pc + 1) L (.int (σ nC x.toNatClampNeg) :: S) σ else none := by
  obtain ⟨h1, h2⟩ := h
  exact exec_if ((stp_of h1).trans (by simp only [ist, gd, if_true, ald, sIR, h2, true_and]))
theorem ex_slen (h : decode m.2.1 pc = .ok (.arraylength, 1)) : exec d m pc L (.ref nC :: S) σ = exec d m (pc + 1) L (.int (σ (nC + 1) 0) :: S) σ := exec_go ((stp_of h).trans (by simp only [ist, gd, if_true, s1R]))
theorem ex_iast {n : Nat} (h : decode m.2.1 pc = .ok (.iastore, 1) ∧ shA k = some (false, n)) : exec d m pc L (.int y :: .int x :: .ref k :: S) σ = if inb x n = true then exec d m (pc + 1) L S (up σ k x.toNatClampNeg y) else none := by
  obtain ⟨h1, h2⟩ := h
  exact exec_if ((stp_of h1).trans (by simp only [ist, gd, if_true, ast, sIIR, h2, true_and, Bool.false_eq_true, false_implies, and_true]))
theorem ex_bast {n : Nat} (h : decode m.2.1 pc = .ok (.bastore, 1) ∧ shA k = some (true, n)) : exec d m pc L (.int y :: .int x :: .ref k :: S) σ = if inb x n = true ∧ b01 y = true then exec d m (pc + 1) L S (up σ k x.toNatClampNeg y) else none := by
  obtain ⟨h1, h2⟩ := h
  exact exec_if ((stp_of h1).trans (by simp only [ist, gd, if_true, ast, sIIR, h2, true_and, true_implies]))
theorem ex_iret (h : decode m.2.1 pc = .ok (.ireturn, 1)) (hr : m.2.2.2.1 = some .int) : exec d m pc L [.int x] σ = some (some (.int x), σ) := exec_dn ((stp_of h).trans (by simp only [ist, hr, rtI, and_self, if_true]))
theorem ex_zret (h : decode m.2.1 pc = .ok (.ireturn, 1)) (hr : m.2.2.2.1 = some .boolean) : exec d m pc L [.int x] σ = if b01 x = true then some (some (.int x), σ) else none := exec_dnif ((stp_of h).trans (by simp only [ist, hr, rtI, true_and]))
theorem ex_lret (h : decode m.2.1 pc = .ok (.lreturn, 1)) (hr : m.2.2.2.1 = some .long) : exec d m pc L [.long u] σ = some (some (.long u), σ) := exec_dn ((stp_of h).trans (by simp only [ist, hr, and_self, if_true]))
theorem ex_aret (h : decode m.2.1 pc = .ok (.areturn, 1)) (hr : isO m.2.2.2.1 = true) : exec d m pc L [.ref k] σ = some (some (.ref k), σ) := exec_dn ((stp_of h).trans (by simp only [ist, hr, and_self, if_true]))
theorem ex_vret (h : decode m.2.1 pc = .ok (.return_, 1)) (hr : m.2.2.2.1 = none) : exec d m pc L [] σ = some (none, σ) := exec_dn ((stp_of h).trans (by simp only [ist, hr, and_self, if_true]))
theorem ex_iv {hs : List Nat} (h : decode m.2.1 pc = .ok (.invokevirtual idx, 3)) (hk : lkup tV m.2.2.2.2.1 idx = some (m', hs)) (hc : (S.take m'.2.2.2.2.2).length = m'.2.2.2.2.2 ∧ csm (S.drop m'.2.2.2.2.2) ≤ 8 ∧ csm (S.take m'.2.2.2.2.2) ≤ m'.2.2.1 ∧ (true = true → rok (S.take m'.2.2.2.2.2).reverse m' = true)) (ha : (S.take m'.2.2.2.2.2).reverse = as) (hS : S.drop m'.2.2.2.2.2 = S') : exec d m pc L S σ = kb (cal d m' as σ) (fun rs σ' => exec d m (pc + 3) L (rs ++ S') σ') := by
  subst ha; subst hS
  exact exec_cl ((stp_of h).trans (by simp only [ist, hk, gd, if_true]; exact if_pos hc))
theorem ex_is {hs : List Nat} (h : decode m.2.1 pc = .ok (.invokestatic idx, 3)) (hk : lkup tS m.2.2.2.2.1 idx = some (m', hs)) (hc : (S.take m'.2.2.2.2.2).length = m'.2.2.2.2.2 ∧ csm (S.drop m'.2.2.2.2.2) ≤ 8 ∧ csm (S.take m'.2.2.2.2.2) ≤ m'.2.2.1 ∧ (false = true → rok (S.take m'.2.2.2.2.2).reverse m' = true)) (ha : (S.take m'.2.2.2.2.2).reverse = as) (hS : S.drop m'.2.2.2.2.2 = S') : exec d m pc L S σ = kb (cal d m' as σ) (fun rs σ' => exec d m (pc + 3) L (rs ++ S') σ') := by
  subst ha; subst hS
  exact exec_cl ((stp_of h).trans (by simp only [ist, hk, gd, if_true]; exact if_pos hc))
theorem ex_min {hh : Nat} (h : decode m.2.1 pc = .ok (.invokestatic idx, 3)) (hn : lkup tS m.2.2.2.2.1 idx = none) (hk : lkup tA m.2.2.2.2.1 idx = some (1, hh)) (hc : csm S ≤ 8) : exec d m pc L (.int y :: .int x :: S) σ = exec d m (pc + 3) L (.int (if y < x then y else x) :: S) σ := exec_go ((stp_of h).trans (by simp only [ist, hn, hk, s2I, hc, gd, if_true]))
theorem ex_max {hh : Nat} (h : decode m.2.1 pc = .ok (.invokestatic idx, 3)) (hn : lkup tS m.2.2.2.2.1 idx = none) (hk : lkup tA m.2.2.2.2.1 idx = some (2, hh)) (hc : csm S ≤ 8) : exec d m pc L (.int y :: .int x :: S) σ = exec d m (pc + 3) L (.int (if x < y then y else x) :: S) σ := exec_go ((stp_of h).trans (by simp only [ist, hn, hk, s2I, hc, gd, if_true]))
theorem ex_acp {hh k0 k1 n0 n1 : Nat} {n dp sp : Int32} (h : decode m.2.1 pc = .ok (.invokestatic idx, 3)) (hn : lkup tS m.2.2.2.2.1 idx = none) (hk : lkup tA m.2.2.2.2.1 idx = some (0, hh)) (h0 : shA k0 = some (false, n0)) (h1 : shA k1 = some (false, n1)) (hc : csm S ≤ 8) : exec d m pc L (.int n :: .int dp :: .ref k1 :: .int sp :: .ref k0 :: S) σ = if ¬ sp < 0 ∧ ¬ dp < 0 ∧ ¬ n < 0 ∧ sp.toNatClampNeg + n.toNatClampNeg ≤ n0 ∧ dp.toNatClampNeg + n.toNatClampNeg ≤ n1 then exec d m (pc + 3) L S (cpA σ k0 k1 sp.toNatClampNeg dp.toNatClampNeg n.toNatClampNeg) else none :=
  exec_if ((stp_of h).trans (by simp only [ist, hn, hk, gd, if_true, acp, h0, h1, hc, and_true]))
end EX
/-- switches -/
def swE (f : Nat → Oc) (x : Int32) : Nat → List Nat → Nat → Oc
  | _, [], df => f df
  | k, t :: ts, df => if x = nI k then f t else swE f x (k + 1) ts df
theorem swE_out (f : Nat → Oc) (x : Int32) (df : Nat) : ∀ (ts : List Nat) (k : Nat), (∀ j, j < ts.length → x ≠ nI (k + j)) → swE f x k ts df = f df
  | [], _, _ => rfl
  | t :: ts, k, h => by
    rw [swE, if_neg (by have := h 0 (by simp); simpa using this)]
    exact swE_out f x df ts (k + 1) (fun j hj => by have := h (j + 1) (by simp; omega); rwa [show k + 1 + j = k + (j + 1) by omega])
theorem swE_in (f : Nat → Oc) (df : Nat) : ∀ (ts : List Nat) (k j t : Nat), k + j < 2 ^ 31 → ts[j]? = some t → swE f (nI (k + j)) k ts df = f t
  | [], _, _, _, _, h => by simp at h
  | t' :: ts, k, j, t, hk, h => by
    cases j with
    | zero => rw [swE, Nat.add_zero, if_pos rfl]; cases h; rfl
    | succ j =>
      rw [swE, if_neg (fun q => by have := (nI_eq hk (by omega)).mp q; omega)]
      have := swE_in f df ts (k + 1) j t (by omega) (by simpa using h)
      rwa [show k + (j + 1) = k + 1 + j by omega]
theorem ex_tsw {d : Nat} {m : MD} {pc len lo df : Nat} {L S : List Value} {σ : Sg} {x : Int32} {dflt hi : Int} {offs : Array Int} {ts : List Nat} (h : decode m.2.1 pc = .ok (.tableswitch dflt (lo : Int) hi offs, len)) (hd : (pc : Int) + dflt = (df : Int)) (hh : hi = (lo : Int) + (ts.length : Int) - 1) (ho : offs.toList.map (fun o => (pc : Int) + o) = ts.map (fun t : Nat => (t : Int))) (hs : lo + ts.length < 2 ^ 31) :
    exec d m pc L (.int x :: S) σ = swE (fun q => exec d m q L S σ) x lo ts df := by
  have h1 : stp m pc L (.int x :: S) σ = tsw x pc dflt lo hi offs L S σ := stp_of h
  unfold tsw at h1
  by_cases hc : x.toInt < (lo : Int) ∨ hi < x.toInt
  · rw [if_pos hc] at h1
    unfold jmp at h1
    rw [hd, if_pos (by omega)] at h1
    rw [exec_go h1, swE_out]
    · rfl
    · intro j hj q
      rw [q, nI_toInt (by omega)] at hc
      rcases hc with hc | hc <;> omega
  · rw [if_neg hc] at h1
    have hx0 : ¬ x < 0 := by
      rw [Int32.lt_iff_toInt_lt, Int32.toInt_zero]; omega
    obtain ⟨n, hn, rfl⟩ := nI_of hx0
    rw [nI_toInt hn] at hc h1
    have hj : ((n : Int) - (lo : Int)).toNat = n - lo := by omega
    have hlt : n - lo < ts.length := by omega
    rw [hj] at h1
    have hg : offs[n - lo]? = some ((ts[n - lo] : Nat) - (pc : Int)) := by
      have q : (offs.toList.map (fun o => (pc : Int) + o))[n - lo]? = some ((ts[n - lo] : Nat) : Int) := by rw [ho, List.getElem?_map, List.getElem?_eq_getElem hlt]; rfl
      rw [List.getElem?_map] at q
      cases hq : offs.toList[n - lo]? with
      | none => rw [hq] at q; cases q
      | some o =>
        rw [hq] at q
        have q : (pc : Int) + o = ((ts[n - lo] : Nat) : Int) := Option.some.inj q
        rw [← Array.getElem?_toList, hq]
        congr 1
        omega
    rw [hg] at h1
    dsimp only at h1
    unfold jmp at h1
    rw [show (pc : Int) + (((ts[n - lo] : Nat) : Int) - (pc : Int)) = ((ts[n - lo] : Nat) : Int) by omega, if_pos (by omega)] at h1
    rw [exec_go h1]
    have := swE_in (fun q => exec d m q L S σ) df ts lo (n - lo) ts[n - lo] (by omega) (List.getElem?_eq_getElem hlt)
    rw [show lo + (n - lo) = n by omega] at this
    exact this.symm
