/-! calls, and the whole -/
def rsh (ri : Instr) (md : MD) (r : Option Value) : Prop := (∃ v, ri = .ireturn ∧ r = some (.int v) ∧ rtI md.2.2.2.1 v = true) ∨ (∃ v, ri = .lreturn ∧ r = some (.long v) ∧ md.2.2.2.1 = some .long) ∨ (∃ k, ri = .areturn ∧ r = some (.ref k) ∧ isO md.2.2.2.1 = true) ∨ (ri = .return_ ∧ r = none ∧ md.2.2.2.1 = none)
theorem dn_nb {o : Option Value × Sg} : (.inl (some o) : Act) ≠ bad := fun h => by cases h
theorem inl_jmp {t : Int} {L S : List Value} {σ : Sg} {o : Option Value × Sg} (h : jmp t L S σ = .inl (some o)) : False := by
  unfold jmp at h
  obtain ⟨-, g⟩ := if_nb dn_nb h
  cases g
/-- a step that ends -/
theorem step_dn {md : MD} {pc : Nat} {L S : List Value} {σ σ' : Sg} {r : Option Value} (h : stp md pc L S σ = dn r σ') : ∃ ri, decode md.2.1 pc = .ok (ri, 1) ∧ rsh ri md r ∧ S = r.toList ∧ σ' = σ := by
  unfold stp at h
  split at h
  · rename_i i len hdg
    cases i
    case ireturn =>
      simp only [ist] at h
      split at h
      · obtain ⟨⟨rfl, hr⟩, g⟩ := if_nb dn_nb h
        cases g
        exact ⟨_, hdg, Or.inl ⟨_, rfl, rfl, hr⟩, rfl, rfl⟩
      · cases h
    case lreturn =>
      simp only [ist] at h
      split at h
      · obtain ⟨⟨rfl, hr⟩, g⟩ := if_nb dn_nb h
        cases g
        exact ⟨_, hdg, Or.inr (Or.inl ⟨_, rfl, rfl, hr⟩), rfl, rfl⟩
      · cases h
    case areturn =>
      simp only [ist] at h
      split at h
      · obtain ⟨⟨rfl, hr⟩, g⟩ := if_nb dn_nb h
        cases g
        exact ⟨_, hdg, Or.inr (Or.inr (Or.inl ⟨_, rfl, rfl, hr⟩)), rfl, rfl⟩
      · cases h
    case return_ =>
      simp only [ist] at h
      split at h
      · obtain ⟨⟨rfl, hr⟩, g⟩ := if_nb dn_nb h
        cases g
        exact ⟨_, hdg, Or.inr (Or.inr (Or.inr ⟨rfl, rfl, hr⟩)), rfl, rfl⟩
      · cases h
    case iconst n => obtain ⟨-, g⟩ := gd_dn h; cases g
    case bipush n => obtain ⟨-, g⟩ := gd_dn h; cases g
    case sipush n => obtain ⟨-, g⟩ := gd_dn h; cases g
    case lconst n => obtain ⟨-, g⟩ := gd_dn h; cases g
    case ldc n => simp only [ist] at h; split at h; (obtain ⟨-, g⟩ := gd_dn h; cases g); cases h
    case ldc_w n => simp only [ist] at h; split at h; (obtain ⟨-, g⟩ := gd_dn h; cases g); cases h
    case ldc2_w n => simp only [ist] at h; split at h; (obtain ⟨-, g⟩ := gd_dn h; cases g); cases h
    case iload i => obtain ⟨x, -, g⟩ := ldI_nb dn_nb h; obtain ⟨-, g⟩ := gd_dn g; cases g
    case iload_n n => obtain ⟨x, -, g⟩ := ldI_nb dn_nb h; obtain ⟨-, g⟩ := gd_dn g; cases g
    case lload i => obtain ⟨x, -, g⟩ := ldJ_nb dn_nb h; obtain ⟨-, g⟩ := gd_dn g; cases g
    case lload_n n => obtain ⟨x, -, g⟩ := ldJ_nb dn_nb h; obtain ⟨-, g⟩ := gd_dn g; cases g
    case aload i => obtain ⟨x, -, g⟩ := ldA_nb dn_nb h; obtain ⟨-, g⟩ := gd_dn g; cases g
    case aload_n n => obtain ⟨x, -, g⟩ := ldA_nb dn_nb h; obtain ⟨-, g⟩ := gd_dn g; cases g
    case istore i => obtain ⟨x, S1, -, g⟩ := s1I_nb dn_nb h; obtain ⟨-, g⟩ := if_nb dn_nb g; obtain ⟨-, g⟩ := gd_dn g; cases g
    case istore_n n => obtain ⟨x, S1, -, g⟩ := s1I_nb dn_nb h; obtain ⟨-, g⟩ := if_nb dn_nb g; obtain ⟨-, g⟩ := gd_dn g; cases g
    case lstore i => obtain ⟨x, S1, -, g⟩ := s1J_nb dn_nb h; obtain ⟨-, g⟩ := if_nb dn_nb g; obtain ⟨-, g⟩ := gd_dn g; cases g
    case lstore_n n => obtain ⟨x, S1, -, g⟩ := s1J_nb dn_nb h; obtain ⟨-, g⟩ := if_nb dn_nb g; obtain ⟨-, g⟩ := gd_dn g; cases g
    case iinc i n => obtain ⟨x, -, g⟩ := ldI_nb dn_nb h; obtain ⟨-, g⟩ := if_nb dn_nb g; obtain ⟨-, g⟩ := gd_dn g; cases g
    case idiv => obtain ⟨x, y, S1, -, g⟩ := s2I_nb dn_nb h; obtain ⟨-, g⟩ := if_bn dn_nb g; obtain ⟨-, g⟩ := gd_dn g; cases g
    case ineg => obtain ⟨x, S1, -, g⟩ := s1I_nb dn_nb h; obtain ⟨-, g⟩ := gd_dn g; cases g
    case i2l => obtain ⟨x, S1, -, g⟩ := s1I_nb dn_nb h; obtain ⟨-, g⟩ := gd_dn g; cases g
    case i2b => obtain ⟨x, S1, -, g⟩ := s1I_nb dn_nb h; obtain ⟨-, g⟩ := gd_dn g; cases g
    case i2s => obtain ⟨x, S1, -, g⟩ := s1I_nb dn_nb h; obtain ⟨-, g⟩ := gd_dn g; cases g
    case l2i => obtain ⟨x, S1, -, g⟩ := s1J_nb dn_nb h; obtain ⟨-, g⟩ := gd_dn g; cases g
    case ladd => obtain ⟨x, y, S1, -, g⟩ := s2J_nb dn_nb h; obtain ⟨-, g⟩ := gd_dn g; cases g
    case lmul => obtain ⟨x, y, S1, -, g⟩ := s2J_nb dn_nb h; obtain ⟨-, g⟩ := gd_dn g; cases g
    case lcmp => obtain ⟨x, y, S1, -, g⟩ := s2J_nb dn_nb h; obtain ⟨-, g⟩ := gd_dn g; cases g
    case ldiv => obtain ⟨x, y, S1, -, g⟩ := s2J_nb dn_nb h; obtain ⟨-, g⟩ := if_bn dn_nb g; obtain ⟨-, g⟩ := gd_dn g; cases g
    case lrem => obtain ⟨x, y, S1, -, g⟩ := s2J_nb dn_nb h; obtain ⟨-, g⟩ := if_bn dn_nb g; obtain ⟨-, g⟩ := gd_dn g; cases g
    case dup => obtain ⟨v, S1, -, -, g⟩ := s1V_nb dn_nb h; obtain ⟨-, g⟩ := gd_dn g; cases g
    case pop => obtain ⟨v, S1, -, -, g⟩ := s1V_nb dn_nb h; obtain ⟨-, g⟩ := gd_dn g; cases g
    case dup2 => obtain ⟨v, w, S1, -, -, -, g⟩ := s2V_nb dn_nb h; obtain ⟨-, g⟩ := gd_dn g; cases g
    case if_icmp cd off => obtain ⟨x, y, S1, -, g⟩ := s2I_nb dn_nb h; obtain ⟨-, g⟩ := gd_dn g; unfold bjm at g; obtain ⟨-, g⟩ := if_nb dn_nb g; cases g
    case ifCond cd off => obtain ⟨x, S1, -, g⟩ := s1I_nb dn_nb h; obtain ⟨-, g⟩ := gd_dn g; unfold bjm at g; obtain ⟨-, g⟩ := if_nb dn_nb g; cases g
    case goto off => obtain ⟨-, g⟩ := gd_dn h; exact (inl_jmp g).elim
    case tableswitch dflt lo hi offs =>
      obtain ⟨x, S1, -, g⟩ := s1I_nb dn_nb h
      unfold tsw at g
      split at g
      · exact (inl_jmp g).elim
      · split at g
        · exact (inl_jmp g).elim
        · cases g
    case lookupswitch dflt ps => obtain ⟨x, S1, -, g⟩ := s1I_nb dn_nb h; unfold lsw at g; obtain ⟨-, g⟩ := if_nb dn_nb g; exact (inl_jmp g).elim
    case getfield idx =>
      obtain ⟨-, g⟩ := gd_dn h
      unfold gtf at g
      obtain ⟨k, S1, -, g⟩ := s1R_nb dn_nb g
      split at g
      · obtain ⟨-, g⟩ := if_nb dn_nb g; cases g
      · cases g
    case putfield idx =>
      obtain ⟨-, g⟩ := gd_dn h
      unfold ptf at g
      obtain ⟨v, k, S1, -, g⟩ := sIR_nb dn_nb g
      split at g
      · obtain ⟨-, g⟩ := if_nb dn_nb g
        split at g
        · cases g
        · obtain ⟨-, g⟩ := if_nb dn_nb g; cases g
        · cases g
      · cases g
    case iaload =>
      obtain ⟨-, g⟩ := gd_dn h; unfold ald at g; obtain ⟨v, k, S1, -, g⟩ := sIR_nb dn_nb g
      split at g <;> (obtain ⟨-, g⟩ := if_nb dn_nb g; cases g)
    case baload =>
      obtain ⟨-, g⟩ := gd_dn h; unfold ald at g; obtain ⟨v, k, S1, -, g⟩ := sIR_nb dn_nb g
      split at g <;> (obtain ⟨-, g⟩ := if_nb dn_nb g; cases g)
    case iastore =>
      obtain ⟨-, g⟩ := gd_dn h; unfold ast at g; obtain ⟨w, v, k, S1, -, g⟩ := sIIR_nb dn_nb g
      split at g
      · obtain ⟨-, g⟩ := if_nb dn_nb g; cases g
      · cases g
    case bastore =>
      obtain ⟨-, g⟩ := gd_dn h; unfold ast at g; obtain ⟨w, v, k, S1, -, g⟩ := sIIR_nb dn_nb g
      split at g
      · obtain ⟨-, g⟩ := if_nb dn_nb g; cases g
      · cases g
    case arraylength => obtain ⟨k, S1, -, g⟩ := s1R_nb dn_nb h; obtain ⟨-, g⟩ := if_nb dn_nb g; obtain ⟨-, g⟩ := gd_dn g; cases g
    case invokestatic idx =>
      simp only [ist] at h
      split at h
      · obtain ⟨-, g⟩ := gd_dn h
        unfold ccl at g
        obtain ⟨-, g⟩ := if_nb dn_nb g
        cases g
      · split at h
        · obtain ⟨-, g⟩ := gd_dn h
          unfold acp at g
          split at g
          · split at g
            · obtain ⟨-, g⟩ := if_nb dn_nb g; cases g
            · cases g
          · cases g
        · obtain ⟨x, y, S1, -, g⟩ := s2I_nb dn_nb h; obtain ⟨-, g⟩ := if_nb dn_nb g; obtain ⟨-, g⟩ := gd_dn g; cases g
        · obtain ⟨x, y, S1, -, g⟩ := s2I_nb dn_nb h; obtain ⟨-, g⟩ := if_nb dn_nb g; obtain ⟨-, g⟩ := gd_dn g; cases g
        · cases h
    case invokevirtual idx =>
      simp only [ist] at h
      split at h
      · obtain ⟨-, g⟩ := gd_dn h
        unfold ccl at g
        obtain ⟨-, g⟩ := if_nb dn_nb g
        cases g
      · cases h
    all_goals first
      | (obtain ⟨x, y, S1, -, g⟩ := s2I_nb dn_nb h; obtain ⟨-, g⟩ := gd_dn g; cases g; done)
      | exact absurd (show bad = .inl (some (r, σ')) from h).symm dn_nb
  · cases h
/-- a step that calls -/
def isCl (md : MD) (pc : Nat) (L S : List Value) (m' : MD) (as : List Value) (pc' : Nat) (L' S' : List Value) (virt : Bool) (idx : Nat) (hs : List Nat) : Prop :=
  lkup (if virt = true then tV else tS) md.2.2.2.2.1 idx = some (m', hs) ∧ decode md.2.1 pc = .ok (if virt = true then .invokevirtual idx else .invokestatic idx, 3) ∧ S = as.reverse ++ S' ∧ as.length = m'.2.2.2.2.2 ∧ csm S' ≤ 8 ∧ csm as ≤ m'.2.2.1 ∧ (virt = true → rok as m' = true) ∧ pc' = pc + 3 ∧ L' = L
theorem csm_rev (l : List Value) : csm l.reverse = csm l := by
  induction l with
  | nil => rfl
  | cons a t ih =>
    unfold csm at ih ⊢
    rw [List.reverse_cons, List.map_append, List.sum_append, ih, List.map_cons, List.map_cons, List.sum_cons, List.sum_cons]
    simp
    omega
theorem ccl_cl {md m' m1 : MD} {pc pc' : Nat} {L S L' S' as : List Value} {virt : Bool} {idx : Nat} {hs : List Nat} (hk : lkup (if virt = true then tV else tS) md.2.2.2.2.1 idx = some (m', hs)) (hdg : decode md.2.1 pc = .ok (if virt = true then .invokevirtual idx else .invokestatic idx, 3)) (h : ccl m' pc L S virt = cl m1 as pc' L' S') : ∃ hs, isCl md pc L S m1 as pc' L' S' virt idx hs := by
  unfold ccl at h
  obtain ⟨⟨h1, h2, h3, h4⟩, g⟩ := if_nb cl_nb h
  cases g
  refine ⟨hs, hk, hdg, ?_, ?_, h2, ?_, h4, rfl, rfl⟩
  · rw [List.reverse_reverse, List.take_append_drop]
  · rw [List.length_reverse]; exact h1
  · rw [csm_rev]; exact h3
theorem inl_jmpc {t : Int} {L S : List Value} {σ : Sg} {m' : MD} {as : List Value} {pc' : Nat} {L' S' : List Value} (h : jmp t L S σ = cl m' as pc' L' S') : False := by
  unfold jmp at h
  obtain ⟨-, g⟩ := if_nb cl_nb h
  cases g
theorem step_cl {md m' : MD} {pc pc' : Nat} {L S L' S' as : List Value} {σ : Sg} (h : stp md pc L S σ = cl m' as pc' L' S') : ∃ virt idx hs, isCl md pc L S m' as pc' L' S' virt idx hs := by
  unfold stp at h
  split at h
  · rename_i i len hdg
    cases i
    case invokestatic idx =>
      simp only [ist] at h
      split at h
      · rename_i m1 hs hk
        obtain ⟨rfl, g⟩ := gd_cl h
        obtain ⟨hs, q⟩ := ccl_cl (virt := false) hk hdg g
        exact ⟨false, idx, hs, q⟩
      · split at h
        · obtain ⟨-, g⟩ := gd_cl h
          unfold acp at g
          split at g
          · split at g
            · obtain ⟨-, g⟩ := if_nb cl_nb g; cases g
            · cases g
          · cases g
        · obtain ⟨x, y, S1, -, g⟩ := s2I_nb cl_nb h; obtain ⟨-, g⟩ := if_nb cl_nb g; obtain ⟨-, g⟩ := gd_cl g; cases g
        · obtain ⟨x, y, S1, -, g⟩ := s2I_nb cl_nb h; obtain ⟨-, g⟩ := if_nb cl_nb g; obtain ⟨-, g⟩ := gd_cl g; cases g
        · cases h
    case invokevirtual idx =>
      simp only [ist] at h
      split at h
      · rename_i m1 hs hk
        obtain ⟨rfl, g⟩ := gd_cl h
        obtain ⟨hs, q⟩ := ccl_cl (virt := true) hk hdg g
        exact ⟨true, idx, hs, q⟩
      · cases h
    case iconst n => obtain ⟨-, g⟩ := gd_cl h; cases g
    case bipush n => obtain ⟨-, g⟩ := gd_cl h; cases g
    case sipush n => obtain ⟨-, g⟩ := gd_cl h; cases g
    case lconst n => obtain ⟨-, g⟩ := gd_cl h; cases g
    case ldc n => simp only [ist] at h; split at h; (obtain ⟨-, g⟩ := gd_cl h; cases g); cases h
    case ldc_w n => simp only [ist] at h; split at h; (obtain ⟨-, g⟩ := gd_cl h; cases g); cases h
    case ldc2_w n => simp only [ist] at h; split at h; (obtain ⟨-, g⟩ := gd_cl h; cases g); cases h
    case iload i => obtain ⟨x, -, g⟩ := ldI_nb cl_nb h; obtain ⟨-, g⟩ := gd_cl g; cases g
    case iload_n n => obtain ⟨x, -, g⟩ := ldI_nb cl_nb h; obtain ⟨-, g⟩ := gd_cl g; cases g
    case lload i => obtain ⟨x, -, g⟩ := ldJ_nb cl_nb h; obtain ⟨-, g⟩ := gd_cl g; cases g
    case lload_n n => obtain ⟨x, -, g⟩ := ldJ_nb cl_nb h; obtain ⟨-, g⟩ := gd_cl g; cases g
    case aload i => obtain ⟨x, -, g⟩ := ldA_nb cl_nb h; obtain ⟨-, g⟩ := gd_cl g; cases g
    case aload_n n => obtain ⟨x, -, g⟩ := ldA_nb cl_nb h; obtain ⟨-, g⟩ := gd_cl g; cases g
    case istore i => obtain ⟨x, S1, -, g⟩ := s1I_nb cl_nb h; obtain ⟨-, g⟩ := if_nb cl_nb g; obtain ⟨-, g⟩ := gd_cl g; cases g
    case istore_n n => obtain ⟨x, S1, -, g⟩ := s1I_nb cl_nb h; obtain ⟨-, g⟩ := if_nb cl_nb g; obtain ⟨-, g⟩ := gd_cl g; cases g
    case lstore i => obtain ⟨x, S1, -, g⟩ := s1J_nb cl_nb h; obtain ⟨-, g⟩ := if_nb cl_nb g; obtain ⟨-, g⟩ := gd_cl g; cases g
    case lstore_n n => obtain ⟨x, S1, -, g⟩ := s1J_nb cl_nb h; obtain ⟨-, g⟩ := if_nb cl_nb g; obtain ⟨-, g⟩ := gd_cl g; cases g
    case iinc i n => obtain ⟨x, -, g⟩ := ldI_nb cl_nb h; obtain ⟨-, g⟩ := if_nb cl_nb g; obtain ⟨-, g⟩ := gd_cl g; cases g
    case idiv => obtain ⟨x, y, S1, -, g⟩ := s2I_nb cl_nb h; obtain ⟨-, g⟩ := if_bn cl_nb g; obtain ⟨-, g⟩ := gd_cl g; cases g
    case ineg => obtain ⟨x, S1, -, g⟩ := s1I_nb cl_nb h; obtain ⟨-, g⟩ := gd_cl g; cases g
    case i2l => obtain ⟨x, S1, -, g⟩ := s1I_nb cl_nb h; obtain ⟨-, g⟩ := gd_cl g; cases g
    case i2b => obtain ⟨x, S1, -, g⟩ := s1I_nb cl_nb h; obtain ⟨-, g⟩ := gd_cl g; cases g
    case i2s => obtain ⟨x, S1, -, g⟩ := s1I_nb cl_nb h; obtain ⟨-, g⟩ := gd_cl g; cases g
    case l2i => obtain ⟨x, S1, -, g⟩ := s1J_nb cl_nb h; obtain ⟨-, g⟩ := gd_cl g; cases g
    case ladd => obtain ⟨x, y, S1, -, g⟩ := s2J_nb cl_nb h; obtain ⟨-, g⟩ := gd_cl g; cases g
    case lmul => obtain ⟨x, y, S1, -, g⟩ := s2J_nb cl_nb h; obtain ⟨-, g⟩ := gd_cl g; cases g
    case lcmp => obtain ⟨x, y, S1, -, g⟩ := s2J_nb cl_nb h; obtain ⟨-, g⟩ := gd_cl g; cases g
    case ldiv => obtain ⟨x, y, S1, -, g⟩ := s2J_nb cl_nb h; obtain ⟨-, g⟩ := if_bn cl_nb g; obtain ⟨-, g⟩ := gd_cl g; cases g
    case lrem => obtain ⟨x, y, S1, -, g⟩ := s2J_nb cl_nb h; obtain ⟨-, g⟩ := if_bn cl_nb g; obtain ⟨-, g⟩ := gd_cl g; cases g
    case dup => obtain ⟨v, S1, -, -, g⟩ := s1V_nb cl_nb h; obtain ⟨-, g⟩ := gd_cl g; cases g
    case pop => obtain ⟨v, S1, -, -, g⟩ := s1V_nb cl_nb h; obtain ⟨-, g⟩ := gd_cl g; cases g
    case dup2 => obtain ⟨v, w, S1, -, -, -, g⟩ := s2V_nb cl_nb h; obtain ⟨-, g⟩ := gd_cl g; cases g
    case if_icmp cd off => obtain ⟨x, y, S1, -, g⟩ := s2I_nb cl_nb h; obtain ⟨-, g⟩ := gd_cl g; unfold bjm at g; obtain ⟨-, g⟩ := if_nb cl_nb g; cases g
    case ifCond cd off => obtain ⟨x, S1, -, g⟩ := s1I_nb cl_nb h; obtain ⟨-, g⟩ := gd_cl g; unfold bjm at g; obtain ⟨-, g⟩ := if_nb cl_nb g; cases g
    case goto off => obtain ⟨-, g⟩ := gd_cl h; exact (inl_jmpc g).elim
    case tableswitch dflt lo hi offs =>
      obtain ⟨x, S1, -, g⟩ := s1I_nb cl_nb h
      unfold tsw at g
      split at g
      · exact (inl_jmpc g).elim
      · split at g
        · exact (inl_jmpc g).elim
        · cases g
    case lookupswitch dflt ps => obtain ⟨x, S1, -, g⟩ := s1I_nb cl_nb h; unfold lsw at g; obtain ⟨-, g⟩ := if_nb cl_nb g; exact (inl_jmpc g).elim
    case getfield idx =>
      obtain ⟨-, g⟩ := gd_cl h
      unfold gtf at g
      obtain ⟨k, S1, -, g⟩ := s1R_nb cl_nb g
      split at g
      · obtain ⟨-, g⟩ := if_nb cl_nb g; cases g
      · cases g
    case putfield idx =>
      obtain ⟨-, g⟩ := gd_cl h
      unfold ptf at g
      obtain ⟨v, k, S1, -, g⟩ := sIR_nb cl_nb g
      split at g
      · obtain ⟨-, g⟩ := if_nb cl_nb g
        split at g
        · cases g
        · obtain ⟨-, g⟩ := if_nb cl_nb g; cases g
        · cases g
      · cases g
    case iaload =>
      obtain ⟨-, g⟩ := gd_cl h; unfold ald at g; obtain ⟨v, k, S1, -, g⟩ := sIR_nb cl_nb g
      split at g <;> (obtain ⟨-, g⟩ := if_nb cl_nb g; cases g)
    case baload =>
      obtain ⟨-, g⟩ := gd_cl h; unfold ald at g; obtain ⟨v, k, S1, -, g⟩ := sIR_nb cl_nb g
      split at g <;> (obtain ⟨-, g⟩ := if_nb cl_nb g; cases g)
    case iastore =>
      obtain ⟨-, g⟩ := gd_cl h; unfold ast at g; obtain ⟨w, v, k, S1, -, g⟩ := sIIR_nb cl_nb g
      split at g
      · obtain ⟨-, g⟩ := if_nb cl_nb g; cases g
      · cases g
    case bastore =>
      obtain ⟨-, g⟩ := gd_cl h; unfold ast at g; obtain ⟨w, v, k, S1, -, g⟩ := sIIR_nb cl_nb g
      split at g
      · obtain ⟨-, g⟩ := if_nb cl_nb g; cases g
      · cases g
    case arraylength => obtain ⟨k, S1, -, g⟩ := s1R_nb cl_nb h; obtain ⟨-, g⟩ := if_nb cl_nb g; obtain ⟨-, g⟩ := gd_cl g; cases g
    case ireturn => simp only [ist] at h; split at h; (obtain ⟨-, g⟩ := if_nb cl_nb h; cases g); cases h
    case lreturn => simp only [ist] at h; split at h; (obtain ⟨-, g⟩ := if_nb cl_nb h; cases g); cases h
    case areturn => simp only [ist] at h; split at h; (obtain ⟨-, g⟩ := if_nb cl_nb h; cases g); cases h
    case return_ => simp only [ist] at h; split at h; (obtain ⟨-, g⟩ := if_nb cl_nb h; cases g); cases h
    all_goals first
      | (obtain ⟨x, y, S1, -, g⟩ := s2I_nb cl_nb h; obtain ⟨-, g⟩ := gd_cl g; cases g; done)
      | exact absurd (show bad = cl m' as pc' L' S' from h).symm cl_nb
  · cases h
