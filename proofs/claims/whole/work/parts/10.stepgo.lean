/-! one step of the small machine that goes on is a step of the machine -/
theorem jmp_go {t : Int} {L S L' S' : List Value} {σ σ' : Sg} {pc' : Nat} (h : jmp t L S σ = go pc' L' S' σ') : t = (pc' : Int) ∧ L' = L ∧ S' = S ∧ σ' = σ := by
  unfold jmp at h
  obtain ⟨h0, h1⟩ := if_nb go_nb h
  cases h1
  exact ⟨by omega, rfl, rfl, rfl⟩
theorem bjm_go {b : Bool} {t : Int} {f : Nat} {L S L' S' : List Value} {σ σ' : Sg} {pc' : Nat} (h : bjm b t f L S σ = go pc' L' S' σ') : ∃ tn : Nat, t = (tn : Int) ∧ pc' = (if b = true then tn else f) ∧ L' = L ∧ S' = S ∧ σ' = σ := by
  unfold bjm at h
  obtain ⟨h0, h1⟩ := if_nb go_nb h
  cases h1
  exact ⟨t.toNat, by omega, rfl, rfl, rfl, rfl⟩
section SGO
variable {p : Program} {l : Launch} {e : Env} {R : Room} {s : State} {m : MethodId} {args : Array Value} {below : List Frame} {meth : Method} {c : Code} {H : Heap} {locs : List Loc} {cells slots : Nat} {Q : State → Prop}
variable {D : va_G} {cA : Nat → ClassId} {ad : Nat → Nat} {Ln : Nat} {xs : Nat → Int32} {A : Nat → Prop} {md : MD} {pc pc' len : Nat} {L S L' S' : List Value} {σ σ' : Sg} {ls : Array Slot}
theorem sg_icmp (hx : p.tables.exec = Jvm.exec) (hb : c.code = md.2.1) {cd : ClassFile.Cond} {off : Int} {x y : Int32} {tn : Nat} (ht : (pc : Int) + off = (tn : Int)) (hdg : decode md.2.1 pc = .ok (.if_icmp cd off, 3)) {st : List Value}
    (kk : W p l e R s m args below meth c H locs cells slots Q (F0 m (if icb cd x y = true then tn else pc + 3) ls st)) : W p l e R s m args below meth c H locs cells slots Q (F0 m pc ls (.int y :: .int x :: st)) := by
  cases cd with
  | eq => exact lv_icmp_eq hx hb hdg ht (fun q => by rw [if_pos (show icb .eq x y = true from decide_eq_true q)] at kk; exact kk) (fun q => by rw [if_neg (show ¬ icb .eq x y = true from fun z => q (of_decide_eq_true z))] at kk; exact kk)
  | ne => exact lv_icmp_ne hx hb hdg ht (fun q => by rw [if_pos (show icb .ne x y = true from decide_eq_true q)] at kk; exact kk) (fun q => by rw [if_neg (show ¬ icb .ne x y = true from fun z => (of_decide_eq_true (p := ¬ x = y) z) q)] at kk; exact kk)
  | lt => exact lv_icmp_lt hx hb hdg ht (fun q => by rw [if_pos (show icb .lt x y = true from decide_eq_true q)] at kk; exact kk) (fun q => by rw [if_neg (show ¬ icb .lt x y = true from fun z => q (of_decide_eq_true z))] at kk; exact kk)
  | ge => exact lv_icmp_ge hx hb hdg ht (fun q => by rw [if_pos (show icb .ge x y = true from decide_eq_true q)] at kk; exact kk) (fun q => by rw [if_neg (show ¬ icb .ge x y = true from fun z => q (of_decide_eq_true z))] at kk; exact kk)
  | gt => exact lv_icmp_gt hx hb hdg ht (fun q => by rw [if_pos (show icb .gt x y = true from decide_eq_true q)] at kk; exact kk) (fun q => by rw [if_neg (show ¬ icb .gt x y = true from fun z => q (of_decide_eq_true z))] at kk; exact kk)
  | le => exact lv_icmp_le hx hb hdg ht (fun q => by rw [if_pos (show icb .le x y = true from decide_eq_true q)] at kk; exact kk) (fun q => by rw [if_neg (show ¬ icb .le x y = true from fun z => q (of_decide_eq_true z))] at kk; exact kk)
theorem sg_if (hx : p.tables.exec = Jvm.exec) (hb : c.code = md.2.1) {cd : ClassFile.Cond} {off : Int} {x : Int32} {tn : Nat} (ht : (pc : Int) + off = (tn : Int)) (hdg : decode md.2.1 pc = .ok (.ifCond cd off, 3)) {st : List Value}
    (kk : W p l e R s m args below meth c H locs cells slots Q (F0 m (if icb cd x 0 = true then tn else pc + 3) ls st)) : W p l e R s m args below meth c H locs cells slots Q (F0 m pc ls (.int x :: st)) := by
  cases cd with
  | eq => exact lv_if_eq hx hb hdg ht (fun q => by rw [if_pos (show icb .eq x 0 = true from decide_eq_true q)] at kk; exact kk) (fun q => by rw [if_neg (show ¬ icb .eq x 0 = true from fun z => q (of_decide_eq_true z))] at kk; exact kk)
  | ne => exact lv_if_ne hx hb hdg ht (fun q => by rw [if_pos (show icb .ne x 0 = true from decide_eq_true q)] at kk; exact kk) (fun q => by rw [if_neg (show ¬ icb .ne x 0 = true from fun z => (of_decide_eq_true (p := ¬ x = 0) z) q)] at kk; exact kk)
  | lt => exact lv_if_lt hx hb hdg ht (fun q => by rw [if_pos (show icb .lt x 0 = true from decide_eq_true q)] at kk; exact kk) (fun q => by rw [if_neg (show ¬ icb .lt x 0 = true from fun z => q (of_decide_eq_true z))] at kk; exact kk)
  | ge => exact lv_if_ge hx hb hdg ht (fun q => by rw [if_pos (show icb .ge x 0 = true from decide_eq_true q)] at kk; exact kk) (fun q => by rw [if_neg (show ¬ icb .ge x 0 = true from fun z => q (of_decide_eq_true z))] at kk; exact kk)
  | gt => exact lv_if_gt hx hb hdg ht (fun q => by rw [if_pos (show icb .gt x 0 = true from decide_eq_true q)] at kk; exact kk) (fun q => by rw [if_neg (show ¬ icb .gt x 0 = true from fun z => q (of_decide_eq_true z))] at kk; exact kk)
  | le => exact lv_if_le hx hb hdg ht (fun q => by rw [if_pos (show icb .le x 0 = true from decide_eq_true q)] at kk; exact kk) (fun q => by rw [if_neg (show ¬ icb .le x 0 = true from fun z => q (of_decide_eq_true z))] at kk; exact kk)
/-- a step that goes on -/
theorem step_go (C0 : Ctx p s m args c md D cA ad Ln xs A) (hD : ∀ σ, va_D A (wd ad cA σ)) (hL : L.length = md.2.2.1) (hRf : 1 ≤ R.frames) (hRl : 64 ≤ R.locals) (hc : cells ≤ R.cells) (hs : slots ≤ R.slots) (h : stp md pc L S σ = go pc' L' S' σ') (hI : Inv s H locs D cA ad Ln xs A σ) (hl : LR ad L ls)
    (kk : ∀ (ls1 : Array Slot) (H1 : Heap) (locs1 : List Loc), L'.length = md.2.2.1 → Inv s H1 locs1 D cA ad Ln xs A σ' → LR ad L' ls1 → W p l e R s m args below meth c H1 locs1 cells slots Q (F0 m pc' ls1 (S'.map (cvv ad)))) : W p l e R s m args below meth c H locs cells slots Q (F0 m pc ls (S.map (cvv ad))) := by
  have C1 := C0
  obtain ⟨hx, hb, hml, hown, hts, hN, hK, hX, hbl, hbA, hLn⟩ := C0
  unfold stp at h
  split at h
  · rename_i i len hdg
    cases i
    case iconst n => obtain ⟨rfl, g⟩ := gd_go h; cases g; exact lv_iconst hx hb hdg rfl (kk ls H locs hL hI hl)
    case bipush n => obtain ⟨rfl, g⟩ := gd_go h; cases g; exact lv_bipush hx hb hdg rfl (kk ls H locs hL hI hl)
    case sipush n => obtain ⟨rfl, g⟩ := gd_go h; cases g; exact lv_sipush hx hb hdg rfl (kk ls H locs hL hI hl)
    case lconst n => obtain ⟨rfl, g⟩ := gd_go h; cases g; exact lv_lconst hx hb hdg rfl (kk ls H locs hL hI hl)
    case ldc n =>
      simp only [ist] at h
      split at h
      · rename_i v hh hk
        obtain ⟨rfl, g⟩ := gd_go h; cases g
        exact lv_ldc hx hb hown (hts _ (okC hk)) hdg (kk ls H locs hL hI hl)
      · cases h
    case ldc_w n =>
      simp only [ist] at h
      split at h
      · rename_i v hh hk
        obtain ⟨rfl, g⟩ := gd_go h; cases g
        exact lv_ldcw hx hb hown (hts _ (okC hk)) hdg (kk ls H locs hL hI hl)
      · cases h
    case ldc2_w n =>
      simp only [ist] at h
      split at h
      · rename_i v hh hk
        obtain ⟨rfl, g⟩ := gd_go h; cases g
        exact lv_ldc2 hx hb hown (hts _ (okL hk)) hdg (kk ls H locs hL hI hl)
      · cases h
    case iload i => obtain ⟨x, hv, g⟩ := ldI_nb go_nb h; obtain ⟨rfl, g⟩ := gd_go g; cases g; exact lv_iload hx hb hdg (hl.2.2 i _ hv (by simp)) (kk ls H locs hL hI hl)
    case iload_n n => obtain ⟨x, hv, g⟩ := ldI_nb go_nb h; obtain ⟨rfl, g⟩ := gd_go g; cases g; exact lv_iload_n hx hb hdg rfl (hl.2.2 _ _ hv (by simp)) (kk ls H locs hL hI hl)
    case lload i => obtain ⟨x, hv, g⟩ := ldJ_nb go_nb h; obtain ⟨rfl, g⟩ := gd_go g; cases g; exact lv_lload hx hb hdg (hl.2.2 i _ hv (by simp)) (kk ls H locs hL hI hl)
    case lload_n n => obtain ⟨x, hv, g⟩ := ldJ_nb go_nb h; obtain ⟨rfl, g⟩ := gd_go g; cases g; exact lv_lload_n hx hb hdg rfl (hl.2.2 _ _ hv (by simp)) (kk ls H locs hL hI hl)
    case aload i => obtain ⟨x, hv, g⟩ := ldA_nb go_nb h; obtain ⟨rfl, g⟩ := gd_go g; cases g; exact lv_aload hx hb hdg (hl.2.2 i _ hv (by simp)) (kk ls H locs hL hI hl)
    case aload_n n => obtain ⟨x, hv, g⟩ := ldA_nb go_nb h; obtain ⟨rfl, g⟩ := gd_go g; cases g; exact lv_aload_n hx hb hdg rfl (hl.2.2 _ _ hv (by simp)) (kk ls H locs hL hI hl)
    case istore i =>
      obtain ⟨x, S1, rfl, g⟩ := s1I_nb go_nb h
      obtain ⟨hi, g⟩ := if_nb go_nb g
      obtain ⟨rfl, g⟩ := gd_go g; cases g
      exact lv_istore hx hb hdg hl.has hi rfl (fun ls1 h1 => kk ls1 H locs (by rw [stL1_len]; exact hL) hI (LR.st1 hi h1))
    case istore_n n =>
      obtain ⟨x, S1, rfl, g⟩ := s1I_nb go_nb h
      obtain ⟨hi, g⟩ := if_nb go_nb g
      obtain ⟨rfl, g⟩ := gd_go g; cases g
      exact lv_istore_n hx hb hdg rfl hl.has hi rfl (fun ls1 h1 => kk ls1 H locs (by rw [stL1_len]; exact hL) hI (LR.st1 hi h1))
    case lstore i =>
      obtain ⟨x, S1, rfl, g⟩ := s1J_nb go_nb h
      obtain ⟨hi, g⟩ := if_nb go_nb g
      obtain ⟨rfl, g⟩ := gd_go g; cases g
      exact lv_lstore hx hb hdg hl.has hi rfl (fun ls1 h1 => kk ls1 H locs (by rw [stL2_len]; exact hL) hI (LR.st2 hi h1))
    case lstore_n n =>
      obtain ⟨x, S1, rfl, g⟩ := s1J_nb go_nb h
      obtain ⟨hi, g⟩ := if_nb go_nb g
      obtain ⟨rfl, g⟩ := gd_go g; cases g
      exact lv_lstore_n hx hb hdg rfl hl.has hi rfl (fun ls1 h1 => kk ls1 H locs (by rw [stL2_len]; exact hL) hI (LR.st2 hi h1))
    case iinc i n =>
      obtain ⟨x, hv, g⟩ := ldI_nb go_nb h
      obtain ⟨hi, g⟩ := if_nb go_nb g
      obtain ⟨rfl, g⟩ := gd_go g; cases g
      obtain ⟨k, hk⟩ := List.getElem?_of_mem (prs_mem (ad := ad) (q := (i, .int x)) |>.mpr ⟨.int x, hv, by simp, rfl⟩)
      exact lv_iinc hx hb hdg hl.has hk rfl hi rfl (fun ls1 h1 => kk ls1 H locs (by rw [stL1_len]; exact hL) hI (LR.st1 hi h1))
    case iadd => obtain ⟨x, y, S1, rfl, g⟩ := s2I_nb go_nb h; obtain ⟨rfl, g⟩ := gd_go g; cases g; exact lv_iadd hx hb hdg (kk ls H locs hL hI hl)
    case isub => obtain ⟨x, y, S1, rfl, g⟩ := s2I_nb go_nb h; obtain ⟨rfl, g⟩ := gd_go g; cases g; exact lv_isub hx hb hdg (kk ls H locs hL hI hl)
    case imul => obtain ⟨x, y, S1, rfl, g⟩ := s2I_nb go_nb h; obtain ⟨rfl, g⟩ := gd_go g; cases g; exact lv_imul hx hb hdg (kk ls H locs hL hI hl)
    case iand => obtain ⟨x, y, S1, rfl, g⟩ := s2I_nb go_nb h; obtain ⟨rfl, g⟩ := gd_go g; cases g; exact lv_iand hx hb hdg (kk ls H locs hL hI hl)
    case ior => obtain ⟨x, y, S1, rfl, g⟩ := s2I_nb go_nb h; obtain ⟨rfl, g⟩ := gd_go g; cases g; exact lv_ior hx hb hdg (kk ls H locs hL hI hl)
    case ixor => obtain ⟨x, y, S1, rfl, g⟩ := s2I_nb go_nb h; obtain ⟨rfl, g⟩ := gd_go g; cases g; exact lv_ixor hx hb hdg (kk ls H locs hL hI hl)
    case ishl => obtain ⟨x, y, S1, rfl, g⟩ := s2I_nb go_nb h; obtain ⟨rfl, g⟩ := gd_go g; cases g; exact lv_ishl hx hb hdg (kk ls H locs hL hI hl)
    case ishr => obtain ⟨x, y, S1, rfl, g⟩ := s2I_nb go_nb h; obtain ⟨rfl, g⟩ := gd_go g; cases g; exact lv_ishr hx hb hdg (kk ls H locs hL hI hl)
    case iushr => obtain ⟨x, y, S1, rfl, g⟩ := s2I_nb go_nb h; obtain ⟨rfl, g⟩ := gd_go g; cases g; exact lv_iushr hx hb hdg rfl (kk ls H locs hL hI hl)
    case idiv => obtain ⟨x, y, S1, rfl, g⟩ := s2I_nb go_nb h; obtain ⟨hn, g⟩ := if_bn go_nb g; obtain ⟨rfl, g⟩ := gd_go g; cases g; exact lv_idiv hx hb hdg hn (kk ls H locs hL hI hl)
    case ineg => obtain ⟨x, S1, rfl, g⟩ := s1I_nb go_nb h; obtain ⟨rfl, g⟩ := gd_go g; cases g; exact lv_ineg hx hb hdg (kk ls H locs hL hI hl)
    case i2l => obtain ⟨x, S1, rfl, g⟩ := s1I_nb go_nb h; obtain ⟨rfl, g⟩ := gd_go g; cases g; exact lv_i2l hx hb hdg rfl (kk ls H locs hL hI hl)
    case l2i => obtain ⟨x, S1, rfl, g⟩ := s1J_nb go_nb h; obtain ⟨rfl, g⟩ := gd_go g; cases g; exact lv_l2i hx hb hdg rfl (kk ls H locs hL hI hl)
    case i2b => obtain ⟨x, S1, rfl, g⟩ := s1I_nb go_nb h; obtain ⟨rfl, g⟩ := gd_go g; cases g; exact lv_i2b hx hb hdg rfl (kk ls H locs hL hI hl)
    case i2s => obtain ⟨x, S1, rfl, g⟩ := s1I_nb go_nb h; obtain ⟨rfl, g⟩ := gd_go g; cases g; exact lv_i2s hx hb hdg rfl (kk ls H locs hL hI hl)
    case ladd => obtain ⟨x, y, S1, rfl, g⟩ := s2J_nb go_nb h; obtain ⟨rfl, g⟩ := gd_go g; cases g; exact lv_ladd hx hb hdg (kk ls H locs hL hI hl)
    case lmul => obtain ⟨x, y, S1, rfl, g⟩ := s2J_nb go_nb h; obtain ⟨rfl, g⟩ := gd_go g; cases g; exact lv_lmul hx hb hdg (kk ls H locs hL hI hl)
    case ldiv => obtain ⟨x, y, S1, rfl, g⟩ := s2J_nb go_nb h; obtain ⟨hn, g⟩ := if_bn go_nb g; obtain ⟨rfl, g⟩ := gd_go g; cases g; exact lv_ldiv hx hb hdg hn (kk ls H locs hL hI hl)
    case lrem => obtain ⟨x, y, S1, rfl, g⟩ := s2J_nb go_nb h; obtain ⟨hn, g⟩ := if_bn go_nb g; obtain ⟨rfl, g⟩ := gd_go g; cases g; exact lv_lrem hx hb hdg hn (kk ls H locs hL hI hl)
    case lcmp => obtain ⟨x, y, S1, rfl, g⟩ := s2J_nb go_nb h; obtain ⟨rfl, g⟩ := gd_go g; cases g; exact W.lcmp hx hb hdg (kk ls H locs hL hI hl)
    case dup => obtain ⟨v, S1, rfl, hv, g⟩ := s1V_nb go_nb h; obtain ⟨rfl, g⟩ := gd_go g; cases g; exact lv_dup hx hb hdg (by rw [cvv_cat]; exact hv) (kk ls H locs hL hI hl)
    case pop => obtain ⟨v, S1, rfl, hv, g⟩ := s1V_nb go_nb h; obtain ⟨rfl, g⟩ := gd_go g; cases g; exact lv_pop hx hb hdg (by rw [cvv_cat]; exact hv) (kk ls H locs hL hI hl)
    case dup2 => obtain ⟨v, w, S1, rfl, hv, hw, g⟩ := s2V_nb go_nb h; obtain ⟨rfl, g⟩ := gd_go g; cases g; exact lv_dup2_11 hx hb hdg (by rw [cvv_cat]; exact hv) (by rw [cvv_cat]; exact hw) (kk ls H locs hL hI hl)
    case if_icmp cd off =>
      obtain ⟨x, y, S1, rfl, g⟩ := s2I_nb go_nb h
      obtain ⟨rfl, g⟩ := gd_go g
      obtain ⟨tn, ht, rfl, rfl, rfl, rfl⟩ := bjm_go g
      exact sg_icmp hx hb ht hdg (kk ls H locs hL hI hl)
    case ifCond cd off =>
      obtain ⟨x, S1, rfl, g⟩ := s1I_nb go_nb h
      obtain ⟨rfl, g⟩ := gd_go g
      obtain ⟨tn, ht, rfl, rfl, rfl, rfl⟩ := bjm_go g
      exact sg_if hx hb ht hdg (kk ls H locs hL hI hl)
    case goto off =>
      obtain ⟨rfl, g⟩ := gd_go h
      obtain ⟨ht, rfl, rfl, rfl⟩ := jmp_go g
      exact lv_goto hx hb hdg ht (kk ls H locs hL hI hl)
    case tableswitch dflt lo hi offs =>
      obtain ⟨x, S1, rfl, g⟩ := s1I_nb go_nb h
      unfold tsw at g
      split at g
      · rename_i ho
        obtain ⟨ht, rfl, rfl, rfl⟩ := jmp_go g
        exact lv_tableOut hx hb hdg ho ht (kk ls H locs hL hI hl)
      · rename_i ho
        split at g
        · rename_i off hoff
          obtain ⟨ht, rfl, rfl, rfl⟩ := jmp_go g
          exact lv_tableIn hx hb hdg (fun q => ho (Or.inl q)) (fun q => ho (Or.inr q)) hoff ht (kk ls H locs hL hI hl)
        · cases g
    case lookupswitch dflt ps =>
      obtain ⟨x, S1, rfl, g⟩ := s1I_nb go_nb h
      unfold lsw at g
      obtain ⟨hp, g⟩ := if_nb go_nb g
      obtain ⟨ht, rfl, rfl, rfl⟩ := jmp_go g
      exact lv_lookup hx hb hdg hp rfl ht (kk ls H locs hL hI hl)
    case getfield idx =>
      obtain ⟨rfl, g⟩ := gd_go h
      have q := (sg_get (l := l) (e := e) (R := R) (below := below) (meth := meth) (H := H) (locs := locs) (cells := cells) (slots := slots) (Q := Q) (ls := ls) C1 hdg g hI.1)
      unfold gtf at g
      obtain ⟨k, S1, rfl, g1⟩ := s1R_nb go_nb g
      split at g1
      · obtain ⟨-, g2⟩ := if_nb go_nb g1
        cases g2
        exact (q (kk ls H locs hL hI hl)).2
      · cases g1
    case putfield idx =>
      obtain ⟨rfl, g⟩ := gd_go h
      have hLL : L' = L := by
        unfold ptf at g
        obtain ⟨v, k, S1, rfl, g1⟩ := sIR_nb go_nb g
        split at g1
        · obtain ⟨-, g2⟩ := if_nb go_nb g1
          split at g2
          · cases g2; rfl
          · obtain ⟨-, g3⟩ := if_nb go_nb g2
            cases g3; rfl
          · cases g2
        · cases g1
      subst hLL
      exact (sg_put C1 (hD σ) hdg g hI (fun H1 locs1 hI1 => kk ls H1 locs1 hL hI1 hl)).2
    case iaload =>
      obtain ⟨rfl, g⟩ := gd_go h
      have hLL : L' = L ∧ σ' = σ := by
        unfold ald at g
        obtain ⟨v, k, S1, rfl, g1⟩ := sIR_nb go_nb g
        split at g1
        · obtain ⟨-, g2⟩ := if_nb go_nb g1
          cases g2; exact ⟨rfl, rfl⟩
        · obtain ⟨-, g2⟩ := if_nb go_nb g1
          cases g2; exact ⟨rfl, rfl⟩
      obtain ⟨rfl, rfl⟩ := hLL
      exact (sg_ald C1 (b := false) hdg g hI (kk ls H locs hL hI hl)).2
    case baload =>
      obtain ⟨rfl, g⟩ := gd_go h
      have hLL : L' = L ∧ σ' = σ := by
        unfold ald at g
        obtain ⟨v, k, S1, rfl, g1⟩ := sIR_nb go_nb g
        split at g1
        · obtain ⟨-, g2⟩ := if_nb go_nb g1
          cases g2; exact ⟨rfl, rfl⟩
        · obtain ⟨-, g2⟩ := if_nb go_nb g1
          cases g2; exact ⟨rfl, rfl⟩
      obtain ⟨rfl, rfl⟩ := hLL
      exact (sg_ald C1 (b := true) hdg g hI (kk ls H locs hL hI hl)).2
    case iastore =>
      obtain ⟨rfl, g⟩ := gd_go h
      have hLL : L' = L := by
        unfold ast at g
        obtain ⟨w, v, k, S1, rfl, g1⟩ := sIIR_nb go_nb g
        split at g1
        · obtain ⟨-, g2⟩ := if_nb go_nb g1
          cases g2; rfl
        · cases g1
      subst hLL
      exact (sg_ast C1 (hD σ) (b := false) hdg g hI (fun H1 locs1 hI1 => kk ls H1 locs1 hL hI1 hl)).2
    case bastore =>
      obtain ⟨rfl, g⟩ := gd_go h
      have hLL : L' = L := by
        unfold ast at g
        obtain ⟨w, v, k, S1, rfl, g1⟩ := sIIR_nb go_nb g
        split at g1
        · obtain ⟨-, g2⟩ := if_nb go_nb g1
          cases g2; rfl
        · cases g1
      subst hLL
      exact (sg_ast C1 (hD σ) (b := true) hdg g hI (fun H1 locs1 hI1 => kk ls H1 locs1 hL hI1 hl)).2
    case arraylength =>
      obtain ⟨k, S1, rfl, g1⟩ := s1R_nb go_nb h
      obtain ⟨hkk, g2⟩ := if_nb go_nb g1
      obtain ⟨rfl, g3⟩ := gd_go g2
      cases g3
      subst hkk
      have q := kk ls H locs hL hI hl
      rw [List.map_cons, cvv_int, hI.2.2.2] at q
      exact va_slen hx hb hX hbl hbA hI.2.1 hdg q
    case invokestatic idx =>
      simp only [ist] at h
      split at h
      · obtain ⟨-, g⟩ := gd_go h
        unfold ccl at g
        obtain ⟨-, g⟩ := if_nb go_nb g
        cases g
      · split at h
        · rename_i hh hk
          obtain ⟨rfl, g⟩ := gd_go h
          have hLL : L' = L := by
            unfold acp at g
            split at g
            · split at g
              · obtain ⟨-, g2⟩ := if_nb go_nb g
                cases g2; rfl
              · cases g
            · cases g
          subst hLL
          exact (sg_acp C1 (hD σ) hl hL hk hRf hRl hdg g hI (fun H1 locs1 hI1 => kk ls H1 locs1 hL hI1 hl)).2
        · rename_i hh hk
          obtain ⟨x, y, S1, rfl, g⟩ := s2I_nb go_nb h
          obtain ⟨hcs, g⟩ := if_nb go_nb g
          obtain ⟨rfl, g⟩ := gd_go g
          cases g
          exact va_mmin hx hb (by rw [hml, hl.1, hL]) hown (hts _ (okMn hk)) (hts _ mnStat) (hts _ mIni) (hts _ mnCode) hRf (by rw [cvv_csm]; omega) hc hs hdg (kk ls H locs hL hI hl)
        · rename_i hh hk
          obtain ⟨x, y, S1, rfl, g⟩ := s2I_nb go_nb h
          obtain ⟨hcs, g⟩ := if_nb go_nb g
          obtain ⟨rfl, g⟩ := gd_go g
          cases g
          exact va_mmax hx hb (by rw [hml, hl.1, hL]) hown (hts _ (okMx hk)) (hts _ mxStat) (hts _ mIni) (hts _ mxCode) hRf (by rw [cvv_csm]; omega) hc hs hdg (kk ls H locs hL hI hl)
        · cases h
    case invokevirtual idx =>
      simp only [ist] at h
      split at h
      · obtain ⟨-, g⟩ := gd_go h
        unfold ccl at g
        obtain ⟨-, g⟩ := if_nb go_nb g
        cases g
      · cases h
    case ireturn =>
      simp only [ist] at h
      split at h
      · obtain ⟨-, g⟩ := if_nb go_nb h
        cases g
      · cases h
    case lreturn =>
      simp only [ist] at h
      split at h
      · obtain ⟨-, g⟩ := if_nb go_nb h
        cases g
      · cases h
    case areturn =>
      simp only [ist] at h
      split at h
      · obtain ⟨-, g⟩ := if_nb go_nb h
        cases g
      · cases h
    case return_ =>
      simp only [ist] at h
      split at h
      · obtain ⟨-, g⟩ := if_nb go_nb h
        cases g
      · cases h
    all_goals exact absurd (show bad = go pc' L' S' σ' from h).symm go_nb
  · cases h
end SGO
