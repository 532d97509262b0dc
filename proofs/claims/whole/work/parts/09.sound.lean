/-! the small machine's runs are the machine's -/
theorem gd_go {len k : Nat} {a : Act} {pc : Nat} {L S : List Value} {σ : Sg} (h : gd len k a = go pc L S σ) : len = k ∧ a = go pc L S σ := by
  unfold gd at h; split at h
  · exact ⟨by assumption, h⟩
  · cases h
theorem gd_cl {len k : Nat} {a : Act} {m : MD} {as : List Value} {pc : Nat} {L S : List Value} (h : gd len k a = cl m as pc L S) : len = k ∧ a = cl m as pc L S := by
  unfold gd at h; split at h
  · exact ⟨by assumption, h⟩
  · cases h
theorem gd_dn {len k : Nat} {a : Act} {o : Option Value × Sg} (h : gd len k a = .inl (some o)) : len = k ∧ a = .inl (some o) := by
  unfold gd at h; split at h
  · exact ⟨by assumption, h⟩
  · cases h
theorem if_nb {c : Prop} [Decidable c] {a b : Act} (hb : b ≠ bad) (h : (if c then a else bad) = b) : c ∧ a = b := by
  split at h
  · exact ⟨by assumption, h⟩
  · exact absurd h.symm hb
theorem if_bn {c : Prop} [Decidable c] {a b : Act} (hb : b ≠ bad) (h : (if c then bad else a) = b) : ¬ c ∧ a = b := by
  split at h
  · exact absurd h.symm hb
  · exact ⟨by assumption, h⟩
theorem ldI_nb {L : List Value} {i : Nat} {k : Int32 → Act} {b : Act} (hb : b ≠ bad) (h : ldI L i k = b) : ∃ x, L[i]? = some (.int x) ∧ k x = b := by
  unfold ldI at h; split at h
  · exact ⟨_, by assumption, h⟩
  · exact absurd h.symm hb
theorem ldJ_nb {L : List Value} {i : Nat} {k : Int64 → Act} {b : Act} (hb : b ≠ bad) (h : ldJ L i k = b) : ∃ x, L[i]? = some (.long x) ∧ k x = b := by
  unfold ldJ at h; split at h
  · exact ⟨_, by assumption, h⟩
  · exact absurd h.symm hb
theorem ldA_nb {L : List Value} {i : Nat} {k : Nat → Act} {b : Act} (hb : b ≠ bad) (h : ldA L i k = b) : ∃ x, L[i]? = some (.ref x) ∧ k x = b := by
  unfold ldA at h; split at h
  · exact ⟨_, by assumption, h⟩
  · exact absurd h.symm hb
theorem s1I_nb {S : List Value} {k : Int32 → List Value → Act} {b : Act} (hb : b ≠ bad) (h : s1I S k = b) : ∃ x S', S = .int x :: S' ∧ k x S' = b := by
  unfold s1I at h; split at h
  · exact ⟨_, _, rfl, h⟩
  · exact absurd h.symm hb
theorem s2I_nb {S : List Value} {k : Int32 → Int32 → List Value → Act} {b : Act} (hb : b ≠ bad) (h : s2I S k = b) : ∃ x y S', S = .int y :: .int x :: S' ∧ k x y S' = b := by
  unfold s2I at h; split at h
  · exact ⟨_, _, _, rfl, h⟩
  · exact absurd h.symm hb
theorem s1J_nb {S : List Value} {k : Int64 → List Value → Act} {b : Act} (hb : b ≠ bad) (h : s1J S k = b) : ∃ x S', S = .long x :: S' ∧ k x S' = b := by
  unfold s1J at h; split at h
  · exact ⟨_, _, rfl, h⟩
  · exact absurd h.symm hb
theorem s2J_nb {S : List Value} {k : Int64 → Int64 → List Value → Act} {b : Act} (hb : b ≠ bad) (h : s2J S k = b) : ∃ x y S', S = .long y :: .long x :: S' ∧ k x y S' = b := by
  unfold s2J at h; split at h
  · exact ⟨_, _, _, rfl, h⟩
  · exact absurd h.symm hb
theorem s1R_nb {S : List Value} {k : Nat → List Value → Act} {b : Act} (hb : b ≠ bad) (h : s1R S k = b) : ∃ x S', S = .ref x :: S' ∧ k x S' = b := by
  unfold s1R at h; split at h
  · exact ⟨_, _, rfl, h⟩
  · exact absurd h.symm hb
theorem sIR_nb {S : List Value} {k : Int32 → Nat → List Value → Act} {b : Act} (hb : b ≠ bad) (h : sIR S k = b) : ∃ y x S', S = .int y :: .ref x :: S' ∧ k y x S' = b := by
  unfold sIR at h; split at h
  · exact ⟨_, _, _, rfl, h⟩
  · exact absurd h.symm hb
theorem sIIR_nb {S : List Value} {k : Int32 → Int32 → Nat → List Value → Act} {b : Act} (hb : b ≠ bad) (h : sIIR S k = b) : ∃ z y x S', S = .int z :: .int y :: .ref x :: S' ∧ k z y x S' = b := by
  unfold sIIR at h; split at h
  · exact ⟨_, _, _, _, rfl, h⟩
  · exact absurd h.symm hb
theorem s1V_nb {S : List Value} {k : Value → List Value → Act} {b : Act} (hb : b ≠ bad) (h : s1V S k = b) : ∃ v S', S = v :: S' ∧ v.category = 1 ∧ k v S' = b := by
  unfold s1V at h; split at h
  · obtain ⟨h1, h2⟩ := if_nb hb h
    exact ⟨_, _, rfl, h1, h2⟩
  · exact absurd h.symm hb
theorem s2V_nb {S : List Value} {k : Value → Value → List Value → Act} {b : Act} (hb : b ≠ bad) (h : s2V S k = b) : ∃ v w S', S = v :: w :: S' ∧ v.category = 1 ∧ w.category = 1 ∧ k v w S' = b := by
  unfold s2V at h; split at h
  · obtain ⟨h1, h2⟩ := if_nb hb h
    exact ⟨_, _, _, rfl, h1.1, h1.2, h2⟩
  · exact absurd h.symm hb
theorem go_nb {pc : Nat} {L S : List Value} {σ : Sg} : go pc L S σ ≠ bad := fun h => by cases h
theorem cl_nb {m : MD} {as : List Value} {pc : Nat} {L S : List Value} : cl m as pc L S ≠ bad := fun h => by cases h
/-- what a method's walk stands on -/
def Ctx (p : Program) (s : State) (m : MethodId) (args : Array Value) (c : Code) (md : MD) (D : va_G) (cA : Nat → ClassId) (ad : Nat → Nat) (Ln : Nat) (xs : Nat → Int32) (A : Nat → Prop) : Prop :=
  p.tables.exec = Jvm.exec ∧ c.code = md.2.1 ∧ c.maxLocals = md.2.2.1 ∧ s.vm.findClass (onm md.2.2.2.2.1) = some m.cls ∧ (∀ w ∈ TB, w.before args s = true) ∧ (∀ w ∈ lw_tbl, nst w = true → va_Nw w s) ∧ va_K D vwCl (tyl cA) s ∧ va_X (ad nC) Ln xs s s.heap ∧ ad nC < s.heap.size ∧ ¬ A (ad nC) ∧ Ln < 2 ^ 31
def Scr (Ln : Nat) (xs : Nat → Int32) (σ : Sg) : Prop := (∀ j, j < Ln → σ nC j = xs j) ∧ σ (nC + 1) 0 = Int32.ofNat Ln
def Inv (s : State) (H : Heap) (locs : List Loc) (D : va_G) (cA : Nat → ClassId) (ad : Nat → Nat) (Ln : Nat) (xs : Nat → Int32) (A : Nat → Prop) (σ : Sg) : Prop := va_P D vwCl (wd ad cA σ) H ∧ va_S A s.heap H locs ∧ Scr Ln xs σ
theorem Scr.up {Ln : Nat} {xs : Nat → Int32} {σ : Sg} {k j : Nat} {v : Int32} (h : Scr Ln xs σ) (hk : k < nC) : Scr Ln xs (up σ k j v) := by
  refine ⟨fun i hi => ?_, ?_⟩
  · rw [up_off (by omega)]; exact h.1 i hi
  · rw [up_off (by omega)]; exact h.2
section SND
variable {p : Program} {l : Launch} {e : Env} {R : Room} {s : State} {m : MethodId} {args : Array Value} {below : List Frame} {meth : Method} {c : Code} {H : Heap} {locs : List Loc} {cells slots : Nat} {Q : State → Prop}
variable {D : va_G} {cA : Nat → ClassId} {ad : Nat → Nat} {Ln : Nat} {xs : Nat → Int32} {A : Nat → Prop} {md : MD} {pc pc' len : Nat} {L S L' S' : List Value} {σ σ' : Sg} {ls : Array Slot}
/-- get -/
theorem sg_get (C0 : Ctx p s m args c md D cA ad Ln xs A) {idx : Nat} (hdg : decode md.2.1 pc = .ok (.getfield idx, 3)) (h : gtf md pc idx L S σ = go pc' L' S' σ') (hP : va_P D vwCl (wd ad cA σ) H)
    (kk : W p l e R s m args below meth c H locs cells slots Q (F0 m pc' ls (S'.map (cvv ad)))) : (L' = L ∧ σ' = σ) ∧ W p l e R s m args below meth c H locs cells slots Q (F0 m pc ls (S.map (cvv ad))) := by
  obtain ⟨hx, hb, hml, hown, hts, hN, hK, -⟩ := C0
  unfold gtf at h
  obtain ⟨k, S1, rfl, g1⟩ := s1R_nb go_nb h
  split at g1
  · rename_i ci f hh cj n hf ho
    obtain ⟨⟨rfl, hfn⟩, g2⟩ := if_nb go_nb g1
    cases g2
    refine ⟨⟨rfl, rfl⟩, ?_⟩
    obtain ⟨C, T, N, hv, hfN, hC, hl⟩ := okF hf
    have hin := (cls_words ci C T N hv).1
    have he : (wd ad cA σ)[k]? = some (ad k, .inr (ci, (List.range n).map (fun f => cvv ad (fvl σ k f)))) := by rw [wd_get (shO_lt ho), cel_obj ho]
    have hvv : ((List.range n).map (fun f => cvv ad (fvl σ k f)))[f]? = some (cvv ad (fvl σ k f)) := by rw [List.getElem?_map, List.getElem?_range hfn]; rfl
    rcases hl with hl | hl
    · exact va_get hx hb hts hin hown hK hP k he hv f hfN (hts _ hl) (fun x hx => by rw [hC] at hx; exact hx) hvv hdg kk
    · exact va_getN hx hb hts hin hown hK hP k he hv f hfN (va_Nw.use rfl (hN _ hl rfl)) (fun x hx => by rw [hC] at hx; exact hx) hvv hdg kk
  · first | cases h | cases g1 | cases g2
theorem b01_spec {v : Int32} (h : b01 v = true) : narrow .boolean (.int v) = .int v ∧ fits .boolean (.int v) = true ∧ vp_nar .boolean v = v := by
  unfold b01 at h
  rcases decide_eq_true_iff.mp h with rfl | rfl
  · exact ⟨by decide +kernel, by decide +kernel, by decide +kernel⟩
  · exact ⟨by decide +kernel, by decide +kernel, by decide +kernel⟩
/-- put -/
theorem sg_put (C0 : Ctx p s m args c md D cA ad Ln xs A) (hD : va_D A (wd ad cA σ)) {idx : Nat} (hdg : decode md.2.1 pc = .ok (.putfield idx, 3)) (h : ptf md pc idx L S σ = go pc' L' S' σ') (hI : Inv s H locs D cA ad Ln xs A σ)
    (kk : ∀ (H1 : Heap) (locs1 : List Loc), Inv s H1 locs1 D cA ad Ln xs A σ' → W p l e R s m args below meth c H1 locs1 cells slots Q (F0 m pc' ls (S'.map (cvv ad)))) : L' = L ∧ W p l e R s m args below meth c H locs cells slots Q (F0 m pc ls (S.map (cvv ad))) := by
  obtain ⟨hx, hb, hml, hown, hts, hN, hK, -⟩ := C0
  obtain ⟨hP, hS, hX⟩ := hI
  unfold ptf at h
  obtain ⟨v, k, S1, rfl, g1⟩ := sIR_nb go_nb h
  split at g1
  · rename_i ci f hh cj n hf ho
    obtain ⟨⟨rfl, hfn, hr⟩, g2⟩ := if_nb go_nb g1
    obtain ⟨C, T, N, hv, hfN, hC, hl⟩ := okF hf
    obtain ⟨hin, ⟨ty0, hty⟩, hnm⟩ := cls_words ci C T N hv
    have he : (wd ad cA σ)[k]? = some (ad k, .inr (ci, (List.range n).map (fun f => cvv ad (fvl σ k f)))) := by rw [wd_get (shO_lt ho), cel_obj ho]
    have hlen : f < ((List.range n).map (fun f => cvv ad (fvl σ k f))).length := by simp; exact hfn
    have key : ∀ (ty : FieldType), (T f).2.2.2 = false → parseFieldDescriptor (T f).2.2.1 = some ty → narrow ty (.int v) = .int v → fits ty (.int v) = true → (∀ (H1 : Heap) (locs1 : List Loc), Inv s H1 locs1 D cA ad Ln xs A (up σ k f v) → W p l e R s m args below meth c H1 locs1 cells slots Q (F0 m (pc + 3) ls (S1.map (cvv ad)))) → W p l e R s m args below meth c H locs cells slots Q (F0 m pc ls ((Value.int v :: Value.ref k :: S1).map (cvv ad))) := by
      intro ty hfin hd hn hft kk
      have hw : (wd ad cA σ).set k (ad k, .inr (ci, ((List.range n).map (fun f => cvv ad (fvl σ k f))).set f (.int v))) = wd ad cA (up σ k f v) := wd_set (shO_lt ho) (cel_put ho hfn hr) (fun j hj => cel_off (up_off hj))
      rcases hl with hl | hl
      · refine va_put hx hb hts hin ty0 hty hnm hown hK hP hD hS k he hv f hfN (hts _ hl) (fun x hx => by rw [hC] at hx; exact hx) hfin hd hn hft hlen hdg (fun H1 locs1 h1 _ h3 => ?_)
        rw [cvv_int, hw] at h1
        exact kk H1 locs1 ⟨h1, h3, hX.up (shO_lt ho)⟩
      · refine va_putN hx hb hts hin ty0 hty hnm hown hK hP hD hS k he hv f hfN (va_Nw.use rfl (hN _ hl rfl)) (fun x hx => by rw [hC] at hx; exact hx) hfin hd hn hft hlen hdg (fun H1 locs1 h1 _ h3 => ?_)
        rw [cvv_int, hw] at h1
        exact kk H1 locs1 ⟨h1, h3, hX.up (shO_lt ho)⟩
    split at g2
    · rename_i hp
      obtain ⟨-, hfin, hd⟩ := okP hp C T N hv
      cases g2
      exact ⟨rfl, key .int hfin hd rfl rfl kk⟩
    · rename_i hp
      obtain ⟨-, hfin, hd⟩ := okP hp C T N hv
      obtain ⟨hb1, g3⟩ := if_nb go_nb g2
      cases g3
      exact ⟨rfl, key .boolean hfin hd (b01_spec hb1).1 (b01_spec hb1).2.1 kk⟩
    · first | cases h | cases g1 | cases g2
  · first | cases h | cases g1 | cases g2
theorem clamp_len (h : Ln < 2 ^ 31) : (Int32.ofNat Ln).toNatClampNeg = Ln := nI_clamp h
/-- array reads -/
theorem sg_ald (C0 : Ctx p s m args c md D cA ad Ln xs A) {b : Bool} (hdg : decode md.2.1 pc = .ok (if b = true then Instr.baload else .iaload, 1)) (h : ald b pc L S σ = go pc' L' S' σ') (hI : Inv s H locs D cA ad Ln xs A σ)
    (kk : W p l e R s m args below meth c H locs cells slots Q (F0 m pc' ls (S'.map (cvv ad)))) : (L' = L ∧ σ' = σ) ∧ W p l e R s m args below meth c H locs cells slots Q (F0 m pc ls (S.map (cvv ad))) := by
  obtain ⟨hx, hb, hml, hown, hts, hN, hK, hX, hbl, hbA, hLn⟩ := C0
  obtain ⟨hP, hS, hc⟩ := hI
  unfold ald at h
  obtain ⟨i, k, S1, rfl, g1⟩ := sIR_nb go_nb h
  split at g1
  · rename_i b' n ha
    obtain ⟨⟨rfl, hi⟩, g2⟩ := if_nb go_nb g1
    cases g2
    refine ⟨⟨rfl, rfl⟩, ?_⟩
    obtain ⟨t0, ht⟩ := tyl_get (cA := cA) ha
    have he : (wd ad cA σ)[k]? = some (ad k, .inl (cA k, n, .inl (σ k))) := by rw [wd_get (shA_lt ha), cel_arr ha]
    cases b' with
    | false => exact va_iald hx hb hK hP k t0 he ht (inb_vp.mp hi) hdg kk
    | true => exact va_zald hx hb hK hP k t0 he ht (inb_vp.mp hi) hdg kk
  · obtain ⟨⟨rfl, rfl, hi⟩, g3⟩ := if_nb go_nb g1
    cases g3
    refine ⟨⟨rfl, rfl⟩, ?_⟩
    rw [hc.2, clamp_len hLn] at hi
    have hv := inb_vp.mp hi
    have hlt : i.toNatClampNeg < Ln := by
      unfold vp_in at hv
      exact Nat.lt_of_not_le (fun q => hv (Or.inr q))
    rw [List.map_cons, cvv_int, hc.1 _ hlt] at kk
    exact va_sld hx hb hX hbl hbA hS hv hdg kk
/-- array writes -/
theorem sg_ast (C0 : Ctx p s m args c md D cA ad Ln xs A) (hD : va_D A (wd ad cA σ)) {b : Bool} (hdg : decode md.2.1 pc = .ok (if b = true then Instr.bastore else .iastore, 1)) (h : ast b pc L S σ = go pc' L' S' σ') (hI : Inv s H locs D cA ad Ln xs A σ)
    (kk : ∀ (H1 : Heap) (locs1 : List Loc), Inv s H1 locs1 D cA ad Ln xs A σ' → W p l e R s m args below meth c H1 locs1 cells slots Q (F0 m pc' ls (S'.map (cvv ad)))) : L' = L ∧ W p l e R s m args below meth c H locs cells slots Q (F0 m pc ls (S.map (cvv ad))) := by
  obtain ⟨hx, hb, hml, hown, hts, hN, hK, hX, hbl, hbA, hLn⟩ := C0
  obtain ⟨hP, hS, hc⟩ := hI
  unfold ast at h
  obtain ⟨v, i, k, S1, rfl, g1⟩ := sIIR_nb go_nb h
  split at g1
  · rename_i b' n ha
    obtain ⟨⟨rfl, hi, hz⟩, g2⟩ := if_nb go_nb g1
    cases g2
    refine ⟨rfl, ?_⟩
    obtain ⟨t0, ht⟩ := tyl_get (cA := cA) ha
    have he : (wd ad cA σ)[k]? = some (ad k, .inl (cA k, n, .inl (σ k))) := by rw [wd_get (shA_lt ha), cel_arr ha]
    have hw : (wd ad cA σ).set k (ad k, .inl (cA k, n, .inl (upd (σ k) i.toNatClampNeg v))) = wd ad cA (up σ k i.toNatClampNeg v) := wd_set (shA_lt ha) (by rw [cel_arr ha, up_row]) (fun j hj => cel_off (up_off hj))
    cases b' with
    | false =>
      refine va_iast hx hb hK hP hD hS k t0 he ht (inb_vp.mp hi) hdg (fun H1 locs1 h1 _ h3 => ?_)
      rw [hw] at h1
      exact kk H1 locs1 ⟨h1, h3, hc.up (shA_lt ha)⟩
    | true =>
      refine va_zast hx hb hK hP hD hS k t0 he ht (inb_vp.mp hi) hdg (fun H1 locs1 h1 _ h3 => ?_)
      rw [(b01_spec (hz rfl)).2.2, hw] at h1
      exact kk H1 locs1 ⟨h1, h3, hc.up (shA_lt ha)⟩
  · first | cases h | cases g1 | cases g2
theorem fits_i (x : Int32) : fits .int (.int x) = true := rfl
/-- System.arraycopy -/
theorem sg_acp (C0 : Ctx p s m args c md D cA ad Ln xs A) (hD : va_D A (wd ad cA σ)) (hl : LR ad L ls) (hL : L.length = md.2.2.1) {idx h0 : Nat} (ha : lkup tA md.2.2.2.2.1 idx = some (0, h0)) (hRf : 1 ≤ R.frames) (hRl : 64 ≤ R.locals) (hdg : decode md.2.1 pc = .ok (.invokestatic idx, 3)) (h : acp pc L S σ = go pc' L' S' σ') (hI : Inv s H locs D cA ad Ln xs A σ)
    (kk : ∀ (H1 : Heap) (locs1 : List Loc), Inv s H1 locs1 D cA ad Ln xs A σ' → W p l e R s m args below meth c H1 locs1 cells slots Q (F0 m pc' ls (S'.map (cvv ad)))) : L' = L ∧ W p l e R s m args below meth c H locs cells slots Q (F0 m pc ls (S.map (cvv ad))) := by
  obtain ⟨hx, hb, hml, hown, hts, hN, hK, hX, hbl, hbA, hLn⟩ := C0
  obtain ⟨hP, hS, hc⟩ := hI
  unfold acp at h
  split at h
  · rename_i n dp k1 sp k0 S1
    split at h
    · rename_i n0 n1 h0' h1'
      obtain ⟨⟨⟨q1, q2, q3, q4, q5⟩, q6⟩, g1⟩ := if_nb go_nb h
      cases g1
      refine ⟨rfl, ?_⟩
      obtain ⟨t0, ht0⟩ := tyl_get (cA := cA) h0'
      obtain ⟨t1, ht1⟩ := tyl_get (cA := cA) h1'
      have he0 : (wd ad cA σ)[k0]? = some (ad k0, .inl (cA k0, n0, .inl (σ k0))) := by rw [wd_get (shA_lt h0'), cel_arr h0']
      have he1 : (wd ad cA σ)[k1]? = some (ad k1, .inl (cA k1, n1, .inl (σ k1))) := by rw [wd_get (shA_lt h1'), cel_arr h1']
      have hw : (wd ad cA σ).set k1 (ad k1, .inl (cA k1, n1, .inl (va_cpy (σ k0) (σ k1) sp.toNatClampNeg dp.toNatClampNeg n.toNatClampNeg))) = wd ad cA (cpA σ k0 k1 sp.toNatClampNeg dp.toNatClampNeg n.toNatClampNeg) := wd_set (shA_lt h1') (by rw [cel_arr h1']; simp [cpA]) (fun j hj => cel_off (by simp [cpA, hj]))
      have hscr : Scr Ln xs (cpA σ k0 k1 sp.toNatClampNeg dp.toNatClampNeg n.toNatClampNeg) := by
        have hk := shA_lt h1'
        refine ⟨fun i hi => ?_, ?_⟩
        · simp only [cpA, if_neg (show ¬ nC = k1 by omega)]; exact hc.1 i hi
        · simp only [cpA, if_neg (show ¬ nC + 1 = k1 by omega)]; exact hc.2
      refine va_copyi hx hb (by rw [hml, hl.1, hL]) hown (hts _ (okA ha)) (hts _ acNat) (hts _ acStat) (hts _ acIni) hK hP hD hS k0 k1 t0 t1 he0 he1 ht0 ht1 rfl q1 q2 q3 q4 q5 (fun i _ => fits_i _) hRf ?_ hdg (fun H1 locs1 h1 _ h3 => ?_)
      · rw [cvv_csm]
        have hnw : nativeFrameWords "java/lang/System" "arraycopy" 5 + 11 ≤ 56 := by decide +kernel
        omega
      · rw [hw] at h1
        exact kk H1 locs1 ⟨h1, h3, hscr⟩
    · first | cases h | cases g1 | cases g2
  · first | cases h | cases g1 | cases g2
end SND
