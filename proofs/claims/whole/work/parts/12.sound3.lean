/-! the small machine is sound -/
def rmD (d : Nat) : Room := { frames := d + 1, cells := 0, slots := 0, locals := 64 * (d + 1) }
def SND (l : Launch) (D : va_G) (cA : Nat → ClassId) (ad : Nat → Nat) (Ln : Nat) (xs : Nat → Int32) (A : Nat → Prop) (n : Nat) : Prop :=
  ∀ (d : Nat) (md : MD) (pc : Nat) (L S : List Value) (σ : Sg) (r : Option Value) (σ' : Sg), ev n d md pc L S σ = some (r, σ') →
    ∀ (p : Program) (e : Env) (R : Room) (s : State) (m : MethodId) (args : Array Value) (below : List Frame) (meth : Method) (c : Code) (H : Heap) (locs : List Loc) (cells slots : Nat) (Q : State → Prop) (ls : Array Slot),
      Ctx p s m args c md D cA ad Ln xs A → d + 1 ≤ R.frames → 64 * (d + 1) ≤ R.locals → cells ≤ R.cells → slots ≤ R.slots → L.length = md.2.2.1 → Inv s H locs D cA ad Ln xs A σ → LR ad L ls →
      (∀ (pc' : Nat) (ls' : Array Slot) (H' : Heap) (locs' : List Loc) (ri : Instr), decode md.2.1 pc' = .ok (ri, 1) → rsh ri md r → Inv s H' locs' D cA ad Ln xs A σ' → W p l e R s m args below meth c H' locs' cells slots Q (F0 m pc' ls' (r.toList.map (cvv ad)))) →
      W p l e R s m args below meth c H locs cells slots Q (F0 m pc ls (S.map (cvv ad)))
def PcD (D : va_G) (cA : Nat → ClassId) (ad : Nat → Nat) (Ln : Nat) (xs : Nat → Int32) (as : List Value) (σ : Sg) : Array Value → State → Prop := fun v U => v = (as.map (cvv ad)).toArray ∧ va_P D vwCl (wd ad cA σ) U.heap ∧ va_K D vwCl (tyl cA) U ∧ (∀ w ∈ lw_tbl, nst w = true → va_Nw w U) ∧ va_X (ad nC) Ln xs U U.heap ∧ ad nC < U.heap.size
def QcD (D : va_G) (cA : Nat → ClassId) (ad : Nat → Nat) (Ln : Nat) (xs : Nat → Int32) (A : Nat → Prop) (r : Option Value) (σ' : Sg) : Array Value → State → Outcome → State → Prop := fun _ st oc t => oc = .returned (r.map (cvv ad)) ∧ va_P D vwCl (wd ad cA σ') t.heap ∧ Scr Ln xs σ' ∧ va_F A st t
theorem PcD.blind {D : va_G} {cA : Nat → ClassId} {ad : Nat → Nat} {Ln : Nat} {xs : Nat → Int32} {as : List Value} {σ : Sg} : FrameBlind (PcD D cA ad Ln xs as σ) := by
  intro a U g mk q
  obtain ⟨q1, q2, q3, q4, q5, q6⟩ := q
  refine ⟨q1, q2, va_K.moved (u := U) (U := U.calling g mk a) (Vm.Alike.refl U.vm) q3, fun w hw hn => ?_, va_X.moved (u := U) (U := U.calling g mk a) (Vm.Alike.refl U.vm) q5, q6⟩
  have h := q4 w hw hn
  cases w <;> first | (cases hn; done) | exact va_Nw.same rfl (u := U) (U := U.calling g mk a) rfl h
def wsD (md : MD) : List Cond := .code md.1 md.2.1 md.2.2.1 md.2.2.2.1 :: TB
theorem wsD_good {md : MD} (h : CodeIn md) : GoodIn TB (wsD md) := by
  intro w hw
  rcases List.mem_cons.mp hw with rfl | hw
  · exact TB_good _ h
  · exact TB_good _ hw
theorem rtI_spec {ret : Option FieldType} {v : Int32} (h : rtI ret v = true) : ∃ ty, ret = some ty ∧ narrow ty (.int v) = .int v := by
  unfold rtI at h
  split at h
  · exact ⟨_, rfl, rfl⟩
  · exact ⟨_, rfl, (b01_spec h).1⟩
  · cases h
theorem isO_spec {ret : Option FieldType} (h : isO ret = true) : ∃ n, ret = some (.object n) := by
  unfold isO at h
  split at h
  · exact ⟨_, rfl⟩
  · cases h
set_option maxHeartbeats 4000000 in
theorem metD {l : Launch} {D : va_G} {cA : Nat → ClassId} {ad : Nat → Nat} {Ln : Nat} {xs : Nat → Int32} {A : Nat → Prop} {n d : Nat} {md : MD} {as : List Value} {σ σ' : Sg} {r : Option Value}
    (ih : SND l D cA ad Ln xs A n) (hA : ¬ A (ad nC)) (hLn : Ln < 2 ^ 31) (hsc : Scr Ln xs σ) (he : ev n d md 0 (ini md as) [] σ = some (r, σ')) (hpl : plainName md.1.cls = true) (hon : onm md.2.2.2.2.1 = md.1.cls) (hcs : csm as ≤ md.2.2.1) :
    Met l md.1 (wsD md) (rmD d) (PcD D cA ad Ln xs as σ) (QcD D cA ad Ln xs A r σ') 0 0 A := by
  refine Met.ofW (cc := md.2.1) (maxL := md.2.2.1) (ret := md.2.2.2.1) hpl rfl ?_
  intro p e s m args below meth c s₁ B hml hv
  obtain ⟨rfl, hP, hK, hN, hX, hbl⟩ := hv
  have hts := atoms_spec (ws := wsD md) B.pre
  have hown : s.vm.findClass md.1.cls = some m.cls := findClass_of_methodNamed B.named
  have hlocks := B.notSynchronized
  have hr := B.returns
  rw [lg_entry_eq]
  refine ih d md 0 (ini md as) [] σ r σ' he p e (rmD d) s m _ below meth c s.heap [] 0 0 _ _ ⟨B.exec, B.bytes, hml, by rw [hon]; exact hown, fun w hw => hts w (List.mem_cons_of_mem _ hw), hN, hK, hX, hbl, hA, hLn⟩ (Nat.le_refl _) (Nat.le_refl _) (Nat.zero_le _) (Nat.zero_le _) (ini_len hcs) ⟨hP, va_S.rf, hsc⟩ (LR.entry hcs) ?_
  intro pc' ls' H' locs' ri hdg hrs hI
  have hq : ∀ t : State, t.heap = H' → s.WarmedH t.vm → QcD D cA ad Ln xs A r σ' ((as.map (cvv ad)).toArray) s (.returned (r.map (cvv ad))) t := fun t ht _ => ⟨rfl, by rw [ht]; exact hI.1, hI.2.2, hI.2.1.F ht⟩
  rcases hrs with ⟨v, rfl, rfl, h1⟩ | ⟨v, rfl, rfl, h1⟩ | ⟨k, rfl, rfl, h1⟩ | ⟨rfl, rfl, h1⟩
  · obtain ⟨ty, h2, h3⟩ := rtI_spec h1
    exact W.zret B.exec B.bytes (by rw [hr, h2]) h3 hq hI.2.1.2.2 hdg hlocks
  · exact W.lret B.exec B.bytes (by rw [hr, h1]) hq hI.2.1.2.2 hdg hlocks
  · obtain ⟨nm, h2⟩ := isO_spec h1
    exact W.aret B.exec B.bytes (rt := .object nm) (by rw [hr, h2]) (Or.inl ⟨nm, rfl⟩) (Or.inr ⟨ad k, rfl⟩) hq hI.2.1.2.2 hdg hlocks
  · exact W.vret B.exec B.bytes (by rw [hr, h1]) hq hI.2.1.2.2 hdg hlocks
section SBK
variable {p : Program} {l : Launch} {e : Env} {R : Room} {s : State} {m : MethodId} {args : Array Value} {below : List Frame} {meth : Method} {c : Code} {H : Heap} {locs : List Loc} {cells slots : Nat} {Q : State → Prop}
variable {D : va_G} {cA : Nat → ClassId} {ad : Nat → Nat} {Ln : Nat} {xs : Nat → Int32} {A : Nat → Prop} {pc : Nat} {σ' : Sg} {ls : Array Slot} {st0 rest : List Value} {a : Array Value} {r : Option Value}
theorem sg_back (hr : va_Run p l e R s m args below meth c H locs cells slots 0 0 (F0 m pc ls st0) rest (QcD D cA ad Ln xs A r σ' a) A) (hS : va_S A s.heap H locs)
    (kk : ∀ (H1 : Heap) (locs1 : List Loc), va_P D vwCl (wd ad cA σ') H1 → va_S A s.heap H1 locs1 → Scr Ln xs σ' → W p l e R s m args below meth c H1 locs1 cells slots Q (F0 m (pc + 3) ls ((r.map (cvv ad)).toList ++ rest))) : W p l e R s m args below meth c H locs cells slots Q (F0 m pc ls st0) := by
  intro T hT X
  obtain ⟨v, st₀, t, T', L, h0, X', hL, e1, e2, ⟨hv, hp, hsc, hz, hk⟩, st⟩ := hr T hT X
  cases hv
  rw [h0] at hz hk
  obtain ⟨t2, a1, b1⟩ := kk T'.heap (locs ++ L) (by rw [e1]; exact hp)
    ⟨Nat.le_trans hS.1 (by rw [e1]; exact hz), fun q h1 h2 => by rw [e1, hk q (Nat.lt_of_lt_of_le h1 hS.1) h2]; exact hS.2.1 q h1 h2, fun q hq => by
      rcases List.mem_append.mp hq with h | h
      · exact hS.2.2 q h
      · exact hL q h⟩ hsc T' rfl X'
  exact ⟨t2, st t2 a1, b1⟩
end SBK
theorem map_opt (ad : Nat → Nat) (r : Option Value) (S : List Value) : (r.map (cvv ad)).toList ++ S.map (cvv ad) = (r.toList ++ S).map (cvv ad) := by
  cases r <;> simp
set_option maxHeartbeats 4000000 in
theorem sound {l : Launch} {D : va_G} {cA : Nat → ClassId} {ad : Nat → Nat} {Ln : Nat} {xs : Nat → Int32} {A : Nat → Prop} (hD : ∀ σ, va_D A (wd ad cA σ)) : ∀ n, SND l D cA ad Ln xs A n := by
  intro n
  induction n with
  | zero => intro d md pc L S σ r σ' h; simp [ev] at h
  | succ n ih =>
    intro d md pc L S σ r σ' h p e R s m args below meth c H locs cells slots Q ls C0 hRf hRl hc hs hL hI hl hret
    rw [ev] at h
    match hst : stp md pc L S σ with
    | .inl o =>
      rw [hst] at h
      cases h
      obtain ⟨ri, hdg, hrs, rfl, rfl⟩ := step_dn hst
      exact hret pc ls H locs ri hdg hrs hI
    | .inr (.inl (pc1, L1, S1, σ1)) =>
      rw [hst] at h
      exact step_go C0 hD hL (by omega) (by omega) hc hs hst hI hl (fun ls1 H1 locs1 hL1 hI1 hl1 => ih d md pc1 L1 S1 σ1 r σ' h p e R s m args below meth c H1 locs1 cells slots Q ls1 C0 hRf hRl hc hs hL1 hI1 hl1 hret)
    | .inr (.inr (m', as, pc1, L1, S1)) =>
      rw [hst] at h
      match d, h, hRf, hRl with
      | 0, h, _, _ => cases h
      | d' + 1, h, hRf, hRl =>
        dsimp only at h
        match hcal : ev n d' m' 0 (ini m' as) [] σ with
        | none => rw [hcal] at h; cases h
        | some (r1, σ1) =>
          rw [hcal] at h
          dsimp only at h
          obtain ⟨virt, idx, hs', hk, hdg, rfl, hlen, hcs, hca, hrok, rfl, rfl⟩ := step_cl hst
          have C1 := C0
          obtain ⟨hx, hb, hml, hown, hts, hN, hK, hX, hbl, hbA, hLn⟩ := C0
          obtain ⟨hP, hS, hsc⟩ := hI
          have hpre : ∀ U : State, U.heap = H → s.WarmedH U.vm → PcD D cA ad Ln xs as σ ((as.map (cvv ad)).toArray) U := by
            intro U hU hW
            refine ⟨rfl, by rw [hU]; exact hP, va_K.moved hW.alike hK, fun w hw hn => ?_, ?_, ?_⟩
            · have h := hN w hw hn
              cases w <;> first | (cases hn; done) | exact va_Nw.warmF hW h | exact va_Nw.warmM hW h
            · rw [hU]
              exact va_X.moved hW.alike (hX.kept (hS.2.1 _ hbl hbA))
            · rw [hU]
              exact Nat.lt_of_lt_of_le hbl hS.1
          have hroom : (rmD d').frames + 1 ≤ R.frames ∧ 8 + (m'.2.2.1 + 11) + (rmD d').locals ≤ R.locals ∨ 40 < m'.2.2.1 := by
            by_cases q : m'.2.2.1 ≤ 40
            · left; show d' + 1 + 1 ≤ R.frames ∧ 8 + (m'.2.2.1 + 11) + 64 * (d' + 1) ≤ R.locals; omega
            · right; omega
          have hstk : (as.reverse ++ S1).map (cvv ad) = (as.map (cvv ad)).reverse ++ S1.map (cvv ad) := by rw [List.map_append, List.map_reverse]
          have hcsm : ((S1.map (cvv ad)).map fun v => v.category).sum ≤ 8 := by rw [cvv_csm]; exact hcs
          have hgo : ∀ (H1 : Heap) (locs1 : List Loc), va_P D vwCl (wd ad cA σ1) H1 → va_S A s.heap H1 locs1 → Scr Ln xs σ1 → W p l e R s m args below meth c H1 locs1 cells slots Q (F0 m (pc + 3) ls ((r1.map (cvv ad)).toList ++ S1.map (cvv ad))) := by
            intro H1 locs1 h1 h2 h3
            rw [map_opt]
            exact ih (d' + 1) md (pc + 3) _ (r1.toList ++ S1) σ1 r σ' h p e R s m args below meth c H1 locs1 cells slots Q ls C1 hRf hRl hc hs hL ⟨h1, h2, h3⟩ hl hret
          rw [hstk]
          cases virt with
          | true =>
            obtain ⟨hlk, hin, hsel, ⟨hini, hm1, hm2, hpd, hon, hpl, h40⟩, hpos, hvw⟩ := okV hk
            have hcd : CodeIn m' := tV_ok _ (lkup_mem hk)
            have hM := metD (d := d') ih hbA hLn hsc hcal hpl hon hca
            obtain ⟨k, hk1, as', rfl⟩ : ∃ k, rv0 as = some k ∧ ∃ as', as = .ref k :: as' := by
              have q := hrok rfl
              unfold rok rv0 at q
              split at q
              · rename_i k hk
                split at hk
                · cases hk; exact ⟨_, rfl, _, rfl⟩
                · cases hk
              · cases q
            have hrecv : ∃ cell : Cell, H[ad k]? = some cell ∧ cell.vm.isStatics = false ∧ s.vm.findClass m'.1.cls = some cell.cls := by
              have q := hrok rfl
              unfold rok at q
              rw [hk1] at q
              dsimp only at q
              split at q
              · rename_i ci nf ho
                have hci : ci = m'.2.2.2.2.1 := by simpa using q
                subst hci
                cases hv : vwCl[m'.2.2.2.2.1]? with
                | none => rw [hv] at hvw; cases hvw
                | some qq =>
                  rw [hv] at hvw
                  have h9 : qq.1 = m'.1.cls := Option.some.inj hvw
                  rw [← h9]
                  exact va_recv hK hP hv (show (wd ad cA σ)[k]? = some (ad k, .inr (m'.2.2.2.2.1, _)) by rw [wd_get (shO_lt ho), cel_obj ho])
              · cases q
            have hroom := hroom.resolve_right (by omega)
            have hlen' : (as'.map (cvv ad)).length = m'.2.2.2.2.2 - 1 := by
              rw [List.length_map]
              simp only [List.length_cons] at hlen
              omega
            have hst2 : (List.map (cvv ad) (Value.ref k :: as')).reverse ++ List.map (cvv ad) S1 = (as'.map (cvv ad)).reverse ++ .ref (ad k) :: S1.map (cvv ad) := by simp [cvv]
            rw [hst2]
            rcases hlk with hlk | hlk
            · exact sg_back (va_runV (As := as'.map (cvv ad)) (rest := S1.map (cvv ad)) (b := ad k) (C := m'.1.cls) ⟨hx, hb, hml, hown, hts⟩ hM ⟨callB_of (m'.2.2.2.2.2 - 1) hts (wsD_good hcd) rfl rfl rfl (hts _ hini) (hts _ hlk) ⟨hm1, hm2, hpd⟩ hroom, hts _ hin, hts _ hsel⟩ ⟨PcD.blind, hrecv, hpre⟩ rfl hlen' (by rw [hl.1, hL]) rfl (lv_room hcsm) hdg ⟨hc, hs⟩) hS hgo
            · exact sg_back (va_runVN (As := as'.map (cvv ad)) (rest := S1.map (cvv ad)) (b := ad k) (C := m'.1.cls) ⟨hx, hb, hml, hown, hts⟩ hM ⟨va_cnB (m'.2.2.2.2.2 - 1) hts (wsD_good hcd) rfl rfl rfl (hN _ hlk rfl) (hts _ hini) ⟨hm1, hm2, hpd⟩ hroom, hts _ hin, hts _ hsel⟩ ⟨PcD.blind, hrecv, hpre⟩ rfl hlen' (by rw [hl.1, hL]) rfl (lv_room hcsm) hdg ⟨hc, hs⟩) hS hgo
          | false =>
            obtain ⟨hlk, hst', ⟨hini, hm1, hm2, hpd, hon, hpl, h40⟩⟩ := okS hk
            have hcd : CodeIn m' := tS_ok _ (lkup_mem hk)
            have hM := metD (d := d') ih hbA hLn hsc hcal hpl hon hca
            have hroom := hroom.resolve_right (by omega)
            have hlen' : (as.map (cvv ad)).length = m'.2.2.2.2.2 := by rw [List.length_map]; exact hlen
            rcases hlk with hlk | hlk
            · exact sg_back (va_runS (As := as.map (cvv ad)) (rest := S1.map (cvv ad)) ⟨hx, hb, hml, hown, hts⟩ hM ⟨callB_of (m'.2.2.2.2.2) hts (wsD_good hcd) rfl rfl rfl (hts _ hini) (hts _ hlk) ⟨hm1, hm2, hpd⟩ hroom, hts _ hst'⟩ ⟨PcD.blind, hpre⟩ rfl hlen' (by rw [hl.1, hL]) rfl (lv_room hcsm) hdg ⟨hc, hs⟩) hS hgo
            · exact sg_back (va_runSN (As := as.map (cvv ad)) (rest := S1.map (cvv ad)) ⟨hx, hb, hml, hown, hts⟩ hM ⟨va_cnB (m'.2.2.2.2.2) hts (wsD_good hcd) rfl rfl rfl (hN _ hlk rfl) (hts _ hini) ⟨hm1, hm2, hpd⟩ hroom, hts _ hst', trivial⟩ ⟨PcD.blind, hpre⟩ rfl hlen' (by rw [hl.1, hL]) rfl (lv_room hcsm) hdg ⟨hc, hs⟩) hS hgo
