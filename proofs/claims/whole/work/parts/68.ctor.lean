/-! constructors, in the machine itself: a new array into a field, a new object with its constructor's call -/
def PshI (cc : ByteArray) (pc ln : Nat) (v : Int32) : Prop := (∃ n, decode cc pc = .ok (.iconst n, 1) ∧ Int32.ofInt n = v ∧ ln = 1) ∨ (∃ n, decode cc pc = .ok (.bipush n, 2) ∧ (Int8.ofInt n).toInt32 = v ∧ ln = 2) ∨ (∃ n, decode cc pc = .ok (.sipush n, 3) ∧ (Int16.ofInt n).toInt32 = v ∧ ln = 3)
abbrev aTy (bb : Bool) : FieldType := if bb = true then .boolean else .int
theorem wArI : Cond.arrayClass .int ∈ TB := TB_in (by decide +kernel) (by decide +kernel)
theorem wArZ : Cond.arrayClass .boolean ∈ TB := TB_in (by decide +kernel) (by decide +kernel)
def PcI (D : va_G) (ci : Nat) (fs : List Value) (h0 sz : Nat) : Array Value → State → Prop := fun v U => v = ([.ref h0] : List Value).toArray ∧ U.heap.size = sz ∧ va_P D vwCl [(h0, .inr (ci, fs))] U.heap ∧ va_K D vwCl [] U ∧ ∀ w ∈ lw_tbl, nst w = true → va_Nw w U
theorem PcI.blind {D : va_G} {ci : Nat} {fs : List Value} {h0 sz : Nat} : FrameBlind (PcI D ci fs h0 sz) := by
  intro a U g mk q
  obtain ⟨q1, q2, q3, q4, q5⟩ := q
  refine ⟨q1, q2, q3, va_K.moved (u := U) (U := U.calling g mk a) (Vm.Alike.refl U.vm) q4, fun w hw hn => ?_⟩
  have h := q5 w hw hn
  cases w <;> first | (cases hn; done) | exact va_Nw.same rfl (u := U) (U := U.calling g mk a) rfl h
def QcI (D : va_G) (h0 : Nat) (A : Nat → Prop) {S : Type} (blk : Nat → S → va_W) (tyf : S → List (ClassId × FieldType)) : Array Value → State → Outcome → State → Prop := va_Qv (fun _ : S => True) (fun u t => va_P D vwCl (blk h0 u) t.heap ∧ va_K D vwCl (tyf u) t ∧ va_D A (blk h0 u)) A
theorem ctOne {q : Nat} {e : va_E} {sz : Nat} : va_D (va_A [(q, e)] sz) [(q, e)] := by
  refine ⟨fun i j x y hx hy _ => ?_, fun k x hk => va_A.in hk⟩
  have h1 := (List.getElem?_eq_some_iff.mp hx).1
  have h2 := (List.getElem?_eq_some_iff.mp hy).1
  simp only [List.length_cons, List.length_nil] at h1 h2
  omega
theorem ctJoin {A0 : Nat → Prop} {D : va_G} {cl : List vw_C} {ws w1 : va_W} {q : Nat} {e : va_E} {H H1 : Heap} (hP : va_P D cl (ws ++ [(q, e)]) H) (hD : va_D A0 (ws ++ [(q, e)])) (hk : ∀ x : Nat, x < H.size → ¬ va_A [(q, e)] H.size x → H1[x]? = H[x]?) (hF : ∀ x, va_A [(q, e)] H.size x → A0 x) (hP1 : va_P D cl w1 H1) (hD1 : va_D (va_A [(q, e)] H.size) w1) : va_P D cl (ws ++ w1) H1 ∧ va_D A0 (ws ++ w1) := by
  have hw : ∀ (k : Nat) (x : Nat × va_E), ws[k]? = some x → (ws ++ [(q, e)])[k]? = some x := fun k x h => by rw [List.getElem?_append_left (List.getElem?_eq_some_iff.mp h).1]; exact h
  have ap : ∀ (k : Nat) (x : Nat × va_E), ws[k]? = some x → x.1 < H.size ∧ ¬ va_A [(q, e)] H.size x.1 := by
    intro k x h
    have hl := (hP k x (hw k x h)).lt
    refine ⟨hl, fun z => ?_⟩
    rcases z with ⟨j, e', z⟩ | z
    · have hx : x.1 = q := by
        match j, z with
        | 0, z => exact (congrArg Prod.fst (Option.some.inj z)).symm
        | j + 1, z => simp at z
      have hi := hD.1 k ws.length x (q, e) (hw k x h) (by rw [List.getElem?_append_right (Nat.le_refl _), Nat.sub_self]; rfl) hx
      have := (List.getElem?_eq_some_iff.mp h).1
      omega
    · omega
  exact ⟨va_P.app (fun k x h => (hP k x (hw k x h)).kept (hk x.1 (ap k x h).1 (ap k x h).2)) hP1, va_D.app ⟨fun i j x y hx hy => hD.1 i j x y (hw i x hx) (hw j y hy), fun k x h => hD.2 k x (hw k x h)⟩ (hD1.weaken (fun _ x _ h => hF x.1 h)) (fun i j x y hx hy hxy => (ap i x hx).2 (by rw [hxy]; exact hD1.2 j y hy))⟩
section CTR
variable {p : Program} {l : Launch} {e : Env} {R : Room} {s : State} {m : MethodId} {args : Array Value} {below : List Frame} {meth : Method} {c : Code} {H : Heap} {locs : List Loc} {cells slots : Nat} {Q : State → Prop}
variable {D : va_G} {A : Nat → Prop} {tys : List (ClassId × FieldType)} {ws : va_W} {ls : Array Slot} {rest : List Value} {cc : ByteArray}
theorem ctPush (hx : p.tables.exec = Jvm.exec) (hb : c.code = cc) {pc ln : Nat} {v : Int32} (h : PshI cc pc ln v) (kk : W p l e R s m args below meth c H locs cells slots Q (F0 m (pc + ln) ls (.int v :: rest))) : W p l e R s m args below meth c H locs cells slots Q (F0 m pc ls rest) := by
  rcases h with ⟨n, h1, h2, rfl⟩ | ⟨n, h1, h2, rfl⟩ | ⟨n, h1, h2, rfl⟩
  · exact lv_iconst hx hb h1 h2 kk
  · exact lv_bipush hx hb h1 h2 kk
  · exact lv_sipush hx hb h1 h2 kk
/-- aload_0, a length, newarray, putfield -/
theorem ctArr {C : String} {T : u_T} {N ci idx pc ln k h0 n : Nat} {fs : List Value} {v : Int32} (bb : Bool)
    (hx : p.tables.exec = Jvm.exec) (hb : c.code = cc) (hts : ∀ w ∈ TB, w.before args s = true) (hown : s.vm.findClass C = some m.cls) (hin2 : meth.name = "<init>") (hcl : vwCl[ci]? = some (C, T, N))
    (hK : va_K D vwCl tys s) (hP : va_P D vwCl ((h0, .inr (ci, fs)) :: ws) H) (hD : va_D A ((h0, .inr (ci, fs)) :: ws)) (hS : va_S A s.heap H locs) (hA : ∀ q, s.heap.size ≤ q → A q)
    (hl : ls[0]? = some (.val (.ref h0))) (hk : k < N) (hfin : (T k).2.2.2 = true ∧ (T k).1 = C ∧ parseFieldDescriptor (T k).2.2.1 = some (.array (aTy bb))) (hlen : fs.length = N) (hlk : Cond.fieldLink C idx C (T k).2.1 (T k).2.2.1 ∈ TB)
    (d0 : decode cc pc = .ok (.aload_n 0, 1)) (d1 : PshI cc (pc + 1) ln v) (d2 : decode cc (pc + 1 + ln) = .ok (.newarray (if bb = true then .boolean else .int), 2)) (d3 : decode cc (pc + 1 + ln + 2) = .ok (.putfield idx, 3))
    (hn : ¬ v < 0 ∧ v.toNatClampNeg = n ∧ n ≤ 2000) (hcells : cells + 1 ≤ R.cells) (hslots : slots + n ≤ R.slots)
    (kk : ∀ (q : Nat) (cA : ClassId) (H1 : Heap) (locs1 : List Loc), va_K D vwCl (tys ++ [(cA, aTy bb)]) s → va_P D vwCl ((h0, .inr (ci, fs.set k (.ref q))) :: (ws ++ [(q, .inl (cA, n, .inl (fun _ => nI 0)))])) H1 → va_D A ((h0, .inr (ci, fs.set k (.ref q))) :: (ws ++ [(q, .inl (cA, n, .inl (fun _ => nI 0)))])) → va_S A s.heap H1 locs1 → W p l e R s m args below meth c H1 locs1 (cells + 1) (slots + n) Q (F0 m (pc + 1 + ln + 2 + 3) ls [])) :
    W p l e R s m args below meth c H locs cells slots Q (F0 m pc ls []) := by
  obtain ⟨hin, ⟨ty0, hty⟩, hnm⟩ := cls_words ci C T N hcl
  refine lv_aload_n hx hb d0 rfl hl ?_
  refine ctPush hx hb d1 ?_
  cases bb with
  | false =>
    refine va_newa (atype := .int) (ty := .int) hx hb (hts _ wArI) rfl hK hP hD hS hA (a0 := (n, .inl fun _ => nI 0)) (fun cA => rfl) hn.1 hn.2.1 (by show n * 4 ≤ _; have := hn.2.2; omega) hcells hslots d2 (fun q cA H1 hK hP hD hS => ?_)
    exact va_putF (D := D) (v := .ref q) hx hb hts hin ty0 hty hnm hown hK hP hD hS 0 rfl hcl k hk (hts _ hlk) (fun x h => by rw [hfin.2.1] at h; exact h) hfin.1 hin2 hfin.2.1 hfin.2.2 rfl rfl (by omega) d3 (fun H locs hP hD hS => kk q cA H locs hK hP hD hS)
  | true =>
    refine va_newa (atype := .boolean) (ty := .boolean) hx hb (hts _ wArZ) rfl hK hP hD hS hA (a0 := (n, .inl fun _ => nI 0)) (fun cA => rfl) hn.1 hn.2.1 (by show n * 1 ≤ _; have := hn.2.2; omega) hcells hslots d2 (fun q cA H1 hK hP hD hS => ?_)
    exact va_putF (D := D) (v := .ref q) hx hb hts hin ty0 hty hnm hown hK hP hD hS 0 rfl hcl k hk (hts _ hlk) (fun x h => by rw [hfin.2.1] at h; exact h) hfin.1 hin2 hfin.2.1 hfin.2.2 rfl rfl (by omega) d3 (fun H locs hP hD hS => kk q cA H locs hK hP hD hS)
/-- new, dup, the constructor's call -/
theorem ctNew {own C : String} {T : u_T} {N ci idx idx2 pc nL maxL mc ms : Nat} {fs : List Value} {y : MethodName} {bytes : ByteArray} {rm : Room} {S : Type} {blk : Nat → S → va_W} {tyf : S → List (ClassId × FieldType)}
    (hx : p.tables.exec = Jvm.exec) (hb : c.code = cc) (hml : c.maxLocals = nL) (hts : ∀ w ∈ TB, w.before args s = true) (hN : ∀ w ∈ lw_tbl, nst w = true → va_Nw w s) (hown : s.vm.findClass own = some m.cls) (hcl : vwCl[ci]? = some (C, T, N)) (ty : Nat → FieldType) (hty : ∀ k, k < N → parseFieldDescriptor (T k).2.2.1 = some (ty k)) (hfs : ∀ j, j < N → defaultValue (ty j) = vp_V fs j)
    (hK : va_K D vwCl tys s) (hP : va_P D vwCl ws H) (hD : va_D A ws) (hS : va_S A s.heap H locs) (hA : ∀ q, s.heap.size ≤ q → A q)
    (wCl : Cond.classLink own idx C ∈ TB) (wIn : Cond.instantiable C N ∈ TB) (wIi : Cond.initialized C ∈ TB)
    (hM : ∀ h0 sz : Nat, Met l y (Cond.code y bytes maxL none :: TB) rm (PcI D ci fs h0 sz) (QcI D h0 (va_A [(h0, .inr (ci, fs))] sz) blk tyf) mc ms (va_A [(h0, .inr (ci, fs))] sz)) (hrc : rm.cells = mc) (hrs : rm.slots = ms) (hR : rm.frames + 1 ≤ R.frames ∧ 8 + (maxL + 11) + rm.locals ≤ R.locals)
    (hyC : y.cls = C) (hyn : y.name = "<init>") (hyd : y.cls ≠ "java/lang/invoke/MethodHandle" ∧ y.cls ≠ "java/lang/invoke/VarHandle" ∧ (parseMethodDescriptor y.desc).map (fun d => d.parameters.length) = some 0) (wIm : Cond.instanceMethod y ∈ TB) (wCd : Cond.code y bytes maxL none ∈ TB)
    (wLk : Cond.methodLink own idx2 y ∈ TB ∨ (Cond.methodLinkNest own idx2 y "GuildPiece" ∈ lw_tbl ∧ nst (Cond.methodLinkNest own idx2 y "GuildPiece") = true))
    (d1 : decode cc pc = .ok (.new idx, 3)) (d2 : decode cc (pc + 3) = .ok (.dup, 1)) (d3 : decode cc (pc + 4) = .ok (.invokespecial idx2, 3)) (hls : ls.size = nL) (hrest : (rest.map fun v => v.category).sum ≤ 7) (hcells : cells + 1 + mc ≤ R.cells) (hslots : slots + N + ms ≤ R.slots)
    (kk : ∀ (q : Nat) (u : S) (H1 : Heap) (locs1 : List Loc), va_K D vwCl (tys ++ tyf u) s → va_P D vwCl (ws ++ blk q u) H1 → va_D A (ws ++ blk q u) → va_S A s.heap H1 locs1 → W p l e R s m args below meth c H1 locs1 (cells + 1 + mc) (slots + N + ms) Q (F0 m (pc + 7) ls (.ref q :: rest))) :
    W p l e R s m args below meth c H locs cells slots Q (F0 m pc ls rest) := by
  obtain ⟨hin, -, hnm⟩ := cls_words ci C T N hcl
  refine va_new (ci := ci) (fs := fs) hx hb hts hin ty hty hown (hts _ wCl) (hts _ wIn) (hts _ wIi) hK hP hD hS hA hcl hfs (by omega) (by omega) d1 (fun q H hP hD hS => ?_)
  refine lv_dup hx hb d2 rfl ?_
  have hq : (ws ++ [(q, (.inr (ci, fs) : va_E))])[ws.length]? = some (q, .inr (ci, fs)) := by rw [List.getElem?_append_right (Nat.le_refl _), Nat.sub_self]; rfl
  have hPc : va_P D vwCl [(q, .inr (ci, fs))] H := by
    intro k x hk
    match k, hk with
    | 0, hk => cases hk; exact hP _ _ hq
    | k + 1, hk => simp at hk
  have hFc : ∀ x, va_A [(q, (.inr (ci, fs) : va_E))] H.size x → A x := by
    intro x h
    rcases h with ⟨j, e', z⟩ | z
    · match j, z with
      | 0, z => cases z; exact hD.2 _ _ hq
      | j + 1, z => simp at z
    · exact hA x (Nat.le_trans hS.1 z)
  have hpre : PreS s H (PcI D ci fs q H.size) [.ref q] := ⟨PcI.blind, fun U hU hW => ⟨rfl, by rw [hU], by rw [hU]; exact hPc, va_K.moved hW.alike (hK.sub (tys' := []) [] rfl), fun w hw hn => by
    have h := hN w hw hn
    cases w <;> first | (cases hn; done) | exact va_Nw.warmF hW h | exact va_Nw.warmM hW h⟩⟩
  have hG : GoodIn TB (Cond.code y bytes maxL none :: TB) := by
    intro w hw
    rcases List.mem_cons.mp hw with rfl | hw
    · exact TB_good _ wCd
    · exact TB_good _ hw
  have hroom : (((.ref q :: rest : List Value)).map fun v => v.category).sum ≤ 8 := by
    rw [List.map_cons, List.sum_cons]
    show 1 + (rest.map fun v => v.category).sum ≤ 8
    omega
  have hini : (Cond.initialized y.cls).before args s = true := by rw [hyC]; exact hts _ wIi
  have run : va_Run p l e R s m args below meth c H locs (cells + 1) (slots + N) mc ms (F0 m (pc + 4) ls (.ref q :: .ref q :: rest)) (.ref q :: rest) (QcI D q (va_A [(q, .inr (ci, fs))] H.size) blk tyf (Value.ref q :: []).toArray) (va_A [(q, .inr (ci, fs))] H.size) := by
    rcases wLk with wLk | wLk
    · exact va_runI (As := []) (rest := .ref q :: rest) (b := q) ⟨hx, hb, hml, hown, hts⟩ (hM q H.size) (cwI 0 hts hG rfl hrc hrs hini (hts _ wLk) (hts _ wIm) hyn hyd hR) hpre rfl rfl hls rfl (lv_room hroom) d3 ⟨hcells, hslots⟩
    · exact va_runIN (As := []) (rest := .ref q :: rest) (b := q) ⟨hx, hb, hml, hown, hts⟩ (hM q H.size) ⟨va_cnB 0 hts hG rfl hrc hrs (hN _ wLk.1 wLk.2) hini hyd hR, hyn, hts _ wIm⟩ hpre rfl rfl hls rfl (lv_room hroom) d3 ⟨hcells, hslots⟩
  refine va_callv run hS (fun x _ h => hFc x h) hFc (fun u t H1 locs1 ht hvm _ hB hz1 hk1 hS => ?_)
  obtain ⟨hP1, hK1, hD1⟩ := hB
  rw [ht] at hP1
  obtain ⟨hP, hD⟩ := ctJoin hP hD hk1 hFc hP1 hD1
  exact kk q u H1 locs1 (hK.app (va_K.moved hvm.symm hK1)) hP hD hS
end CTR
