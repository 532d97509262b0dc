/-! what the tables' words say of the links -/
def TB : List Cond := lw_tbl.filter goodWord
theorem TB_in {w : Cond} (h : w ∈ lw_tbl) (g : goodWord w = true) : w ∈ TB := List.mem_filter.mpr ⟨h, g⟩
theorem TB_good : ∀ w ∈ TB, w ∈ TB ∧ ((w.onTables && w.keeps) = true ∨ ∃ ty, w = .arrayClass ty) := fun _ h => ⟨h, good_of_word (List.mem_filter.mp h).2⟩
def nst (w : Cond) : Bool := match w with
  | .fieldLinkNest _ _ _ _ _ _ => true
  | .methodLinkNest _ _ _ _ => true
  | _ => false
def atG (h : Nat) (w : Cond) : Bool := decide (lw_tbl[h]? = some w) && goodWord w
def atN (h : Nat) (w : Cond) : Bool := decide (lw_tbl[h]? = some w) && nst w
theorem atG_in {h : Nat} {w : Cond} (q : atG h w = true) : w ∈ TB := by
  unfold atG at q
  simp only [Bool.and_eq_true, decide_eq_true_eq] at q
  exact TB_in (List.mem_of_getElem? q.1) q.2
theorem atN_in {h : Nat} {w : Cond} (q : atN h w = true) : w ∈ lw_tbl ∧ nst w = true := by
  unfold atN at q
  simp only [Bool.and_eq_true, decide_eq_true_eq] at q
  exact ⟨List.mem_of_getElem? q.1, q.2⟩
def ckF (e : Nat × Nat × (Nat × Nat × Nat)) : Bool := match vwCl[e.2.2.1]? with
  | some (C, T, N) => decide (e.2.2.2.1 < N) && (decide ((T e.2.2.2.1).1 = C) && (atG e.2.2.2.2 (.fieldLink (onm e.1) e.2.1 C (T e.2.2.2.1).2.1 (T e.2.2.2.1).2.2.1) || atN e.2.2.2.2 (.fieldLinkNest (onm e.1) e.2.1 C (T e.2.2.2.1).2.1 (T e.2.2.2.1).2.2.1 "GuildPiece")))
  | none => false
theorem ckF_all : tF.all ckF = true := by decide +kernel
def ckC (e : Nat × Nat × (Int32 × Nat)) : Bool := atG e.2.2.2 (.constant (onm e.1) e.2.1 e.2.2.1)
theorem ckC_all : tC.all ckC = true := by decide +kernel
def ckL (e : Nat × Nat × (Int64 × Nat)) : Bool := atG e.2.2.2 (.constantLong (onm e.1) e.2.1 e.2.2.1)
theorem ckL_all : tL.all ckL = true := by decide +kernel
def ckMd (md : MD) (n hi : Nat) : Bool := (atG hi (.initialized md.1.cls) && (decide (md.1.cls ≠ "java/lang/invoke/MethodHandle") && (decide (md.1.cls ≠ "java/lang/invoke/VarHandle") && (decide ((parseMethodDescriptor md.1.desc).map (fun d => d.parameters.length) = some n) && (decide (onm md.2.2.2.2.1 = md.1.cls) && (plainName md.1.cls && decide (md.2.2.1 ≤ 40)))))))
def ckLk (o i h : Nat) (y : MethodName) : Bool := atG h (.methodLink (onm o) i y) || atN h (.methodLinkNest (onm o) i y "GuildPiece")
def ckV (e : Nat × Nat × (MD × List Nat)) : Bool := match e.2.2.2 with
  | [hl, hi, hs, _, hn] => ckLk e.1 e.2.1 hl e.2.2.1.1 && (atG hi (.instanceMethod e.2.2.1.1) && (atG hs (.selects e.2.2.1.1.cls e.2.2.1.1 e.2.2.1.1) && (ckMd e.2.2.1 (e.2.2.1.2.2.2.2.2 - 1) hn && (decide (0 < e.2.2.1.2.2.2.2.2) && decide ((vwCl[e.2.2.1.2.2.2.2.1]?).map (fun q => q.1) = some e.2.2.1.1.cls)))))
  | _ => false
theorem ckV_all : tV.all ckV = true := by decide +kernel
def ckS (e : Nat × Nat × (MD × List Nat)) : Bool := match e.2.2.2 with
  | [hl, hs, _, hn] => ckLk e.1 e.2.1 hl e.2.2.1.1 && (atG hs (.static e.2.2.1.1) && ckMd e.2.2.1 e.2.2.1.2.2.2.2.2 hn)
  | _ => false
theorem ckS_all : tS.all ckS = true := by decide +kernel
def ckA (e : Nat × Nat × (Nat × Nat)) : Bool := if e.2.2.1 = 0 then atG e.2.2.2 (.methodLink (onm e.1) e.2.1 arraycopyName) else if e.2.2.1 = 1 then atG e.2.2.2 (.methodLink (onm e.1) e.2.1 Lib.Math.min.name) else atG e.2.2.2 (.methodLink (onm e.1) e.2.1 Lib.Math.max.name)
theorem ckA_all : tA.all ckA = true := by decide +kernel
theorem mnStat : Cond.static Lib.Math.min.name ∈ TB := TB_in (by decide +kernel) (by decide +kernel)
theorem mxStat : Cond.static Lib.Math.max.name ∈ TB := TB_in (by decide +kernel) (by decide +kernel)
theorem mIni : Cond.initialized "java/lang/Math" ∈ TB := TB_in (by decide +kernel) (by decide +kernel)
theorem mnCode : Cond.code Lib.Math.min.name Lib.Math.min.code 2 (some .int) ∈ TB := TB_in (by decide +kernel) (by decide +kernel)
theorem mxCode : Cond.code Lib.Math.max.name Lib.Math.max.code 2 (some .int) ∈ TB := TB_in (by decide +kernel) (by decide +kernel)
theorem acNat : Cond.native arraycopyName ∈ TB := TB_in (by decide +kernel) (by decide +kernel)
theorem acStat : Cond.static arraycopyName ∈ TB := TB_in (by decide +kernel) (by decide +kernel)
theorem acIni : Cond.initialized "java/lang/System" ∈ TB := TB_in (by decide +kernel) (by decide +kernel)
def ckP (e : Nat × Nat × Nat) : Bool := match vwCl[e.1]? with
  | some (_, T, N) => decide (e.2.1 < N) && (decide ((T e.2.1).2.2.2 = false) && decide (parseFieldDescriptor (T e.2.1).2.2.1 = some (if e.2.2 = 1 then FieldType.int else .boolean)))
  | none => false
theorem ckP_all : tP.all ckP = true := by decide +kernel
/-- the classes' own words -/
theorem cls_words : ∀ (ci : Nat) (C : String) (T : u_T) (N : Nat), vwCl[ci]? = some (C, T, N) → (∀ w ∈ u_ws C T N, w ∈ TB) ∧ (∃ ty0 : Nat → FieldType, ∀ k, k < N → parseFieldDescriptor (T k).2.2.1 = some (ty0 k)) ∧ ∀ a, a < N → ∀ b, b < N → a ≠ b → (T a).2.1 ≠ (T b).2.1 := by
  intro ci C T N h
  have key : ∀ {C : String} {T : u_T} {N : Nat}, (u_ws C T N).all (fun w => decide (w ∈ lw_tbl) && goodWord w) = true → ∀ w ∈ u_ws C T N, w ∈ TB := by
    intro C T N h w hw
    have h1 := List.all_eq_true.mp h w hw
    simp only [Bool.and_eq_true, decide_eq_true_eq] at h1
    exact TB_in h1.1 h1.2
  match ci, h with
  | 0, h => cases h; exact ⟨key (by decide +kernel), ⟨tyX0, tyX0_ok⟩, nmX0⟩
  | 1, h => cases h; exact ⟨key (by decide +kernel), ⟨tyX1, tyX1_ok⟩, nmX1⟩
  | 2, h => cases h; exact ⟨key (by decide +kernel), ⟨tyX2, tyX2_ok⟩, nmX2⟩
  | 3, h => cases h; exact ⟨key (by decide +kernel), ⟨tyX3, tyX3_ok⟩, nmX3⟩
  | 4, h => cases h; exact ⟨key (by decide +kernel), ⟨tyX4, tyX4_ok⟩, nmX4⟩
  | 5, h => cases h; exact ⟨key (by decide +kernel), ⟨tyX5, tyX5_ok⟩, nmX5⟩
  | 6, h => cases h; exact ⟨key (by decide +kernel), ⟨tyX6, tyX6_ok⟩, nmX6⟩
  | 7, h => cases h; exact ⟨key (by decide +kernel), ⟨tyX7, tyX7_ok⟩, nmX7⟩
  | k + 8, h => simp at h
theorem okF {o i ci f h : Nat} (q : lkup tF o i = some (ci, f, h)) : ∃ (C : String) (T : u_T) (N : Nat), vwCl[ci]? = some (C, T, N) ∧ f < N ∧ (T f).1 = C ∧ (Cond.fieldLink (onm o) i C (T f).2.1 (T f).2.2.1 ∈ TB ∨ Cond.fieldLinkNest (onm o) i C (T f).2.1 (T f).2.2.1 "GuildPiece" ∈ lw_tbl) := by
  have h1 := List.all_eq_true.mp ckF_all _ (lkup_mem q)
  unfold ckF at h1
  split at h1
  · rename_i C T N hv
    simp only [Bool.and_eq_true, Bool.or_eq_true, decide_eq_true_eq] at h1
    refine ⟨C, T, N, hv, h1.1, h1.2.1, ?_⟩
    rcases h1.2.2 with q | q
    · exact Or.inl (atG_in q)
    · exact Or.inr (atN_in q).1
  · cases h1
theorem okC {o i h : Nat} {v : Int32} (q : lkup tC o i = some (v, h)) : Cond.constant (onm o) i v ∈ TB := atG_in (List.all_eq_true.mp ckC_all _ (lkup_mem q))
theorem okL {o i h : Nat} {v : Int64} (q : lkup tL o i = some (v, h)) : Cond.constantLong (onm o) i v ∈ TB := atG_in (List.all_eq_true.mp ckL_all _ (lkup_mem q))
theorem okA {o i h : Nat} (q : lkup tA o i = some (0, h)) : Cond.methodLink (onm o) i arraycopyName ∈ TB := atG_in (List.all_eq_true.mp ckA_all _ (lkup_mem q))
theorem okMn {o i h : Nat} (q : lkup tA o i = some (1, h)) : Cond.methodLink (onm o) i Lib.Math.min.name ∈ TB := atG_in (List.all_eq_true.mp ckA_all _ (lkup_mem q))
theorem okMx {o i h : Nat} (q : lkup tA o i = some (2, h)) : Cond.methodLink (onm o) i Lib.Math.max.name ∈ TB := atG_in (List.all_eq_true.mp ckA_all _ (lkup_mem q))
def OkMd (md : MD) (n : Nat) : Prop := Cond.initialized md.1.cls ∈ TB ∧ md.1.cls ≠ "java/lang/invoke/MethodHandle" ∧ md.1.cls ≠ "java/lang/invoke/VarHandle" ∧ (parseMethodDescriptor md.1.desc).map (fun d => d.parameters.length) = some n ∧ onm md.2.2.2.2.1 = md.1.cls ∧ plainName md.1.cls = true ∧ md.2.2.1 ≤ 40
theorem okMd {md : MD} {n hi : Nat} (h : ckMd md n hi = true) : OkMd md n := by
  unfold ckMd at h
  simp only [Bool.and_eq_true, decide_eq_true_eq] at h
  obtain ⟨h2, h3, h4, h5, h6, h7, h8⟩ := h
  exact ⟨atG_in h2, h3, h4, h5, h6, h7, h8⟩
theorem okLk {o i h : Nat} {y : MethodName} (q : ckLk o i h y = true) : Cond.methodLink (onm o) i y ∈ TB ∨ Cond.methodLinkNest (onm o) i y "GuildPiece" ∈ lw_tbl := by
  unfold ckLk at q
  rw [Bool.or_eq_true] at q
  rcases q with q | q
  · exact Or.inl (atG_in q)
  · exact Or.inr (atN_in q).1
theorem okV {o i : Nat} {md : MD} {hs : List Nat} (q : lkup tV o i = some (md, hs)) : (Cond.methodLink (onm o) i md.1 ∈ TB ∨ Cond.methodLinkNest (onm o) i md.1 "GuildPiece" ∈ lw_tbl) ∧ Cond.instanceMethod md.1 ∈ TB ∧ Cond.selects md.1.cls md.1 md.1 ∈ TB ∧ OkMd md (md.2.2.2.2.2 - 1) ∧ 0 < md.2.2.2.2.2 ∧ (vwCl[md.2.2.2.2.1]?).map (fun q => q.1) = some md.1.cls := by
  have h1 := List.all_eq_true.mp ckV_all _ (lkup_mem q)
  unfold ckV at h1
  split at h1
  · simp only [Bool.and_eq_true, decide_eq_true_eq] at h1
    obtain ⟨a1, a2, a3, a4, a5, a6⟩ := h1
    exact ⟨okLk a1, atG_in a2, atG_in a3, okMd a4, a5, a6⟩
  · cases h1
theorem okS {o i : Nat} {md : MD} {hs : List Nat} (q : lkup tS o i = some (md, hs)) : (Cond.methodLink (onm o) i md.1 ∈ TB ∨ Cond.methodLinkNest (onm o) i md.1 "GuildPiece" ∈ lw_tbl) ∧ Cond.static md.1 ∈ TB ∧ OkMd md md.2.2.2.2.2 := by
  have h1 := List.all_eq_true.mp ckS_all _ (lkup_mem q)
  unfold ckS at h1
  split at h1
  · simp only [Bool.and_eq_true, decide_eq_true_eq] at h1
    obtain ⟨a1, a2, a3⟩ := h1
    exact ⟨okLk a1, atG_in a2, okMd a3⟩
  · cases h1
theorem okP {ci f k : Nat} (q : lkup tP ci f = some k) : ∀ (C : String) (T : u_T) (N : Nat), vwCl[ci]? = some (C, T, N) → f < N ∧ (T f).2.2.2 = false ∧ parseFieldDescriptor (T f).2.2.1 = some (if k = 1 then FieldType.int else .boolean) := by
  intro C T N hv
  have h1 := List.all_eq_true.mp ckP_all _ (lkup_mem q)
  unfold ckP at h1
  rw [hv] at h1
  simp only [Bool.and_eq_true, decide_eq_true_eq] at h1
  exact h1
theorem shO_lt : ∀ {k : Nat} {x : Nat × Nat}, shO k = some x → k < nC := by
  intro k x h
  unfold shO at h
  split at h <;> first | (cases h; done) | decide
theorem shA_lt : ∀ {k : Nat} {x : Bool × Nat}, shA k = some x → k < nC := by
  intro k x h
  unfold shA at h
  split at h <;> first | (cases h; done) | decide
theorem shO_A : ∀ {k : Nat} {x : Bool × Nat}, shA k = some x → shO k = none := by
  intro k x h
  unfold shA at h
  split at h <;> first | (cases h; done) | rfl
