/-! the heap's picture of a function of ints; locals -/
def cvv (ad : Nat → Nat) (v : Value) : Value := match v with
  | .ref k => .ref (ad k)
  | v => v
theorem cvv_int {ad : Nat → Nat} {x : Int32} : cvv ad (.int x) = .int x := rfl
theorem cvv_long {ad : Nat → Nat} {x : Int64} : cvv ad (.long x) = .long x := rfl
theorem cvv_ref {ad : Nat → Nat} {k : Nat} : cvv ad (.ref k) = .ref (ad k) := rfl
theorem cvv_cat {ad : Nat → Nat} (v : Value) : (cvv ad v).category = v.category := by cases v <;> rfl
theorem cvv_csm {ad : Nat → Nat} (S : List Value) : ((S.map (cvv ad)).map fun v => v.category).sum = csm S := by
  unfold csm
  rw [List.map_map]
  congr 1
  exact List.map_congr_left (fun v _ => cvv_cat v)
def cel (ad : Nat → Nat) (cA : Nat → ClassId) (σ : Sg) (k : Nat) : va_E := match shO k with
  | some (ci, n) => .inr (ci, (List.range n).map (fun f => cvv ad (fvl σ k f)))
  | none => match shA k with
    | some (_, n) => .inl (cA k, n, .inl (σ k))
    | none => .inr (0, [])
def wd (ad : Nat → Nat) (cA : Nat → ClassId) (σ : Sg) : va_W := (List.range nC).map (fun k => (ad k, cel ad cA σ k))
theorem wd_get {ad : Nat → Nat} {cA : Nat → ClassId} {σ : Sg} {k : Nat} (h : k < nC) : (wd ad cA σ)[k]? = some (ad k, cel ad cA σ k) := by
  unfold wd
  rw [List.getElem?_map, List.getElem?_range h]
  rfl
theorem wd_len {ad : Nat → Nat} {cA : Nat → ClassId} {σ : Sg} : (wd ad cA σ).length = nC := by simp [wd]
theorem wd_set {ad : Nat → Nat} {cA : Nat → ClassId} {σ σ' : Sg} {k : Nat} {E : va_E} (h : k < nC) (h1 : cel ad cA σ' k = E) (h2 : ∀ j, j ≠ k → cel ad cA σ' j = cel ad cA σ j) : (wd ad cA σ).set k (ad k, E) = wd ad cA σ' := by
  apply List.ext_getElem?
  intro j
  by_cases hj : j < nC
  · rw [wd_get hj]
    by_cases hk : j = k
    · subst hk
      rw [List.getElem?_set_self (by rw [wd_len]; exact hj), h1]
    · rw [List.getElem?_set_ne (Ne.symm hk), wd_get hj, h2 j hk]
  · rw [List.getElem?_eq_none (by rw [List.length_set, wd_len]; omega), List.getElem?_eq_none (by rw [wd_len]; omega)]
theorem up_row {σ : Sg} {k j : Nat} {v : Int32} : (up σ k j v) k = upd (σ k) j v := by
  funext b
  simp [up, upd]
theorem up_off {σ : Sg} {k j a : Nat} {v : Int32} (h : a ≠ k) : (up σ k j v) a = σ a := by
  funext b
  simp [up, h]
theorem cel_off {ad : Nat → Nat} {cA : Nat → ClassId} {σ σ' : Sg} {j : Nat} (h : σ' j = σ j) : cel ad cA σ' j = cel ad cA σ j := by
  unfold cel fvl
  rw [h]
theorem cel_obj {ad : Nat → Nat} {cA : Nat → ClassId} {σ : Sg} {k ci n : Nat} (h : shO k = some (ci, n)) : cel ad cA σ k = .inr (ci, (List.range n).map (fun f => cvv ad (fvl σ k f))) := by
  unfold cel; rw [h]
theorem cel_arr {ad : Nat → Nat} {cA : Nat → ClassId} {σ : Sg} {k n : Nat} {b : Bool} (h : shA k = some (b, n)) : cel ad cA σ k = .inl (cA k, n, .inl (σ k)) := by
  unfold cel; rw [shO_A h, h]
theorem cel_put {ad : Nat → Nat} {cA : Nat → ClassId} {σ : Sg} {k ci n f : Nat} {v : Int32} (h : shO k = some (ci, n)) (hf : f < n) (hr : shR k f = none) : cel ad cA (up σ k f v) k = .inr (ci, ((List.range n).map (fun f => cvv ad (fvl σ k f))).set f (.int v)) := by
  rw [cel_obj h]
  congr 2
  apply List.ext_getElem?
  intro j
  by_cases hj : j < n
  · rw [List.getElem?_map, List.getElem?_range hj]
    by_cases hk : j = f
    · subst hk
      rw [List.getElem?_set_self (by simp; exact hj)]
      simp only [Option.map_some, fvl, hr, cvv, up, and_self, if_true]
    · rw [List.getElem?_set_ne (Ne.symm hk), List.getElem?_map, List.getElem?_range hj]
      simp only [Option.map_some, fvl, up, hk, and_false, if_false]
  · rw [List.getElem?_eq_none (by simp; omega), List.getElem?_eq_none (by simp; omega)]
def tyl (cA : Nat → ClassId) : List (ClassId × FieldType) := (List.range nC).filterMap (fun k => match shA k with
  | some (b, _) => some (cA k, if b = true then .boolean else .int)
  | none => none)
theorem tyl_get {cA : Nat → ClassId} {k n : Nat} {b : Bool} (h : shA k = some (b, n)) : ∃ t0 : Nat, (tyl cA)[t0]? = some (cA k, if b = true then .boolean else .int) := by
  refine List.getElem?_of_mem ?_
  unfold tyl
  refine List.mem_filterMap.mpr ⟨k, List.mem_range.mpr (shA_lt h), ?_⟩
  rw [h]
/-- locals -/
def LR (ad : Nat → Nat) (L : List Value) (ls : Array Slot) : Prop := ls.size = L.length ∧ lv_wf ls ∧ ∀ (i : Nat) (v : Value), L[i]? = some v → v ≠ uu → ls[i]? = some (.val (cvv ad v))
def prs (ad : Nat → Nat) (L : List Value) : List (Nat × Value) := (List.range L.length).filterMap (fun i => match L[i]? with
  | some v => if v = uu then none else some (i, cvv ad v)
  | none => none)
theorem prs_mem {ad : Nat → Nat} {L : List Value} {q : Nat × Value} : q ∈ prs ad L ↔ ∃ v, L[q.1]? = some v ∧ v ≠ uu ∧ q.2 = cvv ad v := by
  unfold prs
  rw [List.mem_filterMap]
  constructor
  · rintro ⟨i, -, h⟩
    split at h
    · rename_i v hv
      split at h
      · cases h
      · rename_i hu
        cases h
        exact ⟨v, hv, hu, rfl⟩
    · cases h
  · rintro ⟨v, h1, h2, h3⟩
    refine ⟨q.1, List.mem_range.mpr (List.getElem?_eq_some_iff.mp h1).1, ?_⟩
    rw [h1]
    simp only [h2, if_false]
    rw [← h3]
theorem LR.has {ad : Nat → Nat} {L : List Value} {ls : Array Slot} (h : LR ad L ls) : lv_has ls L.length (prs ad L) := ⟨h.1, h.2.1, fun q hq => by
  obtain ⟨v, h1, h2, h3⟩ := prs_mem.mp hq
  rw [h3]
  exact h.2.2 q.1 v h1 h2⟩
theorem kil_len (L : List Value) (i : Nat) : (kil L i).length = L.length := by
  unfold kil
  split
  · rfl
  · split
    · split <;> simp
    · rfl
theorem stL1_len (L : List Value) (i : Nat) (v : Value) : (stL1 L i v).length = L.length := by unfold stL1; rw [List.length_set, kil_len]
theorem stL2_len (L : List Value) (i : Nat) (v : Value) : (stL2 L i v).length = L.length := by unfold stL2; rw [List.length_set, List.length_set, kil_len]
/-- what is left of a value at j when i is stored -/
theorem kil_get {L : List Value} {i j : Nat} {v : Value} (h : (kil L i)[j]? = some v) (hv : v ≠ uu) : L[j]? = some v ∧ ¬ (j + 1 = i ∧ v.category = 2) := by
  unfold kil at h
  split at h
  · exact ⟨h, fun q => by omega⟩
  · rename_i i k
    split at h
    · rename_i w hw
      split at h
      · by_cases hk : j = k
        · subst hk
          rw [List.getElem?_set_self (List.getElem?_eq_some_iff.mp hw).1] at h
          cases h
          exact absurd rfl hv
        · rw [List.getElem?_set_ne (Ne.symm hk)] at h
          exact ⟨h, fun q => hk (by omega)⟩
      · rename_i hc
        refine ⟨h, fun q => ?_⟩
        have : j = k := by omega
        subst this
        rw [hw] at h
        cases h
        exact hc q.2
    · rename_i hn
      refine ⟨h, fun q => ?_⟩
      have : j = k := by omega
      subst this
      rw [hn] at h
      cases h
theorem LR.st1 {ad : Nat → Nat} {L : List Value} {ls' : Array Slot} {i : Nat} {v : Value} (hi : i < L.length) (h : lv_has ls' L.length ((i, cvv ad v) :: (prs ad L).filter (fun q => !(q.1 == i) && !(q.1 + 1 == i && q.2.category == 2)))) : LR ad (stL1 L i v) ls' := by
  refine ⟨by rw [stL1_len]; exact h.1, h.2.1, fun j w hj hw => ?_⟩
  by_cases hk : j = i
  · subst hk
    have : w = v := by
      unfold stL1 at hj
      rw [List.getElem?_set_self (by rw [kil_len]; exact hi)] at hj
      exact (Option.some.inj hj).symm
    subst this
    exact h.2.2 (j, cvv ad w) List.mem_cons_self
  · unfold stL1 at hj
    rw [List.getElem?_set_ne (Ne.symm hk)] at hj
    obtain ⟨h1, h2⟩ := kil_get hj hw
    refine h.2.2 (j, cvv ad w) (List.mem_cons_of_mem _ (List.mem_filter.mpr ⟨prs_mem.mpr ⟨w, h1, hw, rfl⟩, ?_⟩))
    simp only [Bool.and_eq_true, Bool.not_eq_true', beq_eq_false_iff_ne, ne_eq, Bool.and_eq_false_iff, cvv_cat]
    exact ⟨hk, Classical.or_iff_not_imp_left.mpr fun q => by
      have q : j + 1 = i := by simpa using q
      exact fun z => h2 ⟨q, z⟩⟩
theorem LR.st2 {ad : Nat → Nat} {L : List Value} {ls' : Array Slot} {i : Nat} {v : Value} (hi : i + 1 < L.length) (h : lv_has ls' L.length ((i, cvv ad v) :: (prs ad L).filter (fun q => !(q.1 == i) && (!(q.1 == i + 1) && !(q.1 + 1 == i && q.2.category == 2))))) : LR ad (stL2 L i v) ls' := by
  refine ⟨by rw [stL2_len]; exact h.1, h.2.1, fun j w hj hw => ?_⟩
  by_cases hk1 : j = i + 1
  · subst hk1
    unfold stL2 at hj
    rw [List.getElem?_set_self (by rw [List.length_set, kil_len]; exact hi)] at hj
    cases hj
    exact absurd rfl hw
  · unfold stL2 at hj
    rw [List.getElem?_set_ne (Ne.symm hk1)] at hj
    by_cases hk : j = i
    · subst hk
      have : w = v := by
        rw [List.getElem?_set_self (by rw [kil_len]; omega)] at hj
        exact (Option.some.inj hj).symm
      subst this
      exact h.2.2 (j, cvv ad w) List.mem_cons_self
    · rw [List.getElem?_set_ne (Ne.symm hk)] at hj
      obtain ⟨h1, h2⟩ := kil_get hj hw
      refine h.2.2 (j, cvv ad w) (List.mem_cons_of_mem _ (List.mem_filter.mpr ⟨prs_mem.mpr ⟨w, h1, hw, rfl⟩, ?_⟩))
      simp only [Bool.and_eq_true, Bool.not_eq_true', beq_eq_false_iff_ne, ne_eq, Bool.and_eq_false_iff, cvv_cat]
      exact ⟨hk, hk1, Classical.or_iff_not_imp_left.mpr fun q => by
        have q : j + 1 = i := by simpa using q
        exact fun z => h2 ⟨q, z⟩⟩
/-- at a method's entry -/
theorem ini_args (ad : Nat → Nat) : ∀ (as : List Value) (k j : Nat) (v : Value), (as.flatMap fun v => if v.category = 2 then [v, uu] else [v])[j]? = some v → v ≠ uu → (k + j, cvv ad v) ∈ lv_args k (as.map (cvv ad))
  | [], k, j, v, h, _ => by simp at h
  | a :: as, k, j, v, h, hv => by
    rw [List.flatMap_cons] at h
    simp only [List.map_cons, lv_args, cvv_cat]
    by_cases hc : a.category = 2
    · simp only [hc, if_true] at h ⊢
      match j, h with
      | 0, h => cases h; exact List.mem_cons_self
      | 1, h => cases h; exact absurd rfl hv
      | j + 2, h =>
        have := ini_args ad as (k + 2) j v (by simpa using h) hv
        rw [show k + (j + 2) = k + 2 + j by omega]
        exact List.mem_cons_of_mem _ this
    · simp only [hc, if_false] at h ⊢
      match j, h with
      | 0, h => cases h; exact List.mem_cons_self
      | j + 1, h =>
        have := ini_args ad as (k + 1) j v (by simpa using h) hv
        rw [show k + (j + 1) = k + 1 + j by omega]
        exact List.mem_cons_of_mem _ this
theorem lgn_len (ad : Nat → Nat) : ∀ (as : List Value), (lg_sl (as.map (cvv ad))).length = csm as
  | [] => rfl
  | a :: as => by
    have ih := lgn_len ad as
    unfold lg_sl csm at ih ⊢
    rw [List.map_cons, List.flatMap_cons, List.length_append, ih, List.map_cons, List.sum_cons, cvv_cat]
    rcases lv_cat a with h | h <;> simp [h]
theorem flt_len : ∀ (as : List Value), (as.flatMap fun v => if v.category = 2 then [v, uu] else [v]).length = csm as
  | [] => rfl
  | a :: as => by
    have ih := flt_len as
    unfold csm at ih ⊢
    rw [List.flatMap_cons, List.length_append, ih, List.map_cons, List.sum_cons]
    rcases lv_cat a with h | h <;> simp [h]
theorem ini_len {md : MD} {as : List Value} (h : csm as ≤ md.2.2.1) : (ini md as).length = md.2.2.1 := by
  unfold ini
  rw [List.length_append, flt_len, List.length_replicate]
  omega
theorem ini_def {md : MD} {as : List Value} : ini md as = (as.flatMap fun v => if v.category = 2 then [v, uu] else [v]) ++ List.replicate (md.2.2.1 - csm as) uu := rfl
theorem LR.entry {ad : Nat → Nat} {md : MD} {as : List Value} (h : csm as ≤ md.2.2.1) : LR ad (ini md as) ((lg_sl (as.map (cvv ad)) ++ List.replicate (md.2.2.1 - (lg_sl (as.map (cvv ad))).length) Slot.unset).toArray) := by
  have h0 := lv_entry (as.map (cvv ad)) (n := md.2.2.1) (by rw [lgn_len]; exact h)
  refine ⟨by rw [h0.1, ini_len h], h0.2.1, fun j v hj hv => ?_⟩
  rw [ini_def] at hj
  by_cases hl : j < (as.flatMap fun v => if v.category = 2 then [v, uu] else [v]).length
  · rw [List.getElem?_append_left hl] at hj
    have := ini_args ad as 0 j v hj hv
    rw [Nat.zero_add] at this
    exact h0.2.2 _ this
  · rw [List.getElem?_append_right (by omega)] at hj
    obtain ⟨hlt, h2⟩ := List.getElem?_eq_some_iff.mp hj
    rw [List.getElem_replicate] at h2
    exact absurd h2.symm hv
