/-! from the law's entry to its loop, and back -/
theorem dL_0 : decode cL_law 0 = .ok (.new 7, 3) := by decide +kernel
theorem dL_3 : decode cL_law 3 = .ok (.dup, 1) := by decide +kernel
theorem dL_4 : decode cL_law 4 = .ok (.invokespecial 9, 3) := by decide +kernel
theorem dL_7 : decode cL_law 7 = .ok (.astore_n 1, 1) := by decide +kernel
theorem dL_8 : decode cL_law 8 = .ok (.new 10, 3) := by decide +kernel
theorem dL_11 : decode cL_law 11 = .ok (.dup, 1) := by decide +kernel
theorem dL_12 : decode cL_law 12 = .ok (.invokespecial 12, 3) := by decide +kernel
theorem dL_15 : decode cL_law 15 = .ok (.astore_n 2, 1) := by decide +kernel
theorem dL_16 : decode cL_law 16 = .ok (.iconst 0, 1) := by decide +kernel
theorem dL_17 : decode cL_law 17 = .ok (.istore_n 3, 1) := by decide +kernel
theorem lkL_0 : Cond.classLink RL 7 RX6 ∈ TB := atG_in (h := 105) (by decide +kernel)
theorem lkL_8 : Cond.classLink RL 10 RX7 ∈ TB := atG_in (h := 827) (by decide +kernel)
theorem lkL_4 : Cond.methodLink RL 9 yX6_init ∈ TB := atG_in (h := 107) (by decide +kernel)
theorem lkL_12 : Cond.methodLink RL 12 yX7_init ∈ TB := atG_in (h := 829) (by decide +kernel)
def adw (h6 : Nat) (u6 : SV) (h7 : Nat) (u7 : SU) (b : Nat) : Nat → Nat := fun k => [h6, (u6 1).1, (u6 1).2.1 1, (u6 1).2.1 2, (u6 1).2.1 3, (u6 1).2.1 4, (u6 2).1, (u6 2).2.1 1, (u6 3).1, (u6 3).2.1 1, (u6 3).2.1 2, (u6 3).2.1 3, (u6 3).2.1 4, (u6 3).2.1 5, (u6 3).2.1 6, (u6 3).2.1 7, (u6 3).2.1 8, (u6 4).1, (u6 4).2.1 1, (u6 4).2.1 2, (u6 4).2.1 3, (u6 4).2.1 4, (u6 4).2.1 5, (u6 4).2.1 6, (u6 4).2.1 7, (u6 4).2.1 8, (u6 5).1, (u6 5).2.1 1, (u6 5).2.1 2, (u6 5).2.1 3, (u6 5).2.1 4, (u6 5).2.1 5, (u6 5).2.1 6, (u6 5).2.1 7, (u6 5).2.1 8, (u6 6).1, (u6 6).2.1 1, (u6 6).2.1 2, (u6 6).2.1 3, (u6 6).2.1 4, (u6 6).2.1 5, (u6 6).2.1 6, (u6 6).2.1 7, (u6 6).2.1 8, (u6 7).1, (u6 7).2.1 1, (u6 8).1, (u6 8).2.1 1, (u6 9).1, (u6 9).2.1 1, h7, u7.1 1, u7.1 2, u7.1 3, u7.1 4, u7.1 5, u7.1 6, u7.1 7, u7.1 8, u7.1 9, u7.1 10, u7.1 11, u7.1 12, u7.1 13, u7.1 14, u7.1 15, b].getD k 0
def cAw (u6 : SV) (u7 : SU) : Nat → ClassId := fun k => [u7.2 1, u7.2 1, (u6 1).2.2 1, (u6 1).2.2 2, (u6 1).2.2 3, (u6 1).2.2 4, u7.2 1, (u6 2).2.2 1, u7.2 1, (u6 3).2.2 1, (u6 3).2.2 2, (u6 3).2.2 3, (u6 3).2.2 4, (u6 3).2.2 5, (u6 3).2.2 6, (u6 3).2.2 7, (u6 3).2.2 8, u7.2 1, (u6 4).2.2 1, (u6 4).2.2 2, (u6 4).2.2 3, (u6 4).2.2 4, (u6 4).2.2 5, (u6 4).2.2 6, (u6 4).2.2 7, (u6 4).2.2 8, u7.2 1, (u6 5).2.2 1, (u6 5).2.2 2, (u6 5).2.2 3, (u6 5).2.2 4, (u6 5).2.2 5, (u6 5).2.2 6, (u6 5).2.2 7, (u6 5).2.2 8, u7.2 1, (u6 6).2.2 1, (u6 6).2.2 2, (u6 6).2.2 3, (u6 6).2.2 4, (u6 6).2.2 5, (u6 6).2.2 6, (u6 6).2.2 7, (u6 6).2.2 8, u7.2 1, (u6 7).2.2 1, u7.2 1, (u6 8).2.2 1, u7.2 1, (u6 9).2.2 1, u7.2 1, u7.2 1, u7.2 2, u7.2 3, u7.2 4, u7.2 5, u7.2 6, u7.2 7, u7.2 8, u7.2 9, u7.2 10, u7.2 11, u7.2 12, u7.2 13, u7.2 14, u7.2 15].getD k (u7.2 1)
set_option maxRecDepth 100000 in
set_option maxHeartbeats 4000000 in
theorem wd_z (h6 : Nat) (u6 : SV) (h7 : Nat) (u7 : SU) (b L : Nat) (xs : Nat → Int32) : ([] ++ bkX6 h6 u6) ++ bkX7 h7 u7 = wd (adw h6 u6 h7 u7 b) (cAw u6 u7) (s0 L xs) := rfl
set_option maxRecDepth 100000 in
set_option maxHeartbeats 4000000 in
theorem tyl_z (u6 : SV) (u7 : SU) : ([] ++ tkX6 u6) ++ tkX7 u7 = tyl (cAw u6 u7) := rfl
theorem wd_D {A : Nat → Prop} {ad : Nat → Nat} {cA : Nat → ClassId} {σ : Sg} (h : va_D A (wd ad cA σ)) (σ' : Sg) : va_D A (wd ad cA σ') := by
  have key : ∀ (k : Nat) (q : Nat × va_E), (wd ad cA σ')[k]? = some q → ∃ q' : Nat × va_E, q'.1 = q.1 ∧ (wd ad cA σ)[k]? = some q' := by
    intro k q hk
    have hl : k < nC := by
      have := (List.getElem?_eq_some_iff.mp hk).1
      rwa [wd_len] at this
    rw [wd_get hl] at hk
    cases hk
    exact ⟨(ad k, cel ad cA σ k), rfl, wd_get hl⟩
  refine ⟨fun i j x y hx hy hxy => ?_, fun k q hk => ?_⟩
  · obtain ⟨x', h1, h2⟩ := key i x hx
    obtain ⟨y', h3, h4⟩ := key j y hy
    exact h.1 i j x' y' h2 h4 (by rw [h1, h3]; exact hxy)
  · obtain ⟨q', h1, h2⟩ := key k q hk
    rw [← h1]
    exact h.2 k q' h2
theorem ins_all : ∀ (ci : Nat) (C : String) (T : u_T) (N : Nat), vwCl[ci]? = some (C, T, N) → Cond.instantiable C N ∈ TB := by
  intro ci C T N h
  match ci, h with
  | 0, h => cases h; exact wInX0
  | 1, h => cases h; exact wInX1
  | 2, h => cases h; exact wInX2
  | 3, h => cases h; exact wInX3
  | 4, h => cases h; exact wInX4
  | 5, h => cases h; exact wInX5
  | 6, h => cases h; exact wInX6
  | 7, h => cases h; exact wInX7
  | k + 8, h => simp at h
theorem kn_all {s : State} {args : Array Value} (c0 : ClassId) (hts : ∀ w ∈ TB, w.before args s = true) : ∃ D : va_G, va_K D vwCl [] s := by
  have h : ∀ ci : Nat, ∃ x : ClassId × (Nat → Nat), ∀ q : vw_C, vwCl[ci]? = some q → u_Kn s q.1 q.2.1 q.2.2 x.1 x.2 := by
    intro ci
    cases hq : vwCl[ci]? with
    | none => exact ⟨(c0, fun _ => 0), fun q h => by cases h⟩
    | some q =>
      obtain ⟨C, T, N⟩ := q
      obtain ⟨cC, iS, h⟩ := u_known hts (cls_words ci C T N hq).1 (hts _ (ins_all ci C T N hq))
      exact ⟨(cC, iS), fun q h' => by cases h'; exact h⟩
  exact ⟨(fun ci => (Classical.choose (h ci)).1, fun ci => (Classical.choose (h ci)).2), fun ci q hq => Classical.choose_spec (h ci) q hq, fun k q hk => by simp at hk⟩
theorem Scr_0 (L : Nat) (xs : Nat → Int32) : Scr L xs (s0 L xs) := ⟨fun _ _ => rfl, rfl⟩
set_option maxHeartbeats 4000000 in
set_option maxRecDepth 100000 in
/-- from the entry, for every script of at most 384 ints, the law comes to its end with true -/
theorem whole_start {p : Program} {e : Env} {s : State} {m : MethodId} {below : List Frame} {meth : Method} {c : Code} (l : Launch) {b L : Nat} {xs : Nat → Int32} (hL : L ≤ 384) (C0 : lw_At p s m meth c b L xs) : W p l e room_1 s m #[Value.ref b] below meth c s.heap [] 0 0 (lw_Z below #[Value.ref b] s) (entryFrame m ([Value.ref b] : List Value).toArray 4) := by
  obtain ⟨hx, hb, hr, hml, hown, hts0, hX, hbl, hlocks, hgv⟩ := C0
  have hts : ∀ w ∈ TB, w.before #[Value.ref b] s = true := fun w hw => hts0 w (List.mem_filter.mp hw).1
  have hN : ∀ w ∈ lw_tbl, nst w = true → va_Nw w s := fun w hw hn => by
    have h := hts0 w hw
    cases w <;> first | (cases hn; done) | exact va_Nw.of rfl h
  obtain ⟨D, hK⟩ := kn_all m.cls hts
  obtain ⟨A, hAe⟩ : ∃ A : Nat → Prop, A = fun q => s.heap.size ≤ q := ⟨_, rfl⟩
  have hA : ∀ q : Nat, s.heap.size ≤ q → A q := fun q h => by rw [hAe]; exact h
  have hA' : ∀ q : Nat, A q → s.heap.size ≤ q := fun q h => by rw [hAe] at h; exact h
  have hS : va_S A s.heap s.heap [] := va_S.rf
  have hP : va_P D vwCl [] s.heap := fun k q hk => by simp at hk
  have hD : va_D A [] := ⟨fun i j x y hx => by simp at hx, fun k q hk => by simp at hk⟩
  have hl := lv_entry ([.ref b]) (n := 4) (Nat.le_of_ble_eq_true rfl)
  rw [lg_entry_eq]
  generalize (lg_sl ([.ref b]) ++ List.replicate (4 - (lg_sl ([.ref b])).length) Slot.unset).toArray = ls at hl ⊢
  have hl : lv_has ls 4 [(0, .ref b)] := hl
  refine ctNew (own := RL) (ci := 6) (fs := f0X6) (blk := bkX6) (tyf := tkX6) (nL := 4) hx hb hml hts hN hown rfl tyX6 tyX6_ok dfX6 hK hP hD hS hA lkL_0 wInX6 wIiX6 (ctX6 l D) rfl rfl ⟨Nat.le_of_ble_eq_true rfl, Nat.le_of_ble_eq_true rfl⟩ rfl rfl ⟨by decide, by decide, by decide +kernel⟩ wImX6 cdX6_init (Or.inl lkL_4) dL_0 dL_3 dL_4 hl.1 (Nat.le_of_ble_eq_true rfl) (Nat.le_of_ble_eq_true rfl) (Nat.le_of_ble_eq_true rfl) (fun q6 u6 H locs hK hP hD hS => ?_)
  refine lv_astore_n hx hb dL_7 rfl hl (by decide) rfl (fun ls hl => ?_)
  refine ctNew (own := RL) (ci := 7) (fs := f0X7) (blk := bkX7) (tyf := tkX7) (nL := 4) hx hb hml hts hN hown rfl tyX7 tyX7_ok dfX7 hK hP hD hS hA lkL_8 wInX7 wIiX7 (ctX7 l D) rfl rfl ⟨Nat.le_of_ble_eq_true rfl, Nat.le_of_ble_eq_true rfl⟩ rfl rfl ⟨by decide, by decide, by decide +kernel⟩ wImX7 cdX7_init (Or.inl lkL_12) dL_8 dL_11 dL_12 hl.1 (Nat.le_of_ble_eq_true rfl) (Nat.le_of_ble_eq_true rfl) (Nat.le_of_ble_eq_true rfl) (fun q7 u7 H locs hK hP hD hS => ?_)
  refine lv_astore_n hx hb dL_15 rfl hl (by decide) rfl (fun ls hl => ?_)
  refine lv_iconst (v := nI 0) hx hb dL_16 rfl ?_
  refine lv_istore_n hx hb dL_17 rfl hl (by decide) rfl (fun ls hl => ?_)
  rw [wd_z q6 u6 q7 u7 b L xs] at hP hD
  rw [tyl_z u6 u7] at hK
  obtain ⟨σ', he⟩ := law_all (N := L) xs (by omega) 0
  obtain ⟨n, hev⟩ := exec_some.mp he
  have h66 : adw q6 u6 q7 u7 b nC = b := rfl
  have hl : lv_has ls 4 [(3, .int (nI 0)), (2, .ref q7), (1, .ref q6), (0, .ref b)] := hl
  have hLR : LR (adw q6 u6 q7 u7 b) [.ref 66, .ref 0, .ref 50, .int (nI 0)] ls := by
    refine ⟨hl.1, hl.2.1, fun i v hv hu => ?_⟩
    match i, hv with
    | 0, hv => cases hv; exact lv_at hl 3 rfl
    | 1, hv => cases hv; exact lv_at hl 2 rfl
    | 2, hv => cases hv; exact lv_at hl 1 rfl
    | 3, hv => cases hv; exact lv_at hl 0 rfl
    | i + 4, hv => simp at hv
  refine sound (l := l) (D := D) (cA := cAw u6 u7) (ad := adw q6 u6 q7 u7 b) (Ln := L) (xs := xs) (A := A) (wd_D hD) n 30 mL_law 18 [.ref 66, .ref 0, .ref 50, .int (nI 0)] [] (s0 L xs) _ σ' hev p e room_1 s m #[Value.ref b] below meth c H locs _ _ _ ls ⟨hx, hb, hml, hown, hts, hN, hK, by rw [h66]; exact hX, by rw [h66]; exact hbl, by rw [h66]; exact fun h => absurd (hA' b h) (Nat.not_le.mpr hbl), by omega⟩ (Nat.le_of_ble_eq_true rfl) (Nat.le_of_ble_eq_true rfl) (Nat.le_of_ble_eq_true rfl) (Nat.le_of_ble_eq_true rfl) rfl ⟨hP, hS, Scr_0 L xs⟩ hLR ?_
  intro pc' ls' H' locs' ri hdg hrs hI
  rcases hrs with ⟨v, rfl, hv, h1⟩ | ⟨v, rfl, hv, h1⟩ | ⟨k, rfl, hv, h1⟩ | ⟨rfl, hv, h1⟩
  · cases hv
    refine va_forget (fun q hq => hA' _ (hI.2.1.2.2 q hq)) ?_
    refine W.widen (k := 600000) (n := 7302250) (Nat.le_of_ble_eq_true rfl) (Nat.le_of_ble_eq_true rfl) ?_
    exact lw_ret hx hb hr hlocks hdg
  · cases hv
  · cases hv
  · cases hv
