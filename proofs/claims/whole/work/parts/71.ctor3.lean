/-! generated (ctorgen.py): the constructor of GuildPieceModel -/
abbrev f0X7 : List Value := [.null, .null, .null, .int (nI 0), .null, .null, .null, .int (nI 0), .null, .int (nI 0), .int (nI 0), .null, .int (nI 0), .null, .int (nI 0), .int (nI 0), .int (nI 0), .null, .null, .null, .null, .null, .int (nI 0), .int (nI 0), .int (nI 0), .null]
def bkX7 (h0 : Nat) (u : SU) : va_W := [(h0, .inr (7, [.ref (u.1 1), .ref (u.1 2), .ref (u.1 3), .int (nI 0), .ref (u.1 4), .ref (u.1 5), .ref (u.1 6), .int (nI 0), .ref (u.1 7), .int (nI 0), .int (nI 0), .ref (u.1 8), .int (nI 0), .ref (u.1 9), .int (nI 0), .int (nI 0), .int (nI 0), .ref (u.1 10), .ref (u.1 11), .ref (u.1 12), .ref (u.1 13), .ref (u.1 14), .int (nI 0), .int (nI 0), .int (nI 0), .ref (u.1 15)])), (u.1 1, .inl (u.2 1, 208, .inl fun _ => nI 0)), (u.1 2, .inl (u.2 2, 2, .inl fun _ => nI 0)), (u.1 3, .inl (u.2 3, 144, .inl fun _ => nI 0)), (u.1 4, .inl (u.2 4, 320, .inl fun _ => nI 0)), (u.1 5, .inl (u.2 5, 8, .inl fun _ => -1)), (u.1 6, .inl (u.2 6, 8, .inl fun _ => nI 0)), (u.1 7, .inl (u.2 7, 120, .inl fun _ => nI 0)), (u.1 8, .inl (u.2 8, 16, .inl fun _ => nI 0)), (u.1 9, .inl (u.2 9, 40, .inl fun _ => nI 0)), (u.1 10, .inl (u.2 10, 8, .inl fun _ => nI 0)), (u.1 11, .inl (u.2 11, 8, .inl fun _ => nI 0)), (u.1 12, .inl (u.2 12, 8, .inl fun _ => nI 0)), (u.1 13, .inl (u.2 13, 8, .inl fun _ => nI 0)), (u.1 14, .inl (u.2 14, 8, .inl fun _ => nI 0)), (u.1 15, .inl (u.2 15, 128, .inl fun _ => nI 0))]
def tkX7 (u : SU) : List (ClassId × FieldType) := [(u.2 1, .int), (u.2 2, .boolean), (u.2 3, .int), (u.2 4, .int), (u.2 5, .int), (u.2 6, .int), (u.2 7, .int), (u.2 8, .int), (u.2 9, .int), (u.2 10, .int), (u.2 11, .int), (u.2 12, .int), (u.2 13, .int), (u.2 14, .int), (u.2 15, .int)]
theorem dfX7 : ∀ j, j < 26 → defaultValue (tyX7 j) = vp_V f0X7 j := by
  intro j hj
  rcases (show j = 0 ∨ j = 1 ∨ j = 2 ∨ j = 3 ∨ j = 4 ∨ j = 5 ∨ j = 6 ∨ j = 7 ∨ j = 8 ∨ j = 9 ∨ j = 10 ∨ j = 11 ∨ j = 12 ∨ j = 13 ∨ j = 14 ∨ j = 15 ∨ j = 16 ∨ j = 17 ∨ j = 18 ∨ j = 19 ∨ j = 20 ∨ j = 21 ∨ j = 22 ∨ j = 23 ∨ j = 24 ∨ j = 25 by omega) with rfl | rfl | rfl | rfl | rfl | rfl | rfl | rfl | rfl | rfl | rfl | rfl | rfl | rfl | rfl | rfl | rfl | rfl | rfl | rfl | rfl | rfl | rfl | rfl | rfl | rfl <;> rfl
def bzX7 (h0 : Nat) (u : SU) : va_W := [(h0, .inr (7, [.ref (u.1 1), .ref (u.1 2), .ref (u.1 3), .int (nI 0), .ref (u.1 4), .ref (u.1 5), .ref (u.1 6), .int (nI 0), .ref (u.1 7), .int (nI 0), .int (nI 0), .ref (u.1 8), .int (nI 0), .ref (u.1 9), .int (nI 0), .int (nI 0), .int (nI 0), .ref (u.1 10), .ref (u.1 11), .ref (u.1 12), .ref (u.1 13), .ref (u.1 14), .int (nI 0), .int (nI 0), .int (nI 0), .ref (u.1 15)])), (u.1 1, .inl (u.2 1, 208, .inl fun _ => nI 0)), (u.1 2, .inl (u.2 2, 2, .inl fun _ => nI 0)), (u.1 3, .inl (u.2 3, 144, .inl fun _ => nI 0)), (u.1 4, .inl (u.2 4, 320, .inl fun _ => nI 0)), (u.1 5, .inl (u.2 5, 8, .inl fun _ => nI 0)), (u.1 6, .inl (u.2 6, 8, .inl fun _ => nI 0)), (u.1 7, .inl (u.2 7, 120, .inl fun _ => nI 0)), (u.1 8, .inl (u.2 8, 16, .inl fun _ => nI 0)), (u.1 9, .inl (u.2 9, 40, .inl fun _ => nI 0)), (u.1 10, .inl (u.2 10, 8, .inl fun _ => nI 0)), (u.1 11, .inl (u.2 11, 8, .inl fun _ => nI 0)), (u.1 12, .inl (u.2 12, 8, .inl fun _ => nI 0)), (u.1 13, .inl (u.2 13, 8, .inl fun _ => nI 0)), (u.1 14, .inl (u.2 14, 8, .inl fun _ => nI 0)), (u.1 15, .inl (u.2 15, 128, .inl fun _ => nI 0))]
theorem x7_ext {D : va_G} {ws : va_W} {q5 : Nat} {c5 : ClassId} {f : Nat → Int32} {H : Heap} (hf : ∀ j, j < 8 → f j = -1) (h : va_P D vwCl (ws.set 5 (q5, .inl (c5, 8, .inl f))) H) : va_P D vwCl (ws.set 5 (q5, .inl (c5, 8, .inl (fun _ => -1)))) H := by
  intro k q hk
  by_cases h5 : k = 5
  · subst h5
    have hl : 5 < ws.length := by
      have := (List.getElem?_eq_some_iff.mp hk).1
      rwa [List.length_set] at this
    rw [List.getElem?_set_self hl] at hk
    cases hk
    have h1 : H[q5]? = some (vp_cell c5 (8, .inl f)) := h 5 _ (List.getElem?_set_self hl)
    show H[q5]? = some (vp_cell c5 (8, .inl (fun _ => -1)))
    rw [h1, vp_cell_i, vp_cell_i]
    unfold arrV
    congr 3
    funext j
    show Value.int (f j.val) = Value.int (-1)
    rw [hf j.val j.isLt]
  · rw [List.getElem?_set_ne (Ne.symm h5)] at hk
    exact h k q (by rw [List.getElem?_set_ne (Ne.symm h5)]; exact hk)
theorem x7_extD {A : Nat → Prop} {ws : va_W} {q5 : Nat} {e f' : va_E} (h : va_D A (ws.set 5 (q5, e))) : va_D A (ws.set 5 (q5, f')) := by
  have key : ∀ (k : Nat) (q : Nat × va_E), (ws.set 5 (q5, f'))[k]? = some q → ∃ q' : Nat × va_E, q'.1 = q.1 ∧ (ws.set 5 (q5, e))[k]? = some q' := by
    intro k q hk
    by_cases h5 : k = 5
    · subst h5
      have hl : 5 < ws.length := by
        have := (List.getElem?_eq_some_iff.mp hk).1
        rwa [List.length_set] at this
      rw [List.getElem?_set_self hl] at hk
      cases hk
      exact ⟨(q5, e), rfl, List.getElem?_set_self hl⟩
    · rw [List.getElem?_set_ne (Ne.symm h5)] at hk
      exact ⟨q, rfl, by rw [List.getElem?_set_ne (Ne.symm h5)]; exact hk⟩
  refine ⟨fun i j x y hx hy hxy => ?_, fun k q hk => ?_⟩
  · obtain ⟨x', h1, h2⟩ := key i x hx
    obtain ⟨y', h3, h4⟩ := key j y hy
    exact h.1 i j x' y' h2 h4 (by rw [h1, h3]; exact hxy)
  · obtain ⟨q', h1, h2⟩ := key k q hk
    rw [← h1]
    exact h.2 k q' h2
section X7L
variable {p : Program} {l : Launch} {e : Env} {R : Room} {s : State} {m : MethodId} {args : Array Value} {below : List Frame} {meth : Method} {c : Code} {cells slots : Nat} {Q : State → Prop}
variable {D : va_G} {A : Nat → Prop} {tys : List (ClassId × FieldType)} {ws : va_W}
set_option maxHeartbeats 1000000 in
theorem x7_loop {h0 q5 t0 : Nat} {c5 : ClassId} {fs : List Value} {e5 : va_E} (hx : p.tables.exec = Jvm.exec) (hb : c.code = cX7_init) (hts : ∀ w ∈ TB, w.before args s = true) (hown : s.vm.findClass RX7 = some m.cls)
    (hK : va_K D vwCl tys s) (hA : ∀ q, s.heap.size ≤ q → A q) (h0w : ws[0]? = some (h0, .inr (7, fs))) (hf5 : fs[5]? = some (.ref q5)) (h5w : ws[5]? = some (q5, e5)) (ht0 : tys[t0]? = some (c5, .int)) :
    ∀ (n i : Nat), i + n = 8 → ∀ (f : Nat → Int32) (H : Heap) (locs : List Loc) (ls : Array Slot), (∀ j, j < i → f j = -1) → va_P D vwCl (ws.set 5 (q5, .inl (c5, 8, .inl f))) H → va_D A (ws.set 5 (q5, .inl (c5, 8, .inl f))) → va_S A s.heap H locs → lv_has ls 2 [(1, .int (nI i)), (0, .ref h0)] →
    (∀ (f : Nat → Int32) (H : Heap) (locs : List Loc) (ls : Array Slot), (∀ j, j < 8 → f j = -1) → va_P D vwCl (ws.set 5 (q5, .inl (c5, 8, .inl f))) H → va_D A (ws.set 5 (q5, .inl (c5, 8, .inl f))) → va_S A s.heap H locs → W p l e R s m args below meth c H locs cells slots Q (F0 m 148 ls [])) →
    W p l e R s m args below meth c H locs cells slots Q (F0 m 129 ls []) := by
  have hl5 : 5 < ws.length := (List.getElem?_eq_some_iff.mp h5w).1
  intro n
  induction n with
  | zero =>
    intro i hi f H locs ls hf hP hD hS hl kk
    have hi : i = 8 := by omega
    subst hi
    refine lv_iload_n hx hb dX7i_129 rfl (lv_at hl 0 rfl) ?_
    refine lv_bipush (v := nI 8) hx hb dX7i_130 rfl ?_
    refine lv_icmp_ge (tgt := 148) hx hb dX7i_132 rfl (fun _ => kk f H locs ls hf hP hD hS) (fun q => absurd (by decide) q)
  | succ n ih =>
    intro i hi f H locs ls hf hP hD hS hl kk
    have hlt : i < 8 := by omega
    refine lv_iload_n hx hb dX7i_129 rfl (lv_at hl 0 rfl) ?_
    refine lv_bipush (v := nI 8) hx hb dX7i_130 rfl ?_
    refine lv_icmp_ge (tgt := 148) hx hb dX7i_132 rfl (fun q => absurd q ?_) (fun _ => ?_)
    · rcases (show i = 0 ∨ i = 1 ∨ i = 2 ∨ i = 3 ∨ i = 4 ∨ i = 5 ∨ i = 6 ∨ i = 7 by omega) with rfl | rfl | rfl | rfl | rfl | rfl | rfl | rfl <;> decide
    refine lv_aload_n hx hb dX7i_135 rfl (lv_at hl 1 rfl) ?_
    refine va_get (D := D) (ci := 7) (v := .ref q5) hx hb hts (cls_words 7 RX7 TX7 26 rfl).1 hown hK hP 0 (fs := fs) (by rw [List.getElem?_set_ne (by decide)]; exact h0w) rfl 5 (by decide) (hts _ lkX7i_136) (fun _ h => h) hf5 dX7i_136 ?_
    refine lv_iload_n hx hb dX7i_139 rfl (lv_at hl 0 rfl) ?_
    refine lv_iconst (v := -1) hx hb dX7i_140 rfl ?_
    have hci : (nI i).toNatClampNeg = i := by rcases (show i = 0 ∨ i = 1 ∨ i = 2 ∨ i = 3 ∨ i = 4 ∨ i = 5 ∨ i = 6 ∨ i = 7 by omega) with rfl | rfl | rfl | rfl | rfl | rfl | rfl | rfl <;> decide
    refine va_iast (D := D) hx hb hK hP hD hS 5 t0 (f := f) (List.getElem?_set_self hl5) ht0 (i := nI i) (x := -1) ?_ dX7i_141 (fun H locs hP hD hS => ?_)
    · rcases (show i = 0 ∨ i = 1 ∨ i = 2 ∨ i = 3 ∨ i = 4 ∨ i = 5 ∨ i = 6 ∨ i = 7 by omega) with rfl | rfl | rfl | rfl | rfl | rfl | rfl | rfl <;> (unfold vp_in; decide)
    rw [List.set_set] at hP hD
    refine lv_iinc (k := 0) (v := nI (i + 1)) hx hb dX7i_142 hl rfl ?_ (by decide) rfl (fun ls hl => ?_)
    · rcases (show i = 0 ∨ i = 1 ∨ i = 2 ∨ i = 3 ∨ i = 4 ∨ i = 5 ∨ i = 6 ∨ i = 7 by omega) with rfl | rfl | rfl | rfl | rfl | rfl | rfl | rfl <;> decide
    refine lv_goto (tgt := 129) hx hb dX7i_145 rfl ?_
    refine ih (i + 1) (by omega) _ H locs ls (fun j hj => ?_) hP hD hS hl kk
    rw [hci]
    by_cases h : j = i
    · subst h
      simp [upd]
    · simp only [upd, h, if_false]
      exact hf j (by omega)
end X7L
set_option maxHeartbeats 4000000 in
set_option maxRecDepth 100000 in
theorem ctX7 (l : Launch) (D : va_G) (h0 sz : Nat) : Met l yX7_init (Cond.code yX7_init cX7_init 2 none :: TB) { frames := 1, cells := 15, slots := 1034, locals := 12 } (PcI D 7 f0X7 h0 sz) (QcI D h0 (va_A [(h0, .inr (7, f0X7))] sz) bkX7 tkX7) 15 1034 (va_A [(h0, .inr (7, f0X7))] sz) := by
  refine Met.ofW (cc := cX7_init) (maxL := 2) (ret := none) (by decide) rfl ?_
  intro p e s m args below meth c s₁ B hml hv
  obtain ⟨rfl, hsz, hP, hK, hN⟩ := hv
  have hx := B.exec
  have hb := B.bytes
  have hr := B.returns
  have hts0 := atoms_spec (ws := Cond.code yX7_init cX7_init 2 none :: TB) B.pre
  have hts : ∀ w ∈ TB, w.before ([.ref h0] : List Value).toArray s = true := fun w hw => hts0 w (List.mem_cons_of_mem _ hw)
  have hown : s.vm.findClass RX7 = some m.cls := findClass_of_methodNamed B.named
  have hlocks := B.notSynchronized
  have hin : meth.name = "<init>" := (name_of_methodNamed B.named B.method).1
  subst hsz
  have hD : va_D (va_A [(h0, .inr (7, f0X7))] s.heap.size) [(h0, .inr (7, f0X7))] := ctOne
  generalize hAe : va_A [(h0, .inr (7, f0X7))] s.heap.size = A at hD ⊢
  have hA : ∀ q : Nat, s.heap.size ≤ q → A q := fun q h => by rw [← hAe]; exact Or.inr h
  have hS : va_S A s.heap s.heap [] := va_S.rf
  have hl := lv_entry ([.ref h0]) (n := 2) (Nat.le_of_ble_eq_true rfl)
  rw [lg_entry_eq]
  generalize (lg_sl ([.ref h0]) ++ List.replicate (2 - (lg_sl ([.ref h0])).length) Slot.unset).toArray = ls at hl ⊢
  have hl : lv_has ls 2 [(0, .ref h0)] := hl
  have hl0 := lv_at hl 0 rfl
  refine lv_aload_n hx hb dX7i_0 rfl hl0 ?_
  refine W.objInit hx hb hown (hts _ lkX7i_1) (hts _ oiInst) (hts _ oiCode) rfl (by rw [hml]; exact hl.1) rfl dX7i_1 (Nat.le_of_ble_eq_true rfl) (Nat.le_of_ble_eq_true rfl) ?_
  refine W.eq (g2 := F0 m 4 ls []) rfl ?_
  refine ctArr (ci := 7) (k := 0) (n := 208) (v := 208) false hx hb hts hown hin rfl hK hP hD hS hA hl0 (by decide) ⟨rfl, rfl, by decide +kernel⟩ rfl lkX7i_10 dX7i_4 (Or.inr (Or.inr ⟨_, dX7i_5, by decide, rfl⟩)) dX7i_8 dX7i_10 ⟨by decide, by decide, by decide⟩ (Nat.le_of_ble_eq_true rfl) (Nat.le_of_ble_eq_true rfl) (fun q1 c1 H locs hK hP hD hS => ?_)
  refine ctArr (ci := 7) (k := 1) (n := 2) (v := 2) true hx hb hts hown hin rfl hK hP hD hS hA hl0 (by decide) ⟨rfl, rfl, by decide +kernel⟩ rfl lkX7i_17 dX7i_13 (Or.inl ⟨_, dX7i_14, by decide, rfl⟩) dX7i_15 dX7i_17 ⟨by decide, by decide, by decide⟩ (Nat.le_of_ble_eq_true rfl) (Nat.le_of_ble_eq_true rfl) (fun q2 c2 H locs hK hP hD hS => ?_)
  refine ctArr (ci := 7) (k := 2) (n := 144) (v := 144) false hx hb hts hown hin rfl hK hP hD hS hA hl0 (by decide) ⟨rfl, rfl, by decide +kernel⟩ rfl lkX7i_26 dX7i_20 (Or.inr (Or.inr ⟨_, dX7i_21, by decide, rfl⟩)) dX7i_24 dX7i_26 ⟨by decide, by decide, by decide⟩ (Nat.le_of_ble_eq_true rfl) (Nat.le_of_ble_eq_true rfl) (fun q3 c3 H locs hK hP hD hS => ?_)
  refine ctArr (ci := 7) (k := 4) (n := 320) (v := 320) false hx hb hts hown hin rfl hK hP hD hS hA hl0 (by decide) ⟨rfl, rfl, by decide +kernel⟩ rfl lkX7i_35 dX7i_29 (Or.inr (Or.inr ⟨_, dX7i_30, by decide, rfl⟩)) dX7i_33 dX7i_35 ⟨by decide, by decide, by decide⟩ (Nat.le_of_ble_eq_true rfl) (Nat.le_of_ble_eq_true rfl) (fun q4 c4 H locs hK hP hD hS => ?_)
  refine ctArr (ci := 7) (k := 5) (n := 8) (v := 8) false hx hb hts hown hin rfl hK hP hD hS hA hl0 (by decide) ⟨rfl, rfl, by decide +kernel⟩ rfl lkX7i_43 dX7i_38 (Or.inr (Or.inl ⟨_, dX7i_39, by decide, rfl⟩)) dX7i_41 dX7i_43 ⟨by decide, by decide, by decide⟩ (Nat.le_of_ble_eq_true rfl) (Nat.le_of_ble_eq_true rfl) (fun q5 c5 H locs hK hP hD hS => ?_)
  refine ctArr (ci := 7) (k := 6) (n := 8) (v := 8) false hx hb hts hown hin rfl hK hP hD hS hA hl0 (by decide) ⟨rfl, rfl, by decide +kernel⟩ rfl lkX7i_51 dX7i_46 (Or.inr (Or.inl ⟨_, dX7i_47, by decide, rfl⟩)) dX7i_49 dX7i_51 ⟨by decide, by decide, by decide⟩ (Nat.le_of_ble_eq_true rfl) (Nat.le_of_ble_eq_true rfl) (fun q6 c6 H locs hK hP hD hS => ?_)
  refine ctArr (ci := 7) (k := 8) (n := 120) (v := 120) false hx hb hts hown hin rfl hK hP hD hS hA hl0 (by decide) ⟨rfl, rfl, by decide +kernel⟩ rfl lkX7i_59 dX7i_54 (Or.inr (Or.inl ⟨_, dX7i_55, by decide, rfl⟩)) dX7i_57 dX7i_59 ⟨by decide, by decide, by decide⟩ (Nat.le_of_ble_eq_true rfl) (Nat.le_of_ble_eq_true rfl) (fun q7 c7 H locs hK hP hD hS => ?_)
  refine ctArr (ci := 7) (k := 11) (n := 16) (v := 16) false hx hb hts hown hin rfl hK hP hD hS hA hl0 (by decide) ⟨rfl, rfl, by decide +kernel⟩ rfl lkX7i_67 dX7i_62 (Or.inr (Or.inl ⟨_, dX7i_63, by decide, rfl⟩)) dX7i_65 dX7i_67 ⟨by decide, by decide, by decide⟩ (Nat.le_of_ble_eq_true rfl) (Nat.le_of_ble_eq_true rfl) (fun q8 c8 H locs hK hP hD hS => ?_)
  refine ctArr (ci := 7) (k := 13) (n := 40) (v := 40) false hx hb hts hown hin rfl hK hP hD hS hA hl0 (by decide) ⟨rfl, rfl, by decide +kernel⟩ rfl lkX7i_75 dX7i_70 (Or.inr (Or.inl ⟨_, dX7i_71, by decide, rfl⟩)) dX7i_73 dX7i_75 ⟨by decide, by decide, by decide⟩ (Nat.le_of_ble_eq_true rfl) (Nat.le_of_ble_eq_true rfl) (fun q9 c9 H locs hK hP hD hS => ?_)
  refine ctArr (ci := 7) (k := 17) (n := 8) (v := 8) false hx hb hts hown hin rfl hK hP hD hS hA hl0 (by decide) ⟨rfl, rfl, by decide +kernel⟩ rfl lkX7i_83 dX7i_78 (Or.inr (Or.inl ⟨_, dX7i_79, by decide, rfl⟩)) dX7i_81 dX7i_83 ⟨by decide, by decide, by decide⟩ (Nat.le_of_ble_eq_true rfl) (Nat.le_of_ble_eq_true rfl) (fun q10 c10 H locs hK hP hD hS => ?_)
  refine ctArr (ci := 7) (k := 18) (n := 8) (v := 8) false hx hb hts hown hin rfl hK hP hD hS hA hl0 (by decide) ⟨rfl, rfl, by decide +kernel⟩ rfl lkX7i_91 dX7i_86 (Or.inr (Or.inl ⟨_, dX7i_87, by decide, rfl⟩)) dX7i_89 dX7i_91 ⟨by decide, by decide, by decide⟩ (Nat.le_of_ble_eq_true rfl) (Nat.le_of_ble_eq_true rfl) (fun q11 c11 H locs hK hP hD hS => ?_)
  refine ctArr (ci := 7) (k := 19) (n := 8) (v := 8) false hx hb hts hown hin rfl hK hP hD hS hA hl0 (by decide) ⟨rfl, rfl, by decide +kernel⟩ rfl lkX7i_99 dX7i_94 (Or.inr (Or.inl ⟨_, dX7i_95, by decide, rfl⟩)) dX7i_97 dX7i_99 ⟨by decide, by decide, by decide⟩ (Nat.le_of_ble_eq_true rfl) (Nat.le_of_ble_eq_true rfl) (fun q12 c12 H locs hK hP hD hS => ?_)
  refine ctArr (ci := 7) (k := 20) (n := 8) (v := 8) false hx hb hts hown hin rfl hK hP hD hS hA hl0 (by decide) ⟨rfl, rfl, by decide +kernel⟩ rfl lkX7i_107 dX7i_102 (Or.inr (Or.inl ⟨_, dX7i_103, by decide, rfl⟩)) dX7i_105 dX7i_107 ⟨by decide, by decide, by decide⟩ (Nat.le_of_ble_eq_true rfl) (Nat.le_of_ble_eq_true rfl) (fun q13 c13 H locs hK hP hD hS => ?_)
  refine ctArr (ci := 7) (k := 21) (n := 8) (v := 8) false hx hb hts hown hin rfl hK hP hD hS hA hl0 (by decide) ⟨rfl, rfl, by decide +kernel⟩ rfl lkX7i_115 dX7i_110 (Or.inr (Or.inl ⟨_, dX7i_111, by decide, rfl⟩)) dX7i_113 dX7i_115 ⟨by decide, by decide, by decide⟩ (Nat.le_of_ble_eq_true rfl) (Nat.le_of_ble_eq_true rfl) (fun q14 c14 H locs hK hP hD hS => ?_)
  refine ctArr (ci := 7) (k := 25) (n := 128) (v := 128) false hx hb hts hown hin rfl hK hP hD hS hA hl0 (by decide) ⟨rfl, rfl, by decide +kernel⟩ rfl lkX7i_124 dX7i_118 (Or.inr (Or.inr ⟨_, dX7i_119, by decide, rfl⟩)) dX7i_122 dX7i_124 ⟨by decide, by decide, by decide⟩ (Nat.le_of_ble_eq_true rfl) (Nat.le_of_ble_eq_true rfl) (fun q15 c15 H locs hK hP hD hS => ?_)
  refine W.widen (k := 15) (n := 1034) (by decide) (by decide) ?_
  refine lv_iconst (v := nI 0) hx hb dX7i_127 rfl ?_
  refine lv_istore_n hx hb dX7i_128 rfl hl (by decide) rfl (fun ls hl => ?_)
  have hP : va_P D vwCl (bzX7 h0 (fun k => [0, q1, q2, q3, q4, q5, q6, q7, q8, q9, q10, q11, q12, q13, q14, q15].getD k 0, fun k => [c1, c1, c2, c3, c4, c5, c6, c7, c8, c9, c10, c11, c12, c13, c14, c15].getD k c1)) H := hP
  have hD : va_D A (bzX7 h0 (fun k => [0, q1, q2, q3, q4, q5, q6, q7, q8, q9, q10, q11, q12, q13, q14, q15].getD k 0, fun k => [c1, c1, c2, c3, c4, c5, c6, c7, c8, c9, c10, c11, c12, c13, c14, c15].getD k c1)) := hD
  refine x7_loop (ws := bzX7 h0 (fun k => [0, q1, q2, q3, q4, q5, q6, q7, q8, q9, q10, q11, q12, q13, q14, q15].getD k 0, fun k => [c1, c1, c2, c3, c4, c5, c6, c7, c8, c9, c10, c11, c12, c13, c14, c15].getD k c1)) hx hb hts hown hK hA (h0 := h0) (q5 := q5) (c5 := c5) (t0 := 4) rfl rfl rfl rfl 8 0 rfl (fun _ => nI 0) _ _ _ (fun j hj => absurd hj (Nat.not_lt_zero j)) hP hD hS hl (fun f H locs ls hf hP hD hS => ?_)
  have hP := x7_ext hf hP
  have hD := x7_extD (f' := .inl (c5, 8, .inl (fun _ => -1))) hD
  exact W.vret hx hb hr (fun t ht hW => ⟨⟨(fun k => [0, q1, q2, q3, q4, q5, q6, q7, q8, q9, q10, q11, q12, q13, q14, q15].getD k 0, fun k => [c1, c1, c2, c3, c4, c5, c6, c7, c8, c9, c10, c11, c12, c13, c14, c15].getD k c1), rfl, trivial, by rw [ht]; exact hP, va_K.moved hW.alike hK, hD⟩, hS.F ht⟩) hS.2.2 dX7i_148
