/-! generated (ctorgen.py): the constructor of GuildPiece -/
abbrev SV : Type := Nat → Nat × SU
abbrev f0X6 : List Value := [.null, .null, .null, .null, .null, .null, .null, .null, .null, .int (nI 0), .int (nI 0)]
def bkX6 (h0 : Nat) (u : SV) : va_W := (h0, .inr (6, [.ref (u 1).1, .ref (u 2).1, .ref (u 3).1, .ref (u 4).1, .ref (u 5).1, .ref (u 6).1, .ref (u 7).1, .ref (u 8).1, .ref (u 9).1, .int (nI 0), .int (nI 0)])) :: ((((((((([] ++ bkX3 (u 1).1 (u 1).2) ++ bkX4 (u 2).1 (u 2).2) ++ bkX5 (u 3).1 (u 3).2) ++ bkX5 (u 4).1 (u 4).2) ++ bkX5 (u 5).1 (u 5).2) ++ bkX5 (u 6).1 (u 6).2) ++ bkX0 (u 7).1 (u 7).2) ++ bkX2 (u 8).1 (u 8).2) ++ bkX1 (u 9).1 (u 9).2)
def tkX6 (u : SV) : List (ClassId × FieldType) := ((((((((([] ++ tkX3 (u 1).2) ++ tkX4 (u 2).2) ++ tkX5 (u 3).2) ++ tkX5 (u 4).2) ++ tkX5 (u 5).2) ++ tkX5 (u 6).2) ++ tkX0 (u 7).2) ++ tkX2 (u 8).2) ++ tkX1 (u 9).2)
theorem dfX6 : ∀ j, j < 11 → defaultValue (tyX6 j) = vp_V f0X6 j := by
  intro j hj
  rcases (show j = 0 ∨ j = 1 ∨ j = 2 ∨ j = 3 ∨ j = 4 ∨ j = 5 ∨ j = 6 ∨ j = 7 ∨ j = 8 ∨ j = 9 ∨ j = 10 by omega) with rfl | rfl | rfl | rfl | rfl | rfl | rfl | rfl | rfl | rfl | rfl <;> rfl
set_option maxHeartbeats 4000000 in
set_option maxRecDepth 100000 in
theorem ctX6 (l : Launch) (D : va_G) (h0 sz : Nat) : Met l yX6_init (Cond.code yX6_init cX6_init 1 none :: TB) { frames := 2, cells := 49, slots := 1936, locals := 32 } (PcI D 6 f0X6 h0 sz) (QcI D h0 (va_A [(h0, .inr (6, f0X6))] sz) bkX6 tkX6) 49 1936 (va_A [(h0, .inr (6, f0X6))] sz) := by
  refine Met.ofW (cc := cX6_init) (maxL := 1) (ret := none) (by decide) rfl ?_
  intro p e s m args below meth c s₁ B hml hv
  obtain ⟨rfl, hsz, hP, hK, hN⟩ := hv
  have hx := B.exec
  have hb := B.bytes
  have hr := B.returns
  have hts0 := atoms_spec (ws := Cond.code yX6_init cX6_init 1 none :: TB) B.pre
  have hts : ∀ w ∈ TB, w.before ([.ref h0] : List Value).toArray s = true := fun w hw => hts0 w (List.mem_cons_of_mem _ hw)
  have hown : s.vm.findClass RX6 = some m.cls := findClass_of_methodNamed B.named
  have hlocks := B.notSynchronized
  have hin : meth.name = "<init>" := (name_of_methodNamed B.named B.method).1
  subst hsz
  have hD : va_D (va_A [(h0, .inr (6, f0X6))] s.heap.size) [(h0, .inr (6, f0X6))] := ctOne
  generalize hAe : va_A [(h0, .inr (6, f0X6))] s.heap.size = A at hD ⊢
  have hA : ∀ q : Nat, s.heap.size ≤ q → A q := fun q h => by rw [← hAe]; exact Or.inr h
  have hS : va_S A s.heap s.heap [] := va_S.rf
  have hl := lv_entry ([.ref h0]) (n := 1) (Nat.le_of_ble_eq_true rfl)
  rw [lg_entry_eq]
  generalize (lg_sl ([.ref h0]) ++ List.replicate (1 - (lg_sl ([.ref h0])).length) Slot.unset).toArray = ls at hl ⊢
  have hl : lv_has ls 1 [(0, .ref h0)] := hl
  have hl0 := lv_at hl 0 rfl
  refine lv_aload_n hx hb dX6i_0 rfl hl0 ?_
  refine W.objInit hx hb hown (hts _ lkX6i_1) (hts _ oiInst) (hts _ oiCode) rfl (by rw [hml]; exact hl.1) rfl dX6i_1 (Nat.le_of_ble_eq_true rfl) (Nat.le_of_ble_eq_true rfl) ?_
  refine W.eq (g2 := F0 m 4 ls []) rfl ?_
  refine lv_aload_n hx hb dX6i_4 rfl hl0 ?_
  refine ctNew (own := RX6) (ci := 3) (fs := f0X3) (blk := bkX3) (tyf := tkX3) (nL := 1) hx hb hml hts hN hown rfl tyX3 tyX3_ok dfX3 hK hP hD hS hA lkX6i_5 wInX3 wIiX3 (ctX3 l D) rfl rfl ⟨Nat.le_of_ble_eq_true rfl, Nat.le_of_ble_eq_true rfl⟩ rfl rfl ⟨by decide, by decide, by decide +kernel⟩ wImX3 cdX3_init (Or.inr lkX6i_9) dX6i_5 dX6i_8 dX6i_9 hl.1 (Nat.le_of_ble_eq_true rfl) (Nat.le_of_ble_eq_true rfl) (Nat.le_of_ble_eq_true rfl) (fun q1 u1 H locs hK hP hD hS => ?_)
  refine va_putF (D := D) (ci := 6) (v := .ref q1) hx hb hts (cls_words 6 RX6 TX6 11 rfl).1 tyX6 tyX6_ok nmX6 hown hK hP hD hS 0 rfl rfl 0 (by decide) (hts _ lkX6i_12) (fun _ h => h) rfl hin rfl (tyX6_ok 0 (by decide)) rfl rfl (Nat.le_of_ble_eq_true rfl) dX6i_12 (fun H locs hP hD hS => ?_)
  refine lv_aload_n hx hb dX6i_15 rfl hl0 ?_
  refine ctNew (own := RX6) (ci := 4) (fs := f0X4) (blk := bkX4) (tyf := tkX4) (nL := 1) hx hb hml hts hN hown rfl tyX4 tyX4_ok dfX4 hK hP hD hS hA lkX6i_16 wInX4 wIiX4 (ctX4 l D) rfl rfl ⟨Nat.le_of_ble_eq_true rfl, Nat.le_of_ble_eq_true rfl⟩ rfl rfl ⟨by decide, by decide, by decide +kernel⟩ wImX4 cdX4_init (Or.inr lkX6i_20) dX6i_16 dX6i_19 dX6i_20 hl.1 (Nat.le_of_ble_eq_true rfl) (Nat.le_of_ble_eq_true rfl) (Nat.le_of_ble_eq_true rfl) (fun q2 u2 H locs hK hP hD hS => ?_)
  refine va_putF (D := D) (ci := 6) (v := .ref q2) hx hb hts (cls_words 6 RX6 TX6 11 rfl).1 tyX6 tyX6_ok nmX6 hown hK hP hD hS 0 rfl rfl 1 (by decide) (hts _ lkX6i_23) (fun _ h => h) rfl hin rfl (tyX6_ok 1 (by decide)) rfl rfl (Nat.le_of_ble_eq_true rfl) dX6i_23 (fun H locs hP hD hS => ?_)
  refine lv_aload_n hx hb dX6i_26 rfl hl0 ?_
  refine ctNew (own := RX6) (ci := 5) (fs := f0X5) (blk := bkX5) (tyf := tkX5) (nL := 1) hx hb hml hts hN hown rfl tyX5 tyX5_ok dfX5 hK hP hD hS hA lkX6i_27 wInX5 wIiX5 (ctX5 l D) rfl rfl ⟨Nat.le_of_ble_eq_true rfl, Nat.le_of_ble_eq_true rfl⟩ rfl rfl ⟨by decide, by decide, by decide +kernel⟩ wImX5 cdX5_init (Or.inr lkX6i_31) dX6i_27 dX6i_30 dX6i_31 hl.1 (Nat.le_of_ble_eq_true rfl) (Nat.le_of_ble_eq_true rfl) (Nat.le_of_ble_eq_true rfl) (fun q3 u3 H locs hK hP hD hS => ?_)
  refine va_putF (D := D) (ci := 6) (v := .ref q3) hx hb hts (cls_words 6 RX6 TX6 11 rfl).1 tyX6 tyX6_ok nmX6 hown hK hP hD hS 0 rfl rfl 2 (by decide) (hts _ lkX6i_34) (fun _ h => h) rfl hin rfl (tyX6_ok 2 (by decide)) rfl rfl (Nat.le_of_ble_eq_true rfl) dX6i_34 (fun H locs hP hD hS => ?_)
  refine lv_aload_n hx hb dX6i_37 rfl hl0 ?_
  refine ctNew (own := RX6) (ci := 5) (fs := f0X5) (blk := bkX5) (tyf := tkX5) (nL := 1) hx hb hml hts hN hown rfl tyX5 tyX5_ok dfX5 hK hP hD hS hA lkX6i_38 wInX5 wIiX5 (ctX5 l D) rfl rfl ⟨Nat.le_of_ble_eq_true rfl, Nat.le_of_ble_eq_true rfl⟩ rfl rfl ⟨by decide, by decide, by decide +kernel⟩ wImX5 cdX5_init (Or.inr lkX6i_42) dX6i_38 dX6i_41 dX6i_42 hl.1 (Nat.le_of_ble_eq_true rfl) (Nat.le_of_ble_eq_true rfl) (Nat.le_of_ble_eq_true rfl) (fun q4 u4 H locs hK hP hD hS => ?_)
  refine va_putF (D := D) (ci := 6) (v := .ref q4) hx hb hts (cls_words 6 RX6 TX6 11 rfl).1 tyX6 tyX6_ok nmX6 hown hK hP hD hS 0 rfl rfl 3 (by decide) (hts _ lkX6i_45) (fun _ h => h) rfl hin rfl (tyX6_ok 3 (by decide)) rfl rfl (Nat.le_of_ble_eq_true rfl) dX6i_45 (fun H locs hP hD hS => ?_)
  refine lv_aload_n hx hb dX6i_48 rfl hl0 ?_
  refine ctNew (own := RX6) (ci := 5) (fs := f0X5) (blk := bkX5) (tyf := tkX5) (nL := 1) hx hb hml hts hN hown rfl tyX5 tyX5_ok dfX5 hK hP hD hS hA lkX6i_49 wInX5 wIiX5 (ctX5 l D) rfl rfl ⟨Nat.le_of_ble_eq_true rfl, Nat.le_of_ble_eq_true rfl⟩ rfl rfl ⟨by decide, by decide, by decide +kernel⟩ wImX5 cdX5_init (Or.inr lkX6i_53) dX6i_49 dX6i_52 dX6i_53 hl.1 (Nat.le_of_ble_eq_true rfl) (Nat.le_of_ble_eq_true rfl) (Nat.le_of_ble_eq_true rfl) (fun q5 u5 H locs hK hP hD hS => ?_)
  refine va_putF (D := D) (ci := 6) (v := .ref q5) hx hb hts (cls_words 6 RX6 TX6 11 rfl).1 tyX6 tyX6_ok nmX6 hown hK hP hD hS 0 rfl rfl 4 (by decide) (hts _ lkX6i_56) (fun _ h => h) rfl hin rfl (tyX6_ok 4 (by decide)) rfl rfl (Nat.le_of_ble_eq_true rfl) dX6i_56 (fun H locs hP hD hS => ?_)
  refine lv_aload_n hx hb dX6i_59 rfl hl0 ?_
  refine ctNew (own := RX6) (ci := 5) (fs := f0X5) (blk := bkX5) (tyf := tkX5) (nL := 1) hx hb hml hts hN hown rfl tyX5 tyX5_ok dfX5 hK hP hD hS hA lkX6i_60 wInX5 wIiX5 (ctX5 l D) rfl rfl ⟨Nat.le_of_ble_eq_true rfl, Nat.le_of_ble_eq_true rfl⟩ rfl rfl ⟨by decide, by decide, by decide +kernel⟩ wImX5 cdX5_init (Or.inr lkX6i_64) dX6i_60 dX6i_63 dX6i_64 hl.1 (Nat.le_of_ble_eq_true rfl) (Nat.le_of_ble_eq_true rfl) (Nat.le_of_ble_eq_true rfl) (fun q6 u6 H locs hK hP hD hS => ?_)
  refine va_putF (D := D) (ci := 6) (v := .ref q6) hx hb hts (cls_words 6 RX6 TX6 11 rfl).1 tyX6 tyX6_ok nmX6 hown hK hP hD hS 0 rfl rfl 5 (by decide) (hts _ lkX6i_67) (fun _ h => h) rfl hin rfl (tyX6_ok 5 (by decide)) rfl rfl (Nat.le_of_ble_eq_true rfl) dX6i_67 (fun H locs hP hD hS => ?_)
  refine lv_aload_n hx hb dX6i_70 rfl hl0 ?_
  refine ctNew (own := RX6) (ci := 0) (fs := f0X0) (blk := bkX0) (tyf := tkX0) (nL := 1) hx hb hml hts hN hown rfl tyX0 tyX0_ok dfX0 hK hP hD hS hA lkX6i_71 wInX0 wIiX0 (ctX0 l D) rfl rfl ⟨Nat.le_of_ble_eq_true rfl, Nat.le_of_ble_eq_true rfl⟩ rfl rfl ⟨by decide, by decide, by decide +kernel⟩ wImX0 cdX0_init (Or.inr lkX6i_75) dX6i_71 dX6i_74 dX6i_75 hl.1 (Nat.le_of_ble_eq_true rfl) (Nat.le_of_ble_eq_true rfl) (Nat.le_of_ble_eq_true rfl) (fun q7 u7 H locs hK hP hD hS => ?_)
  refine va_putF (D := D) (ci := 6) (v := .ref q7) hx hb hts (cls_words 6 RX6 TX6 11 rfl).1 tyX6 tyX6_ok nmX6 hown hK hP hD hS 0 rfl rfl 6 (by decide) (hts _ lkX6i_78) (fun _ h => h) rfl hin rfl (tyX6_ok 6 (by decide)) rfl rfl (Nat.le_of_ble_eq_true rfl) dX6i_78 (fun H locs hP hD hS => ?_)
  refine lv_aload_n hx hb dX6i_81 rfl hl0 ?_
  refine ctNew (own := RX6) (ci := 2) (fs := f0X2) (blk := bkX2) (tyf := tkX2) (nL := 1) hx hb hml hts hN hown rfl tyX2 tyX2_ok dfX2 hK hP hD hS hA lkX6i_82 wInX2 wIiX2 (ctX2 l D) rfl rfl ⟨Nat.le_of_ble_eq_true rfl, Nat.le_of_ble_eq_true rfl⟩ rfl rfl ⟨by decide, by decide, by decide +kernel⟩ wImX2 cdX2_init (Or.inr lkX6i_86) dX6i_82 dX6i_85 dX6i_86 hl.1 (Nat.le_of_ble_eq_true rfl) (Nat.le_of_ble_eq_true rfl) (Nat.le_of_ble_eq_true rfl) (fun q8 u8 H locs hK hP hD hS => ?_)
  refine va_putF (D := D) (ci := 6) (v := .ref q8) hx hb hts (cls_words 6 RX6 TX6 11 rfl).1 tyX6 tyX6_ok nmX6 hown hK hP hD hS 0 rfl rfl 7 (by decide) (hts _ lkX6i_89) (fun _ h => h) rfl hin rfl (tyX6_ok 7 (by decide)) rfl rfl (Nat.le_of_ble_eq_true rfl) dX6i_89 (fun H locs hP hD hS => ?_)
  refine lv_aload_n hx hb dX6i_92 rfl hl0 ?_
  refine ctNew (own := RX6) (ci := 1) (fs := f0X1) (blk := bkX1) (tyf := tkX1) (nL := 1) hx hb hml hts hN hown rfl tyX1 tyX1_ok dfX1 hK hP hD hS hA lkX6i_93 wInX1 wIiX1 (ctX1 l D) rfl rfl ⟨Nat.le_of_ble_eq_true rfl, Nat.le_of_ble_eq_true rfl⟩ rfl rfl ⟨by decide, by decide, by decide +kernel⟩ wImX1 cdX1_init (Or.inr lkX6i_97) dX6i_93 dX6i_96 dX6i_97 hl.1 (Nat.le_of_ble_eq_true rfl) (Nat.le_of_ble_eq_true rfl) (Nat.le_of_ble_eq_true rfl) (fun q9 u9 H locs hK hP hD hS => ?_)
  refine va_putF (D := D) (ci := 6) (v := .ref q9) hx hb hts (cls_words 6 RX6 TX6 11 rfl).1 tyX6 tyX6_ok nmX6 hown hK hP hD hS 0 rfl rfl 8 (by decide) (hts _ lkX6i_100) (fun _ h => h) rfl hin rfl (tyX6_ok 8 (by decide)) rfl rfl (Nat.le_of_ble_eq_true rfl) dX6i_100 (fun H locs hP hD hS => ?_)
  refine W.widen (k := 49) (n := 1936) (by decide) (by decide) ?_
  exact W.vret hx hb hr (fun t ht hW => ⟨⟨(fun k => [(0, u1), (q1, u1), (q2, u2), (q3, u3), (q4, u4), (q5, u5), (q6, u6), (q7, u7), (q8, u8), (q9, u9)].getD k (0, u1)), rfl, trivial, by rw [ht]; exact hP, va_K.moved hW.alike hK, hD⟩, hS.F ht⟩) hS.2.2 dX6i_103
