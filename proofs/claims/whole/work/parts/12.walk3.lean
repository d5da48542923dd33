abbrev wd_X3_unitsIn (cI cJ cZ : ClassId) (a0 a_nodes a_units a_came a_went a_drained a_reached a_present a_portion a_rest : Nat) (v_presentCount : Int32) (f_came : (Nat → Int64)) (f_went : (Nat → Int64)) : va_W := [(a0, .inr (3, [.ref a_nodes, .ref a_units, .ref a_came, .ref a_went, .ref a_drained, .ref a_reached, .ref a_present, .ref a_portion, .ref a_rest, .int v_presentCount])), (a_came, .inl (cJ, 48, .inr (.inl f_came))), (a_went, .inl (cJ, 48, .inr (.inl f_went)))]
abbrev rm_X3_unitsIn : Room := { frames := 0, cells := 0, slots := 0, locals := 0 }
def wp_X3_unitsIn (post : Int64 → Prop) (v_presentCount : Int32) (f_came : (Nat → Int64)) (f_went : (Nat → Int64)) (p1 : Int32) : Prop := (vp_in p1 48 ∧ (vp_in p1 48 ∧ (post ((f_came p1.toNatClampNeg) - (f_went p1.toNatClampNeg)))))
set_option maxHeartbeats 4000000 in
set_option maxRecDepth 100000 in
theorem cw_X3_unitsIn (l : Launch) (dC : Nat → ClassId) (dI : Nat → Nat → Nat) (cI cJ cZ : ClassId) (a0 a_nodes a_units a_came a_went a_drained a_reached a_present a_portion a_rest : Nat) (sz : Nat) (v_presentCount : Int32) (f_came : (Nat → Int64)) (f_went : (Nat → Int64)) (p1 : Int32) (post : Int64 → Prop) (h : wp_X3_unitsIn post v_presentCount f_came f_went p1) : Met l yX3_unitsIn wsX3_unitsIn rm_X3_unitsIn (va_Pc [.ref a0, .int p1] (vv_B (dC, dI) (vv_ty cI cJ cZ) (wd_X3_unitsIn cI cJ cZ a0 a_nodes a_units a_came a_went a_drained a_reached a_present a_portion a_rest v_presentCount f_came f_went) sz)) (va_Ql (fun r (_u : Unit) => post r) (vv_E (dC, dI) (vv_ty cI cJ cZ) (va_A (wd_X3_unitsIn cI cJ cZ a0 a_nodes a_units a_came a_went a_drained a_reached a_present a_portion a_rest v_presentCount f_came f_went) sz) (fun _u : Unit => wd_X3_unitsIn cI cJ cZ a0 a_nodes a_units a_came a_went a_drained a_reached a_present a_portion a_rest v_presentCount f_came f_went)) (va_A (wd_X3_unitsIn cI cJ cZ a0 a_nodes a_units a_came a_went a_drained a_reached a_present a_portion a_rest v_presentCount f_came f_went) sz)) 0 0 (va_A (wd_X3_unitsIn cI cJ cZ a0 a_nodes a_units a_came a_went a_drained a_reached a_present a_portion a_rest v_presentCount f_came f_went) sz) := by
  refine Met.ofW (cc := cX3_unitsIn) (maxL := 2) (ret := (some .long)) (by decide) rfl ?_
  intro p e s m args below meth c s₁ B hml hv
  obtain ⟨hav, hsz, hP, hK, hD0⟩ := hv
  have hx := B.exec
  have hb := B.bytes
  have hr := B.returns
  have hts := atoms_spec (ws := wsX3_unitsIn) B.pre
  have hown : s.vm.findClass RX3 = some m.cls := findClass_of_methodNamed B.named
  have hlocks := B.notSynchronized
  subst hsz
  have hD := hD0.self (sz := s.heap.size)
  clear hD0
  generalize hAe : va_A (wd_X3_unitsIn cI cJ cZ a0 a_nodes a_units a_came a_went a_drained a_reached a_present a_portion a_rest v_presentCount f_came f_went) s.heap.size = A at hD ⊢
  have hA : ∀ q : Nat, s.heap.size ≤ q → A q := fun q h => by rw [← hAe]; exact Or.inr h
  clear hAe
  have hS : va_S A s.heap s.heap [] := va_S.rf
  have hl := lv_entry ([.ref a0, .int p1]) (n := 2) (Nat.le_of_ble_eq_true rfl)
  subst hav
  rw [lg_entry_eq]
  generalize (lg_sl ([.ref a0, .int p1]) ++ List.replicate (2 - (lg_sl ([.ref a0, .int p1])).length) Slot.unset).toArray = ls at hl ⊢
  replace hl : lv_has ls 2 [(0, .ref a0), (1, .int p1)] := hl
  clear B
  generalize (([.ref a0, .int p1] : List Value)).toArray = av at hts ⊢
  suffices MAIN : ∀ Q : State → Prop, (∀ (v : Int64) (H : Heap) (locs : List Loc) (ls : Array Slot) (pc : Nat), post v → va_P (dC, dI) vwCl (wd_X3_unitsIn cI cJ cZ a0 a_nodes a_units a_came a_went a_drained a_reached a_present a_portion a_rest v_presentCount f_came f_went) H → va_D A (wd_X3_unitsIn cI cJ cZ a0 a_nodes a_units a_came a_went a_drained a_reached a_present a_portion a_rest v_presentCount f_came f_went) → va_S A s.heap H locs → decode cX3_unitsIn pc = .ok (.lreturn, 1) → W p l e rm_X3_unitsIn s m av below meth c H locs 0 0 Q (F0 m pc ls [.long v])) → W p l e rm_X3_unitsIn s m av below meth c s.heap [] 0 0 Q (F0 m 0 ls []) from MAIN _ (fun v H locs ls pc h hP hD hS hd => vv_lret () hx hb hr hlocks h hK hP hD hS hd)
  intro Q RET
  have fl15 := hts (.fieldLink RX3 15 "LotFlows$Stock" "came" "[J") (by decide +kernel)
  have fl18 := hts (.fieldLink RX3 18 "LotFlows$Stock" "went" "[J") (by decide +kernel)
  have in_X3 : ∀ w ∈ wsX30, w ∈ wsX3_unitsIn := by decide +kernel
  suffices START : ∀ (H : Heap) (locs : List Loc), va_P (dC, dI) vwCl (wd_X3_unitsIn cI cJ cZ a0 a_nodes a_units a_came a_went a_drained a_reached a_present a_portion a_rest v_presentCount f_came f_went) H → va_D A (wd_X3_unitsIn cI cJ cZ a0 a_nodes a_units a_came a_went a_drained a_reached a_present a_portion a_rest v_presentCount f_came f_went) → va_S A s.heap H locs → W p l e rm_X3_unitsIn s m av below meth c H locs 0 0 Q (F0 m 0 ls []) from START s.heap [] hP hD hS
  clear hP hD hS
  intro H locs hP hD hS
  refine lv_aload_n hx hb dX3_unitsIn_0 rfl (lv_at hl 0 rfl) ?_
  refine va_get (D := (dC, dI)) (ci := 3) (v := .ref a_came) (C := RX3) (T := TX3) (N := 10) hx hb hts in_X3 hown hK hP 0 rfl rfl 2 (by decide) fl15 (fun _ h9 => h9) rfl dX3_unitsIn_1 ?_
  refine lv_iload_n hx hb dX3_unitsIn_4 rfl (lv_at hl 1 rfl) ?_
  obtain ⟨hi_1, h⟩ := h
  refine va_lald hx hb hK hP 1 1 rfl rfl hi_1 dX3_unitsIn_5 ?_
  refine lv_aload_n hx hb dX3_unitsIn_6 rfl (lv_at hl 0 rfl) ?_
  refine va_get (D := (dC, dI)) (ci := 3) (v := .ref a_went) (C := RX3) (T := TX3) (N := 10) hx hb hts in_X3 hown hK hP 0 rfl rfl 3 (by decide) fl18 (fun _ h9 => h9) rfl dX3_unitsIn_7 ?_
  refine lv_iload_n hx hb dX3_unitsIn_10 rfl (lv_at hl 1 rfl) ?_
  obtain ⟨hi_2, h⟩ := h
  refine va_lald hx hb hK hP 2 1 rfl rfl hi_2 dX3_unitsIn_11 ?_
  refine lv_lsub hx hb dX3_unitsIn_12 ?_
  exact RET ((f_came p1.toNatClampNeg) - (f_went p1.toNatClampNeg)) H locs ls 13 h hP hD hS dX3_unitsIn_13

abbrev wd_X3_unitsOf (cI cJ cZ : ClassId) (a0 a_nodes a_units a_came a_went a_drained a_reached a_present a_portion a_rest : Nat) (v_presentCount : Int32) (f_units : (Nat → Int64)) : va_W := [(a0, .inr (3, [.ref a_nodes, .ref a_units, .ref a_came, .ref a_went, .ref a_drained, .ref a_reached, .ref a_present, .ref a_portion, .ref a_rest, .int v_presentCount])), (a_units, .inl (cJ, 2304, .inr (.inl f_units)))]
abbrev rm_X3_unitsOf : Room := { frames := 0, cells := 0, slots := 0, locals := 0 }
def wp_X3_unitsOf (post : Int64 → Prop) (v_presentCount : Int32) (f_units : (Nat → Int64)) (p1 : Int32) (p2 : Int32) : Prop := (vp_in ((p1 * 48) + p2) 2304 ∧ (post (f_units ((p1 * 48) + p2).toNatClampNeg)))
set_option maxHeartbeats 4000000 in
set_option maxRecDepth 100000 in
theorem cw_X3_unitsOf (l : Launch) (dC : Nat → ClassId) (dI : Nat → Nat → Nat) (cI cJ cZ : ClassId) (a0 a_nodes a_units a_came a_went a_drained a_reached a_present a_portion a_rest : Nat) (sz : Nat) (v_presentCount : Int32) (f_units : (Nat → Int64)) (p1 : Int32) (p2 : Int32) (post : Int64 → Prop) (h : wp_X3_unitsOf post v_presentCount f_units p1 p2) : Met l yX3_unitsOf wsX3_unitsOf rm_X3_unitsOf (va_Pc [.ref a0, .int p1, .int p2] (vv_B (dC, dI) (vv_ty cI cJ cZ) (wd_X3_unitsOf cI cJ cZ a0 a_nodes a_units a_came a_went a_drained a_reached a_present a_portion a_rest v_presentCount f_units) sz)) (va_Ql (fun r (_u : Unit) => post r) (vv_E (dC, dI) (vv_ty cI cJ cZ) (va_A (wd_X3_unitsOf cI cJ cZ a0 a_nodes a_units a_came a_went a_drained a_reached a_present a_portion a_rest v_presentCount f_units) sz) (fun _u : Unit => wd_X3_unitsOf cI cJ cZ a0 a_nodes a_units a_came a_went a_drained a_reached a_present a_portion a_rest v_presentCount f_units)) (va_A (wd_X3_unitsOf cI cJ cZ a0 a_nodes a_units a_came a_went a_drained a_reached a_present a_portion a_rest v_presentCount f_units) sz)) 0 0 (va_A (wd_X3_unitsOf cI cJ cZ a0 a_nodes a_units a_came a_went a_drained a_reached a_present a_portion a_rest v_presentCount f_units) sz) := by
  refine Met.ofW (cc := cX3_unitsOf) (maxL := 3) (ret := (some .long)) (by decide) rfl ?_
  intro p e s m args below meth c s₁ B hml hv
  obtain ⟨hav, hsz, hP, hK, hD0⟩ := hv
  have hx := B.exec
  have hb := B.bytes
  have hr := B.returns
  have hts := atoms_spec (ws := wsX3_unitsOf) B.pre
  have hown : s.vm.findClass RX3 = some m.cls := findClass_of_methodNamed B.named
  have hlocks := B.notSynchronized
  subst hsz
  have hD := hD0.self (sz := s.heap.size)
  clear hD0
  generalize hAe : va_A (wd_X3_unitsOf cI cJ cZ a0 a_nodes a_units a_came a_went a_drained a_reached a_present a_portion a_rest v_presentCount f_units) s.heap.size = A at hD ⊢
  have hA : ∀ q : Nat, s.heap.size ≤ q → A q := fun q h => by rw [← hAe]; exact Or.inr h
  clear hAe
  have hS : va_S A s.heap s.heap [] := va_S.rf
  have hl := lv_entry ([.ref a0, .int p1, .int p2]) (n := 3) (Nat.le_of_ble_eq_true rfl)
  subst hav
  rw [lg_entry_eq]
  generalize (lg_sl ([.ref a0, .int p1, .int p2]) ++ List.replicate (3 - (lg_sl ([.ref a0, .int p1, .int p2])).length) Slot.unset).toArray = ls at hl ⊢
  replace hl : lv_has ls 3 [(0, .ref a0), (1, .int p1), (2, .int p2)] := hl
  clear B
  generalize (([.ref a0, .int p1, .int p2] : List Value)).toArray = av at hts ⊢
  suffices MAIN : ∀ Q : State → Prop, (∀ (v : Int64) (H : Heap) (locs : List Loc) (ls : Array Slot) (pc : Nat), post v → va_P (dC, dI) vwCl (wd_X3_unitsOf cI cJ cZ a0 a_nodes a_units a_came a_went a_drained a_reached a_present a_portion a_rest v_presentCount f_units) H → va_D A (wd_X3_unitsOf cI cJ cZ a0 a_nodes a_units a_came a_went a_drained a_reached a_present a_portion a_rest v_presentCount f_units) → va_S A s.heap H locs → decode cX3_unitsOf pc = .ok (.lreturn, 1) → W p l e rm_X3_unitsOf s m av below meth c H locs 0 0 Q (F0 m pc ls [.long v])) → W p l e rm_X3_unitsOf s m av below meth c s.heap [] 0 0 Q (F0 m 0 ls []) from MAIN _ (fun v H locs ls pc h hP hD hS hd => vv_lret () hx hb hr hlocks h hK hP hD hS hd)
  intro Q RET
  have fl9 := hts (.fieldLink RX3 9 "LotFlows$Stock" "units" "[J") (by decide +kernel)
  have in_X3 : ∀ w ∈ wsX30, w ∈ wsX3_unitsOf := by decide +kernel
  suffices START : ∀ (H : Heap) (locs : List Loc), va_P (dC, dI) vwCl (wd_X3_unitsOf cI cJ cZ a0 a_nodes a_units a_came a_went a_drained a_reached a_present a_portion a_rest v_presentCount f_units) H → va_D A (wd_X3_unitsOf cI cJ cZ a0 a_nodes a_units a_came a_went a_drained a_reached a_present a_portion a_rest v_presentCount f_units) → va_S A s.heap H locs → W p l e rm_X3_unitsOf s m av below meth c H locs 0 0 Q (F0 m 0 ls []) from START s.heap [] hP hD hS
  clear hP hD hS
  intro H locs hP hD hS
  refine lv_aload_n hx hb dX3_unitsOf_0 rfl (lv_at hl 0 rfl) ?_
  refine va_get (D := (dC, dI)) (ci := 3) (v := .ref a_units) (C := RX3) (T := TX3) (N := 10) hx hb hts in_X3 hown hK hP 0 rfl rfl 1 (by decide) fl9 (fun _ h9 => h9) rfl dX3_unitsOf_1 ?_
  refine lv_iload_n hx hb dX3_unitsOf_4 rfl (lv_at hl 1 rfl) ?_
  refine lv_bipush (v := 48) hx hb dX3_unitsOf_5 (by decide) ?_
  refine lv_imul hx hb dX3_unitsOf_7 ?_
  refine lv_iload_n hx hb dX3_unitsOf_8 rfl (lv_at hl 2 rfl) ?_
  refine lv_iadd hx hb dX3_unitsOf_9 ?_
  obtain ⟨hi_1, h⟩ := h
  refine va_lald hx hb hK hP 1 1 rfl rfl hi_1 dX3_unitsOf_10 ?_
  exact RET (f_units ((p1 * 48) + p2).toNatClampNeg) H locs ls 11 h hP hD hS dX3_unitsOf_11

abbrev wd_X3_hasReached (cI cJ cZ : ClassId) (a0 a_nodes a_units a_came a_went a_drained a_reached a_present a_portion a_rest : Nat) (v_presentCount : Int32) (f_reached : (Nat → Int64)) : va_W := [(a0, .inr (3, [.ref a_nodes, .ref a_units, .ref a_came, .ref a_went, .ref a_drained, .ref a_reached, .ref a_present, .ref a_portion, .ref a_rest, .int v_presentCount])), (a_reached, .inl (cJ, 48, .inr (.inl f_reached)))]
abbrev rm_X3_hasReached : Room := { frames := 0, cells := 0, slots := 0, locals := 0 }
def wp_X3_hasReached (post : Int32 → Prop) (v_presentCount : Int32) (f_reached : (Nat → Int64)) (p1 : Int32) (p2 : Int32) : Prop := (vp_in p2 48 ∧ (((((f_reached p2.toNatClampNeg) &&& (1 <<< (p1.toInt64 &&& 63))) = 0 → post 0) ∧ (¬ ((f_reached p2.toNatClampNeg) &&& (1 <<< (p1.toInt64 &&& 63))) = 0 → post 1))))
set_option maxHeartbeats 4000000 in
set_option maxRecDepth 100000 in
theorem cw_X3_hasReached (l : Launch) (dC : Nat → ClassId) (dI : Nat → Nat → Nat) (cI cJ cZ : ClassId) (a0 a_nodes a_units a_came a_went a_drained a_reached a_present a_portion a_rest : Nat) (sz : Nat) (v_presentCount : Int32) (f_reached : (Nat → Int64)) (p1 : Int32) (p2 : Int32) (post : Int32 → Prop) (h : wp_X3_hasReached post v_presentCount f_reached p1 p2) : Met l yX3_hasReached wsX3_hasReached rm_X3_hasReached (va_Pc [.ref a0, .int p1, .int p2] (vv_B (dC, dI) (vv_ty cI cJ cZ) (wd_X3_hasReached cI cJ cZ a0 a_nodes a_units a_came a_went a_drained a_reached a_present a_portion a_rest v_presentCount f_reached) sz)) (va_Qi (fun r (_u : Unit) => post r) (vv_E (dC, dI) (vv_ty cI cJ cZ) (va_A (wd_X3_hasReached cI cJ cZ a0 a_nodes a_units a_came a_went a_drained a_reached a_present a_portion a_rest v_presentCount f_reached) sz) (fun _u : Unit => wd_X3_hasReached cI cJ cZ a0 a_nodes a_units a_came a_went a_drained a_reached a_present a_portion a_rest v_presentCount f_reached)) (va_A (wd_X3_hasReached cI cJ cZ a0 a_nodes a_units a_came a_went a_drained a_reached a_present a_portion a_rest v_presentCount f_reached) sz)) 0 0 (va_A (wd_X3_hasReached cI cJ cZ a0 a_nodes a_units a_came a_went a_drained a_reached a_present a_portion a_rest v_presentCount f_reached) sz) := by
  refine Met.ofW (cc := cX3_hasReached) (maxL := 3) (ret := (some .boolean)) (by decide) rfl ?_
  intro p e s m args below meth c s₁ B hml hv
  obtain ⟨hav, hsz, hP, hK, hD0⟩ := hv
  have hx := B.exec
  have hb := B.bytes
  have hr := B.returns
  have hts := atoms_spec (ws := wsX3_hasReached) B.pre
  have hown : s.vm.findClass RX3 = some m.cls := findClass_of_methodNamed B.named
  have hlocks := B.notSynchronized
  subst hsz
  have hD := hD0.self (sz := s.heap.size)
  clear hD0
  generalize hAe : va_A (wd_X3_hasReached cI cJ cZ a0 a_nodes a_units a_came a_went a_drained a_reached a_present a_portion a_rest v_presentCount f_reached) s.heap.size = A at hD ⊢
  have hA : ∀ q : Nat, s.heap.size ≤ q → A q := fun q h => by rw [← hAe]; exact Or.inr h
  clear hAe
  have hS : va_S A s.heap s.heap [] := va_S.rf
  have hl := lv_entry ([.ref a0, .int p1, .int p2]) (n := 3) (Nat.le_of_ble_eq_true rfl)
  subst hav
  rw [lg_entry_eq]
  generalize (lg_sl ([.ref a0, .int p1, .int p2]) ++ List.replicate (3 - (lg_sl ([.ref a0, .int p1, .int p2])).length) Slot.unset).toArray = ls at hl ⊢
  replace hl : lv_has ls 3 [(0, .ref a0), (1, .int p1), (2, .int p2)] := hl
  clear B
  generalize (([.ref a0, .int p1, .int p2] : List Value)).toArray = av at hts ⊢
  suffices MAIN : ∀ Q : State → Prop, (∀ (v : Int32) (H : Heap) (locs : List Loc) (ls : Array Slot) (pc : Nat), vv_bo v → post v → va_P (dC, dI) vwCl (wd_X3_hasReached cI cJ cZ a0 a_nodes a_units a_came a_went a_drained a_reached a_present a_portion a_rest v_presentCount f_reached) H → va_D A (wd_X3_hasReached cI cJ cZ a0 a_nodes a_units a_came a_went a_drained a_reached a_present a_portion a_rest v_presentCount f_reached) → va_S A s.heap H locs → decode cX3_hasReached pc = .ok (.ireturn, 1) → W p l e rm_X3_hasReached s m av below meth c H locs 0 0 Q (F0 m pc ls [.int v])) → W p l e rm_X3_hasReached s m av below meth c s.heap [] 0 0 Q (F0 m 0 ls []) from MAIN _ (fun v H locs ls pc hbo h hP hD hS hd => vv_zret () hx hb hr hlocks hbo h hK hP hD hS hd)
  intro Q RET
  have fl24 := hts (.fieldLink RX3 24 "LotFlows$Stock" "reached" "[J") (by decide +kernel)
  have in_X3 : ∀ w ∈ wsX30, w ∈ wsX3_hasReached := by decide +kernel
  suffices START : ∀ (H : Heap) (locs : List Loc), va_P (dC, dI) vwCl (wd_X3_hasReached cI cJ cZ a0 a_nodes a_units a_came a_went a_drained a_reached a_present a_portion a_rest v_presentCount f_reached) H → va_D A (wd_X3_hasReached cI cJ cZ a0 a_nodes a_units a_came a_went a_drained a_reached a_present a_portion a_rest v_presentCount f_reached) → va_S A s.heap H locs → W p l e rm_X3_hasReached s m av below meth c H locs 0 0 Q (F0 m 0 ls []) from START s.heap [] hP hD hS
  clear hP hD hS
  intro H locs hP hD hS
  refine lv_aload_n hx hb dX3_hasReached_0 rfl (lv_at hl 0 rfl) ?_
  refine va_get (D := (dC, dI)) (ci := 3) (v := .ref a_reached) (C := RX3) (T := TX3) (N := 10) hx hb hts in_X3 hown hK hP 0 rfl rfl 5 (by decide) fl24 (fun _ h9 => h9) rfl dX3_hasReached_1 ?_
  refine lv_iload_n hx hb dX3_hasReached_4 rfl (lv_at hl 2 rfl) ?_
  obtain ⟨hi_1, h⟩ := h
  refine va_lald hx hb hK hP 1 1 rfl rfl hi_1 dX3_hasReached_5 ?_
  refine lv_lconst (v := 1) hx hb dX3_hasReached_6 (by decide) ?_
  refine lv_iload_n hx hb dX3_hasReached_7 rfl (lv_at hl 1 rfl) ?_
  refine lv_lshl hx hb dX3_hasReached_8 rfl ?_
  refine lv_land hx hb dX3_hasReached_9 ?_
  refine lv_lconst (v := 0) hx hb dX3_hasReached_10 (by decide) ?_
  refine vv_lcmp_eq (tgt := 19) hx hb dX3_hasReached_11 dX3_hasReached_12 (by decide) (fun c_2 => ?_) (fun c_2 => ?_)
  · replace h := h.1 c_2
    refine lv_iconst (v := 0) hx hb dX3_hasReached_19 (by decide) ?_
    exact RET 0 H locs ls 20 vv_bo0 h hP hD hS dX3_hasReached_20
  · replace h := h.2 c_2
    refine lv_iconst (v := 1) hx hb dX3_hasReached_15 (by decide) ?_
    refine lv_goto (tgt := 20) hx hb dX3_hasReached_16 (by decide) ?_
    exact RET 1 H locs ls 20 vv_bo1 h hP hD hS dX3_hasReached_20

abbrev wd_X3_sumOfLots (cI cJ cZ : ClassId) (a0 a_nodes a_units a_came a_went a_drained a_reached a_present a_portion a_rest a_nodes_kind a_nodes_amount a_nodes_day a_nodes_held a_nodes_spot a_nodes_lotsByAge : Nat) (v_presentCount : Int32) (v_nodes_count : Int32) (v_nodes_lotCount : Int32) (f_units : (Nat → Int64)) : va_W := [(a0, .inr (3, [.ref a_nodes, .ref a_units, .ref a_came, .ref a_went, .ref a_drained, .ref a_reached, .ref a_present, .ref a_portion, .ref a_rest, .int v_presentCount])), (a_nodes, .inr (1, [.int v_nodes_count, .int v_nodes_lotCount, .ref a_nodes_kind, .ref a_nodes_amount, .ref a_nodes_day, .ref a_nodes_held, .ref a_nodes_spot, .ref a_nodes_lotsByAge])), (a_units, .inl (cJ, 2304, .inr (.inl f_units)))]
abbrev rm_X3_sumOfLots : Room := { frames := 1, cells := 0, slots := 0, locals := 22 }
def wb_X3_sumOfLots_5 (post : Int64 → Prop) (v_presentCount : Int32) (v_nodes_count : Int32) (v_nodes_lotCount : Int32) (f_units : (Nat → Int64)) : Nat → Int32 → Int64 → Int32 → Prop
  | 0 => fun _ _ _ => False
  | n + 1 => fun x1 x2 x4 => ((v_nodes_count ≤ x4 → post x2) ∧ (¬ v_nodes_count ≤ x4 → (wp_X3_unitsOf (fun r_2 => ∀ x_3 : Int64, x_3 = (x2 + r_2) → ∀ x_4 : Int32, x_4 = x4 + 1 → wb_X3_sumOfLots_5 post v_presentCount v_nodes_count v_nodes_lotCount f_units  n x1 x_3 x_4) v_presentCount f_units x1 x4)))
def wp_X3_sumOfLots (post : Int64 → Prop) (v_presentCount : Int32) (v_nodes_count : Int32) (v_nodes_lotCount : Int32) (f_units : (Nat → Int64)) (p1 : Int32) : Prop := (∃ n_5 : Nat, wb_X3_sumOfLots_5 post v_presentCount v_nodes_count v_nodes_lotCount f_units n_5 p1 0 0)
set_option maxHeartbeats 4000000 in
set_option maxRecDepth 100000 in
theorem cw_X3_sumOfLots (l : Launch) (dC : Nat → ClassId) (dI : Nat → Nat → Nat) (cI cJ cZ : ClassId) (a0 a_nodes a_units a_came a_went a_drained a_reached a_present a_portion a_rest a_nodes_kind a_nodes_amount a_nodes_day a_nodes_held a_nodes_spot a_nodes_lotsByAge : Nat) (sz : Nat) (v_presentCount : Int32) (v_nodes_count : Int32) (v_nodes_lotCount : Int32) (f_units : (Nat → Int64)) (p1 : Int32) (post : Int64 → Prop) (h : wp_X3_sumOfLots post v_presentCount v_nodes_count v_nodes_lotCount f_units p1) : Met l yX3_sumOfLots wsX3_sumOfLots rm_X3_sumOfLots (va_Pc [.ref a0, .int p1] (vv_B (dC, dI) (vv_ty cI cJ cZ) (wd_X3_sumOfLots cI cJ cZ a0 a_nodes a_units a_came a_went a_drained a_reached a_present a_portion a_rest a_nodes_kind a_nodes_amount a_nodes_day a_nodes_held a_nodes_spot a_nodes_lotsByAge v_presentCount v_nodes_count v_nodes_lotCount f_units) sz)) (va_Ql (fun r (_u : Unit) => post r) (vv_E (dC, dI) (vv_ty cI cJ cZ) (va_A (wd_X3_sumOfLots cI cJ cZ a0 a_nodes a_units a_came a_went a_drained a_reached a_present a_portion a_rest a_nodes_kind a_nodes_amount a_nodes_day a_nodes_held a_nodes_spot a_nodes_lotsByAge v_presentCount v_nodes_count v_nodes_lotCount f_units) sz) (fun _u : Unit => wd_X3_sumOfLots cI cJ cZ a0 a_nodes a_units a_came a_went a_drained a_reached a_present a_portion a_rest a_nodes_kind a_nodes_amount a_nodes_day a_nodes_held a_nodes_spot a_nodes_lotsByAge v_presentCount v_nodes_count v_nodes_lotCount f_units)) (va_A (wd_X3_sumOfLots cI cJ cZ a0 a_nodes a_units a_came a_went a_drained a_reached a_present a_portion a_rest a_nodes_kind a_nodes_amount a_nodes_day a_nodes_held a_nodes_spot a_nodes_lotsByAge v_presentCount v_nodes_count v_nodes_lotCount f_units) sz)) 0 0 (va_A (wd_X3_sumOfLots cI cJ cZ a0 a_nodes a_units a_came a_went a_drained a_reached a_present a_portion a_rest a_nodes_kind a_nodes_amount a_nodes_day a_nodes_held a_nodes_spot a_nodes_lotsByAge v_presentCount v_nodes_count v_nodes_lotCount f_units) sz) := by
  refine Met.ofW (cc := cX3_sumOfLots) (maxL := 5) (ret := (some .long)) (by decide) rfl ?_
  intro p e s m args below meth c s₁ B hml hv
  obtain ⟨hav, hsz, hP, hK, hD0⟩ := hv
  have hx := B.exec
  have hb := B.bytes
  have hr := B.returns
  have hts := atoms_spec (ws := wsX3_sumOfLots) B.pre
  have hown : s.vm.findClass RX3 = some m.cls := findClass_of_methodNamed B.named
  have hlocks := B.notSynchronized
  subst hsz
  have hD := hD0.self (sz := s.heap.size)
  clear hD0
  generalize hAe : va_A (wd_X3_sumOfLots cI cJ cZ a0 a_nodes a_units a_came a_went a_drained a_reached a_present a_portion a_rest a_nodes_kind a_nodes_amount a_nodes_day a_nodes_held a_nodes_spot a_nodes_lotsByAge v_presentCount v_nodes_count v_nodes_lotCount f_units) s.heap.size = A at hD ⊢
  have hA : ∀ q : Nat, s.heap.size ≤ q → A q := fun q h => by rw [← hAe]; exact Or.inr h
  clear hAe
  have hS : va_S A s.heap s.heap [] := va_S.rf
  have hl := lv_entry ([.ref a0, .int p1]) (n := 5) (Nat.le_of_ble_eq_true rfl)
  subst hav
  rw [lg_entry_eq]
  generalize (lg_sl ([.ref a0, .int p1]) ++ List.replicate (5 - (lg_sl ([.ref a0, .int p1])).length) Slot.unset).toArray = ls at hl ⊢
  replace hl : lv_has ls 5 [(0, .ref a0), (1, .int p1)] := hl
  clear B
  generalize (([.ref a0, .int p1] : List Value)).toArray = av at hts ⊢
  suffices MAIN : ∀ Q : State → Prop, (∀ (v : Int64) (H : Heap) (locs : List Loc) (ls : Array Slot) (pc : Nat), post v → va_P (dC, dI) vwCl (wd_X3_sumOfLots cI cJ cZ a0 a_nodes a_units a_came a_went a_drained a_reached a_present a_portion a_rest a_nodes_kind a_nodes_amount a_nodes_day a_nodes_held a_nodes_spot a_nodes_lotsByAge v_presentCount v_nodes_count v_nodes_lotCount f_units) H → va_D A (wd_X3_sumOfLots cI cJ cZ a0 a_nodes a_units a_came a_went a_drained a_reached a_present a_portion a_rest a_nodes_kind a_nodes_amount a_nodes_day a_nodes_held a_nodes_spot a_nodes_lotsByAge v_presentCount v_nodes_count v_nodes_lotCount f_units) → va_S A s.heap H locs → decode cX3_sumOfLots pc = .ok (.lreturn, 1) → W p l e rm_X3_sumOfLots s m av below meth c H locs 0 0 Q (F0 m pc ls [.long v])) → W p l e rm_X3_sumOfLots s m av below meth c s.heap [] 0 0 Q (F0 m 0 ls []) from MAIN _ (fun v H locs ls pc h hP hD hS hd => vv_lret () hx hb hr hlocks h hK hP hD hS hd)
  intro Q RET
  have fl37 := hts (.fieldLink RX3 37 "LotFlows$Stock" "nodes" "LLotFlows$Nodes;") (by decide +kernel)
  have fl41 := hts (.fieldLink RX3 41 "LotFlows$Nodes" "count" "I") (by decide +kernel)
  have in_X1 : ∀ w ∈ wsX10, w ∈ wsX3_sumOfLots := by decide +kernel
  have in_X3 : ∀ w ∈ wsX30, w ∈ wsX3_sumOfLots := by decide +kernel
  have bk_5 : ∀ n : Nat, ∀ (x1 : Int32) (x2 : Int64) (x4 : Int32) (H : Heap) (locs : List Loc) (ls : Array Slot), va_P (dC, dI) vwCl (wd_X3_sumOfLots cI cJ cZ a0 a_nodes a_units a_came a_went a_drained a_reached a_present a_portion a_rest a_nodes_kind a_nodes_amount a_nodes_day a_nodes_held a_nodes_spot a_nodes_lotsByAge v_presentCount v_nodes_count v_nodes_lotCount f_units) H → va_D A (wd_X3_sumOfLots cI cJ cZ a0 a_nodes a_units a_came a_went a_drained a_reached a_present a_portion a_rest a_nodes_kind a_nodes_amount a_nodes_day a_nodes_held a_nodes_spot a_nodes_lotsByAge v_presentCount v_nodes_count v_nodes_lotCount f_units) → va_S A s.heap H locs → lv_has ls 5 [(0, .ref a0), (1, .int x1), (2, .long x2), (4, .int x4)] → wb_X3_sumOfLots_5 post v_presentCount v_nodes_count v_nodes_lotCount f_units n x1 x2 x4 → W p l e rm_X3_sumOfLots s m av below meth c H locs 0 0 Q (F0 m 5 ls []) := by
    intro n
    induction n with
    | zero =>
      intro x1 x2 x4 H locs ls hP hD hS hl h
      exact False.elim h
    | succ n ih5 =>
      intro x1 x2 x4 H locs ls hP hD hS hl h
      refine lv_iload hx hb dX3_sumOfLots_5 (lv_at hl 3 rfl) ?_
      refine lv_aload_n hx hb dX3_sumOfLots_7 rfl (lv_at hl 0 rfl) ?_
      refine va_get (D := (dC, dI)) (ci := 3) (v := .ref a_nodes) (C := RX3) (T := TX3) (N := 10) hx hb hts in_X3 hown hK hP 0 rfl rfl 0 (by decide) fl37 (fun _ h9 => h9) rfl dX3_sumOfLots_8 ?_
      refine va_get (D := (dC, dI)) (ci := 1) (v := .int v_nodes_count) (C := RX1) (T := TX1) (N := 8) hx hb hts in_X1 hown hK hP 1 rfl rfl 0 (by decide) fl41 (fun _ h9 => h9) rfl dX3_sumOfLots_11 ?_
      refine lv_icmp_ge (tgt := 33) hx hb dX3_sumOfLots_14 (by decide) (fun c_1 => ?_) (fun c_1 => ?_)
      · replace h := h.1 c_1
        refine lv_lload_n hx hb dX3_sumOfLots_33 rfl (lv_at hl 2 rfl) ?_
        exact RET x2 H locs ls 34 h hP hD hS dX3_sumOfLots_34
      · replace h := h.2 c_1
        refine lv_lload_n hx hb dX3_sumOfLots_17 rfl (lv_at hl 2 rfl) ?_
        refine lv_aload_n hx hb dX3_sumOfLots_18 rfl (lv_at hl 0 rfl) ?_
        refine lv_iload_n hx hb dX3_sumOfLots_19 rfl (lv_at hl 1 rfl) ?_
        refine lv_iload hx hb dX3_sumOfLots_20 (lv_at hl 3 rfl) ?_
        refine vv_gol [0, 2] [1] [(a_nodes, .inr (1, [.int v_nodes_count, .int v_nodes_lotCount, .ref a_nodes_kind, .ref a_nodes_amount, .ref a_nodes_day, .ref a_nodes_held, .ref a_nodes_spot, .ref a_nodes_lotsByAge]))] [1, 0, 2] (fun _ => wd_X3_sumOfLots cI cJ cZ a0 a_nodes a_units a_came a_went a_drained a_reached a_present a_portion a_rest a_nodes_kind a_nodes_amount a_nodes_day a_nodes_held a_nodes_spot a_nodes_lotsByAge v_presentCount v_nodes_count v_nodes_lotCount f_units) (vv_rv (rest := [.long x2]) (ci := 3) ⟨hx, hb, hml, hown, hts⟩ (cw_X3_unitsOf l dC dI cI cJ cZ a0 a_nodes a_units a_came a_went a_drained a_reached a_present a_portion a_rest (H.size) v_presentCount f_units x1 x4 _ h) (cwV 2 hts gX3_sumOfLots_X3_unitsOf rfl rfl rfl (by decide +kernel) ⟨Nat.le_of_ble_eq_true rfl, Nat.le_of_ble_eq_true rfl⟩) hK hP hD [0, 2] rfl (by decide) rfl rfl rfl hl.1 rfl (Nat.le_of_ble_eq_true rfl) dX3_sumOfLots_22 ⟨Nat.le_of_ble_eq_true rfl, Nat.le_of_ble_eq_true rfl⟩) hP hD hS hA rfl rfl (by decide) (by decide) (fun _ => rfl) (by decide) (fun r_2 _ H locs h hP hD hS => ?_)
        replace hP : va_P (dC, dI) vwCl (wd_X3_sumOfLots cI cJ cZ a0 a_nodes a_units a_came a_went a_drained a_reached a_present a_portion a_rest a_nodes_kind a_nodes_amount a_nodes_day a_nodes_held a_nodes_spot a_nodes_lotsByAge v_presentCount v_nodes_count v_nodes_lotCount f_units) H := hP
        replace hD : va_D A (wd_X3_sumOfLots cI cJ cZ a0 a_nodes a_units a_came a_went a_drained a_reached a_present a_portion a_rest a_nodes_kind a_nodes_amount a_nodes_day a_nodes_held a_nodes_spot a_nodes_lotsByAge v_presentCount v_nodes_count v_nodes_lotCount f_units) := hD
        refine lv_ladd hx hb dX3_sumOfLots_25 ?_
        refine lv_topl (fun x_3 ex_3 => ?_)
        replace h := h x_3 ex_3
        refine lv_lstore_n (lv' := [(2, .long x_3), (0, .ref a0), (1, .int x1), (4, .int x4)]) hx hb dX3_sumOfLots_26 rfl hl (by decide) rfl (fun ls hl => ?_)
        obtain ⟨x_4, ex_4⟩ : ∃ y : Int32, y = x4 + 1 := ⟨_, rfl⟩
        replace h := h x_4 ex_4
        refine lv_iinc (v := x_4) (lv' := [(4, .int x_4), (2, .long x_3), (0, .ref a0), (1, .int x1)]) hx hb dX3_sumOfLots_27 hl (k := 3) rfl (by rw [ex_4]; rfl) (by decide) rfl (fun ls hl => ?_)
        refine lv_goto (tgt := 5) hx hb dX3_sumOfLots_30 (by decide) ?_
        exact ih5 x1 x_3 x_4 H locs ls hP hD hS (lv_sub hl [2, 3, 1, 0] rfl) h
  suffices START : ∀ (H : Heap) (locs : List Loc), va_P (dC, dI) vwCl (wd_X3_sumOfLots cI cJ cZ a0 a_nodes a_units a_came a_went a_drained a_reached a_present a_portion a_rest a_nodes_kind a_nodes_amount a_nodes_day a_nodes_held a_nodes_spot a_nodes_lotsByAge v_presentCount v_nodes_count v_nodes_lotCount f_units) H → va_D A (wd_X3_sumOfLots cI cJ cZ a0 a_nodes a_units a_came a_went a_drained a_reached a_present a_portion a_rest a_nodes_kind a_nodes_amount a_nodes_day a_nodes_held a_nodes_spot a_nodes_lotsByAge v_presentCount v_nodes_count v_nodes_lotCount f_units) → va_S A s.heap H locs → W p l e rm_X3_sumOfLots s m av below meth c H locs 0 0 Q (F0 m 0 ls []) from START s.heap [] hP hD hS
  clear hP hD hS
  intro H locs hP hD hS
  refine lv_lconst (v := 0) hx hb dX3_sumOfLots_0 (by decide) ?_
  refine lv_lstore_n (lv' := [(2, .long 0), (0, .ref a0), (1, .int p1)]) hx hb dX3_sumOfLots_1 rfl hl (by decide) rfl (fun ls hl => ?_)
  refine lv_iconst (v := 0) hx hb dX3_sumOfLots_2 (by decide) ?_
  refine lv_istore (lv' := [(4, .int 0), (2, .long 0), (0, .ref a0), (1, .int p1)]) hx hb dX3_sumOfLots_3 hl (by decide) rfl (fun ls hl => ?_)
  obtain ⟨n_5, h⟩ := h
  exact bk_5 n_5 p1 0 0 H locs ls hP hD hS (lv_sub hl [2, 3, 1, 0] rfl) h

abbrev wd_X3_admit (cI cJ cZ : ClassId) (a0 a_nodes a_units a_came a_went a_drained a_reached a_present a_portion a_rest a_nodes_kind a_nodes_amount a_nodes_day a_nodes_held a_nodes_spot a_nodes_lotsByAge : Nat) (v_presentCount : Int32) (v_nodes_count : Int32) (v_nodes_lotCount : Int32) (f_nodes_amount : (Nat → Int64)) (f_units : (Nat → Int64)) (f_came : (Nat → Int64)) (f_reached : (Nat → Int64)) : va_W := [(a0, .inr (3, [.ref a_nodes, .ref a_units, .ref a_came, .ref a_went, .ref a_drained, .ref a_reached, .ref a_present, .ref a_portion, .ref a_rest, .int v_presentCount])), (a_nodes, .inr (1, [.int v_nodes_count, .int v_nodes_lotCount, .ref a_nodes_kind, .ref a_nodes_amount, .ref a_nodes_day, .ref a_nodes_held, .ref a_nodes_spot, .ref a_nodes_lotsByAge])), (a_nodes_amount, .inl (cJ, 48, .inr (.inl f_nodes_amount))), (a_units, .inl (cJ, 2304, .inr (.inl f_units))), (a_came, .inl (cJ, 48, .inr (.inl f_came))), (a_reached, .inl (cJ, 48, .inr (.inl f_reached)))]
abbrev rm_X3_admit : Room := { frames := 0, cells := 0, slots := 0, locals := 0 }
def wp_X3_admit (post : (Nat → Int64) → (Nat → Int64) → (Nat → Int64) → Prop) (v_presentCount : Int32) (v_nodes_count : Int32) (v_nodes_lotCount : Int32) (f_nodes_amount : (Nat → Int64)) (f_units : (Nat → Int64)) (f_came : (Nat → Int64)) (f_reached : (Nat → Int64)) (p1 : Int32) : Prop := (vp_in p1 48 ∧ (vp_in ((p1 * 48) + p1) 2304 ∧ (∀ f_3 : Nat → Int64, f_3 = vp_updL f_units ((p1 * 48) + p1).toNatClampNeg (f_nodes_amount p1.toNatClampNeg) → vp_in p1 48 ∧ (vp_in p1 48 ∧ (∀ f_6 : Nat → Int64, f_6 = vp_updL f_came p1.toNatClampNeg (f_nodes_amount p1.toNatClampNeg) → vp_in p1 48 ∧ (∀ f_8 : Nat → Int64, f_8 = vp_updL f_reached p1.toNatClampNeg (1 <<< (p1.toInt64 &&& 63)) → post f_3 f_6 f_8))))))
set_option maxHeartbeats 4000000 in
set_option maxRecDepth 100000 in
theorem cw_X3_admit (l : Launch) (dC : Nat → ClassId) (dI : Nat → Nat → Nat) (cI cJ cZ : ClassId) (a0 a_nodes a_units a_came a_went a_drained a_reached a_present a_portion a_rest a_nodes_kind a_nodes_amount a_nodes_day a_nodes_held a_nodes_spot a_nodes_lotsByAge : Nat) (sz : Nat) (v_presentCount : Int32) (v_nodes_count : Int32) (v_nodes_lotCount : Int32) (f_nodes_amount : (Nat → Int64)) (f_units : (Nat → Int64)) (f_came : (Nat → Int64)) (f_reached : (Nat → Int64)) (p1 : Int32) (post : (Nat → Int64) → (Nat → Int64) → (Nat → Int64) → Prop) (h : wp_X3_admit post v_presentCount v_nodes_count v_nodes_lotCount f_nodes_amount f_units f_came f_reached p1) : Met l yX3_admit wsX3_admit rm_X3_admit (va_Pc [.ref a0, .int p1] (vv_B (dC, dI) (vv_ty cI cJ cZ) (wd_X3_admit cI cJ cZ a0 a_nodes a_units a_came a_went a_drained a_reached a_present a_portion a_rest a_nodes_kind a_nodes_amount a_nodes_day a_nodes_held a_nodes_spot a_nodes_lotsByAge v_presentCount v_nodes_count v_nodes_lotCount f_nodes_amount f_units f_came f_reached) sz)) (va_Qv (fun (u : (Nat → Int64) × (Nat → Int64) × (Nat → Int64)) => post (u.1) (u.2.1) (u.2.2)) (vv_E (dC, dI) (vv_ty cI cJ cZ) (va_A (wd_X3_admit cI cJ cZ a0 a_nodes a_units a_came a_went a_drained a_reached a_present a_portion a_rest a_nodes_kind a_nodes_amount a_nodes_day a_nodes_held a_nodes_spot a_nodes_lotsByAge v_presentCount v_nodes_count v_nodes_lotCount f_nodes_amount f_units f_came f_reached) sz) (fun u : (Nat → Int64) × (Nat → Int64) × (Nat → Int64) => wd_X3_admit cI cJ cZ a0 a_nodes a_units a_came a_went a_drained a_reached a_present a_portion a_rest a_nodes_kind a_nodes_amount a_nodes_day a_nodes_held a_nodes_spot a_nodes_lotsByAge v_presentCount v_nodes_count v_nodes_lotCount f_nodes_amount (u.1) (u.2.1) (u.2.2))) (va_A (wd_X3_admit cI cJ cZ a0 a_nodes a_units a_came a_went a_drained a_reached a_present a_portion a_rest a_nodes_kind a_nodes_amount a_nodes_day a_nodes_held a_nodes_spot a_nodes_lotsByAge v_presentCount v_nodes_count v_nodes_lotCount f_nodes_amount f_units f_came f_reached) sz)) 0 0 (va_A (wd_X3_admit cI cJ cZ a0 a_nodes a_units a_came a_went a_drained a_reached a_present a_portion a_rest a_nodes_kind a_nodes_amount a_nodes_day a_nodes_held a_nodes_spot a_nodes_lotsByAge v_presentCount v_nodes_count v_nodes_lotCount f_nodes_amount f_units f_came f_reached) sz) := by
  refine Met.ofW (cc := cX3_admit) (maxL := 2) (ret := none) (by decide) rfl ?_
  intro p e s m args below meth c s₁ B hml hv
  obtain ⟨hav, hsz, hP, hK, hD0⟩ := hv
  have hx := B.exec
  have hb := B.bytes
  have hr := B.returns
  have hts := atoms_spec (ws := wsX3_admit) B.pre
  have hown : s.vm.findClass RX3 = some m.cls := findClass_of_methodNamed B.named
  have hlocks := B.notSynchronized
  subst hsz
  have hD := hD0.self (sz := s.heap.size)
  clear hD0
  generalize hAe : va_A (wd_X3_admit cI cJ cZ a0 a_nodes a_units a_came a_went a_drained a_reached a_present a_portion a_rest a_nodes_kind a_nodes_amount a_nodes_day a_nodes_held a_nodes_spot a_nodes_lotsByAge v_presentCount v_nodes_count v_nodes_lotCount f_nodes_amount f_units f_came f_reached) s.heap.size = A at hD ⊢
  have hA : ∀ q : Nat, s.heap.size ≤ q → A q := fun q h => by rw [← hAe]; exact Or.inr h
  clear hAe
  have hS : va_S A s.heap s.heap [] := va_S.rf
  have hl := lv_entry ([.ref a0, .int p1]) (n := 2) (Nat.le_of_ble_eq_true rfl)
  subst hav
  rw [lg_entry_eq]
  generalize (lg_sl ([.ref a0, .int p1]) ++ List.replicate (2 - (lg_sl ([.ref a0, .int p1])).length) Slot.unset).toArray = ls at hl ⊢
  replace hl : lv_has ls 2 [(0, .ref a0), (1, .int p1)] := hl
  clear B
  generalize (([.ref a0, .int p1] : List Value)).toArray = av at hts ⊢
  suffices MAIN : ∀ Q : State → Prop, (∀ (f_units : (Nat → Int64)) (f_came : (Nat → Int64)) (f_reached : (Nat → Int64)) (H : Heap) (locs : List Loc) (ls : Array Slot) (pc : Nat), post f_units f_came f_reached → va_P (dC, dI) vwCl (wd_X3_admit cI cJ cZ a0 a_nodes a_units a_came a_went a_drained a_reached a_present a_portion a_rest a_nodes_kind a_nodes_amount a_nodes_day a_nodes_held a_nodes_spot a_nodes_lotsByAge v_presentCount v_nodes_count v_nodes_lotCount f_nodes_amount f_units f_came f_reached) H → va_D A (wd_X3_admit cI cJ cZ a0 a_nodes a_units a_came a_went a_drained a_reached a_present a_portion a_rest a_nodes_kind a_nodes_amount a_nodes_day a_nodes_held a_nodes_spot a_nodes_lotsByAge v_presentCount v_nodes_count v_nodes_lotCount f_nodes_amount f_units f_came f_reached) → va_S A s.heap H locs → decode cX3_admit pc = .ok (.return_, 1) → W p l e rm_X3_admit s m av below meth c H locs 0 0 Q (F0 m pc ls [])) → W p l e rm_X3_admit s m av below meth c s.heap [] 0 0 Q (F0 m 0 ls []) from MAIN _ (fun f_units f_came f_reached H locs ls pc h hP hD hS hd => vv_vret (f_units, f_came, f_reached) hx hb hr hlocks h hK hP hD hS hd)
  intro Q RET
  have fl9 := hts (.fieldLink RX3 9 "LotFlows$Stock" "units" "[J") (by decide +kernel)
  have fl15 := hts (.fieldLink RX3 15 "LotFlows$Stock" "came" "[J") (by decide +kernel)
  have fl24 := hts (.fieldLink RX3 24 "LotFlows$Stock" "reached" "[J") (by decide +kernel)
  have fl37 := hts (.fieldLink RX3 37 "LotFlows$Stock" "nodes" "LLotFlows$Nodes;") (by decide +kernel)
  have fl51 := hts (.fieldLink RX3 51 "LotFlows$Nodes" "amount" "[J") (by decide +kernel)
  have in_X1 : ∀ w ∈ wsX10, w ∈ wsX3_admit := by decide +kernel
  have in_X3 : ∀ w ∈ wsX30, w ∈ wsX3_admit := by decide +kernel
  suffices START : ∀ (H : Heap) (locs : List Loc), va_P (dC, dI) vwCl (wd_X3_admit cI cJ cZ a0 a_nodes a_units a_came a_went a_drained a_reached a_present a_portion a_rest a_nodes_kind a_nodes_amount a_nodes_day a_nodes_held a_nodes_spot a_nodes_lotsByAge v_presentCount v_nodes_count v_nodes_lotCount f_nodes_amount f_units f_came f_reached) H → va_D A (wd_X3_admit cI cJ cZ a0 a_nodes a_units a_came a_went a_drained a_reached a_present a_portion a_rest a_nodes_kind a_nodes_amount a_nodes_day a_nodes_held a_nodes_spot a_nodes_lotsByAge v_presentCount v_nodes_count v_nodes_lotCount f_nodes_amount f_units f_came f_reached) → va_S A s.heap H locs → W p l e rm_X3_admit s m av below meth c H locs 0 0 Q (F0 m 0 ls []) from START s.heap [] hP hD hS
  clear hP hD hS
  intro H locs hP hD hS
  refine lv_aload_n hx hb dX3_admit_0 rfl (lv_at hl 0 rfl) ?_
  refine va_get (D := (dC, dI)) (ci := 3) (v := .ref a_units) (C := RX3) (T := TX3) (N := 10) hx hb hts in_X3 hown hK hP 0 rfl rfl 1 (by decide) fl9 (fun _ h9 => h9) rfl dX3_admit_1 ?_
  refine lv_iload_n hx hb dX3_admit_4 rfl (lv_at hl 1 rfl) ?_
  refine lv_bipush (v := 48) hx hb dX3_admit_5 (by decide) ?_
  refine lv_imul hx hb dX3_admit_7 ?_
  refine lv_iload_n hx hb dX3_admit_8 rfl (lv_at hl 1 rfl) ?_
  refine lv_iadd hx hb dX3_admit_9 ?_
  refine lv_aload_n hx hb dX3_admit_10 rfl (lv_at hl 0 rfl) ?_
  refine va_get (D := (dC, dI)) (ci := 3) (v := .ref a_nodes) (C := RX3) (T := TX3) (N := 10) hx hb hts in_X3 hown hK hP 0 rfl rfl 0 (by decide) fl37 (fun _ h9 => h9) rfl dX3_admit_11 ?_
  refine va_get (D := (dC, dI)) (ci := 1) (v := .ref a_nodes_amount) (C := RX1) (T := TX1) (N := 8) hx hb hts in_X1 hown hK hP 1 rfl rfl 3 (by decide) fl51 (fun _ h9 => h9) rfl dX3_admit_14 ?_
  refine lv_iload_n hx hb dX3_admit_17 rfl (lv_at hl 1 rfl) ?_
  obtain ⟨hi_1, h⟩ := h
  refine va_lald hx hb hK hP 2 1 rfl rfl hi_1 dX3_admit_18 ?_
  obtain ⟨hi_2, h⟩ := h
  refine vv_last hx hb hK hP hD hS 3 1 rfl rfl hi_2 dX3_admit_19 (fun f_3 ef_3 H locs hP hD hS => ?_)
  replace h := h f_3 ef_3
  replace hP : va_P (dC, dI) vwCl (wd_X3_admit cI cJ cZ a0 a_nodes a_units a_came a_went a_drained a_reached a_present a_portion a_rest a_nodes_kind a_nodes_amount a_nodes_day a_nodes_held a_nodes_spot a_nodes_lotsByAge v_presentCount v_nodes_count v_nodes_lotCount f_nodes_amount f_3 f_came f_reached) H := hP
  replace hD : va_D A (wd_X3_admit cI cJ cZ a0 a_nodes a_units a_came a_went a_drained a_reached a_present a_portion a_rest a_nodes_kind a_nodes_amount a_nodes_day a_nodes_held a_nodes_spot a_nodes_lotsByAge v_presentCount v_nodes_count v_nodes_lotCount f_nodes_amount f_3 f_came f_reached) := hD
  refine lv_aload_n hx hb dX3_admit_20 rfl (lv_at hl 0 rfl) ?_
  refine va_get (D := (dC, dI)) (ci := 3) (v := .ref a_came) (C := RX3) (T := TX3) (N := 10) hx hb hts in_X3 hown hK hP 0 rfl rfl 2 (by decide) fl15 (fun _ h9 => h9) rfl dX3_admit_21 ?_
  refine lv_iload_n hx hb dX3_admit_24 rfl (lv_at hl 1 rfl) ?_
  refine lv_aload_n hx hb dX3_admit_25 rfl (lv_at hl 0 rfl) ?_
  refine va_get (D := (dC, dI)) (ci := 3) (v := .ref a_nodes) (C := RX3) (T := TX3) (N := 10) hx hb hts in_X3 hown hK hP 0 rfl rfl 0 (by decide) fl37 (fun _ h9 => h9) rfl dX3_admit_26 ?_
  refine va_get (D := (dC, dI)) (ci := 1) (v := .ref a_nodes_amount) (C := RX1) (T := TX1) (N := 8) hx hb hts in_X1 hown hK hP 1 rfl rfl 3 (by decide) fl51 (fun _ h9 => h9) rfl dX3_admit_29 ?_
  refine lv_iload_n hx hb dX3_admit_32 rfl (lv_at hl 1 rfl) ?_
  obtain ⟨hi_4, h⟩ := h
  refine va_lald hx hb hK hP 2 1 rfl rfl hi_4 dX3_admit_33 ?_
  obtain ⟨hi_5, h⟩ := h
  refine vv_last hx hb hK hP hD hS 4 1 rfl rfl hi_5 dX3_admit_34 (fun f_6 ef_6 H locs hP hD hS => ?_)
  replace h := h f_6 ef_6
  replace hP : va_P (dC, dI) vwCl (wd_X3_admit cI cJ cZ a0 a_nodes a_units a_came a_went a_drained a_reached a_present a_portion a_rest a_nodes_kind a_nodes_amount a_nodes_day a_nodes_held a_nodes_spot a_nodes_lotsByAge v_presentCount v_nodes_count v_nodes_lotCount f_nodes_amount f_3 f_6 f_reached) H := hP
  replace hD : va_D A (wd_X3_admit cI cJ cZ a0 a_nodes a_units a_came a_went a_drained a_reached a_present a_portion a_rest a_nodes_kind a_nodes_amount a_nodes_day a_nodes_held a_nodes_spot a_nodes_lotsByAge v_presentCount v_nodes_count v_nodes_lotCount f_nodes_amount f_3 f_6 f_reached) := hD
  refine lv_aload_n hx hb dX3_admit_35 rfl (lv_at hl 0 rfl) ?_
  refine va_get (D := (dC, dI)) (ci := 3) (v := .ref a_reached) (C := RX3) (T := TX3) (N := 10) hx hb hts in_X3 hown hK hP 0 rfl rfl 5 (by decide) fl24 (fun _ h9 => h9) rfl dX3_admit_36 ?_
  refine lv_iload_n hx hb dX3_admit_39 rfl (lv_at hl 1 rfl) ?_
  refine lv_lconst (v := 1) hx hb dX3_admit_40 (by decide) ?_
  refine lv_iload_n hx hb dX3_admit_41 rfl (lv_at hl 1 rfl) ?_
  refine lv_lshl hx hb dX3_admit_42 rfl ?_
  obtain ⟨hi_7, h⟩ := h
  refine vv_last hx hb hK hP hD hS 5 1 rfl rfl hi_7 dX3_admit_43 (fun f_8 ef_8 H locs hP hD hS => ?_)
  replace h := h f_8 ef_8
  replace hP : va_P (dC, dI) vwCl (wd_X3_admit cI cJ cZ a0 a_nodes a_units a_came a_went a_drained a_reached a_present a_portion a_rest a_nodes_kind a_nodes_amount a_nodes_day a_nodes_held a_nodes_spot a_nodes_lotsByAge v_presentCount v_nodes_count v_nodes_lotCount f_nodes_amount f_3 f_6 f_8) H := hP
  replace hD : va_D A (wd_X3_admit cI cJ cZ a0 a_nodes a_units a_came a_went a_drained a_reached a_present a_portion a_rest a_nodes_kind a_nodes_amount a_nodes_day a_nodes_held a_nodes_spot a_nodes_lotsByAge v_presentCount v_nodes_count v_nodes_lotCount f_nodes_amount f_3 f_6 f_8) := hD
  exact RET f_3 f_6 f_8 H locs ls 44 h hP hD hS dX3_admit_44

abbrev wd_J7_fill_d0a16 (cI cJ cZ : ClassId) (a_p1 n_p1 : Nat) (f_p1 : (Nat → Int64)) : va_W := [(a_p1, .inl (cJ, n_p1, .inr (.inl f_p1)))]
abbrev rm_J7_fill_d0a16 : Room := { frames := 0, cells := 0, slots := 0, locals := 0 }
def wb_J7_fill_d0a16_6 (post : (Nat → Int64) → Prop) (n_p1 : Nat) : Nat → Int64 → Int32 → Int32 → (Nat → Int64) → Prop
  | 0 => fun _ _ _ _ => False
  | n + 1 => fun x1 x3 x4 f_p1 => ((x4 ≤ x3 → post f_p1) ∧ (¬ x4 ≤ x3 → (vp_in x3 n_p1 ∧ (∀ f_4 : Nat → Int64, f_4 = vp_updL f_p1 x3.toNatClampNeg x1 → ∀ x_5 : Int32, x_5 = x3 + 1 → wb_J7_fill_d0a16_6 post n_p1  n x1 x_5 x4 f_4))))
def wp_J7_fill_d0a16 (post : (Nat → Int64) → Prop) (n_p1 : Nat) (f_p1 : (Nat → Int64)) (p2 : Int64) : Prop := (∀ x_1 : Int32, x_1 = (Int32.ofNat n_p1) → (∃ n_6 : Nat, wb_J7_fill_d0a16_6 post n_p1 n_6 p2 0 x_1 f_p1))
set_option maxHeartbeats 4000000 in
set_option maxRecDepth 100000 in
theorem cw_J7_fill_d0a16 (l : Launch) (dC : Nat → ClassId) (dI : Nat → Nat → Nat) (cI cJ cZ : ClassId) (a_p1 : Nat) (sz : Nat) (n_p1 : Nat) (f_p1 : (Nat → Int64)) (p2 : Int64) (post : (Nat → Int64) → Prop) (h : wp_J7_fill_d0a16 post n_p1 f_p1 p2) : Met l yJ7_fill_d0a16 wsJ7_fill_d0a16 rm_J7_fill_d0a16 (va_Pc [.ref a_p1, .long p2] (vv_B (dC, dI) (vv_ty cI cJ cZ) (wd_J7_fill_d0a16 cI cJ cZ a_p1 n_p1 f_p1) sz)) (va_Qv (fun (u : (Nat → Int64)) => post u) (vv_E (dC, dI) (vv_ty cI cJ cZ) (va_A (wd_J7_fill_d0a16 cI cJ cZ a_p1 n_p1 f_p1) sz) (fun u : (Nat → Int64) => wd_J7_fill_d0a16 cI cJ cZ a_p1 n_p1 (u))) (va_A (wd_J7_fill_d0a16 cI cJ cZ a_p1 n_p1 f_p1) sz)) 0 0 (va_A (wd_J7_fill_d0a16 cI cJ cZ a_p1 n_p1 f_p1) sz) := by
  refine Met.ofW (cc := cJ7_fill_d0a16) (maxL := 5) (ret := none) (by decide) rfl ?_
  intro p e s m args below meth c s₁ B hml hv
  obtain ⟨hav, hsz, hP, hK, hD0⟩ := hv
  have hx := B.exec
  have hb := B.bytes
  have hr := B.returns
  have hts := atoms_spec (ws := wsJ7_fill_d0a16) B.pre
  have hown : s.vm.findClass RJ7 = some m.cls := findClass_of_methodNamed B.named
  have hlocks := B.notSynchronized
  subst hsz
  have hD := hD0.self (sz := s.heap.size)
  clear hD0
  generalize hAe : va_A (wd_J7_fill_d0a16 cI cJ cZ a_p1 n_p1 f_p1) s.heap.size = A at hD ⊢
  have hA : ∀ q : Nat, s.heap.size ≤ q → A q := fun q h => by rw [← hAe]; exact Or.inr h
  clear hAe
  have hS : va_S A s.heap s.heap [] := va_S.rf
  have hl := lv_entry ([.ref a_p1, .long p2]) (n := 5) (Nat.le_of_ble_eq_true rfl)
  subst hav
  rw [lg_entry_eq]
  generalize (lg_sl ([.ref a_p1, .long p2]) ++ List.replicate (5 - (lg_sl ([.ref a_p1, .long p2])).length) Slot.unset).toArray = ls at hl ⊢
  replace hl : lv_has ls 5 [(0, .ref a_p1), (1, .long p2)] := hl
  clear B
  generalize (([.ref a_p1, .long p2] : List Value)).toArray = av at hts ⊢
  suffices MAIN : ∀ Q : State → Prop, (∀ (f_p1 : (Nat → Int64)) (H : Heap) (locs : List Loc) (ls : Array Slot) (pc : Nat), post f_p1 → va_P (dC, dI) vwCl (wd_J7_fill_d0a16 cI cJ cZ a_p1 n_p1 f_p1) H → va_D A (wd_J7_fill_d0a16 cI cJ cZ a_p1 n_p1 f_p1) → va_S A s.heap H locs → decode cJ7_fill_d0a16 pc = .ok (.return_, 1) → W p l e rm_J7_fill_d0a16 s m av below meth c H locs 0 0 Q (F0 m pc ls [])) → W p l e rm_J7_fill_d0a16 s m av below meth c s.heap [] 0 0 Q (F0 m 0 ls []) from MAIN _ (fun f_p1 H locs ls pc h hP hD hS hd => vv_vret f_p1 hx hb hr hlocks h hK hP hD hS hd)
  intro Q RET
  have bk_6 : ∀ n : Nat, ∀ (x1 : Int64) (x3 : Int32) (x4 : Int32) (f_p1 : (Nat → Int64)) (H : Heap) (locs : List Loc) (ls : Array Slot), va_P (dC, dI) vwCl (wd_J7_fill_d0a16 cI cJ cZ a_p1 n_p1 f_p1) H → va_D A (wd_J7_fill_d0a16 cI cJ cZ a_p1 n_p1 f_p1) → va_S A s.heap H locs → lv_has ls 5 [(0, .ref a_p1), (1, .long x1), (3, .int x3), (4, .int x4)] → wb_J7_fill_d0a16_6 post n_p1 n x1 x3 x4 f_p1 → W p l e rm_J7_fill_d0a16 s m av below meth c H locs 0 0 Q (F0 m 6 ls []) := by
    intro n
    induction n with
    | zero =>
      intro x1 x3 x4 f_p1 H locs ls hP hD hS hl h
      exact False.elim h
    | succ n ih6 =>
      intro x1 x3 x4 f_p1 H locs ls hP hD hS hl h
      refine lv_iload_n hx hb dJ7_fill_d0a16_6 rfl (lv_at hl 2 rfl) ?_
      refine lv_iload hx hb dJ7_fill_d0a16_7 (lv_at hl 3 rfl) ?_
      refine lv_icmp_ge (tgt := 22) hx hb dJ7_fill_d0a16_9 (by decide) (fun c_2 => ?_) (fun c_2 => ?_)
      · replace h := h.1 c_2
        exact RET f_p1 H locs ls 22 h hP hD hS dJ7_fill_d0a16_22
      · replace h := h.2 c_2
        refine lv_aload_n hx hb dJ7_fill_d0a16_12 rfl (lv_at hl 0 rfl) ?_
        refine lv_iload_n hx hb dJ7_fill_d0a16_13 rfl (lv_at hl 2 rfl) ?_
        refine lv_lload_n hx hb dJ7_fill_d0a16_14 rfl (lv_at hl 1 rfl) ?_
        obtain ⟨hi_3, h⟩ := h
        refine vv_last hx hb hK hP hD hS 0 1 rfl rfl hi_3 dJ7_fill_d0a16_15 (fun f_4 ef_4 H locs hP hD hS => ?_)
        replace h := h f_4 ef_4
        replace hP : va_P (dC, dI) vwCl (wd_J7_fill_d0a16 cI cJ cZ a_p1 n_p1 f_4) H := hP
        replace hD : va_D A (wd_J7_fill_d0a16 cI cJ cZ a_p1 n_p1 f_4) := hD
        obtain ⟨x_5, ex_5⟩ : ∃ y : Int32, y = x3 + 1 := ⟨_, rfl⟩
        replace h := h x_5 ex_5
        refine lv_iinc (v := x_5) (lv' := [(3, .int x_5), (0, .ref a_p1), (1, .long x1), (4, .int x4)]) hx hb dJ7_fill_d0a16_16 hl (k := 2) rfl (by rw [ex_5]; rfl) (by decide) rfl (fun ls hl => ?_)
        refine lv_goto (tgt := 6) hx hb dJ7_fill_d0a16_19 (by decide) ?_
        exact ih6 x1 x_5 x4 f_4 H locs ls hP hD hS (lv_sub hl [1, 2, 0, 3] rfl) h
  suffices START : ∀ (H : Heap) (locs : List Loc), va_P (dC, dI) vwCl (wd_J7_fill_d0a16 cI cJ cZ a_p1 n_p1 f_p1) H → va_D A (wd_J7_fill_d0a16 cI cJ cZ a_p1 n_p1 f_p1) → va_S A s.heap H locs → W p l e rm_J7_fill_d0a16 s m av below meth c H locs 0 0 Q (F0 m 0 ls []) from START s.heap [] hP hD hS
  clear hP hD hS
  intro H locs hP hD hS
  refine lv_iconst (v := 0) hx hb dJ7_fill_d0a16_0 (by decide) ?_
  refine lv_istore_n (lv' := [(3, .int 0), (0, .ref a_p1), (1, .long p2)]) hx hb dJ7_fill_d0a16_1 rfl hl (by decide) rfl (fun ls hl => ?_)
  refine lv_aload_n hx hb dJ7_fill_d0a16_2 rfl (lv_at hl 1 rfl) ?_
  refine va_alen hx hb hK hP 0 1 rfl rfl rfl dJ7_fill_d0a16_3 ?_
  refine lv_topi (fun x_1 ex_1 => ?_)
  replace h := h x_1 ex_1
  refine lv_istore (lv' := [(4, .int x_1), (3, .int 0), (0, .ref a_p1), (1, .long p2)]) hx hb dJ7_fill_d0a16_4 hl (by decide) rfl (fun ls hl => ?_)
  obtain ⟨n_6, h⟩ := h
  exact bk_6 n_6 p2 0 x_1 f_p1 H locs ls hP hD hS (lv_sub hl [2, 3, 1, 0] rfl) h

abbrev wd_X3_clear (cI cJ cZ : ClassId) (a0 a_nodes a_units a_came a_went a_drained a_reached a_present a_portion a_rest a_nodes_kind a_nodes_amount a_nodes_day a_nodes_held a_nodes_spot a_nodes_lotsByAge : Nat) (v_presentCount : Int32) (v_nodes_count : Int32) (v_nodes_lotCount : Int32) (f_nodes_kind : (Nat → Int32)) (f_nodes_amount : (Nat → Int64)) (f_units : (Nat → Int64)) (f_came : (Nat → Int64)) (f_went : (Nat → Int64)) (f_drained : (Nat → Int64)) (f_reached : (Nat → Int64)) : va_W := [(a0, .inr (3, [.ref a_nodes, .ref a_units, .ref a_came, .ref a_went, .ref a_drained, .ref a_reached, .ref a_present, .ref a_portion, .ref a_rest, .int v_presentCount])), (a_nodes, .inr (1, [.int v_nodes_count, .int v_nodes_lotCount, .ref a_nodes_kind, .ref a_nodes_amount, .ref a_nodes_day, .ref a_nodes_held, .ref a_nodes_spot, .ref a_nodes_lotsByAge])), (a_nodes_kind, .inl (cI, 48, .inl f_nodes_kind)), (a_nodes_amount, .inl (cJ, 48, .inr (.inl f_nodes_amount))), (a_units, .inl (cJ, 2304, .inr (.inl f_units))), (a_came, .inl (cJ, 48, .inr (.inl f_came))), (a_went, .inl (cJ, 48, .inr (.inl f_went))), (a_drained, .inl (cJ, 48, .inr (.inl f_drained))), (a_reached, .inl (cJ, 48, .inr (.inl f_reached)))]
abbrev rm_X3_clear : Room := { frames := 2, cells := 0, slots := 0, locals := 42 }
def wb_X3_clear_69 (post : (Nat → Int64) → (Nat → Int64) → (Nat → Int64) → (Nat → Int64) → (Nat → Int64) → Prop) (v_presentCount : Int32) (v_nodes_count : Int32) (v_nodes_lotCount : Int32) (f_nodes_kind : (Nat → Int32)) (f_nodes_amount : (Nat → Int64)) (K42 : Int32 → (Nat → Int64) → (Nat → Int64) → (Nat → Int64) → (Nat → Int64) → (Nat → Int64) → Prop) (x1 : Int32) (f_units : (Nat → Int64)) (f_came : (Nat → Int64)) (f_went : (Nat → Int64)) (f_drained : (Nat → Int64)) (f_reached : (Nat → Int64)) : Prop := (∀ x_18 : Int32, x_18 = x1 + 1 → K42 x_18 f_units f_came f_went f_drained f_reached)
def wb_X3_clear_42 (post : (Nat → Int64) → (Nat → Int64) → (Nat → Int64) → (Nat → Int64) → (Nat → Int64) → Prop) (v_presentCount : Int32) (v_nodes_count : Int32) (v_nodes_lotCount : Int32) (f_nodes_kind : (Nat → Int32)) (f_nodes_amount : (Nat → Int64)) : Nat → Int32 → (Nat → Int64) → (Nat → Int64) → (Nat → Int64) → (Nat → Int64) → (Nat → Int64) → Prop
  | 0 => fun _ _ _ _ _ _ => False
  | n + 1 => fun x1 f_units f_came f_went f_drained f_reached => ((v_nodes_count ≤ x1 → post f_units f_came f_went f_drained f_reached) ∧ (¬ v_nodes_count ≤ x1 → (wp_X1_isLot (fun r_12 => ((r_12 = 0 → wb_X3_clear_69 post v_presentCount v_nodes_count v_nodes_lotCount f_nodes_kind f_nodes_amount (wb_X3_clear_42 post v_presentCount v_nodes_count v_nodes_lotCount f_nodes_kind f_nodes_amount n) x1 f_units f_came f_went f_drained f_reached) ∧ (¬ r_12 = 0 → (wp_X3_admit (fun f_units_14 f_came_15 f_reached_16 => wb_X3_clear_69 post v_presentCount v_nodes_count v_nodes_lotCount f_nodes_kind f_nodes_amount (wb_X3_clear_42 post v_presentCount v_nodes_count v_nodes_lotCount f_nodes_kind f_nodes_amount n) x1 f_units_14 f_came_15 f_went f_drained f_reached_16) v_presentCount v_nodes_count v_nodes_lotCount f_nodes_amount f_units f_came f_reached x1)))) v_nodes_count v_nodes_lotCount f_nodes_kind x1)))
def wp_X3_clear (post : (Nat → Int64) → (Nat → Int64) → (Nat → Int64) → (Nat → Int64) → (Nat → Int64) → Prop) (v_presentCount : Int32) (v_nodes_count : Int32) (v_nodes_lotCount : Int32) (f_nodes_kind : (Nat → Int32)) (f_nodes_amount : (Nat → Int64)) (f_units : (Nat → Int64)) (f_came : (Nat → Int64)) (f_went : (Nat → Int64)) (f_drained : (Nat → Int64)) (f_reached : (Nat → Int64)) : Prop := (wp_J7_fill_d0a16 (fun f_p1_1 => wp_J7_fill_d0a16 (fun f_p1_3 => wp_J7_fill_d0a16 (fun f_p1_5 => wp_J7_fill_d0a16 (fun f_p1_7 => wp_J7_fill_d0a16 (fun f_p1_9 => (∃ n_42 : Nat, wb_X3_clear_42 post v_presentCount v_nodes_count v_nodes_lotCount f_nodes_kind f_nodes_amount n_42 0 f_p1_1 f_p1_3 f_p1_5 f_p1_7 f_p1_9)) 48 f_reached 0) 48 f_drained 0) 48 f_went 0) 48 f_came 0) 2304 f_units 0)
set_option maxHeartbeats 4000000 in
set_option maxRecDepth 100000 in
theorem cw_X3_clear (l : Launch) (dC : Nat → ClassId) (dI : Nat → Nat → Nat) (cI cJ cZ : ClassId) (a0 a_nodes a_units a_came a_went a_drained a_reached a_present a_portion a_rest a_nodes_kind a_nodes_amount a_nodes_day a_nodes_held a_nodes_spot a_nodes_lotsByAge : Nat) (sz : Nat) (v_presentCount : Int32) (v_nodes_count : Int32) (v_nodes_lotCount : Int32) (f_nodes_kind : (Nat → Int32)) (f_nodes_amount : (Nat → Int64)) (f_units : (Nat → Int64)) (f_came : (Nat → Int64)) (f_went : (Nat → Int64)) (f_drained : (Nat → Int64)) (f_reached : (Nat → Int64)) (post : (Nat → Int64) → (Nat → Int64) → (Nat → Int64) → (Nat → Int64) → (Nat → Int64) → Prop) (h : wp_X3_clear post v_presentCount v_nodes_count v_nodes_lotCount f_nodes_kind f_nodes_amount f_units f_came f_went f_drained f_reached) : Met l yX3_clear wsX3_clear rm_X3_clear (va_Pc [.ref a0] (vv_B (dC, dI) (vv_ty cI cJ cZ) (wd_X3_clear cI cJ cZ a0 a_nodes a_units a_came a_went a_drained a_reached a_present a_portion a_rest a_nodes_kind a_nodes_amount a_nodes_day a_nodes_held a_nodes_spot a_nodes_lotsByAge v_presentCount v_nodes_count v_nodes_lotCount f_nodes_kind f_nodes_amount f_units f_came f_went f_drained f_reached) sz)) (va_Qv (fun (u : (Nat → Int64) × (Nat → Int64) × (Nat → Int64) × (Nat → Int64) × (Nat → Int64)) => post (u.1) (u.2.1) (u.2.2.1) (u.2.2.2.1) (u.2.2.2.2)) (vv_E (dC, dI) (vv_ty cI cJ cZ) (va_A (wd_X3_clear cI cJ cZ a0 a_nodes a_units a_came a_went a_drained a_reached a_present a_portion a_rest a_nodes_kind a_nodes_amount a_nodes_day a_nodes_held a_nodes_spot a_nodes_lotsByAge v_presentCount v_nodes_count v_nodes_lotCount f_nodes_kind f_nodes_amount f_units f_came f_went f_drained f_reached) sz) (fun u : (Nat → Int64) × (Nat → Int64) × (Nat → Int64) × (Nat → Int64) × (Nat → Int64) => wd_X3_clear cI cJ cZ a0 a_nodes a_units a_came a_went a_drained a_reached a_present a_portion a_rest a_nodes_kind a_nodes_amount a_nodes_day a_nodes_held a_nodes_spot a_nodes_lotsByAge v_presentCount v_nodes_count v_nodes_lotCount f_nodes_kind f_nodes_amount (u.1) (u.2.1) (u.2.2.1) (u.2.2.2.1) (u.2.2.2.2))) (va_A (wd_X3_clear cI cJ cZ a0 a_nodes a_units a_came a_went a_drained a_reached a_present a_portion a_rest a_nodes_kind a_nodes_amount a_nodes_day a_nodes_held a_nodes_spot a_nodes_lotsByAge v_presentCount v_nodes_count v_nodes_lotCount f_nodes_kind f_nodes_amount f_units f_came f_went f_drained f_reached) sz)) 0 0 (va_A (wd_X3_clear cI cJ cZ a0 a_nodes a_units a_came a_went a_drained a_reached a_present a_portion a_rest a_nodes_kind a_nodes_amount a_nodes_day a_nodes_held a_nodes_spot a_nodes_lotsByAge v_presentCount v_nodes_count v_nodes_lotCount f_nodes_kind f_nodes_amount f_units f_came f_went f_drained f_reached) sz) := by
  refine Met.ofW (cc := cX3_clear) (maxL := 2) (ret := none) (by decide) rfl ?_
  intro p e s m args below meth c s₁ B hml hv
  obtain ⟨hav, hsz, hP, hK, hD0⟩ := hv
  have hx := B.exec
  have hb := B.bytes
  have hr := B.returns
  have hts := atoms_spec (ws := wsX3_clear) B.pre
  have hown : s.vm.findClass RX3 = some m.cls := findClass_of_methodNamed B.named
  have hlocks := B.notSynchronized
  subst hsz
  have hD := hD0.self (sz := s.heap.size)
  clear hD0
  generalize hAe : va_A (wd_X3_clear cI cJ cZ a0 a_nodes a_units a_came a_went a_drained a_reached a_present a_portion a_rest a_nodes_kind a_nodes_amount a_nodes_day a_nodes_held a_nodes_spot a_nodes_lotsByAge v_presentCount v_nodes_count v_nodes_lotCount f_nodes_kind f_nodes_amount f_units f_came f_went f_drained f_reached) s.heap.size = A at hD ⊢
  have hA : ∀ q : Nat, s.heap.size ≤ q → A q := fun q h => by rw [← hAe]; exact Or.inr h
  clear hAe
  have hS : va_S A s.heap s.heap [] := va_S.rf
  have hl := lv_entry ([.ref a0]) (n := 2) (Nat.le_of_ble_eq_true rfl)
  subst hav
  rw [lg_entry_eq]
  generalize (lg_sl ([.ref a0]) ++ List.replicate (2 - (lg_sl ([.ref a0])).length) Slot.unset).toArray = ls at hl ⊢
  replace hl : lv_has ls 2 [(0, .ref a0)] := hl
  clear B
  generalize (([.ref a0] : List Value)).toArray = av at hts ⊢
  suffices MAIN : ∀ Q : State → Prop, (∀ (f_units : (Nat → Int64)) (f_came : (Nat → Int64)) (f_went : (Nat → Int64)) (f_drained : (Nat → Int64)) (f_reached : (Nat → Int64)) (H : Heap) (locs : List Loc) (ls : Array Slot) (pc : Nat), post f_units f_came f_went f_drained f_reached → va_P (dC, dI) vwCl (wd_X3_clear cI cJ cZ a0 a_nodes a_units a_came a_went a_drained a_reached a_present a_portion a_rest a_nodes_kind a_nodes_amount a_nodes_day a_nodes_held a_nodes_spot a_nodes_lotsByAge v_presentCount v_nodes_count v_nodes_lotCount f_nodes_kind f_nodes_amount f_units f_came f_went f_drained f_reached) H → va_D A (wd_X3_clear cI cJ cZ a0 a_nodes a_units a_came a_went a_drained a_reached a_present a_portion a_rest a_nodes_kind a_nodes_amount a_nodes_day a_nodes_held a_nodes_spot a_nodes_lotsByAge v_presentCount v_nodes_count v_nodes_lotCount f_nodes_kind f_nodes_amount f_units f_came f_went f_drained f_reached) → va_S A s.heap H locs → decode cX3_clear pc = .ok (.return_, 1) → W p l e rm_X3_clear s m av below meth c H locs 0 0 Q (F0 m pc ls [])) → W p l e rm_X3_clear s m av below meth c s.heap [] 0 0 Q (F0 m 0 ls []) from MAIN _ (fun f_units f_came f_went f_drained f_reached H locs ls pc h hP hD hS hd => vv_vret (f_units, f_came, f_went, f_drained, f_reached) hx hb hr hlocks h hK hP hD hS hd)
  intro Q RET
  have fl9 := hts (.fieldLink RX3 9 "LotFlows$Stock" "units" "[J") (by decide +kernel)
  have fl15 := hts (.fieldLink RX3 15 "LotFlows$Stock" "came" "[J") (by decide +kernel)
  have fl18 := hts (.fieldLink RX3 18 "LotFlows$Stock" "went" "[J") (by decide +kernel)
  have fl21 := hts (.fieldLink RX3 21 "LotFlows$Stock" "drained" "[J") (by decide +kernel)
  have fl24 := hts (.fieldLink RX3 24 "LotFlows$Stock" "reached" "[J") (by decide +kernel)
  have fl37 := hts (.fieldLink RX3 37 "LotFlows$Stock" "nodes" "LLotFlows$Nodes;") (by decide +kernel)
  have fl41 := hts (.fieldLink RX3 41 "LotFlows$Nodes" "count" "I") (by decide +kernel)
  have in_X1 : ∀ w ∈ wsX10, w ∈ wsX3_clear := by decide +kernel
  have in_X3 : ∀ w ∈ wsX30, w ∈ wsX3_clear := by decide +kernel
  have bk_69 : ∀ (K42 : Int32 → (Nat → Int64) → (Nat → Int64) → (Nat → Int64) → (Nat → Int64) → (Nat → Int64) → Prop), (∀ (x1 : Int32) (f_units : (Nat → Int64)) (f_came : (Nat → Int64)) (f_went : (Nat → Int64)) (f_drained : (Nat → Int64)) (f_reached : (Nat → Int64)) (H : Heap) (locs : List Loc) (ls : Array Slot), va_P (dC, dI) vwCl (wd_X3_clear cI cJ cZ a0 a_nodes a_units a_came a_went a_drained a_reached a_present a_portion a_rest a_nodes_kind a_nodes_amount a_nodes_day a_nodes_held a_nodes_spot a_nodes_lotsByAge v_presentCount v_nodes_count v_nodes_lotCount f_nodes_kind f_nodes_amount f_units f_came f_went f_drained f_reached) H → va_D A (wd_X3_clear cI cJ cZ a0 a_nodes a_units a_came a_went a_drained a_reached a_present a_portion a_rest a_nodes_kind a_nodes_amount a_nodes_day a_nodes_held a_nodes_spot a_nodes_lotsByAge v_presentCount v_nodes_count v_nodes_lotCount f_nodes_kind f_nodes_amount f_units f_came f_went f_drained f_reached) → va_S A s.heap H locs → lv_has ls 2 [(0, .ref a0), (1, .int x1)] → K42 x1 f_units f_came f_went f_drained f_reached → W p l e rm_X3_clear s m av below meth c H locs 0 0 Q (F0 m 42 ls [])) → ∀ (x1 : Int32) (f_units : (Nat → Int64)) (f_came : (Nat → Int64)) (f_went : (Nat → Int64)) (f_drained : (Nat → Int64)) (f_reached : (Nat → Int64)) (H : Heap) (locs : List Loc) (ls : Array Slot), va_P (dC, dI) vwCl (wd_X3_clear cI cJ cZ a0 a_nodes a_units a_came a_went a_drained a_reached a_present a_portion a_rest a_nodes_kind a_nodes_amount a_nodes_day a_nodes_held a_nodes_spot a_nodes_lotsByAge v_presentCount v_nodes_count v_nodes_lotCount f_nodes_kind f_nodes_amount f_units f_came f_went f_drained f_reached) H → va_D A (wd_X3_clear cI cJ cZ a0 a_nodes a_units a_came a_went a_drained a_reached a_present a_portion a_rest a_nodes_kind a_nodes_amount a_nodes_day a_nodes_held a_nodes_spot a_nodes_lotsByAge v_presentCount v_nodes_count v_nodes_lotCount f_nodes_kind f_nodes_amount f_units f_came f_went f_drained f_reached) → va_S A s.heap H locs → lv_has ls 2 [(0, .ref a0), (1, .int x1)] → wb_X3_clear_69 post v_presentCount v_nodes_count v_nodes_lotCount f_nodes_kind f_nodes_amount K42 x1 f_units f_came f_went f_drained f_reached → W p l e rm_X3_clear s m av below meth c H locs 0 0 Q (F0 m 69 ls []) := by
    intro K42 hK42 x1 f_units f_came f_went f_drained f_reached H locs ls hP hD hS hl h
    obtain ⟨x_18, ex_18⟩ : ∃ y : Int32, y = x1 + 1 := ⟨_, rfl⟩
    replace h := h x_18 ex_18
    refine lv_iinc (v := x_18) (lv' := [(1, .int x_18), (0, .ref a0)]) hx hb dX3_clear_69 hl (k := 1) rfl (by rw [ex_18]; rfl) (by decide) rfl (fun ls hl => ?_)
    refine lv_goto (tgt := 42) hx hb dX3_clear_72 (by decide) ?_
    exact hK42 x_18 f_units f_came f_went f_drained f_reached H locs ls hP hD hS (lv_sub hl [1, 0] rfl) h
  have bk_42 : ∀ n : Nat, ∀ (x1 : Int32) (f_units : (Nat → Int64)) (f_came : (Nat → Int64)) (f_went : (Nat → Int64)) (f_drained : (Nat → Int64)) (f_reached : (Nat → Int64)) (H : Heap) (locs : List Loc) (ls : Array Slot), va_P (dC, dI) vwCl (wd_X3_clear cI cJ cZ a0 a_nodes a_units a_came a_went a_drained a_reached a_present a_portion a_rest a_nodes_kind a_nodes_amount a_nodes_day a_nodes_held a_nodes_spot a_nodes_lotsByAge v_presentCount v_nodes_count v_nodes_lotCount f_nodes_kind f_nodes_amount f_units f_came f_went f_drained f_reached) H → va_D A (wd_X3_clear cI cJ cZ a0 a_nodes a_units a_came a_went a_drained a_reached a_present a_portion a_rest a_nodes_kind a_nodes_amount a_nodes_day a_nodes_held a_nodes_spot a_nodes_lotsByAge v_presentCount v_nodes_count v_nodes_lotCount f_nodes_kind f_nodes_amount f_units f_came f_went f_drained f_reached) → va_S A s.heap H locs → lv_has ls 2 [(0, .ref a0), (1, .int x1)] → wb_X3_clear_42 post v_presentCount v_nodes_count v_nodes_lotCount f_nodes_kind f_nodes_amount n x1 f_units f_came f_went f_drained f_reached → W p l e rm_X3_clear s m av below meth c H locs 0 0 Q (F0 m 42 ls []) := by
    intro n
    induction n with
    | zero =>
      intro x1 f_units f_came f_went f_drained f_reached H locs ls hP hD hS hl h
      exact False.elim h
    | succ n ih42 =>
      intro x1 f_units f_came f_went f_drained f_reached H locs ls hP hD hS hl h
      refine lv_iload_n hx hb dX3_clear_42 rfl (lv_at hl 1 rfl) ?_
      refine lv_aload_n hx hb dX3_clear_43 rfl (lv_at hl 0 rfl) ?_
      refine va_get (D := (dC, dI)) (ci := 3) (v := .ref a_nodes) (C := RX3) (T := TX3) (N := 10) hx hb hts in_X3 hown hK hP 0 rfl rfl 0 (by decide) fl37 (fun _ h9 => h9) rfl dX3_clear_44 ?_
      refine va_get (D := (dC, dI)) (ci := 1) (v := .int v_nodes_count) (C := RX1) (T := TX1) (N := 8) hx hb hts in_X1 hown hK hP 1 rfl rfl 0 (by decide) fl41 (fun _ h9 => h9) rfl dX3_clear_47 ?_
      refine lv_icmp_ge (tgt := 75) hx hb dX3_clear_50 (by decide) (fun c_11 => ?_) (fun c_11 => ?_)
      · replace h := h.1 c_11
        exact RET f_units f_came f_went f_drained f_reached H locs ls 75 h hP hD hS dX3_clear_75
      · replace h := h.2 c_11
        refine lv_aload_n hx hb dX3_clear_53 rfl (lv_at hl 0 rfl) ?_
        refine va_get (D := (dC, dI)) (ci := 3) (v := .ref a_nodes) (C := RX3) (T := TX3) (N := 10) hx hb hts in_X3 hown hK hP 0 rfl rfl 0 (by decide) fl37 (fun _ h9 => h9) rfl dX3_clear_54 ?_
        refine lv_iload_n hx hb dX3_clear_57 rfl (lv_at hl 1 rfl) ?_
        refine vv_goi [1, 2] [0, 3, 4, 5, 6, 7, 8] [(a0, .inr (3, [.ref a_nodes, .ref a_units, .ref a_came, .ref a_went, .ref a_drained, .ref a_reached, .ref a_present, .ref a_portion, .ref a_rest, .int v_presentCount])), (a_nodes_amount, .inl (cJ, 48, .inr (.inl f_nodes_amount))), (a_units, .inl (cJ, 2304, .inr (.inl f_units))), (a_came, .inl (cJ, 48, .inr (.inl f_came))), (a_went, .inl (cJ, 48, .inr (.inl f_went))), (a_drained, .inl (cJ, 48, .inr (.inl f_drained))), (a_reached, .inl (cJ, 48, .inr (.inl f_reached)))] [0, 7, 8, 1, 2, 3, 4, 5, 6] (fun _ => wd_X3_clear cI cJ cZ a0 a_nodes a_units a_came a_went a_drained a_reached a_present a_portion a_rest a_nodes_kind a_nodes_amount a_nodes_day a_nodes_held a_nodes_spot a_nodes_lotsByAge v_presentCount v_nodes_count v_nodes_lotCount f_nodes_kind f_nodes_amount f_units f_came f_went f_drained f_reached) (vv_rv (rest := []) (ci := 1) ⟨hx, hb, hml, hown, hts⟩ (cw_X1_isLot l dC dI cI cJ cZ a_nodes a_nodes_kind a_nodes_amount a_nodes_day a_nodes_held a_nodes_spot a_nodes_lotsByAge (H.size) v_nodes_count v_nodes_lotCount f_nodes_kind x1 _ h) (cwV 1 hts gX3_clear_X1_isLot rfl rfl rfl (by decide +kernel) ⟨Nat.le_of_ble_eq_true rfl, Nat.le_of_ble_eq_true rfl⟩) hK hP hD [1, 2] rfl (by decide) rfl rfl rfl hl.1 rfl (Nat.le_of_ble_eq_true rfl) dX3_clear_58 ⟨Nat.le_of_ble_eq_true rfl, Nat.le_of_ble_eq_true rfl⟩) hP hD hS hA rfl rfl (by decide) (by decide) (fun _ => rfl) (by decide) (fun r_12 _ H locs h hP hD hS => ?_)
        replace hP : va_P (dC, dI) vwCl (wd_X3_clear cI cJ cZ a0 a_nodes a_units a_came a_went a_drained a_reached a_present a_portion a_rest a_nodes_kind a_nodes_amount a_nodes_day a_nodes_held a_nodes_spot a_nodes_lotsByAge v_presentCount v_nodes_count v_nodes_lotCount f_nodes_kind f_nodes_amount f_units f_came f_went f_drained f_reached) H := hP
        replace hD : va_D A (wd_X3_clear cI cJ cZ a0 a_nodes a_units a_came a_went a_drained a_reached a_present a_portion a_rest a_nodes_kind a_nodes_amount a_nodes_day a_nodes_held a_nodes_spot a_nodes_lotsByAge v_presentCount v_nodes_count v_nodes_lotCount f_nodes_kind f_nodes_amount f_units f_came f_went f_drained f_reached) := hD
        refine lv_if_eq (tgt := 69) hx hb dX3_clear_61 (by decide) (fun c_13 => ?_) (fun c_13 => ?_)
        · replace h := h.1 c_13
          exact bk_69 (wb_X3_clear_42 post v_presentCount v_nodes_count v_nodes_lotCount f_nodes_kind f_nodes_amount n) ih42 x1 f_units f_came f_went f_drained f_reached H locs ls hP hD hS (lv_sub hl [0, 1] rfl) h
        · replace h := h.2 c_13
          refine lv_aload_n hx hb dX3_clear_64 rfl (lv_at hl 0 rfl) ?_
          refine lv_iload_n hx hb dX3_clear_65 rfl (lv_at hl 1 rfl) ?_
          refine vv_gov [0, 1, 3, 4, 5, 8] [2, 6, 7] [(a_nodes_kind, .inl (cI, 48, .inl f_nodes_kind)), (a_went, .inl (cJ, 48, .inr (.inl f_went))), (a_drained, .inl (cJ, 48, .inr (.inl f_drained)))] [3, 4, 0, 5, 6, 7, 1, 2, 8] (fun u => wd_X3_clear cI cJ cZ a0 a_nodes a_units a_came a_went a_drained a_reached a_present a_portion a_rest a_nodes_kind a_nodes_amount a_nodes_day a_nodes_held a_nodes_spot a_nodes_lotsByAge v_presentCount v_nodes_count v_nodes_lotCount f_nodes_kind f_nodes_amount (u.1) (u.2.1) f_went f_drained (u.2.2)) (vv_rv (rest := []) (ci := 3) ⟨hx, hb, hml, hown, hts⟩ (cw_X3_admit l dC dI cI cJ cZ a0 a_nodes a_units a_came a_went a_drained a_reached a_present a_portion a_rest a_nodes_kind a_nodes_amount a_nodes_day a_nodes_held a_nodes_spot a_nodes_lotsByAge (H.size) v_presentCount v_nodes_count v_nodes_lotCount f_nodes_amount f_units f_came f_reached x1 _ h) (cwV 1 hts gX3_clear_X3_admit rfl rfl rfl (by decide +kernel) ⟨Nat.le_of_ble_eq_true rfl, Nat.le_of_ble_eq_true rfl⟩) hK hP hD [0, 1, 3, 4, 5, 8] rfl (by decide) rfl rfl rfl hl.1 rfl (Nat.le_of_ble_eq_true rfl) dX3_clear_66 ⟨Nat.le_of_ble_eq_true rfl, Nat.le_of_ble_eq_true rfl⟩) hP hD hS hA rfl rfl (by decide) (by decide) (fun _ => rfl) (by decide) (fun u H locs h hP hD hS => ?_)
          obtain ⟨f_units_14, f_came_15, f_reached_16⟩ := u
          replace hP : va_P (dC, dI) vwCl (wd_X3_clear cI cJ cZ a0 a_nodes a_units a_came a_went a_drained a_reached a_present a_portion a_rest a_nodes_kind a_nodes_amount a_nodes_day a_nodes_held a_nodes_spot a_nodes_lotsByAge v_presentCount v_nodes_count v_nodes_lotCount f_nodes_kind f_nodes_amount f_units_14 f_came_15 f_went f_drained f_reached_16) H := hP
          replace hD : va_D A (wd_X3_clear cI cJ cZ a0 a_nodes a_units a_came a_went a_drained a_reached a_present a_portion a_rest a_nodes_kind a_nodes_amount a_nodes_day a_nodes_held a_nodes_spot a_nodes_lotsByAge v_presentCount v_nodes_count v_nodes_lotCount f_nodes_kind f_nodes_amount f_units_14 f_came_15 f_went f_drained f_reached_16) := hD
          exact bk_69 (wb_X3_clear_42 post v_presentCount v_nodes_count v_nodes_lotCount f_nodes_kind f_nodes_amount n) ih42 x1 f_units_14 f_came_15 f_went f_drained f_reached_16 H locs ls hP hD hS (lv_sub hl [0, 1] rfl) h
  suffices START : ∀ (H : Heap) (locs : List Loc), va_P (dC, dI) vwCl (wd_X3_clear cI cJ cZ a0 a_nodes a_units a_came a_went a_drained a_reached a_present a_portion a_rest a_nodes_kind a_nodes_amount a_nodes_day a_nodes_held a_nodes_spot a_nodes_lotsByAge v_presentCount v_nodes_count v_nodes_lotCount f_nodes_kind f_nodes_amount f_units f_came f_went f_drained f_reached) H → va_D A (wd_X3_clear cI cJ cZ a0 a_nodes a_units a_came a_went a_drained a_reached a_present a_portion a_rest a_nodes_kind a_nodes_amount a_nodes_day a_nodes_held a_nodes_spot a_nodes_lotsByAge v_presentCount v_nodes_count v_nodes_lotCount f_nodes_kind f_nodes_amount f_units f_came f_went f_drained f_reached) → va_S A s.heap H locs → W p l e rm_X3_clear s m av below meth c H locs 0 0 Q (F0 m 0 ls []) from START s.heap [] hP hD hS
  clear hP hD hS
  intro H locs hP hD hS
  refine lv_aload_n hx hb dX3_clear_0 rfl (lv_at hl 0 rfl) ?_
  refine va_get (D := (dC, dI)) (ci := 3) (v := .ref a_units) (C := RX3) (T := TX3) (N := 10) hx hb hts in_X3 hown hK hP 0 rfl rfl 1 (by decide) fl9 (fun _ h9 => h9) rfl dX3_clear_1 ?_
  refine lv_lconst (v := 0) hx hb dX3_clear_4 (by decide) ?_
  refine vv_gov [4] [0, 1, 2, 3, 5, 6, 7, 8] [(a0, .inr (3, [.ref a_nodes, .ref a_units, .ref a_came, .ref a_went, .ref a_drained, .ref a_reached, .ref a_present, .ref a_portion, .ref a_rest, .int v_presentCount])), (a_nodes, .inr (1, [.int v_nodes_count, .int v_nodes_lotCount, .ref a_nodes_kind, .ref a_nodes_amount, .ref a_nodes_day, .ref a_nodes_held, .ref a_nodes_spot, .ref a_nodes_lotsByAge])), (a_nodes_kind, .inl (cI, 48, .inl f_nodes_kind)), (a_nodes_amount, .inl (cJ, 48, .inr (.inl f_nodes_amount))), (a_came, .inl (cJ, 48, .inr (.inl f_came))), (a_went, .inl (cJ, 48, .inr (.inl f_went))), (a_drained, .inl (cJ, 48, .inr (.inl f_drained))), (a_reached, .inl (cJ, 48, .inr (.inl f_reached)))] [0, 1, 2, 3, 8, 4, 5, 6, 7] (fun u => wd_X3_clear cI cJ cZ a0 a_nodes a_units a_came a_went a_drained a_reached a_present a_portion a_rest a_nodes_kind a_nodes_amount a_nodes_day a_nodes_held a_nodes_spot a_nodes_lotsByAge v_presentCount v_nodes_count v_nodes_lotCount f_nodes_kind f_nodes_amount (u) f_came f_went f_drained f_reached) (vv_rs (rest := []) ⟨hx, hb, hml, hown, hts⟩ (cw_J7_fill_d0a16 l dC dI cI cJ cZ a_units (H.size) 2304 f_units 0 _ h) (va_cwS 2 hts gX3_clear_J7_fill_d0a16 rfl rfl rfl (by decide +kernel) ⟨Nat.le_of_ble_eq_true rfl, Nat.le_of_ble_eq_true rfl⟩) hK hP hD [4] rfl (by decide) rfl hl.1 rfl (Nat.le_of_ble_eq_true rfl) dX3_clear_5 ⟨Nat.le_of_ble_eq_true rfl, Nat.le_of_ble_eq_true rfl⟩) hP hD hS hA rfl rfl (by decide) (by decide) (fun _ => rfl) (by decide) (fun u H locs h hP hD hS => ?_)
  obtain ⟨f_p1_1, rfl⟩ : ∃ z, z = u := ⟨_, rfl⟩
  replace hP : va_P (dC, dI) vwCl (wd_X3_clear cI cJ cZ a0 a_nodes a_units a_came a_went a_drained a_reached a_present a_portion a_rest a_nodes_kind a_nodes_amount a_nodes_day a_nodes_held a_nodes_spot a_nodes_lotsByAge v_presentCount v_nodes_count v_nodes_lotCount f_nodes_kind f_nodes_amount f_p1_1 f_came f_went f_drained f_reached) H := hP
  replace hD : va_D A (wd_X3_clear cI cJ cZ a0 a_nodes a_units a_came a_went a_drained a_reached a_present a_portion a_rest a_nodes_kind a_nodes_amount a_nodes_day a_nodes_held a_nodes_spot a_nodes_lotsByAge v_presentCount v_nodes_count v_nodes_lotCount f_nodes_kind f_nodes_amount f_p1_1 f_came f_went f_drained f_reached) := hD
  refine lv_aload_n hx hb dX3_clear_8 rfl (lv_at hl 0 rfl) ?_
  refine va_get (D := (dC, dI)) (ci := 3) (v := .ref a_came) (C := RX3) (T := TX3) (N := 10) hx hb hts in_X3 hown hK hP 0 rfl rfl 2 (by decide) fl15 (fun _ h9 => h9) rfl dX3_clear_9 ?_
  refine lv_lconst (v := 0) hx hb dX3_clear_12 (by decide) ?_
  refine vv_gov [5] [0, 1, 2, 3, 4, 6, 7, 8] [(a0, .inr (3, [.ref a_nodes, .ref a_units, .ref a_came, .ref a_went, .ref a_drained, .ref a_reached, .ref a_present, .ref a_portion, .ref a_rest, .int v_presentCount])), (a_nodes, .inr (1, [.int v_nodes_count, .int v_nodes_lotCount, .ref a_nodes_kind, .ref a_nodes_amount, .ref a_nodes_day, .ref a_nodes_held, .ref a_nodes_spot, .ref a_nodes_lotsByAge])), (a_nodes_kind, .inl (cI, 48, .inl f_nodes_kind)), (a_nodes_amount, .inl (cJ, 48, .inr (.inl f_nodes_amount))), (a_units, .inl (cJ, 2304, .inr (.inl f_p1_1))), (a_went, .inl (cJ, 48, .inr (.inl f_went))), (a_drained, .inl (cJ, 48, .inr (.inl f_drained))), (a_reached, .inl (cJ, 48, .inr (.inl f_reached)))] [0, 1, 2, 3, 4, 8, 5, 6, 7] (fun u => wd_X3_clear cI cJ cZ a0 a_nodes a_units a_came a_went a_drained a_reached a_present a_portion a_rest a_nodes_kind a_nodes_amount a_nodes_day a_nodes_held a_nodes_spot a_nodes_lotsByAge v_presentCount v_nodes_count v_nodes_lotCount f_nodes_kind f_nodes_amount f_p1_1 (u) f_went f_drained f_reached) (vv_rs (rest := []) ⟨hx, hb, hml, hown, hts⟩ (cw_J7_fill_d0a16 l dC dI cI cJ cZ a_came (H.size) 48 f_came 0 _ h) (va_cwS 2 hts gX3_clear_J7_fill_d0a16 rfl rfl rfl (by decide +kernel) ⟨Nat.le_of_ble_eq_true rfl, Nat.le_of_ble_eq_true rfl⟩) hK hP hD [5] rfl (by decide) rfl hl.1 rfl (Nat.le_of_ble_eq_true rfl) dX3_clear_13 ⟨Nat.le_of_ble_eq_true rfl, Nat.le_of_ble_eq_true rfl⟩) hP hD hS hA rfl rfl (by decide) (by decide) (fun _ => rfl) (by decide) (fun u H locs h hP hD hS => ?_)
  obtain ⟨f_p1_3, rfl⟩ : ∃ z, z = u := ⟨_, rfl⟩
  replace hP : va_P (dC, dI) vwCl (wd_X3_clear cI cJ cZ a0 a_nodes a_units a_came a_went a_drained a_reached a_present a_portion a_rest a_nodes_kind a_nodes_amount a_nodes_day a_nodes_held a_nodes_spot a_nodes_lotsByAge v_presentCount v_nodes_count v_nodes_lotCount f_nodes_kind f_nodes_amount f_p1_1 f_p1_3 f_went f_drained f_reached) H := hP
  replace hD : va_D A (wd_X3_clear cI cJ cZ a0 a_nodes a_units a_came a_went a_drained a_reached a_present a_portion a_rest a_nodes_kind a_nodes_amount a_nodes_day a_nodes_held a_nodes_spot a_nodes_lotsByAge v_presentCount v_nodes_count v_nodes_lotCount f_nodes_kind f_nodes_amount f_p1_1 f_p1_3 f_went f_drained f_reached) := hD
  refine lv_aload_n hx hb dX3_clear_16 rfl (lv_at hl 0 rfl) ?_
  refine va_get (D := (dC, dI)) (ci := 3) (v := .ref a_went) (C := RX3) (T := TX3) (N := 10) hx hb hts in_X3 hown hK hP 0 rfl rfl 3 (by decide) fl18 (fun _ h9 => h9) rfl dX3_clear_17 ?_
  refine lv_lconst (v := 0) hx hb dX3_clear_20 (by decide) ?_
  refine vv_gov [6] [0, 1, 2, 3, 4, 5, 7, 8] [(a0, .inr (3, [.ref a_nodes, .ref a_units, .ref a_came, .ref a_went, .ref a_drained, .ref a_reached, .ref a_present, .ref a_portion, .ref a_rest, .int v_presentCount])), (a_nodes, .inr (1, [.int v_nodes_count, .int v_nodes_lotCount, .ref a_nodes_kind, .ref a_nodes_amount, .ref a_nodes_day, .ref a_nodes_held, .ref a_nodes_spot, .ref a_nodes_lotsByAge])), (a_nodes_kind, .inl (cI, 48, .inl f_nodes_kind)), (a_nodes_amount, .inl (cJ, 48, .inr (.inl f_nodes_amount))), (a_units, .inl (cJ, 2304, .inr (.inl f_p1_1))), (a_came, .inl (cJ, 48, .inr (.inl f_p1_3))), (a_drained, .inl (cJ, 48, .inr (.inl f_drained))), (a_reached, .inl (cJ, 48, .inr (.inl f_reached)))] [0, 1, 2, 3, 4, 5, 8, 6, 7] (fun u => wd_X3_clear cI cJ cZ a0 a_nodes a_units a_came a_went a_drained a_reached a_present a_portion a_rest a_nodes_kind a_nodes_amount a_nodes_day a_nodes_held a_nodes_spot a_nodes_lotsByAge v_presentCount v_nodes_count v_nodes_lotCount f_nodes_kind f_nodes_amount f_p1_1 f_p1_3 (u) f_drained f_reached) (vv_rs (rest := []) ⟨hx, hb, hml, hown, hts⟩ (cw_J7_fill_d0a16 l dC dI cI cJ cZ a_went (H.size) 48 f_went 0 _ h) (va_cwS 2 hts gX3_clear_J7_fill_d0a16 rfl rfl rfl (by decide +kernel) ⟨Nat.le_of_ble_eq_true rfl, Nat.le_of_ble_eq_true rfl⟩) hK hP hD [6] rfl (by decide) rfl hl.1 rfl (Nat.le_of_ble_eq_true rfl) dX3_clear_21 ⟨Nat.le_of_ble_eq_true rfl, Nat.le_of_ble_eq_true rfl⟩) hP hD hS hA rfl rfl (by decide) (by decide) (fun _ => rfl) (by decide) (fun u H locs h hP hD hS => ?_)
  obtain ⟨f_p1_5, rfl⟩ : ∃ z, z = u := ⟨_, rfl⟩
  replace hP : va_P (dC, dI) vwCl (wd_X3_clear cI cJ cZ a0 a_nodes a_units a_came a_went a_drained a_reached a_present a_portion a_rest a_nodes_kind a_nodes_amount a_nodes_day a_nodes_held a_nodes_spot a_nodes_lotsByAge v_presentCount v_nodes_count v_nodes_lotCount f_nodes_kind f_nodes_amount f_p1_1 f_p1_3 f_p1_5 f_drained f_reached) H := hP
  replace hD : va_D A (wd_X3_clear cI cJ cZ a0 a_nodes a_units a_came a_went a_drained a_reached a_present a_portion a_rest a_nodes_kind a_nodes_amount a_nodes_day a_nodes_held a_nodes_spot a_nodes_lotsByAge v_presentCount v_nodes_count v_nodes_lotCount f_nodes_kind f_nodes_amount f_p1_1 f_p1_3 f_p1_5 f_drained f_reached) := hD
  refine lv_aload_n hx hb dX3_clear_24 rfl (lv_at hl 0 rfl) ?_
  refine va_get (D := (dC, dI)) (ci := 3) (v := .ref a_drained) (C := RX3) (T := TX3) (N := 10) hx hb hts in_X3 hown hK hP 0 rfl rfl 4 (by decide) fl21 (fun _ h9 => h9) rfl dX3_clear_25 ?_
  refine lv_lconst (v := 0) hx hb dX3_clear_28 (by decide) ?_
  refine vv_gov [7] [0, 1, 2, 3, 4, 5, 6, 8] [(a0, .inr (3, [.ref a_nodes, .ref a_units, .ref a_came, .ref a_went, .ref a_drained, .ref a_reached, .ref a_present, .ref a_portion, .ref a_rest, .int v_presentCount])), (a_nodes, .inr (1, [.int v_nodes_count, .int v_nodes_lotCount, .ref a_nodes_kind, .ref a_nodes_amount, .ref a_nodes_day, .ref a_nodes_held, .ref a_nodes_spot, .ref a_nodes_lotsByAge])), (a_nodes_kind, .inl (cI, 48, .inl f_nodes_kind)), (a_nodes_amount, .inl (cJ, 48, .inr (.inl f_nodes_amount))), (a_units, .inl (cJ, 2304, .inr (.inl f_p1_1))), (a_came, .inl (cJ, 48, .inr (.inl f_p1_3))), (a_went, .inl (cJ, 48, .inr (.inl f_p1_5))), (a_reached, .inl (cJ, 48, .inr (.inl f_reached)))] [0, 1, 2, 3, 4, 5, 6, 8, 7] (fun u => wd_X3_clear cI cJ cZ a0 a_nodes a_units a_came a_went a_drained a_reached a_present a_portion a_rest a_nodes_kind a_nodes_amount a_nodes_day a_nodes_held a_nodes_spot a_nodes_lotsByAge v_presentCount v_nodes_count v_nodes_lotCount f_nodes_kind f_nodes_amount f_p1_1 f_p1_3 f_p1_5 (u) f_reached) (vv_rs (rest := []) ⟨hx, hb, hml, hown, hts⟩ (cw_J7_fill_d0a16 l dC dI cI cJ cZ a_drained (H.size) 48 f_drained 0 _ h) (va_cwS 2 hts gX3_clear_J7_fill_d0a16 rfl rfl rfl (by decide +kernel) ⟨Nat.le_of_ble_eq_true rfl, Nat.le_of_ble_eq_true rfl⟩) hK hP hD [7] rfl (by decide) rfl hl.1 rfl (Nat.le_of_ble_eq_true rfl) dX3_clear_29 ⟨Nat.le_of_ble_eq_true rfl, Nat.le_of_ble_eq_true rfl⟩) hP hD hS hA rfl rfl (by decide) (by decide) (fun _ => rfl) (by decide) (fun u H locs h hP hD hS => ?_)
  obtain ⟨f_p1_7, rfl⟩ : ∃ z, z = u := ⟨_, rfl⟩
  replace hP : va_P (dC, dI) vwCl (wd_X3_clear cI cJ cZ a0 a_nodes a_units a_came a_went a_drained a_reached a_present a_portion a_rest a_nodes_kind a_nodes_amount a_nodes_day a_nodes_held a_nodes_spot a_nodes_lotsByAge v_presentCount v_nodes_count v_nodes_lotCount f_nodes_kind f_nodes_amount f_p1_1 f_p1_3 f_p1_5 f_p1_7 f_reached) H := hP
  replace hD : va_D A (wd_X3_clear cI cJ cZ a0 a_nodes a_units a_came a_went a_drained a_reached a_present a_portion a_rest a_nodes_kind a_nodes_amount a_nodes_day a_nodes_held a_nodes_spot a_nodes_lotsByAge v_presentCount v_nodes_count v_nodes_lotCount f_nodes_kind f_nodes_amount f_p1_1 f_p1_3 f_p1_5 f_p1_7 f_reached) := hD
  refine lv_aload_n hx hb dX3_clear_32 rfl (lv_at hl 0 rfl) ?_
  refine va_get (D := (dC, dI)) (ci := 3) (v := .ref a_reached) (C := RX3) (T := TX3) (N := 10) hx hb hts in_X3 hown hK hP 0 rfl rfl 5 (by decide) fl24 (fun _ h9 => h9) rfl dX3_clear_33 ?_
  refine lv_lconst (v := 0) hx hb dX3_clear_36 (by decide) ?_
  refine vv_gov [8] [0, 1, 2, 3, 4, 5, 6, 7] [(a0, .inr (3, [.ref a_nodes, .ref a_units, .ref a_came, .ref a_went, .ref a_drained, .ref a_reached, .ref a_present, .ref a_portion, .ref a_rest, .int v_presentCount])), (a_nodes, .inr (1, [.int v_nodes_count, .int v_nodes_lotCount, .ref a_nodes_kind, .ref a_nodes_amount, .ref a_nodes_day, .ref a_nodes_held, .ref a_nodes_spot, .ref a_nodes_lotsByAge])), (a_nodes_kind, .inl (cI, 48, .inl f_nodes_kind)), (a_nodes_amount, .inl (cJ, 48, .inr (.inl f_nodes_amount))), (a_units, .inl (cJ, 2304, .inr (.inl f_p1_1))), (a_came, .inl (cJ, 48, .inr (.inl f_p1_3))), (a_went, .inl (cJ, 48, .inr (.inl f_p1_5))), (a_drained, .inl (cJ, 48, .inr (.inl f_p1_7)))] [0, 1, 2, 3, 4, 5, 6, 7, 8] (fun u => wd_X3_clear cI cJ cZ a0 a_nodes a_units a_came a_went a_drained a_reached a_present a_portion a_rest a_nodes_kind a_nodes_amount a_nodes_day a_nodes_held a_nodes_spot a_nodes_lotsByAge v_presentCount v_nodes_count v_nodes_lotCount f_nodes_kind f_nodes_amount f_p1_1 f_p1_3 f_p1_5 f_p1_7 (u)) (vv_rs (rest := []) ⟨hx, hb, hml, hown, hts⟩ (cw_J7_fill_d0a16 l dC dI cI cJ cZ a_reached (H.size) 48 f_reached 0 _ h) (va_cwS 2 hts gX3_clear_J7_fill_d0a16 rfl rfl rfl (by decide +kernel) ⟨Nat.le_of_ble_eq_true rfl, Nat.le_of_ble_eq_true rfl⟩) hK hP hD [8] rfl (by decide) rfl hl.1 rfl (Nat.le_of_ble_eq_true rfl) dX3_clear_37 ⟨Nat.le_of_ble_eq_true rfl, Nat.le_of_ble_eq_true rfl⟩) hP hD hS hA rfl rfl (by decide) (by decide) (fun _ => rfl) (by decide) (fun u H locs h hP hD hS => ?_)
  obtain ⟨f_p1_9, rfl⟩ : ∃ z, z = u := ⟨_, rfl⟩
  replace hP : va_P (dC, dI) vwCl (wd_X3_clear cI cJ cZ a0 a_nodes a_units a_came a_went a_drained a_reached a_present a_portion a_rest a_nodes_kind a_nodes_amount a_nodes_day a_nodes_held a_nodes_spot a_nodes_lotsByAge v_presentCount v_nodes_count v_nodes_lotCount f_nodes_kind f_nodes_amount f_p1_1 f_p1_3 f_p1_5 f_p1_7 f_p1_9) H := hP
  replace hD : va_D A (wd_X3_clear cI cJ cZ a0 a_nodes a_units a_came a_went a_drained a_reached a_present a_portion a_rest a_nodes_kind a_nodes_amount a_nodes_day a_nodes_held a_nodes_spot a_nodes_lotsByAge v_presentCount v_nodes_count v_nodes_lotCount f_nodes_kind f_nodes_amount f_p1_1 f_p1_3 f_p1_5 f_p1_7 f_p1_9) := hD
  refine lv_iconst (v := 0) hx hb dX3_clear_40 (by decide) ?_
  refine lv_istore_n (lv' := [(1, .int 0), (0, .ref a0)]) hx hb dX3_clear_41 rfl hl (by decide) rfl (fun ls hl => ?_)
  obtain ⟨n_42, h⟩ := h
  exact bk_42 n_42 0 f_p1_1 f_p1_3 f_p1_5 f_p1_7 f_p1_9 H locs ls hP hD hS (lv_sub hl [1, 0] rfl) h

abbrev wd_X3_greatestRest (cI cJ cZ : ClassId) (a0 a_nodes a_units a_came a_went a_drained a_reached a_present a_portion a_rest : Nat) (v_presentCount : Int32) (f_rest : (Nat → Int64)) : va_W := [(a0, .inr (3, [.ref a_nodes, .ref a_units, .ref a_came, .ref a_went, .ref a_drained, .ref a_reached, .ref a_present, .ref a_portion, .ref a_rest, .int v_presentCount])), (a_rest, .inl (cJ, 48, .inr (.inl f_rest)))]
abbrev rm_X3_greatestRest : Room := { frames := 0, cells := 0, slots := 0, locals := 0 }
def wb_X3_greatestRest_30 (post : Int32 → Prop) (v_presentCount : Int32) (f_rest : (Nat → Int64)) (K4 : Int32 → Int32 → Prop) (x1 : Int32) (x2 : Int32) : Prop := (∀ x_5 : Int32, x_5 = x2 + 1 → K4 x1 x_5)
def wb_X3_greatestRest_4 (post : Int32 → Prop) (v_presentCount : Int32) (f_rest : (Nat → Int64)) : Nat → Int32 → Int32 → Prop
  | 0 => fun _ _ => False
  | n + 1 => fun x1 x2 => ((v_presentCount ≤ x2 → post x1) ∧ (¬ v_presentCount ≤ x2 → (vp_in x2 48 ∧ (vp_in x1 48 ∧ (((¬ (f_rest x1.toNatClampNeg) < (f_rest x2.toNatClampNeg) → wb_X3_greatestRest_30 post v_presentCount f_rest (wb_X3_greatestRest_4 post v_presentCount f_rest n) x1 x2) ∧ ((f_rest x1.toNatClampNeg) < (f_rest x2.toNatClampNeg) → wb_X3_greatestRest_30 post v_presentCount f_rest (wb_X3_greatestRest_4 post v_presentCount f_rest n) x2 x2)))))))
def wp_X3_greatestRest (post : Int32 → Prop) (v_presentCount : Int32) (f_rest : (Nat → Int64)) : Prop := (∃ n_4 : Nat, wb_X3_greatestRest_4 post v_presentCount f_rest n_4 0 1)
set_option maxHeartbeats 4000000 in
set_option maxRecDepth 100000 in
theorem cw_X3_greatestRest (l : Launch) (dC : Nat → ClassId) (dI : Nat → Nat → Nat) (cI cJ cZ : ClassId) (a0 a_nodes a_units a_came a_went a_drained a_reached a_present a_portion a_rest : Nat) (sz : Nat) (v_presentCount : Int32) (f_rest : (Nat → Int64)) (post : Int32 → Prop) (h : wp_X3_greatestRest post v_presentCount f_rest) : Met l yX3_greatestRest wsX3_greatestRest rm_X3_greatestRest (va_Pc [.ref a0] (vv_B (dC, dI) (vv_ty cI cJ cZ) (wd_X3_greatestRest cI cJ cZ a0 a_nodes a_units a_came a_went a_drained a_reached a_present a_portion a_rest v_presentCount f_rest) sz)) (va_Qi (fun r (_u : Unit) => post r) (vv_E (dC, dI) (vv_ty cI cJ cZ) (va_A (wd_X3_greatestRest cI cJ cZ a0 a_nodes a_units a_came a_went a_drained a_reached a_present a_portion a_rest v_presentCount f_rest) sz) (fun _u : Unit => wd_X3_greatestRest cI cJ cZ a0 a_nodes a_units a_came a_went a_drained a_reached a_present a_portion a_rest v_presentCount f_rest)) (va_A (wd_X3_greatestRest cI cJ cZ a0 a_nodes a_units a_came a_went a_drained a_reached a_present a_portion a_rest v_presentCount f_rest) sz)) 0 0 (va_A (wd_X3_greatestRest cI cJ cZ a0 a_nodes a_units a_came a_went a_drained a_reached a_present a_portion a_rest v_presentCount f_rest) sz) := by
  refine Met.ofW (cc := cX3_greatestRest) (maxL := 3) (ret := (some .int)) (by decide) rfl ?_
  intro p e s m args below meth c s₁ B hml hv
  obtain ⟨hav, hsz, hP, hK, hD0⟩ := hv
  have hx := B.exec
  have hb := B.bytes
  have hr := B.returns
  have hts := atoms_spec (ws := wsX3_greatestRest) B.pre
  have hown : s.vm.findClass RX3 = some m.cls := findClass_of_methodNamed B.named
  have hlocks := B.notSynchronized
  subst hsz
  have hD := hD0.self (sz := s.heap.size)
  clear hD0
  generalize hAe : va_A (wd_X3_greatestRest cI cJ cZ a0 a_nodes a_units a_came a_went a_drained a_reached a_present a_portion a_rest v_presentCount f_rest) s.heap.size = A at hD ⊢
  have hA : ∀ q : Nat, s.heap.size ≤ q → A q := fun q h => by rw [← hAe]; exact Or.inr h
  clear hAe
  have hS : va_S A s.heap s.heap [] := va_S.rf
  have hl := lv_entry ([.ref a0]) (n := 3) (Nat.le_of_ble_eq_true rfl)
  subst hav
  rw [lg_entry_eq]
  generalize (lg_sl ([.ref a0]) ++ List.replicate (3 - (lg_sl ([.ref a0])).length) Slot.unset).toArray = ls at hl ⊢
  replace hl : lv_has ls 3 [(0, .ref a0)] := hl
  clear B
  generalize (([.ref a0] : List Value)).toArray = av at hts ⊢
  suffices MAIN : ∀ Q : State → Prop, (∀ (v : Int32) (H : Heap) (locs : List Loc) (ls : Array Slot) (pc : Nat), post v → va_P (dC, dI) vwCl (wd_X3_greatestRest cI cJ cZ a0 a_nodes a_units a_came a_went a_drained a_reached a_present a_portion a_rest v_presentCount f_rest) H → va_D A (wd_X3_greatestRest cI cJ cZ a0 a_nodes a_units a_came a_went a_drained a_reached a_present a_portion a_rest v_presentCount f_rest) → va_S A s.heap H locs → decode cX3_greatestRest pc = .ok (.ireturn, 1) → W p l e rm_X3_greatestRest s m av below meth c H locs 0 0 Q (F0 m pc ls [.int v])) → W p l e rm_X3_greatestRest s m av below meth c s.heap [] 0 0 Q (F0 m 0 ls []) from MAIN _ (fun v H locs ls pc h hP hD hS hd => vv_iret () hx hb hr hlocks h hK hP hD hS hd)
  intro Q RET
  have fl34 := hts (.fieldLink RX3 34 "LotFlows$Stock" "rest" "[J") (by decide +kernel)
  have fl100 := hts (.fieldLink RX3 100 "LotFlows$Stock" "presentCount" "I") (by decide +kernel)
  have in_X3 : ∀ w ∈ wsX30, w ∈ wsX3_greatestRest := by decide +kernel
  have bk_30 : ∀ (K4 : Int32 → Int32 → Prop), (∀ (x1 : Int32) (x2 : Int32) (H : Heap) (locs : List Loc) (ls : Array Slot), va_P (dC, dI) vwCl (wd_X3_greatestRest cI cJ cZ a0 a_nodes a_units a_came a_went a_drained a_reached a_present a_portion a_rest v_presentCount f_rest) H → va_D A (wd_X3_greatestRest cI cJ cZ a0 a_nodes a_units a_came a_went a_drained a_reached a_present a_portion a_rest v_presentCount f_rest) → va_S A s.heap H locs → lv_has ls 3 [(0, .ref a0), (1, .int x1), (2, .int x2)] → K4 x1 x2 → W p l e rm_X3_greatestRest s m av below meth c H locs 0 0 Q (F0 m 4 ls [])) → ∀ (x1 : Int32) (x2 : Int32) (H : Heap) (locs : List Loc) (ls : Array Slot), va_P (dC, dI) vwCl (wd_X3_greatestRest cI cJ cZ a0 a_nodes a_units a_came a_went a_drained a_reached a_present a_portion a_rest v_presentCount f_rest) H → va_D A (wd_X3_greatestRest cI cJ cZ a0 a_nodes a_units a_came a_went a_drained a_reached a_present a_portion a_rest v_presentCount f_rest) → va_S A s.heap H locs → lv_has ls 3 [(0, .ref a0), (1, .int x1), (2, .int x2)] → wb_X3_greatestRest_30 post v_presentCount f_rest K4 x1 x2 → W p l e rm_X3_greatestRest s m av below meth c H locs 0 0 Q (F0 m 30 ls []) := by
    intro K4 hK4 x1 x2 H locs ls hP hD hS hl h
    obtain ⟨x_5, ex_5⟩ : ∃ y : Int32, y = x2 + 1 := ⟨_, rfl⟩
    replace h := h x_5 ex_5
    refine lv_iinc (v := x_5) (lv' := [(2, .int x_5), (0, .ref a0), (1, .int x1)]) hx hb dX3_greatestRest_30 hl (k := 2) rfl (by rw [ex_5]; rfl) (by decide) rfl (fun ls hl => ?_)
    refine lv_goto (tgt := 4) hx hb dX3_greatestRest_33 (by decide) ?_
    exact hK4 x1 x_5 H locs ls hP hD hS (lv_sub hl [1, 2, 0] rfl) h
  have bk_4 : ∀ n : Nat, ∀ (x1 : Int32) (x2 : Int32) (H : Heap) (locs : List Loc) (ls : Array Slot), va_P (dC, dI) vwCl (wd_X3_greatestRest cI cJ cZ a0 a_nodes a_units a_came a_went a_drained a_reached a_present a_portion a_rest v_presentCount f_rest) H → va_D A (wd_X3_greatestRest cI cJ cZ a0 a_nodes a_units a_came a_went a_drained a_reached a_present a_portion a_rest v_presentCount f_rest) → va_S A s.heap H locs → lv_has ls 3 [(0, .ref a0), (1, .int x1), (2, .int x2)] → wb_X3_greatestRest_4 post v_presentCount f_rest n x1 x2 → W p l e rm_X3_greatestRest s m av below meth c H locs 0 0 Q (F0 m 4 ls []) := by
    intro n
    induction n with
    | zero =>
      intro x1 x2 H locs ls hP hD hS hl h
      exact False.elim h
    | succ n ih4 =>
      intro x1 x2 H locs ls hP hD hS hl h
      refine lv_iload_n hx hb dX3_greatestRest_4 rfl (lv_at hl 2 rfl) ?_
      refine lv_aload_n hx hb dX3_greatestRest_5 rfl (lv_at hl 0 rfl) ?_
      refine va_get (D := (dC, dI)) (ci := 3) (v := .int v_presentCount) (C := RX3) (T := TX3) (N := 10) hx hb hts in_X3 hown hK hP 0 rfl rfl 9 (by decide) fl100 (fun _ h9 => h9) rfl dX3_greatestRest_6 ?_
      refine lv_icmp_ge (tgt := 36) hx hb dX3_greatestRest_9 (by decide) (fun c_1 => ?_) (fun c_1 => ?_)
      · replace h := h.1 c_1
        refine lv_iload_n hx hb dX3_greatestRest_36 rfl (lv_at hl 1 rfl) ?_
        exact RET x1 H locs ls 37 h hP hD hS dX3_greatestRest_37
      · replace h := h.2 c_1
        refine lv_aload_n hx hb dX3_greatestRest_12 rfl (lv_at hl 0 rfl) ?_
        refine va_get (D := (dC, dI)) (ci := 3) (v := .ref a_rest) (C := RX3) (T := TX3) (N := 10) hx hb hts in_X3 hown hK hP 0 rfl rfl 8 (by decide) fl34 (fun _ h9 => h9) rfl dX3_greatestRest_13 ?_
        refine lv_iload_n hx hb dX3_greatestRest_16 rfl (lv_at hl 2 rfl) ?_
        obtain ⟨hi_2, h⟩ := h
        refine va_lald hx hb hK hP 1 1 rfl rfl hi_2 dX3_greatestRest_17 ?_
        refine lv_aload_n hx hb dX3_greatestRest_18 rfl (lv_at hl 0 rfl) ?_
        refine va_get (D := (dC, dI)) (ci := 3) (v := .ref a_rest) (C := RX3) (T := TX3) (N := 10) hx hb hts in_X3 hown hK hP 0 rfl rfl 8 (by decide) fl34 (fun _ h9 => h9) rfl dX3_greatestRest_19 ?_
        refine lv_iload_n hx hb dX3_greatestRest_22 rfl (lv_at hl 1 rfl) ?_
        obtain ⟨hi_3, h⟩ := h
        refine va_lald hx hb hK hP 1 1 rfl rfl hi_3 dX3_greatestRest_23 ?_
        refine vv_lcmp_le (tgt := 30) hx hb dX3_greatestRest_24 dX3_greatestRest_25 (by decide) (fun c_4 => ?_) (fun c_4 => ?_)
        · replace h := h.1 c_4
          exact bk_30 (wb_X3_greatestRest_4 post v_presentCount f_rest n) ih4 x1 x2 H locs ls hP hD hS (lv_sub hl [0, 1, 2] rfl) h
        · replace h := h.2 c_4
          refine lv_iload_n hx hb dX3_greatestRest_28 rfl (lv_at hl 2 rfl) ?_
          refine lv_istore_n (lv' := [(1, .int x2), (0, .ref a0), (2, .int x2)]) hx hb dX3_greatestRest_29 rfl hl (by decide) rfl (fun ls hl => ?_)
          exact bk_30 (wb_X3_greatestRest_4 post v_presentCount f_rest n) ih4 x2 x2 H locs ls hP hD hS (lv_sub hl [1, 0, 2] rfl) h
  suffices START : ∀ (H : Heap) (locs : List Loc), va_P (dC, dI) vwCl (wd_X3_greatestRest cI cJ cZ a0 a_nodes a_units a_came a_went a_drained a_reached a_present a_portion a_rest v_presentCount f_rest) H → va_D A (wd_X3_greatestRest cI cJ cZ a0 a_nodes a_units a_came a_went a_drained a_reached a_present a_portion a_rest v_presentCount f_rest) → va_S A s.heap H locs → W p l e rm_X3_greatestRest s m av below meth c H locs 0 0 Q (F0 m 0 ls []) from START s.heap [] hP hD hS
  clear hP hD hS
  intro H locs hP hD hS
  refine lv_iconst (v := 0) hx hb dX3_greatestRest_0 (by decide) ?_
  refine lv_istore_n (lv' := [(1, .int 0), (0, .ref a0)]) hx hb dX3_greatestRest_1 rfl hl (by decide) rfl (fun ls hl => ?_)
  refine lv_iconst (v := 1) hx hb dX3_greatestRest_2 (by decide) ?_
  refine lv_istore_n (lv' := [(2, .int 1), (1, .int 0), (0, .ref a0)]) hx hb dX3_greatestRest_3 rfl hl (by decide) rfl (fun ls hl => ?_)
  obtain ⟨n_4, h⟩ := h
  exact bk_4 n_4 0 1 H locs ls hP hD hS (lv_sub hl [2, 1, 0] rfl) h

abbrev wd_X3_part (cI cJ cZ : ClassId) (a0 a_nodes a_units a_came a_went a_drained a_reached a_present a_portion a_rest a_nodes_kind a_nodes_amount a_nodes_day a_nodes_held a_nodes_spot a_nodes_lotsByAge : Nat) (v_presentCount : Int32) (v_nodes_count : Int32) (v_nodes_lotCount : Int32) (f_units : (Nat → Int64)) (f_present : (Nat → Int32)) (f_portion : (Nat → Int64)) (f_rest : (Nat → Int64)) : va_W := [(a0, .inr (3, [.ref a_nodes, .ref a_units, .ref a_came, .ref a_went, .ref a_drained, .ref a_reached, .ref a_present, .ref a_portion, .ref a_rest, .int v_presentCount])), (a_nodes, .inr (1, [.int v_nodes_count, .int v_nodes_lotCount, .ref a_nodes_kind, .ref a_nodes_amount, .ref a_nodes_day, .ref a_nodes_held, .ref a_nodes_spot, .ref a_nodes_lotsByAge])), (a_units, .inl (cJ, 2304, .inr (.inl f_units))), (a_present, .inl (cI, 48, .inl f_present)), (a_portion, .inl (cJ, 48, .inr (.inl f_portion))), (a_rest, .inl (cJ, 48, .inr (.inl f_rest)))]
abbrev rm_X3_part : Room := { frames := 1, cells := 0, slots := 0, locals := 22 }
def wb_X3_part_111 (post : Int32 → (Nat → Int32) → (Nat → Int64) → (Nat → Int64) → Prop) (v_nodes_count : Int32) (v_nodes_lotCount : Int32) (f_units : (Nat → Int64)) (K19 : Int32 → Int64 → Int64 → Int64 → Int32 → Int32 → (Nat → Int32) → (Nat → Int64) → (Nat → Int64) → Prop) (x1 : Int32) (x2 : Int64) (x4 : Int64) (x6 : Int64) (x8 : Int32) (v_presentCount : Int32) (f_present : (Nat → Int32)) (f_portion : (Nat → Int64)) (f_rest : (Nat → Int64)) : Prop := (∀ x_27 : Int32, x_27 = x8 + 1 → K19 x1 x2 x4 x6 x_27 v_presentCount f_present f_portion f_rest)
def wb_X3_part_120 (post : Int32 → (Nat → Int32) → (Nat → Int64) → (Nat → Int64) → Prop) (v_nodes_count : Int32) (v_nodes_lotCount : Int32) (f_units : (Nat → Int64)) : Nat → Int64 → Int32 → Int32 → (Nat → Int32) → (Nat → Int64) → (Nat → Int64) → Prop
  | 0 => fun _ _ _ _ _ _ => False
  | n + 1 => fun x6 x8 v_presentCount f_present f_portion f_rest => ((v_presentCount ≤ x8 → post v_presentCount f_present f_portion f_rest) ∧ (¬ v_presentCount ≤ x8 → ((¬ 0 < x6 → post v_presentCount f_present f_portion f_rest) ∧ (0 < x6 → (wp_X3_greatestRest (fun r_19 => vp_in r_19 48 ∧ (vp_in r_19 48 ∧ (∀ f_22 : Nat → Int64, f_22 = vp_updL f_portion r_19.toNatClampNeg ((f_portion r_19.toNatClampNeg) + 1) → vp_in r_19 48 ∧ (∀ f_24 : Nat → Int64, f_24 = vp_updL f_rest r_19.toNatClampNeg 0 → ∀ x_25 : Int64, x_25 = (x6 - 1) → ∀ x_26 : Int32, x_26 = x8 + 1 → wb_X3_part_120 post v_nodes_count v_nodes_lotCount f_units  n x_25 x_26 v_presentCount f_present f_22 f_24)))) v_presentCount f_rest)))))
def wb_X3_part_19 (post : Int32 → (Nat → Int32) → (Nat → Int64) → (Nat → Int64) → Prop) (v_nodes_count : Int32) (v_nodes_lotCount : Int32) (f_units : (Nat → Int64)) : Nat → Int32 → Int64 → Int64 → Int64 → Int32 → Int32 → (Nat → Int32) → (Nat → Int64) → (Nat → Int64) → Prop
  | 0 => fun _ _ _ _ _ _ _ _ _ => False
  | n + 1 => fun x1 x2 x4 x6 x8 v_presentCount f_present f_portion f_rest => ((v_nodes_count ≤ x8 → (∃ n_120 : Nat, wb_X3_part_120 post v_nodes_count v_nodes_lotCount f_units n_120 x6 0 v_presentCount f_present f_portion f_rest)) ∧ (¬ v_nodes_count ≤ x8 → (wp_X3_unitsOf (fun r_3 => ∀ x_4 : Int64, x_4 = (r_3 * x4) → ((¬ 0 < x_4 → wb_X3_part_111 post v_nodes_count v_nodes_lotCount f_units (wb_X3_part_19 post v_nodes_count v_nodes_lotCount f_units n) x1 x2 x4 x6 x8 v_presentCount f_present f_portion f_rest) ∧ (0 < x_4 → (vp_in v_presentCount 48 ∧ (∀ f_7 : Nat → Int32, f_7 = upd f_present v_presentCount.toNatClampNeg x8 → ¬ x2 = 0 ∧ (vp_in v_presentCount 48 ∧ (∀ f_10 : Nat → Int64, f_10 = vp_updL f_portion v_presentCount.toNatClampNeg (x_4 / x2) → ¬ x2 = 0 ∧ (vp_in v_presentCount 48 ∧ (∀ f_13 : Nat → Int64, f_13 = vp_updL f_rest v_presentCount.toNatClampNeg (x_4 - x_4 / x2 * x2) → vp_in v_presentCount 48 ∧ (∀ x_15 : Int64, x_15 = (x6 - (f_10 v_presentCount.toNatClampNeg)) → ∀ v_16 : Int32, v_16 = (v_presentCount + 1) → wb_X3_part_111 post v_nodes_count v_nodes_lotCount f_units (wb_X3_part_19 post v_nodes_count v_nodes_lotCount f_units n) x1 x2 x4 x_15 x8 v_16 f_7 f_10 f_13)))))))))) v_presentCount f_units x1 x8)))
def wp_X3_part (post : Int32 → (Nat → Int32) → (Nat → Int64) → (Nat → Int64) → Prop) (v_presentCount : Int32) (v_nodes_count : Int32) (v_nodes_lotCount : Int32) (f_units : (Nat → Int64)) (f_present : (Nat → Int32)) (f_portion : (Nat → Int64)) (f_rest : (Nat → Int64)) (p1 : Int32) (p2 : Int64) (p3 : Int64) : Prop := ((0 < p2 → (∃ n_19 : Nat, wb_X3_part_19 post v_nodes_count v_nodes_lotCount f_units n_19 p1 p2 p3 p3 0 0 f_present f_portion f_rest)) ∧ (¬ 0 < p2 → post 0 f_present f_portion f_rest))
set_option maxHeartbeats 4000000 in
set_option maxRecDepth 100000 in
theorem cw_X3_part (l : Launch) (dC : Nat → ClassId) (dI : Nat → Nat → Nat) (cI cJ cZ : ClassId) (a0 a_nodes a_units a_came a_went a_drained a_reached a_present a_portion a_rest a_nodes_kind a_nodes_amount a_nodes_day a_nodes_held a_nodes_spot a_nodes_lotsByAge : Nat) (sz : Nat) (v_presentCount : Int32) (v_nodes_count : Int32) (v_nodes_lotCount : Int32) (f_units : (Nat → Int64)) (f_present : (Nat → Int32)) (f_portion : (Nat → Int64)) (f_rest : (Nat → Int64)) (p1 : Int32) (p2 : Int64) (p3 : Int64) (post : Int32 → (Nat → Int32) → (Nat → Int64) → (Nat → Int64) → Prop) (h : wp_X3_part post v_presentCount v_nodes_count v_nodes_lotCount f_units f_present f_portion f_rest p1 p2 p3) : Met l yX3_part wsX3_part rm_X3_part (va_Pc [.ref a0, .int p1, .long p2, .long p3] (vv_B (dC, dI) (vv_ty cI cJ cZ) (wd_X3_part cI cJ cZ a0 a_nodes a_units a_came a_went a_drained a_reached a_present a_portion a_rest a_nodes_kind a_nodes_amount a_nodes_day a_nodes_held a_nodes_spot a_nodes_lotsByAge v_presentCount v_nodes_count v_nodes_lotCount f_units f_present f_portion f_rest) sz)) (va_Qv (fun (u : Int32 × (Nat → Int32) × (Nat → Int64) × (Nat → Int64)) => post (u.1) (u.2.1) (u.2.2.1) (u.2.2.2)) (vv_E (dC, dI) (vv_ty cI cJ cZ) (va_A (wd_X3_part cI cJ cZ a0 a_nodes a_units a_came a_went a_drained a_reached a_present a_portion a_rest a_nodes_kind a_nodes_amount a_nodes_day a_nodes_held a_nodes_spot a_nodes_lotsByAge v_presentCount v_nodes_count v_nodes_lotCount f_units f_present f_portion f_rest) sz) (fun u : Int32 × (Nat → Int32) × (Nat → Int64) × (Nat → Int64) => wd_X3_part cI cJ cZ a0 a_nodes a_units a_came a_went a_drained a_reached a_present a_portion a_rest a_nodes_kind a_nodes_amount a_nodes_day a_nodes_held a_nodes_spot a_nodes_lotsByAge (u.1) v_nodes_count v_nodes_lotCount f_units (u.2.1) (u.2.2.1) (u.2.2.2))) (va_A (wd_X3_part cI cJ cZ a0 a_nodes a_units a_came a_went a_drained a_reached a_present a_portion a_rest a_nodes_kind a_nodes_amount a_nodes_day a_nodes_held a_nodes_spot a_nodes_lotsByAge v_presentCount v_nodes_count v_nodes_lotCount f_units f_present f_portion f_rest) sz)) 0 0 (va_A (wd_X3_part cI cJ cZ a0 a_nodes a_units a_came a_went a_drained a_reached a_present a_portion a_rest a_nodes_kind a_nodes_amount a_nodes_day a_nodes_held a_nodes_spot a_nodes_lotsByAge v_presentCount v_nodes_count v_nodes_lotCount f_units f_present f_portion f_rest) sz) := by
  refine Met.ofW (cc := cX3_part) (maxL := 11) (ret := none) (by decide) rfl ?_
  intro p e s m args below meth c s₁ B hml hv
  obtain ⟨hav, hsz, hP, hK, hD0⟩ := hv
  have hx := B.exec
  have hb := B.bytes
  have hr := B.returns
  have hts := atoms_spec (ws := wsX3_part) B.pre
  have hown : s.vm.findClass RX3 = some m.cls := findClass_of_methodNamed B.named
  have hlocks := B.notSynchronized
  subst hsz
  have hD := hD0.self (sz := s.heap.size)
  clear hD0
  generalize hAe : va_A (wd_X3_part cI cJ cZ a0 a_nodes a_units a_came a_went a_drained a_reached a_present a_portion a_rest a_nodes_kind a_nodes_amount a_nodes_day a_nodes_held a_nodes_spot a_nodes_lotsByAge v_presentCount v_nodes_count v_nodes_lotCount f_units f_present f_portion f_rest) s.heap.size = A at hD ⊢
  have hA : ∀ q : Nat, s.heap.size ≤ q → A q := fun q h => by rw [← hAe]; exact Or.inr h
  clear hAe
  have hS : va_S A s.heap s.heap [] := va_S.rf
  have hl := lv_entry ([.ref a0, .int p1, .long p2, .long p3]) (n := 11) (Nat.le_of_ble_eq_true rfl)
  subst hav
  rw [lg_entry_eq]
  generalize (lg_sl ([.ref a0, .int p1, .long p2, .long p3]) ++ List.replicate (11 - (lg_sl ([.ref a0, .int p1, .long p2, .long p3])).length) Slot.unset).toArray = ls at hl ⊢
  replace hl : lv_has ls 11 [(0, .ref a0), (1, .int p1), (2, .long p2), (4, .long p3)] := hl
  clear B
  generalize (([.ref a0, .int p1, .long p2, .long p3] : List Value)).toArray = av at hts ⊢
  suffices MAIN : ∀ Q : State → Prop, (∀ (v_presentCount : Int32) (f_present : (Nat → Int32)) (f_portion : (Nat → Int64)) (f_rest : (Nat → Int64)) (H : Heap) (locs : List Loc) (ls : Array Slot) (pc : Nat), post v_presentCount f_present f_portion f_rest → va_P (dC, dI) vwCl (wd_X3_part cI cJ cZ a0 a_nodes a_units a_came a_went a_drained a_reached a_present a_portion a_rest a_nodes_kind a_nodes_amount a_nodes_day a_nodes_held a_nodes_spot a_nodes_lotsByAge v_presentCount v_nodes_count v_nodes_lotCount f_units f_present f_portion f_rest) H → va_D A (wd_X3_part cI cJ cZ a0 a_nodes a_units a_came a_went a_drained a_reached a_present a_portion a_rest a_nodes_kind a_nodes_amount a_nodes_day a_nodes_held a_nodes_spot a_nodes_lotsByAge v_presentCount v_nodes_count v_nodes_lotCount f_units f_present f_portion f_rest) → va_S A s.heap H locs → decode cX3_part pc = .ok (.return_, 1) → W p l e rm_X3_part s m av below meth c H locs 0 0 Q (F0 m pc ls [])) → W p l e rm_X3_part s m av below meth c s.heap [] 0 0 Q (F0 m 0 ls []) from MAIN _ (fun v_presentCount f_present f_portion f_rest H locs ls pc h hP hD hS hd => vv_vret (v_presentCount, f_present, f_portion, f_rest) hx hb hr hlocks h hK hP hD hS hd)
  intro Q RET
  have fl27 := hts (.fieldLink RX3 27 "LotFlows$Stock" "present" "[I") (by decide +kernel)
  have fl31 := hts (.fieldLink RX3 31 "LotFlows$Stock" "portion" "[J") (by decide +kernel)
  have fl34 := hts (.fieldLink RX3 34 "LotFlows$Stock" "rest" "[J") (by decide +kernel)
  have fl37 := hts (.fieldLink RX3 37 "LotFlows$Stock" "nodes" "LLotFlows$Nodes;") (by decide +kernel)
  have fl41 := hts (.fieldLink RX3 41 "LotFlows$Nodes" "count" "I") (by decide +kernel)
  have fl100 := hts (.fieldLink RX3 100 "LotFlows$Stock" "presentCount" "I") (by decide +kernel)
  have in_X1 : ∀ w ∈ wsX10, w ∈ wsX3_part := by decide +kernel
  have in_X3 : ∀ w ∈ wsX30, w ∈ wsX3_part := by decide +kernel
  have bk_111 : ∀ (K19 : Int32 → Int64 → Int64 → Int64 → Int32 → Int32 → (Nat → Int32) → (Nat → Int64) → (Nat → Int64) → Prop), (∀ (x1 : Int32) (x2 : Int64) (x4 : Int64) (x6 : Int64) (x8 : Int32) (v_presentCount : Int32) (f_present : (Nat → Int32)) (f_portion : (Nat → Int64)) (f_rest : (Nat → Int64)) (H : Heap) (locs : List Loc) (ls : Array Slot), va_P (dC, dI) vwCl (wd_X3_part cI cJ cZ a0 a_nodes a_units a_came a_went a_drained a_reached a_present a_portion a_rest a_nodes_kind a_nodes_amount a_nodes_day a_nodes_held a_nodes_spot a_nodes_lotsByAge v_presentCount v_nodes_count v_nodes_lotCount f_units f_present f_portion f_rest) H → va_D A (wd_X3_part cI cJ cZ a0 a_nodes a_units a_came a_went a_drained a_reached a_present a_portion a_rest a_nodes_kind a_nodes_amount a_nodes_day a_nodes_held a_nodes_spot a_nodes_lotsByAge v_presentCount v_nodes_count v_nodes_lotCount f_units f_present f_portion f_rest) → va_S A s.heap H locs → lv_has ls 11 [(0, .ref a0), (1, .int x1), (2, .long x2), (4, .long x4), (6, .long x6), (8, .int x8)] → K19 x1 x2 x4 x6 x8 v_presentCount f_present f_portion f_rest → W p l e rm_X3_part s m av below meth c H locs 0 0 Q (F0 m 19 ls [])) → ∀ (x1 : Int32) (x2 : Int64) (x4 : Int64) (x6 : Int64) (x8 : Int32) (v_presentCount : Int32) (f_present : (Nat → Int32)) (f_portion : (Nat → Int64)) (f_rest : (Nat → Int64)) (H : Heap) (locs : List Loc) (ls : Array Slot), va_P (dC, dI) vwCl (wd_X3_part cI cJ cZ a0 a_nodes a_units a_came a_went a_drained a_reached a_present a_portion a_rest a_nodes_kind a_nodes_amount a_nodes_day a_nodes_held a_nodes_spot a_nodes_lotsByAge v_presentCount v_nodes_count v_nodes_lotCount f_units f_present f_portion f_rest) H → va_D A (wd_X3_part cI cJ cZ a0 a_nodes a_units a_came a_went a_drained a_reached a_present a_portion a_rest a_nodes_kind a_nodes_amount a_nodes_day a_nodes_held a_nodes_spot a_nodes_lotsByAge v_presentCount v_nodes_count v_nodes_lotCount f_units f_present f_portion f_rest) → va_S A s.heap H locs → lv_has ls 11 [(0, .ref a0), (1, .int x1), (2, .long x2), (4, .long x4), (6, .long x6), (8, .int x8)] → wb_X3_part_111 post v_nodes_count v_nodes_lotCount f_units K19 x1 x2 x4 x6 x8 v_presentCount f_present f_portion f_rest → W p l e rm_X3_part s m av below meth c H locs 0 0 Q (F0 m 111 ls []) := by
    intro K19 hK19 x1 x2 x4 x6 x8 v_presentCount f_present f_portion f_rest H locs ls hP hD hS hl h
    obtain ⟨x_27, ex_27⟩ : ∃ y : Int32, y = x8 + 1 := ⟨_, rfl⟩
    replace h := h x_27 ex_27
    refine lv_iinc (v := x_27) (lv' := [(8, .int x_27), (0, .ref a0), (1, .int x1), (2, .long x2), (4, .long x4), (6, .long x6)]) hx hb dX3_part_111 hl (k := 5) rfl (by rw [ex_27]; rfl) (by decide) rfl (fun ls hl => ?_)
    refine lv_goto (tgt := 19) hx hb dX3_part_114 (by decide) ?_
    exact hK19 x1 x2 x4 x6 x_27 v_presentCount f_present f_portion f_rest H locs ls hP hD hS (lv_sub hl [1, 2, 3, 4, 5, 0] rfl) h
  have bk_120 : ∀ n : Nat, ∀ (x6 : Int64) (x8 : Int32) (v_presentCount : Int32) (f_present : (Nat → Int32)) (f_portion : (Nat → Int64)) (f_rest : (Nat → Int64)) (H : Heap) (locs : List Loc) (ls : Array Slot), va_P (dC, dI) vwCl (wd_X3_part cI cJ cZ a0 a_nodes a_units a_came a_went a_drained a_reached a_present a_portion a_rest a_nodes_kind a_nodes_amount a_nodes_day a_nodes_held a_nodes_spot a_nodes_lotsByAge v_presentCount v_nodes_count v_nodes_lotCount f_units f_present f_portion f_rest) H → va_D A (wd_X3_part cI cJ cZ a0 a_nodes a_units a_came a_went a_drained a_reached a_present a_portion a_rest a_nodes_kind a_nodes_amount a_nodes_day a_nodes_held a_nodes_spot a_nodes_lotsByAge v_presentCount v_nodes_count v_nodes_lotCount f_units f_present f_portion f_rest) → va_S A s.heap H locs → lv_has ls 11 [(0, .ref a0), (6, .long x6), (8, .int x8)] → wb_X3_part_120 post v_nodes_count v_nodes_lotCount f_units n x6 x8 v_presentCount f_present f_portion f_rest → W p l e rm_X3_part s m av below meth c H locs 0 0 Q (F0 m 120 ls []) := by
    intro n
    induction n with
    | zero =>
      intro x6 x8 v_presentCount f_present f_portion f_rest H locs ls hP hD hS hl h
      exact False.elim h
    | succ n ih120 =>
      intro x6 x8 v_presentCount f_present f_portion f_rest H locs ls hP hD hS hl h
      refine lv_iload hx hb dX3_part_120 (lv_at hl 2 rfl) ?_
      refine lv_aload_n hx hb dX3_part_122 rfl (lv_at hl 0 rfl) ?_
      refine va_get (D := (dC, dI)) (ci := 3) (v := .int v_presentCount) (C := RX3) (T := TX3) (N := 10) hx hb hts in_X3 hown hK hP 0 rfl rfl 9 (by decide) fl100 (fun _ h9 => h9) rfl dX3_part_123 ?_
      refine lv_icmp_ge (tgt := 173) hx hb dX3_part_126 (by decide) (fun c_17 => ?_) (fun c_17 => ?_)
      · replace h := h.1 c_17
        exact RET v_presentCount f_present f_portion f_rest H locs ls 173 h hP hD hS dX3_part_173
      · replace h := h.2 c_17
        refine lv_lload hx hb dX3_part_129 (lv_at hl 1 rfl) ?_
        refine lv_lconst (v := 0) hx hb dX3_part_131 (by decide) ?_
        refine vv_lcmp_le (tgt := 173) hx hb dX3_part_132 dX3_part_133 (by decide) (fun c_18 => ?_) (fun c_18 => ?_)
        · replace h := h.1 c_18
          exact RET v_presentCount f_present f_portion f_rest H locs ls 173 h hP hD hS dX3_part_173
        · replace h := h.2 c_18
          refine lv_aload_n hx hb dX3_part_136 rfl (lv_at hl 0 rfl) ?_
          refine vv_goi [0, 5] [1, 2, 3, 4] [(a_nodes, .inr (1, [.int v_nodes_count, .int v_nodes_lotCount, .ref a_nodes_kind, .ref a_nodes_amount, .ref a_nodes_day, .ref a_nodes_held, .ref a_nodes_spot, .ref a_nodes_lotsByAge])), (a_units, .inl (cJ, 2304, .inr (.inl f_units))), (a_present, .inl (cI, 48, .inl f_present)), (a_portion, .inl (cJ, 48, .inr (.inl f_portion)))] [4, 0, 1, 2, 3, 5] (fun _ => wd_X3_part cI cJ cZ a0 a_nodes a_units a_came a_went a_drained a_reached a_present a_portion a_rest a_nodes_kind a_nodes_amount a_nodes_day a_nodes_held a_nodes_spot a_nodes_lotsByAge v_presentCount v_nodes_count v_nodes_lotCount f_units f_present f_portion f_rest) (vv_rv (rest := []) (ci := 3) ⟨hx, hb, hml, hown, hts⟩ (cw_X3_greatestRest l dC dI cI cJ cZ a0 a_nodes a_units a_came a_went a_drained a_reached a_present a_portion a_rest (H.size) v_presentCount f_rest _ h) (cwV 0 hts gX3_part_X3_greatestRest rfl rfl rfl (by decide +kernel) ⟨Nat.le_of_ble_eq_true rfl, Nat.le_of_ble_eq_true rfl⟩) hK hP hD [0, 5] rfl (by decide) rfl rfl rfl hl.1 rfl (Nat.le_of_ble_eq_true rfl) dX3_part_137 ⟨Nat.le_of_ble_eq_true rfl, Nat.le_of_ble_eq_true rfl⟩) hP hD hS hA rfl rfl (by decide) (by decide) (fun _ => rfl) (by decide) (fun r_19 _ H locs h hP hD hS => ?_)
          replace hP : va_P (dC, dI) vwCl (wd_X3_part cI cJ cZ a0 a_nodes a_units a_came a_went a_drained a_reached a_present a_portion a_rest a_nodes_kind a_nodes_amount a_nodes_day a_nodes_held a_nodes_spot a_nodes_lotsByAge v_presentCount v_nodes_count v_nodes_lotCount f_units f_present f_portion f_rest) H := hP
          replace hD : va_D A (wd_X3_part cI cJ cZ a0 a_nodes a_units a_came a_went a_drained a_reached a_present a_portion a_rest a_nodes_kind a_nodes_amount a_nodes_day a_nodes_held a_nodes_spot a_nodes_lotsByAge v_presentCount v_nodes_count v_nodes_lotCount f_units f_present f_portion f_rest) := hD
          refine lv_istore (lv' := [(9, .int r_19), (0, .ref a0), (6, .long x6), (8, .int x8)]) hx hb dX3_part_140 hl (by decide) rfl (fun ls hl => ?_)
          refine lv_aload_n hx hb dX3_part_142 rfl (lv_at hl 1 rfl) ?_
          refine va_get (D := (dC, dI)) (ci := 3) (v := .ref a_portion) (C := RX3) (T := TX3) (N := 10) hx hb hts in_X3 hown hK hP 0 rfl rfl 7 (by decide) fl31 (fun _ h9 => h9) rfl dX3_part_143 ?_
          refine lv_iload hx hb dX3_part_146 (lv_at hl 0 rfl) ?_
          refine lv_dup2_11 hx hb dX3_part_148 rfl rfl ?_
          obtain ⟨hi_20, h⟩ := h
          refine va_lald hx hb hK hP 4 1 rfl rfl hi_20 dX3_part_149 ?_
          refine lv_lconst (v := 1) hx hb dX3_part_150 (by decide) ?_
          refine lv_ladd hx hb dX3_part_151 ?_
          obtain ⟨hi_21, h⟩ := h
          refine vv_last hx hb hK hP hD hS 4 1 rfl rfl hi_21 dX3_part_152 (fun f_22 ef_22 H locs hP hD hS => ?_)
          replace h := h f_22 ef_22
          replace hP : va_P (dC, dI) vwCl (wd_X3_part cI cJ cZ a0 a_nodes a_units a_came a_went a_drained a_reached a_present a_portion a_rest a_nodes_kind a_nodes_amount a_nodes_day a_nodes_held a_nodes_spot a_nodes_lotsByAge v_presentCount v_nodes_count v_nodes_lotCount f_units f_present f_22 f_rest) H := hP
          replace hD : va_D A (wd_X3_part cI cJ cZ a0 a_nodes a_units a_came a_went a_drained a_reached a_present a_portion a_rest a_nodes_kind a_nodes_amount a_nodes_day a_nodes_held a_nodes_spot a_nodes_lotsByAge v_presentCount v_nodes_count v_nodes_lotCount f_units f_present f_22 f_rest) := hD
          refine lv_aload_n hx hb dX3_part_153 rfl (lv_at hl 1 rfl) ?_
          refine va_get (D := (dC, dI)) (ci := 3) (v := .ref a_rest) (C := RX3) (T := TX3) (N := 10) hx hb hts in_X3 hown hK hP 0 rfl rfl 8 (by decide) fl34 (fun _ h9 => h9) rfl dX3_part_154 ?_
          refine lv_iload hx hb dX3_part_157 (lv_at hl 0 rfl) ?_
          refine lv_lconst (v := 0) hx hb dX3_part_159 (by decide) ?_
          obtain ⟨hi_23, h⟩ := h
          refine vv_last hx hb hK hP hD hS 5 1 rfl rfl hi_23 dX3_part_160 (fun f_24 ef_24 H locs hP hD hS => ?_)
          replace h := h f_24 ef_24
          replace hP : va_P (dC, dI) vwCl (wd_X3_part cI cJ cZ a0 a_nodes a_units a_came a_went a_drained a_reached a_present a_portion a_rest a_nodes_kind a_nodes_amount a_nodes_day a_nodes_held a_nodes_spot a_nodes_lotsByAge v_presentCount v_nodes_count v_nodes_lotCount f_units f_present f_22 f_24) H := hP
          replace hD : va_D A (wd_X3_part cI cJ cZ a0 a_nodes a_units a_came a_went a_drained a_reached a_present a_portion a_rest a_nodes_kind a_nodes_amount a_nodes_day a_nodes_held a_nodes_spot a_nodes_lotsByAge v_presentCount v_nodes_count v_nodes_lotCount f_units f_present f_22 f_24) := hD
          refine lv_lload hx hb dX3_part_161 (lv_at hl 2 rfl) ?_
          refine lv_lconst (v := 1) hx hb dX3_part_163 (by decide) ?_
          refine lv_lsub hx hb dX3_part_164 ?_
          refine lv_topl (fun x_25 ex_25 => ?_)
          replace h := h x_25 ex_25
          refine lv_lstore (lv' := [(6, .long x_25), (9, .int r_19), (0, .ref a0), (8, .int x8)]) hx hb dX3_part_165 hl (by decide) rfl (fun ls hl => ?_)
          obtain ⟨x_26, ex_26⟩ : ∃ y : Int32, y = x8 + 1 := ⟨_, rfl⟩
          replace h := h x_26 ex_26
          refine lv_iinc (v := x_26) (lv' := [(8, .int x_26), (6, .long x_25), (9, .int r_19), (0, .ref a0)]) hx hb dX3_part_167 hl (k := 3) rfl (by rw [ex_26]; rfl) (by decide) rfl (fun ls hl => ?_)
          refine lv_goto (tgt := 120) hx hb dX3_part_170 (by decide) ?_
          exact ih120 x_25 x_26 v_presentCount f_present f_22 f_24 H locs ls hP hD hS (lv_sub hl [3, 1, 0] rfl) h
  have bk_19 : ∀ n : Nat, ∀ (x1 : Int32) (x2 : Int64) (x4 : Int64) (x6 : Int64) (x8 : Int32) (v_presentCount : Int32) (f_present : (Nat → Int32)) (f_portion : (Nat → Int64)) (f_rest : (Nat → Int64)) (H : Heap) (locs : List Loc) (ls : Array Slot), va_P (dC, dI) vwCl (wd_X3_part cI cJ cZ a0 a_nodes a_units a_came a_went a_drained a_reached a_present a_portion a_rest a_nodes_kind a_nodes_amount a_nodes_day a_nodes_held a_nodes_spot a_nodes_lotsByAge v_presentCount v_nodes_count v_nodes_lotCount f_units f_present f_portion f_rest) H → va_D A (wd_X3_part cI cJ cZ a0 a_nodes a_units a_came a_went a_drained a_reached a_present a_portion a_rest a_nodes_kind a_nodes_amount a_nodes_day a_nodes_held a_nodes_spot a_nodes_lotsByAge v_presentCount v_nodes_count v_nodes_lotCount f_units f_present f_portion f_rest) → va_S A s.heap H locs → lv_has ls 11 [(0, .ref a0), (1, .int x1), (2, .long x2), (4, .long x4), (6, .long x6), (8, .int x8)] → wb_X3_part_19 post v_nodes_count v_nodes_lotCount f_units n x1 x2 x4 x6 x8 v_presentCount f_present f_portion f_rest → W p l e rm_X3_part s m av below meth c H locs 0 0 Q (F0 m 19 ls []) := by
    intro n
    induction n with
    | zero =>
      intro x1 x2 x4 x6 x8 v_presentCount f_present f_portion f_rest H locs ls hP hD hS hl h
      exact False.elim h
    | succ n ih19 =>
      intro x1 x2 x4 x6 x8 v_presentCount f_present f_portion f_rest H locs ls hP hD hS hl h
      refine lv_iload hx hb dX3_part_19 (lv_at hl 5 rfl) ?_
      refine lv_aload_n hx hb dX3_part_21 rfl (lv_at hl 0 rfl) ?_
      refine va_get (D := (dC, dI)) (ci := 3) (v := .ref a_nodes) (C := RX3) (T := TX3) (N := 10) hx hb hts in_X3 hown hK hP 0 rfl rfl 0 (by decide) fl37 (fun _ h9 => h9) rfl dX3_part_22 ?_
      refine va_get (D := (dC, dI)) (ci := 1) (v := .int v_nodes_count) (C := RX1) (T := TX1) (N := 8) hx hb hts in_X1 hown hK hP 1 rfl rfl 0 (by decide) fl41 (fun _ h9 => h9) rfl dX3_part_25 ?_
      refine lv_icmp_ge (tgt := 117) hx hb dX3_part_28 (by decide) (fun c_2 => ?_) (fun c_2 => ?_)
      · replace h := h.1 c_2
        refine lv_iconst (v := 0) hx hb dX3_part_117 (by decide) ?_
        refine lv_istore (lv' := [(8, .int 0), (0, .ref a0), (1, .int x1), (2, .long x2), (4, .long x4), (6, .long x6)]) hx hb dX3_part_118 hl (by decide) rfl (fun ls hl => ?_)
        obtain ⟨n_120, h⟩ := h
        exact bk_120 n_120 x6 0 v_presentCount f_present f_portion f_rest H locs ls hP hD hS (lv_sub hl [1, 5, 0] rfl) h
      · replace h := h.2 c_2
        refine lv_aload_n hx hb dX3_part_31 rfl (lv_at hl 0 rfl) ?_
        refine lv_iload_n hx hb dX3_part_32 rfl (lv_at hl 1 rfl) ?_
        refine lv_iload hx hb dX3_part_33 (lv_at hl 5 rfl) ?_
        refine vv_gol [0, 2] [1, 3, 4, 5] [(a_nodes, .inr (1, [.int v_nodes_count, .int v_nodes_lotCount, .ref a_nodes_kind, .ref a_nodes_amount, .ref a_nodes_day, .ref a_nodes_held, .ref a_nodes_spot, .ref a_nodes_lotsByAge])), (a_present, .inl (cI, 48, .inl f_present)), (a_portion, .inl (cJ, 48, .inr (.inl f_portion))), (a_rest, .inl (cJ, 48, .inr (.inl f_rest)))] [4, 0, 5, 1, 2, 3] (fun _ => wd_X3_part cI cJ cZ a0 a_nodes a_units a_came a_went a_drained a_reached a_present a_portion a_rest a_nodes_kind a_nodes_amount a_nodes_day a_nodes_held a_nodes_spot a_nodes_lotsByAge v_presentCount v_nodes_count v_nodes_lotCount f_units f_present f_portion f_rest) (vv_rv (rest := []) (ci := 3) ⟨hx, hb, hml, hown, hts⟩ (cw_X3_unitsOf l dC dI cI cJ cZ a0 a_nodes a_units a_came a_went a_drained a_reached a_present a_portion a_rest (H.size) v_presentCount f_units x1 x8 _ h) (cwV 2 hts gX3_part_X3_unitsOf rfl rfl rfl (by decide +kernel) ⟨Nat.le_of_ble_eq_true rfl, Nat.le_of_ble_eq_true rfl⟩) hK hP hD [0, 2] rfl (by decide) rfl rfl rfl hl.1 rfl (Nat.le_of_ble_eq_true rfl) dX3_part_35 ⟨Nat.le_of_ble_eq_true rfl, Nat.le_of_ble_eq_true rfl⟩) hP hD hS hA rfl rfl (by decide) (by decide) (fun _ => rfl) (by decide) (fun r_3 _ H locs h hP hD hS => ?_)
        replace hP : va_P (dC, dI) vwCl (wd_X3_part cI cJ cZ a0 a_nodes a_units a_came a_went a_drained a_reached a_present a_portion a_rest a_nodes_kind a_nodes_amount a_nodes_day a_nodes_held a_nodes_spot a_nodes_lotsByAge v_presentCount v_nodes_count v_nodes_lotCount f_units f_present f_portion f_rest) H := hP
        replace hD : va_D A (wd_X3_part cI cJ cZ a0 a_nodes a_units a_came a_went a_drained a_reached a_present a_portion a_rest a_nodes_kind a_nodes_amount a_nodes_day a_nodes_held a_nodes_spot a_nodes_lotsByAge v_presentCount v_nodes_count v_nodes_lotCount f_units f_present f_portion f_rest) := hD
        refine lv_lload hx hb dX3_part_38 (lv_at hl 3 rfl) ?_
        refine lv_lmul hx hb dX3_part_40 ?_
        refine lv_topl (fun x_4 ex_4 => ?_)
        replace h := h x_4 ex_4
        refine lv_lstore (lv' := [(9, .long x_4), (0, .ref a0), (1, .int x1), (2, .long x2), (4, .long x4), (6, .long x6), (8, .int x8)]) hx hb dX3_part_41 hl (by decide) rfl (fun ls hl => ?_)
        refine lv_lload hx hb dX3_part_43 (lv_at hl 0 rfl) ?_
        refine lv_lconst (v := 0) hx hb dX3_part_45 (by decide) ?_
        refine vv_lcmp_le (tgt := 111) hx hb dX3_part_46 dX3_part_47 (by decide) (fun c_5 => ?_) (fun c_5 => ?_)
        · replace h := h.1 c_5
          exact bk_111 (wb_X3_part_19 post v_nodes_count v_nodes_lotCount f_units n) ih19 x1 x2 x4 x6 x8 v_presentCount f_present f_portion f_rest H locs ls hP hD hS (lv_sub hl [1, 2, 3, 4, 5, 6] rfl) h
        · replace h := h.2 c_5
          refine lv_aload_n hx hb dX3_part_50 rfl (lv_at hl 1 rfl) ?_
          refine va_get (D := (dC, dI)) (ci := 3) (v := .ref a_present) (C := RX3) (T := TX3) (N := 10) hx hb hts in_X3 hown hK hP 0 rfl rfl 6 (by decide) fl27 (fun _ h9 => h9) rfl dX3_part_51 ?_
          refine lv_aload_n hx hb dX3_part_54 rfl (lv_at hl 1 rfl) ?_
          refine va_get (D := (dC, dI)) (ci := 3) (v := .int v_presentCount) (C := RX3) (T := TX3) (N := 10) hx hb hts in_X3 hown hK hP 0 rfl rfl 9 (by decide) fl100 (fun _ h9 => h9) rfl dX3_part_55 ?_
          refine lv_iload hx hb dX3_part_58 (lv_at hl 6 rfl) ?_
          obtain ⟨hi_6, h⟩ := h
          refine vv_iast hx hb hK hP hD hS 3 0 rfl rfl hi_6 dX3_part_60 (fun f_7 ef_7 H locs hP hD hS => ?_)
          replace h := h f_7 ef_7
          replace hP : va_P (dC, dI) vwCl (wd_X3_part cI cJ cZ a0 a_nodes a_units a_came a_went a_drained a_reached a_present a_portion a_rest a_nodes_kind a_nodes_amount a_nodes_day a_nodes_held a_nodes_spot a_nodes_lotsByAge v_presentCount v_nodes_count v_nodes_lotCount f_units f_7 f_portion f_rest) H := hP
          replace hD : va_D A (wd_X3_part cI cJ cZ a0 a_nodes a_units a_came a_went a_drained a_reached a_present a_portion a_rest a_nodes_kind a_nodes_amount a_nodes_day a_nodes_held a_nodes_spot a_nodes_lotsByAge v_presentCount v_nodes_count v_nodes_lotCount f_units f_7 f_portion f_rest) := hD
          refine lv_aload_n hx hb dX3_part_61 rfl (lv_at hl 1 rfl) ?_
          refine va_get (D := (dC, dI)) (ci := 3) (v := .ref a_portion) (C := RX3) (T := TX3) (N := 10) hx hb hts in_X3 hown hK hP 0 rfl rfl 7 (by decide) fl31 (fun _ h9 => h9) rfl dX3_part_62 ?_
          refine lv_aload_n hx hb dX3_part_65 rfl (lv_at hl 1 rfl) ?_
          refine va_get (D := (dC, dI)) (ci := 3) (v := .int v_presentCount) (C := RX3) (T := TX3) (N := 10) hx hb hts in_X3 hown hK hP 0 rfl rfl 9 (by decide) fl100 (fun _ h9 => h9) rfl dX3_part_66 ?_
          refine lv_lload hx hb dX3_part_69 (lv_at hl 0 rfl) ?_
          refine lv_lload_n hx hb dX3_part_71 rfl (lv_at hl 3 rfl) ?_
          obtain ⟨nz_8, h⟩ := h
          refine lv_ldiv hx hb dX3_part_72 nz_8 ?_
          obtain ⟨hi_9, h⟩ := h
          refine vv_last hx hb hK hP hD hS 4 1 rfl rfl hi_9 dX3_part_73 (fun f_10 ef_10 H locs hP hD hS => ?_)
          replace h := h f_10 ef_10
          replace hP : va_P (dC, dI) vwCl (wd_X3_part cI cJ cZ a0 a_nodes a_units a_came a_went a_drained a_reached a_present a_portion a_rest a_nodes_kind a_nodes_amount a_nodes_day a_nodes_held a_nodes_spot a_nodes_lotsByAge v_presentCount v_nodes_count v_nodes_lotCount f_units f_7 f_10 f_rest) H := hP
          replace hD : va_D A (wd_X3_part cI cJ cZ a0 a_nodes a_units a_came a_went a_drained a_reached a_present a_portion a_rest a_nodes_kind a_nodes_amount a_nodes_day a_nodes_held a_nodes_spot a_nodes_lotsByAge v_presentCount v_nodes_count v_nodes_lotCount f_units f_7 f_10 f_rest) := hD
          refine lv_aload_n hx hb dX3_part_74 rfl (lv_at hl 1 rfl) ?_
          refine va_get (D := (dC, dI)) (ci := 3) (v := .ref a_rest) (C := RX3) (T := TX3) (N := 10) hx hb hts in_X3 hown hK hP 0 rfl rfl 8 (by decide) fl34 (fun _ h9 => h9) rfl dX3_part_75 ?_
          refine lv_aload_n hx hb dX3_part_78 rfl (lv_at hl 1 rfl) ?_
          refine va_get (D := (dC, dI)) (ci := 3) (v := .int v_presentCount) (C := RX3) (T := TX3) (N := 10) hx hb hts in_X3 hown hK hP 0 rfl rfl 9 (by decide) fl100 (fun _ h9 => h9) rfl dX3_part_79 ?_
          refine lv_lload hx hb dX3_part_82 (lv_at hl 0 rfl) ?_
          refine lv_lload_n hx hb dX3_part_84 rfl (lv_at hl 3 rfl) ?_
          obtain ⟨nz_11, h⟩ := h
          refine lv_lrem hx hb dX3_part_85 nz_11 ?_
          obtain ⟨hi_12, h⟩ := h
          refine vv_last hx hb hK hP hD hS 5 1 rfl rfl hi_12 dX3_part_86 (fun f_13 ef_13 H locs hP hD hS => ?_)
          replace h := h f_13 ef_13
          replace hP : va_P (dC, dI) vwCl (wd_X3_part cI cJ cZ a0 a_nodes a_units a_came a_went a_drained a_reached a_present a_portion a_rest a_nodes_kind a_nodes_amount a_nodes_day a_nodes_held a_nodes_spot a_nodes_lotsByAge v_presentCount v_nodes_count v_nodes_lotCount f_units f_7 f_10 f_13) H := hP
          replace hD : va_D A (wd_X3_part cI cJ cZ a0 a_nodes a_units a_came a_went a_drained a_reached a_present a_portion a_rest a_nodes_kind a_nodes_amount a_nodes_day a_nodes_held a_nodes_spot a_nodes_lotsByAge v_presentCount v_nodes_count v_nodes_lotCount f_units f_7 f_10 f_13) := hD
          refine lv_lload hx hb dX3_part_87 (lv_at hl 5 rfl) ?_
          refine lv_aload_n hx hb dX3_part_89 rfl (lv_at hl 1 rfl) ?_
          refine va_get (D := (dC, dI)) (ci := 3) (v := .ref a_portion) (C := RX3) (T := TX3) (N := 10) hx hb hts in_X3 hown hK hP 0 rfl rfl 7 (by decide) fl31 (fun _ h9 => h9) rfl dX3_part_90 ?_
          refine lv_aload_n hx hb dX3_part_93 rfl (lv_at hl 1 rfl) ?_
          refine va_get (D := (dC, dI)) (ci := 3) (v := .int v_presentCount) (C := RX3) (T := TX3) (N := 10) hx hb hts in_X3 hown hK hP 0 rfl rfl 9 (by decide) fl100 (fun _ h9 => h9) rfl dX3_part_94 ?_
          obtain ⟨hi_14, h⟩ := h
          refine va_lald hx hb hK hP 4 1 rfl rfl hi_14 dX3_part_97 ?_
          refine lv_lsub hx hb dX3_part_98 ?_
          refine lv_topl (fun x_15 ex_15 => ?_)
          replace h := h x_15 ex_15
          refine lv_lstore (lv' := [(6, .long x_15), (9, .long x_4), (0, .ref a0), (1, .int x1), (2, .long x2), (4, .long x4), (8, .int x8)]) hx hb dX3_part_99 hl (by decide) rfl (fun ls hl => ?_)
          refine lv_aload_n hx hb dX3_part_101 rfl (lv_at hl 2 rfl) ?_
          refine lv_dup hx hb dX3_part_102 rfl ?_
          refine va_get (D := (dC, dI)) (ci := 3) (v := .int v_presentCount) (C := RX3) (T := TX3) (N := 10) hx hb hts in_X3 hown hK hP 0 rfl rfl 9 (by decide) fl100 (fun _ h9 => h9) rfl dX3_part_103 ?_
          refine lv_iconst (v := 1) hx hb dX3_part_106 (by decide) ?_
          refine lv_iadd hx hb dX3_part_107 ?_
          refine lv_topi (fun v_16 ev_16 => ?_)
          replace h := h v_16 ev_16
          refine va_put (D := (dC, dI)) (ci := 3) (v := .int v_16) (ty := .int) (C := RX3) (T := TX3) (N := 10) hx hb hts in_X3 tyX3 tyX3_ok nmX3 hown hK hP hD hS 0 rfl rfl 9 (by decide) fl100 (fun _ h9 => h9) rfl (by decide +kernel) rfl rfl (Nat.le_of_ble_eq_true rfl) dX3_part_108 (fun H locs hP hD hS => ?_)
          replace hP : va_P (dC, dI) vwCl (wd_X3_part cI cJ cZ a0 a_nodes a_units a_came a_went a_drained a_reached a_present a_portion a_rest a_nodes_kind a_nodes_amount a_nodes_day a_nodes_held a_nodes_spot a_nodes_lotsByAge v_16 v_nodes_count v_nodes_lotCount f_units f_7 f_10 f_13) H := hP
          replace hD : va_D A (wd_X3_part cI cJ cZ a0 a_nodes a_units a_came a_went a_drained a_reached a_present a_portion a_rest a_nodes_kind a_nodes_amount a_nodes_day a_nodes_held a_nodes_spot a_nodes_lotsByAge v_16 v_nodes_count v_nodes_lotCount f_units f_7 f_10 f_13) := hD
          exact bk_111 (wb_X3_part_19 post v_nodes_count v_nodes_lotCount f_units n) ih19 x1 x2 x4 x_15 x8 v_16 f_7 f_10 f_13 H locs ls hP hD hS (lv_sub hl [2, 3, 4, 5, 0, 6] rfl) h
  suffices START : ∀ (H : Heap) (locs : List Loc), va_P (dC, dI) vwCl (wd_X3_part cI cJ cZ a0 a_nodes a_units a_came a_went a_drained a_reached a_present a_portion a_rest a_nodes_kind a_nodes_amount a_nodes_day a_nodes_held a_nodes_spot a_nodes_lotsByAge v_presentCount v_nodes_count v_nodes_lotCount f_units f_present f_portion f_rest) H → va_D A (wd_X3_part cI cJ cZ a0 a_nodes a_units a_came a_went a_drained a_reached a_present a_portion a_rest a_nodes_kind a_nodes_amount a_nodes_day a_nodes_held a_nodes_spot a_nodes_lotsByAge v_presentCount v_nodes_count v_nodes_lotCount f_units f_present f_portion f_rest) → va_S A s.heap H locs → W p l e rm_X3_part s m av below meth c H locs 0 0 Q (F0 m 0 ls []) from START s.heap [] hP hD hS
  clear hP hD hS
  intro H locs hP hD hS
  refine lv_aload_n hx hb dX3_part_0 rfl (lv_at hl 0 rfl) ?_
  refine lv_iconst (v := 0) hx hb dX3_part_1 (by decide) ?_
  refine va_put (D := (dC, dI)) (ci := 3) (v := .int 0) (ty := .int) (C := RX3) (T := TX3) (N := 10) hx hb hts in_X3 tyX3 tyX3_ok nmX3 hown hK hP hD hS 0 rfl rfl 9 (by decide) fl100 (fun _ h9 => h9) rfl (by decide +kernel) rfl rfl (Nat.le_of_ble_eq_true rfl) dX3_part_2 (fun H locs hP hD hS => ?_)
  replace hP : va_P (dC, dI) vwCl (wd_X3_part cI cJ cZ a0 a_nodes a_units a_came a_went a_drained a_reached a_present a_portion a_rest a_nodes_kind a_nodes_amount a_nodes_day a_nodes_held a_nodes_spot a_nodes_lotsByAge 0 v_nodes_count v_nodes_lotCount f_units f_present f_portion f_rest) H := hP
  replace hD : va_D A (wd_X3_part cI cJ cZ a0 a_nodes a_units a_came a_went a_drained a_reached a_present a_portion a_rest a_nodes_kind a_nodes_amount a_nodes_day a_nodes_held a_nodes_spot a_nodes_lotsByAge 0 v_nodes_count v_nodes_lotCount f_units f_present f_portion f_rest) := hD
  refine lv_lload_n hx hb dX3_part_5 rfl (lv_at hl 2 rfl) ?_
  refine lv_lconst (v := 0) hx hb dX3_part_6 (by decide) ?_
  refine vv_lcmp_gt (tgt := 12) hx hb dX3_part_7 dX3_part_8 (by decide) (fun c_1 => ?_) (fun c_1 => ?_)
  · replace h := h.1 c_1
    refine lv_lload hx hb dX3_part_12 (lv_at hl 3 rfl) ?_
    refine lv_lstore (lv' := [(6, .long p3), (0, .ref a0), (1, .int p1), (2, .long p2), (4, .long p3)]) hx hb dX3_part_14 hl (by decide) rfl (fun ls hl => ?_)
    refine lv_iconst (v := 0) hx hb dX3_part_16 (by decide) ?_
    refine lv_istore (lv' := [(8, .int 0), (6, .long p3), (0, .ref a0), (1, .int p1), (2, .long p2), (4, .long p3)]) hx hb dX3_part_17 hl (by decide) rfl (fun ls hl => ?_)
    obtain ⟨n_19, h⟩ := h
    exact bk_19 n_19 p1 p2 p3 p3 0 0 f_present f_portion f_rest H locs ls hP hD hS (lv_sub hl [2, 3, 4, 5, 1, 0] rfl) h
  · replace h := h.2 c_1
    exact RET 0 f_present f_portion f_rest H locs ls 11 h hP hD hS dX3_part_11

abbrev wd_X3_carry (cI cJ cZ : ClassId) (a0 a_nodes a_units a_came a_went a_drained a_reached a_present a_portion a_rest : Nat) (v_presentCount : Int32) (f_units : (Nat → Int64)) (f_reached : (Nat → Int64)) : va_W := [(a0, .inr (3, [.ref a_nodes, .ref a_units, .ref a_came, .ref a_went, .ref a_drained, .ref a_reached, .ref a_present, .ref a_portion, .ref a_rest, .int v_presentCount])), (a_units, .inl (cJ, 2304, .inr (.inl f_units))), (a_reached, .inl (cJ, 48, .inr (.inl f_reached)))]
abbrev rm_X3_carry : Room := { frames := 0, cells := 0, slots := 0, locals := 0 }
def wp_X3_carry (post : (Nat → Int64) → (Nat → Int64) → Prop) (v_presentCount : Int32) (f_units : (Nat → Int64)) (f_reached : (Nat → Int64)) (p1 : Int32) (p2 : Int32) (p3 : Int32) (p4 : Int64) : Prop := ((¬ 0 < p4 → post f_units f_reached) ∧ (0 < p4 → (vp_in ((p1 * 48) + p3) 2304 ∧ (vp_in ((p1 * 48) + p3) 2304 ∧ (∀ f_4 : Nat → Int64, f_4 = vp_updL f_units ((p1 * 48) + p3).toNatClampNeg ((f_units ((p1 * 48) + p3).toNatClampNeg) - p4) → vp_in ((p2 * 48) + p3) 2304 ∧ (vp_in ((p2 * 48) + p3) 2304 ∧ (∀ f_7 : Nat → Int64, f_7 = vp_updL f_4 ((p2 * 48) + p3).toNatClampNeg ((f_4 ((p2 * 48) + p3).toNatClampNeg) + p4) → vp_in p2 48 ∧ (vp_in p2 48 ∧ (∀ f_10 : Nat → Int64, f_10 = vp_updL f_reached p2.toNatClampNeg ((f_reached p2.toNatClampNeg) ||| (1 <<< (p3.toInt64 &&& 63))) → post f_7 f_10)))))))))
set_option maxHeartbeats 4000000 in
set_option maxRecDepth 100000 in
theorem cw_X3_carry (l : Launch) (dC : Nat → ClassId) (dI : Nat → Nat → Nat) (cI cJ cZ : ClassId) (a0 a_nodes a_units a_came a_went a_drained a_reached a_present a_portion a_rest : Nat) (sz : Nat) (v_presentCount : Int32) (f_units : (Nat → Int64)) (f_reached : (Nat → Int64)) (p1 : Int32) (p2 : Int32) (p3 : Int32) (p4 : Int64) (post : (Nat → Int64) → (Nat → Int64) → Prop) (h : wp_X3_carry post v_presentCount f_units f_reached p1 p2 p3 p4) : Met l yX3_carry wsX3_carry rm_X3_carry (va_Pc [.ref a0, .int p1, .int p2, .int p3, .long p4] (vv_B (dC, dI) (vv_ty cI cJ cZ) (wd_X3_carry cI cJ cZ a0 a_nodes a_units a_came a_went a_drained a_reached a_present a_portion a_rest v_presentCount f_units f_reached) sz)) (va_Qv (fun (u : (Nat → Int64) × (Nat → Int64)) => post (u.1) (u.2)) (vv_E (dC, dI) (vv_ty cI cJ cZ) (va_A (wd_X3_carry cI cJ cZ a0 a_nodes a_units a_came a_went a_drained a_reached a_present a_portion a_rest v_presentCount f_units f_reached) sz) (fun u : (Nat → Int64) × (Nat → Int64) => wd_X3_carry cI cJ cZ a0 a_nodes a_units a_came a_went a_drained a_reached a_present a_portion a_rest v_presentCount (u.1) (u.2))) (va_A (wd_X3_carry cI cJ cZ a0 a_nodes a_units a_came a_went a_drained a_reached a_present a_portion a_rest v_presentCount f_units f_reached) sz)) 0 0 (va_A (wd_X3_carry cI cJ cZ a0 a_nodes a_units a_came a_went a_drained a_reached a_present a_portion a_rest v_presentCount f_units f_reached) sz) := by
  refine Met.ofW (cc := cX3_carry) (maxL := 6) (ret := none) (by decide) rfl ?_
  intro p e s m args below meth c s₁ B hml hv
  obtain ⟨hav, hsz, hP, hK, hD0⟩ := hv
  have hx := B.exec
  have hb := B.bytes
  have hr := B.returns
  have hts := atoms_spec (ws := wsX3_carry) B.pre
  have hown : s.vm.findClass RX3 = some m.cls := findClass_of_methodNamed B.named
  have hlocks := B.notSynchronized
  subst hsz
  have hD := hD0.self (sz := s.heap.size)
  clear hD0
  generalize hAe : va_A (wd_X3_carry cI cJ cZ a0 a_nodes a_units a_came a_went a_drained a_reached a_present a_portion a_rest v_presentCount f_units f_reached) s.heap.size = A at hD ⊢
  have hA : ∀ q : Nat, s.heap.size ≤ q → A q := fun q h => by rw [← hAe]; exact Or.inr h
  clear hAe
  have hS : va_S A s.heap s.heap [] := va_S.rf
  have hl := lv_entry ([.ref a0, .int p1, .int p2, .int p3, .long p4]) (n := 6) (Nat.le_of_ble_eq_true rfl)
  subst hav
  rw [lg_entry_eq]
  generalize (lg_sl ([.ref a0, .int p1, .int p2, .int p3, .long p4]) ++ List.replicate (6 - (lg_sl ([.ref a0, .int p1, .int p2, .int p3, .long p4])).length) Slot.unset).toArray = ls at hl ⊢
  replace hl : lv_has ls 6 [(0, .ref a0), (1, .int p1), (2, .int p2), (3, .int p3), (4, .long p4)] := hl
  clear B
  generalize (([.ref a0, .int p1, .int p2, .int p3, .long p4] : List Value)).toArray = av at hts ⊢
  suffices MAIN : ∀ Q : State → Prop, (∀ (f_units : (Nat → Int64)) (f_reached : (Nat → Int64)) (H : Heap) (locs : List Loc) (ls : Array Slot) (pc : Nat), post f_units f_reached → va_P (dC, dI) vwCl (wd_X3_carry cI cJ cZ a0 a_nodes a_units a_came a_went a_drained a_reached a_present a_portion a_rest v_presentCount f_units f_reached) H → va_D A (wd_X3_carry cI cJ cZ a0 a_nodes a_units a_came a_went a_drained a_reached a_present a_portion a_rest v_presentCount f_units f_reached) → va_S A s.heap H locs → decode cX3_carry pc = .ok (.return_, 1) → W p l e rm_X3_carry s m av below meth c H locs 0 0 Q (F0 m pc ls [])) → W p l e rm_X3_carry s m av below meth c s.heap [] 0 0 Q (F0 m 0 ls []) from MAIN _ (fun f_units f_reached H locs ls pc h hP hD hS hd => vv_vret (f_units, f_reached) hx hb hr hlocks h hK hP hD hS hd)
  intro Q RET
  have fl9 := hts (.fieldLink RX3 9 "LotFlows$Stock" "units" "[J") (by decide +kernel)
  have fl24 := hts (.fieldLink RX3 24 "LotFlows$Stock" "reached" "[J") (by decide +kernel)
  have in_X3 : ∀ w ∈ wsX30, w ∈ wsX3_carry := by decide +kernel
  suffices START : ∀ (H : Heap) (locs : List Loc), va_P (dC, dI) vwCl (wd_X3_carry cI cJ cZ a0 a_nodes a_units a_came a_went a_drained a_reached a_present a_portion a_rest v_presentCount f_units f_reached) H → va_D A (wd_X3_carry cI cJ cZ a0 a_nodes a_units a_came a_went a_drained a_reached a_present a_portion a_rest v_presentCount f_units f_reached) → va_S A s.heap H locs → W p l e rm_X3_carry s m av below meth c H locs 0 0 Q (F0 m 0 ls []) from START s.heap [] hP hD hS
  clear hP hD hS
  intro H locs hP hD hS
  refine lv_lload hx hb dX3_carry_0 (lv_at hl 4 rfl) ?_
  refine lv_lconst (v := 0) hx hb dX3_carry_2 (by decide) ?_
  refine vv_lcmp_le (tgt := 51) hx hb dX3_carry_3 dX3_carry_4 (by decide) (fun c_1 => ?_) (fun c_1 => ?_)
  · replace h := h.1 c_1
    exact RET f_units f_reached H locs ls 51 h hP hD hS dX3_carry_51
  · replace h := h.2 c_1
    refine lv_aload_n hx hb dX3_carry_7 rfl (lv_at hl 0 rfl) ?_
    refine va_get (D := (dC, dI)) (ci := 3) (v := .ref a_units) (C := RX3) (T := TX3) (N := 10) hx hb hts in_X3 hown hK hP 0 rfl rfl 1 (by decide) fl9 (fun _ h9 => h9) rfl dX3_carry_8 ?_
    refine lv_iload_n hx hb dX3_carry_11 rfl (lv_at hl 1 rfl) ?_
    refine lv_bipush (v := 48) hx hb dX3_carry_12 (by decide) ?_
    refine lv_imul hx hb dX3_carry_14 ?_
    refine lv_iload_n hx hb dX3_carry_15 rfl (lv_at hl 3 rfl) ?_
    refine lv_iadd hx hb dX3_carry_16 ?_
    refine lv_dup2_11 hx hb dX3_carry_17 rfl rfl ?_
    obtain ⟨hi_2, h⟩ := h
    refine va_lald hx hb hK hP 1 1 rfl rfl hi_2 dX3_carry_18 ?_
    refine lv_lload hx hb dX3_carry_19 (lv_at hl 4 rfl) ?_
    refine lv_lsub hx hb dX3_carry_21 ?_
    obtain ⟨hi_3, h⟩ := h
    refine vv_last hx hb hK hP hD hS 1 1 rfl rfl hi_3 dX3_carry_22 (fun f_4 ef_4 H locs hP hD hS => ?_)
    replace h := h f_4 ef_4
    replace hP : va_P (dC, dI) vwCl (wd_X3_carry cI cJ cZ a0 a_nodes a_units a_came a_went a_drained a_reached a_present a_portion a_rest v_presentCount f_4 f_reached) H := hP
    replace hD : va_D A (wd_X3_carry cI cJ cZ a0 a_nodes a_units a_came a_went a_drained a_reached a_present a_portion a_rest v_presentCount f_4 f_reached) := hD
    refine lv_aload_n hx hb dX3_carry_23 rfl (lv_at hl 0 rfl) ?_
    refine va_get (D := (dC, dI)) (ci := 3) (v := .ref a_units) (C := RX3) (T := TX3) (N := 10) hx hb hts in_X3 hown hK hP 0 rfl rfl 1 (by decide) fl9 (fun _ h9 => h9) rfl dX3_carry_24 ?_
    refine lv_iload_n hx hb dX3_carry_27 rfl (lv_at hl 2 rfl) ?_
    refine lv_bipush (v := 48) hx hb dX3_carry_28 (by decide) ?_
    refine lv_imul hx hb dX3_carry_30 ?_
    refine lv_iload_n hx hb dX3_carry_31 rfl (lv_at hl 3 rfl) ?_
    refine lv_iadd hx hb dX3_carry_32 ?_
    refine lv_dup2_11 hx hb dX3_carry_33 rfl rfl ?_
    obtain ⟨hi_5, h⟩ := h
    refine va_lald hx hb hK hP 1 1 rfl rfl hi_5 dX3_carry_34 ?_
    refine lv_lload hx hb dX3_carry_35 (lv_at hl 4 rfl) ?_
    refine lv_ladd hx hb dX3_carry_37 ?_
    obtain ⟨hi_6, h⟩ := h
    refine vv_last hx hb hK hP hD hS 1 1 rfl rfl hi_6 dX3_carry_38 (fun f_7 ef_7 H locs hP hD hS => ?_)
    replace h := h f_7 ef_7
    replace hP : va_P (dC, dI) vwCl (wd_X3_carry cI cJ cZ a0 a_nodes a_units a_came a_went a_drained a_reached a_present a_portion a_rest v_presentCount f_7 f_reached) H := hP
    replace hD : va_D A (wd_X3_carry cI cJ cZ a0 a_nodes a_units a_came a_went a_drained a_reached a_present a_portion a_rest v_presentCount f_7 f_reached) := hD
    refine lv_aload_n hx hb dX3_carry_39 rfl (lv_at hl 0 rfl) ?_
    refine va_get (D := (dC, dI)) (ci := 3) (v := .ref a_reached) (C := RX3) (T := TX3) (N := 10) hx hb hts in_X3 hown hK hP 0 rfl rfl 5 (by decide) fl24 (fun _ h9 => h9) rfl dX3_carry_40 ?_
    refine lv_iload_n hx hb dX3_carry_43 rfl (lv_at hl 2 rfl) ?_
    refine lv_dup2_11 hx hb dX3_carry_44 rfl rfl ?_
    obtain ⟨hi_8, h⟩ := h
    refine va_lald hx hb hK hP 2 1 rfl rfl hi_8 dX3_carry_45 ?_
    refine lv_lconst (v := 1) hx hb dX3_carry_46 (by decide) ?_
    refine lv_iload_n hx hb dX3_carry_47 rfl (lv_at hl 3 rfl) ?_
    refine lv_lshl hx hb dX3_carry_48 rfl ?_
    refine lv_lor hx hb dX3_carry_49 ?_
    obtain ⟨hi_9, h⟩ := h
    refine vv_last hx hb hK hP hD hS 2 1 rfl rfl hi_9 dX3_carry_50 (fun f_10 ef_10 H locs hP hD hS => ?_)
    replace h := h f_10 ef_10
    replace hP : va_P (dC, dI) vwCl (wd_X3_carry cI cJ cZ a0 a_nodes a_units a_came a_went a_drained a_reached a_present a_portion a_rest v_presentCount f_7 f_10) H := hP
    replace hD : va_D A (wd_X3_carry cI cJ cZ a0 a_nodes a_units a_came a_went a_drained a_reached a_present a_portion a_rest v_presentCount f_7 f_10) := hD
    exact RET f_7 f_10 H locs ls 51 h hP hD hS dX3_carry_51

abbrev wd_X3_move (cI cJ cZ : ClassId) (a0 a_nodes a_units a_came a_went a_drained a_reached a_present a_portion a_rest a_nodes_kind a_nodes_amount a_nodes_day a_nodes_held a_nodes_spot a_nodes_lotsByAge : Nat) (v_presentCount : Int32) (v_nodes_count : Int32) (v_nodes_lotCount : Int32) (f_nodes_kind : (Nat → Int32)) (f_units : (Nat → Int64)) (f_came : (Nat → Int64)) (f_went : (Nat → Int64)) (f_drained : (Nat → Int64)) (f_reached : (Nat → Int64)) (f_present : (Nat → Int32)) (f_portion : (Nat → Int64)) (f_rest : (Nat → Int64)) : va_W := [(a0, .inr (3, [.ref a_nodes, .ref a_units, .ref a_came, .ref a_went, .ref a_drained, .ref a_reached, .ref a_present, .ref a_portion, .ref a_rest, .int v_presentCount])), (a_nodes, .inr (1, [.int v_nodes_count, .int v_nodes_lotCount, .ref a_nodes_kind, .ref a_nodes_amount, .ref a_nodes_day, .ref a_nodes_held, .ref a_nodes_spot, .ref a_nodes_lotsByAge])), (a_nodes_kind, .inl (cI, 48, .inl f_nodes_kind)), (a_units, .inl (cJ, 2304, .inr (.inl f_units))), (a_came, .inl (cJ, 48, .inr (.inl f_came))), (a_went, .inl (cJ, 48, .inr (.inl f_went))), (a_drained, .inl (cJ, 48, .inr (.inl f_drained))), (a_reached, .inl (cJ, 48, .inr (.inl f_reached))), (a_present, .inl (cI, 48, .inl f_present)), (a_portion, .inl (cJ, 48, .inr (.inl f_portion))), (a_rest, .inl (cJ, 48, .inr (.inl f_rest)))]
abbrev rm_X3_move : Room := { frames := 2, cells := 0, slots := 0, locals := 52 }
def wb_X3_move_91 (post : Int32 → Int32 → (Nat → Int64) → (Nat → Int64) → (Nat → Int64) → (Nat → Int64) → (Nat → Int64) → (Nat → Int32) → (Nat → Int64) → (Nat → Int64) → Prop) (v_nodes_count : Int32) (v_nodes_lotCount : Int32) (f_nodes_kind : (Nat → Int32)) (x1 : Int32) (x2 : Int32) (x3 : Int64) (v_presentCount : Int32) (f_units : (Nat → Int64)) (f_came : (Nat → Int64)) (f_went : (Nat → Int64)) (f_drained : (Nat → Int64)) (f_reached : (Nat → Int64)) (f_present : (Nat → Int32)) (f_portion : (Nat → Int64)) (f_rest : (Nat → Int64)) : Prop := (vp_in x1 48 ∧ (vp_in x1 48 ∧ (∀ f_23 : Nat → Int64, f_23 = vp_updL f_went x1.toNatClampNeg ((f_went x1.toNatClampNeg) + x3) → vp_in x2 48 ∧ (vp_in x2 48 ∧ (∀ f_26 : Nat → Int64, f_26 = vp_updL f_came x2.toNatClampNeg ((f_came x2.toNatClampNeg) + x3) → wp_X1_isDrain (fun r_27 => ((r_27 = 0 → post 1 v_presentCount f_units f_26 f_23 f_drained f_reached f_present f_portion f_rest) ∧ (¬ r_27 = 0 → (vp_in x1 48 ∧ (vp_in x1 48 ∧ (∀ f_31 : Nat → Int64, f_31 = vp_updL f_drained x1.toNatClampNeg ((f_drained x1.toNatClampNeg) + x3) → post 1 v_presentCount f_units f_26 f_23 f_31 f_reached f_present f_portion f_rest)))))) v_nodes_count v_nodes_lotCount f_nodes_kind x2)))))
def wb_X3_move_56 (post : Int32 → Int32 → (Nat → Int64) → (Nat → Int64) → (Nat → Int64) → (Nat → Int64) → (Nat → Int64) → (Nat → Int32) → (Nat → Int64) → (Nat → Int64) → Prop) (v_nodes_count : Int32) (v_nodes_lotCount : Int32) (f_nodes_kind : (Nat → Int32)) : Nat → Int32 → Int32 → Int64 → Int32 → Int32 → (Nat → Int64) → (Nat → Int64) → (Nat → Int64) → (Nat → Int64) → (Nat → Int64) → (Nat → Int32) → (Nat → Int64) → (Nat → Int64) → Prop
  | 0 => fun _ _ _ _ _ _ _ _ _ _ _ _ _ => False
  | n + 1 => fun x1 x2 x3 x7 v_presentCount f_units f_came f_went f_drained f_reached f_present f_portion f_rest => ((v_presentCount ≤ x7 → wb_X3_move_91 post v_nodes_count v_nodes_lotCount f_nodes_kind x1 x2 x3 v_presentCount f_units f_came f_went f_drained f_reached f_present f_portion f_rest) ∧ (¬ v_presentCount ≤ x7 → (vp_in x7 48 ∧ (vp_in x7 48 ∧ (wp_X3_carry (fun f_units_17 f_reached_18 => ∀ x_20 : Int32, x_20 = x7 + 1 → wb_X3_move_56 post v_nodes_count v_nodes_lotCount f_nodes_kind  n x1 x2 x3 x_20 v_presentCount f_units_17 f_came f_went f_drained f_reached_18 f_present f_portion f_rest) v_presentCount f_units f_reached x1 x2 (f_present x7.toNatClampNeg) (f_portion x7.toNatClampNeg))))))
def wp_X3_move (post : Int32 → Int32 → (Nat → Int64) → (Nat → Int64) → (Nat → Int64) → (Nat → Int64) → (Nat → Int64) → (Nat → Int32) → (Nat → Int64) → (Nat → Int64) → Prop) (v_presentCount : Int32) (v_nodes_count : Int32) (v_nodes_lotCount : Int32) (f_nodes_kind : (Nat → Int32)) (f_units : (Nat → Int64)) (f_came : (Nat → Int64)) (f_went : (Nat → Int64)) (f_drained : (Nat → Int64)) (f_reached : (Nat → Int64)) (f_present : (Nat → Int32)) (f_portion : (Nat → Int64)) (f_rest : (Nat → Int64)) (p1 : Int32) (p2 : Int32) (p3 : Int64) : Prop := (wp_X3_unitsIn (fun r_1 => ((¬ 0 < r_1 → post 0 v_presentCount f_units f_came f_went f_drained f_reached f_present f_portion f_rest) ∧ (0 < r_1 → ((¬ r_1 < p3 → (wp_X1_isLot (fun r_4 => ((r_4 = 0 → (wp_X3_part (fun v_presentCount_6 f_present_7 f_portion_8 f_rest_9 => (∃ n_56 : Nat, wb_X3_move_56 post v_nodes_count v_nodes_lotCount f_nodes_kind n_56 p1 p2 p3 0 v_presentCount_6 f_units f_came f_went f_drained f_reached f_present_7 f_portion_8 f_rest_9)) v_presentCount v_nodes_count v_nodes_lotCount f_units f_present f_portion f_rest p1 r_1 p3)) ∧ (¬ r_4 = 0 → (wp_X3_carry (fun f_units_11 f_reached_12 => wb_X3_move_91 post v_nodes_count v_nodes_lotCount f_nodes_kind p1 p2 p3 v_presentCount f_units_11 f_came f_went f_drained f_reached_12 f_present f_portion f_rest) v_presentCount f_units f_reached p1 p2 p1 p3)))) v_nodes_count v_nodes_lotCount f_nodes_kind p1)) ∧ (r_1 < p3 → post 0 v_presentCount f_units f_came f_went f_drained f_reached f_present f_portion f_rest))))) v_presentCount f_came f_went p1)
set_option maxHeartbeats 4000000 in
set_option maxRecDepth 100000 in
theorem cw_X3_move (l : Launch) (dC : Nat → ClassId) (dI : Nat → Nat → Nat) (cI cJ cZ : ClassId) (a0 a_nodes a_units a_came a_went a_drained a_reached a_present a_portion a_rest a_nodes_kind a_nodes_amount a_nodes_day a_nodes_held a_nodes_spot a_nodes_lotsByAge : Nat) (sz : Nat) (v_presentCount : Int32) (v_nodes_count : Int32) (v_nodes_lotCount : Int32) (f_nodes_kind : (Nat → Int32)) (f_units : (Nat → Int64)) (f_came : (Nat → Int64)) (f_went : (Nat → Int64)) (f_drained : (Nat → Int64)) (f_reached : (Nat → Int64)) (f_present : (Nat → Int32)) (f_portion : (Nat → Int64)) (f_rest : (Nat → Int64)) (p1 : Int32) (p2 : Int32) (p3 : Int64) (post : Int32 → Int32 → (Nat → Int64) → (Nat → Int64) → (Nat → Int64) → (Nat → Int64) → (Nat → Int64) → (Nat → Int32) → (Nat → Int64) → (Nat → Int64) → Prop) (h : wp_X3_move post v_presentCount v_nodes_count v_nodes_lotCount f_nodes_kind f_units f_came f_went f_drained f_reached f_present f_portion f_rest p1 p2 p3) : Met l yX3_move wsX3_move rm_X3_move (va_Pc [.ref a0, .int p1, .int p2, .long p3] (vv_B (dC, dI) (vv_ty cI cJ cZ) (wd_X3_move cI cJ cZ a0 a_nodes a_units a_came a_went a_drained a_reached a_present a_portion a_rest a_nodes_kind a_nodes_amount a_nodes_day a_nodes_held a_nodes_spot a_nodes_lotsByAge v_presentCount v_nodes_count v_nodes_lotCount f_nodes_kind f_units f_came f_went f_drained f_reached f_present f_portion f_rest) sz)) (va_Qi (fun r (u : Int32 × (Nat → Int64) × (Nat → Int64) × (Nat → Int64) × (Nat → Int64) × (Nat → Int64) × (Nat → Int32) × (Nat → Int64) × (Nat → Int64)) => post r (u.1) (u.2.1) (u.2.2.1) (u.2.2.2.1) (u.2.2.2.2.1) (u.2.2.2.2.2.1) (u.2.2.2.2.2.2.1) (u.2.2.2.2.2.2.2.1) (u.2.2.2.2.2.2.2.2)) (vv_E (dC, dI) (vv_ty cI cJ cZ) (va_A (wd_X3_move cI cJ cZ a0 a_nodes a_units a_came a_went a_drained a_reached a_present a_portion a_rest a_nodes_kind a_nodes_amount a_nodes_day a_nodes_held a_nodes_spot a_nodes_lotsByAge v_presentCount v_nodes_count v_nodes_lotCount f_nodes_kind f_units f_came f_went f_drained f_reached f_present f_portion f_rest) sz) (fun u : Int32 × (Nat → Int64) × (Nat → Int64) × (Nat → Int64) × (Nat → Int64) × (Nat → Int64) × (Nat → Int32) × (Nat → Int64) × (Nat → Int64) => wd_X3_move cI cJ cZ a0 a_nodes a_units a_came a_went a_drained a_reached a_present a_portion a_rest a_nodes_kind a_nodes_amount a_nodes_day a_nodes_held a_nodes_spot a_nodes_lotsByAge (u.1) v_nodes_count v_nodes_lotCount f_nodes_kind (u.2.1) (u.2.2.1) (u.2.2.2.1) (u.2.2.2.2.1) (u.2.2.2.2.2.1) (u.2.2.2.2.2.2.1) (u.2.2.2.2.2.2.2.1) (u.2.2.2.2.2.2.2.2))) (va_A (wd_X3_move cI cJ cZ a0 a_nodes a_units a_came a_went a_drained a_reached a_present a_portion a_rest a_nodes_kind a_nodes_amount a_nodes_day a_nodes_held a_nodes_spot a_nodes_lotsByAge v_presentCount v_nodes_count v_nodes_lotCount f_nodes_kind f_units f_came f_went f_drained f_reached f_present f_portion f_rest) sz)) 0 0 (va_A (wd_X3_move cI cJ cZ a0 a_nodes a_units a_came a_went a_drained a_reached a_present a_portion a_rest a_nodes_kind a_nodes_amount a_nodes_day a_nodes_held a_nodes_spot a_nodes_lotsByAge v_presentCount v_nodes_count v_nodes_lotCount f_nodes_kind f_units f_came f_went f_drained f_reached f_present f_portion f_rest) sz) := by
  refine Met.ofW (cc := cX3_move) (maxL := 8) (ret := (some .boolean)) (by decide) rfl ?_
  intro p e s m args below meth c s₁ B hml hv
  obtain ⟨hav, hsz, hP, hK, hD0⟩ := hv
  have hx := B.exec
  have hb := B.bytes
  have hr := B.returns
  have hts := atoms_spec (ws := wsX3_move) B.pre
  have hown : s.vm.findClass RX3 = some m.cls := findClass_of_methodNamed B.named
  have hlocks := B.notSynchronized
  subst hsz
  have hD := hD0.self (sz := s.heap.size)
  clear hD0
  generalize hAe : va_A (wd_X3_move cI cJ cZ a0 a_nodes a_units a_came a_went a_drained a_reached a_present a_portion a_rest a_nodes_kind a_nodes_amount a_nodes_day a_nodes_held a_nodes_spot a_nodes_lotsByAge v_presentCount v_nodes_count v_nodes_lotCount f_nodes_kind f_units f_came f_went f_drained f_reached f_present f_portion f_rest) s.heap.size = A at hD ⊢
  have hA : ∀ q : Nat, s.heap.size ≤ q → A q := fun q h => by rw [← hAe]; exact Or.inr h
  clear hAe
  have hS : va_S A s.heap s.heap [] := va_S.rf
  have hl := lv_entry ([.ref a0, .int p1, .int p2, .long p3]) (n := 8) (Nat.le_of_ble_eq_true rfl)
  subst hav
  rw [lg_entry_eq]
  generalize (lg_sl ([.ref a0, .int p1, .int p2, .long p3]) ++ List.replicate (8 - (lg_sl ([.ref a0, .int p1, .int p2, .long p3])).length) Slot.unset).toArray = ls at hl ⊢
  replace hl : lv_has ls 8 [(0, .ref a0), (1, .int p1), (2, .int p2), (3, .long p3)] := hl
  clear B
  generalize (([.ref a0, .int p1, .int p2, .long p3] : List Value)).toArray = av at hts ⊢
  suffices MAIN : ∀ Q : State → Prop, (∀ (v : Int32) (v_presentCount : Int32) (f_units : (Nat → Int64)) (f_came : (Nat → Int64)) (f_went : (Nat → Int64)) (f_drained : (Nat → Int64)) (f_reached : (Nat → Int64)) (f_present : (Nat → Int32)) (f_portion : (Nat → Int64)) (f_rest : (Nat → Int64)) (H : Heap) (locs : List Loc) (ls : Array Slot) (pc : Nat), vv_bo v → post v v_presentCount f_units f_came f_went f_drained f_reached f_present f_portion f_rest → va_P (dC, dI) vwCl (wd_X3_move cI cJ cZ a0 a_nodes a_units a_came a_went a_drained a_reached a_present a_portion a_rest a_nodes_kind a_nodes_amount a_nodes_day a_nodes_held a_nodes_spot a_nodes_lotsByAge v_presentCount v_nodes_count v_nodes_lotCount f_nodes_kind f_units f_came f_went f_drained f_reached f_present f_portion f_rest) H → va_D A (wd_X3_move cI cJ cZ a0 a_nodes a_units a_came a_went a_drained a_reached a_present a_portion a_rest a_nodes_kind a_nodes_amount a_nodes_day a_nodes_held a_nodes_spot a_nodes_lotsByAge v_presentCount v_nodes_count v_nodes_lotCount f_nodes_kind f_units f_came f_went f_drained f_reached f_present f_portion f_rest) → va_S A s.heap H locs → decode cX3_move pc = .ok (.ireturn, 1) → W p l e rm_X3_move s m av below meth c H locs 0 0 Q (F0 m pc ls [.int v])) → W p l e rm_X3_move s m av below meth c s.heap [] 0 0 Q (F0 m 0 ls []) from MAIN _ (fun v v_presentCount f_units f_came f_went f_drained f_reached f_present f_portion f_rest H locs ls pc hbo h hP hD hS hd => vv_zret (v_presentCount, f_units, f_came, f_went, f_drained, f_reached, f_present, f_portion, f_rest) hx hb hr hlocks hbo h hK hP hD hS hd)
  intro Q RET
  have fl15 := hts (.fieldLink RX3 15 "LotFlows$Stock" "came" "[J") (by decide +kernel)
  have fl18 := hts (.fieldLink RX3 18 "LotFlows$Stock" "went" "[J") (by decide +kernel)
  have fl21 := hts (.fieldLink RX3 21 "LotFlows$Stock" "drained" "[J") (by decide +kernel)
  have fl27 := hts (.fieldLink RX3 27 "LotFlows$Stock" "present" "[I") (by decide +kernel)
  have fl31 := hts (.fieldLink RX3 31 "LotFlows$Stock" "portion" "[J") (by decide +kernel)
  have fl37 := hts (.fieldLink RX3 37 "LotFlows$Stock" "nodes" "LLotFlows$Nodes;") (by decide +kernel)
  have fl100 := hts (.fieldLink RX3 100 "LotFlows$Stock" "presentCount" "I") (by decide +kernel)
  have in_X3 : ∀ w ∈ wsX30, w ∈ wsX3_move := by decide +kernel
  have bk_91 : ∀ (x1 : Int32) (x2 : Int32) (x3 : Int64) (v_presentCount : Int32) (f_units : (Nat → Int64)) (f_came : (Nat → Int64)) (f_went : (Nat → Int64)) (f_drained : (Nat → Int64)) (f_reached : (Nat → Int64)) (f_present : (Nat → Int32)) (f_portion : (Nat → Int64)) (f_rest : (Nat → Int64)) (H : Heap) (locs : List Loc) (ls : Array Slot), va_P (dC, dI) vwCl (wd_X3_move cI cJ cZ a0 a_nodes a_units a_came a_went a_drained a_reached a_present a_portion a_rest a_nodes_kind a_nodes_amount a_nodes_day a_nodes_held a_nodes_spot a_nodes_lotsByAge v_presentCount v_nodes_count v_nodes_lotCount f_nodes_kind f_units f_came f_went f_drained f_reached f_present f_portion f_rest) H → va_D A (wd_X3_move cI cJ cZ a0 a_nodes a_units a_came a_went a_drained a_reached a_present a_portion a_rest a_nodes_kind a_nodes_amount a_nodes_day a_nodes_held a_nodes_spot a_nodes_lotsByAge v_presentCount v_nodes_count v_nodes_lotCount f_nodes_kind f_units f_came f_went f_drained f_reached f_present f_portion f_rest) → va_S A s.heap H locs → lv_has ls 8 [(0, .ref a0), (1, .int x1), (2, .int x2), (3, .long x3)] → wb_X3_move_91 post v_nodes_count v_nodes_lotCount f_nodes_kind x1 x2 x3 v_presentCount f_units f_came f_went f_drained f_reached f_present f_portion f_rest → W p l e rm_X3_move s m av below meth c H locs 0 0 Q (F0 m 91 ls []) := by
    intro x1 x2 x3 v_presentCount f_units f_came f_went f_drained f_reached f_present f_portion f_rest H locs ls hP hD hS hl h
    refine lv_aload_n hx hb dX3_move_91 rfl (lv_at hl 0 rfl) ?_
    refine va_get (D := (dC, dI)) (ci := 3) (v := .ref a_went) (C := RX3) (T := TX3) (N := 10) hx hb hts in_X3 hown hK hP 0 rfl rfl 3 (by decide) fl18 (fun _ h9 => h9) rfl dX3_move_92 ?_
    refine lv_iload_n hx hb dX3_move_95 rfl (lv_at hl 1 rfl) ?_
    refine lv_dup2_11 hx hb dX3_move_96 rfl rfl ?_
    obtain ⟨hi_21, h⟩ := h
    refine va_lald hx hb hK hP 5 1 rfl rfl hi_21 dX3_move_97 ?_
    refine lv_lload_n hx hb dX3_move_98 rfl (lv_at hl 3 rfl) ?_
    refine lv_ladd hx hb dX3_move_99 ?_
    obtain ⟨hi_22, h⟩ := h
    refine vv_last hx hb hK hP hD hS 5 1 rfl rfl hi_22 dX3_move_100 (fun f_23 ef_23 H locs hP hD hS => ?_)
    replace h := h f_23 ef_23
    replace hP : va_P (dC, dI) vwCl (wd_X3_move cI cJ cZ a0 a_nodes a_units a_came a_went a_drained a_reached a_present a_portion a_rest a_nodes_kind a_nodes_amount a_nodes_day a_nodes_held a_nodes_spot a_nodes_lotsByAge v_presentCount v_nodes_count v_nodes_lotCount f_nodes_kind f_units f_came f_23 f_drained f_reached f_present f_portion f_rest) H := hP
    replace hD : va_D A (wd_X3_move cI cJ cZ a0 a_nodes a_units a_came a_went a_drained a_reached a_present a_portion a_rest a_nodes_kind a_nodes_amount a_nodes_day a_nodes_held a_nodes_spot a_nodes_lotsByAge v_presentCount v_nodes_count v_nodes_lotCount f_nodes_kind f_units f_came f_23 f_drained f_reached f_present f_portion f_rest) := hD
    refine lv_aload_n hx hb dX3_move_101 rfl (lv_at hl 0 rfl) ?_
    refine va_get (D := (dC, dI)) (ci := 3) (v := .ref a_came) (C := RX3) (T := TX3) (N := 10) hx hb hts in_X3 hown hK hP 0 rfl rfl 2 (by decide) fl15 (fun _ h9 => h9) rfl dX3_move_102 ?_
    refine lv_iload_n hx hb dX3_move_105 rfl (lv_at hl 2 rfl) ?_
    refine lv_dup2_11 hx hb dX3_move_106 rfl rfl ?_
    obtain ⟨hi_24, h⟩ := h
    refine va_lald hx hb hK hP 4 1 rfl rfl hi_24 dX3_move_107 ?_
    refine lv_lload_n hx hb dX3_move_108 rfl (lv_at hl 3 rfl) ?_
    refine lv_ladd hx hb dX3_move_109 ?_
    obtain ⟨hi_25, h⟩ := h
    refine vv_last hx hb hK hP hD hS 4 1 rfl rfl hi_25 dX3_move_110 (fun f_26 ef_26 H locs hP hD hS => ?_)
    replace h := h f_26 ef_26
    replace hP : va_P (dC, dI) vwCl (wd_X3_move cI cJ cZ a0 a_nodes a_units a_came a_went a_drained a_reached a_present a_portion a_rest a_nodes_kind a_nodes_amount a_nodes_day a_nodes_held a_nodes_spot a_nodes_lotsByAge v_presentCount v_nodes_count v_nodes_lotCount f_nodes_kind f_units f_26 f_23 f_drained f_reached f_present f_portion f_rest) H := hP
    replace hD : va_D A (wd_X3_move cI cJ cZ a0 a_nodes a_units a_came a_went a_drained a_reached a_present a_portion a_rest a_nodes_kind a_nodes_amount a_nodes_day a_nodes_held a_nodes_spot a_nodes_lotsByAge v_presentCount v_nodes_count v_nodes_lotCount f_nodes_kind f_units f_26 f_23 f_drained f_reached f_present f_portion f_rest) := hD
    refine lv_aload_n hx hb dX3_move_111 rfl (lv_at hl 0 rfl) ?_
    refine va_get (D := (dC, dI)) (ci := 3) (v := .ref a_nodes) (C := RX3) (T := TX3) (N := 10) hx hb hts in_X3 hown hK hP 0 rfl rfl 0 (by decide) fl37 (fun _ h9 => h9) rfl dX3_move_112 ?_
    refine lv_iload_n hx hb dX3_move_115 rfl (lv_at hl 2 rfl) ?_
    refine vv_goi [1, 2] [0, 3, 4, 5, 6, 7, 8, 9, 10] [(a0, .inr (3, [.ref a_nodes, .ref a_units, .ref a_came, .ref a_went, .ref a_drained, .ref a_reached, .ref a_present, .ref a_portion, .ref a_rest, .int v_presentCount])), (a_units, .inl (cJ, 2304, .inr (.inl f_units))), (a_came, .inl (cJ, 48, .inr (.inl f_26))), (a_went, .inl (cJ, 48, .inr (.inl f_23))), (a_drained, .inl (cJ, 48, .inr (.inl f_drained))), (a_reached, .inl (cJ, 48, .inr (.inl f_reached))), (a_present, .inl (cI, 48, .inl f_present)), (a_portion, .inl (cJ, 48, .inr (.inl f_portion))), (a_rest, .inl (cJ, 48, .inr (.inl f_rest)))] [0, 9, 10, 1, 2, 3, 4, 5, 6, 7, 8] (fun _ => wd_X3_move cI cJ cZ a0 a_nodes a_units a_came a_went a_drained a_reached a_present a_portion a_rest a_nodes_kind a_nodes_amount a_nodes_day a_nodes_held a_nodes_spot a_nodes_lotsByAge v_presentCount v_nodes_count v_nodes_lotCount f_nodes_kind f_units f_26 f_23 f_drained f_reached f_present f_portion f_rest) (vv_rv (rest := []) (ci := 1) ⟨hx, hb, hml, hown, hts⟩ (cw_X1_isDrain l dC dI cI cJ cZ a_nodes a_nodes_kind a_nodes_amount a_nodes_day a_nodes_held a_nodes_spot a_nodes_lotsByAge (H.size) v_nodes_count v_nodes_lotCount f_nodes_kind x2 _ h) (cwV 1 hts gX3_move_X1_isDrain rfl rfl rfl (by decide +kernel) ⟨Nat.le_of_ble_eq_true rfl, Nat.le_of_ble_eq_true rfl⟩) hK hP hD [1, 2] rfl (by decide) rfl rfl rfl hl.1 rfl (Nat.le_of_ble_eq_true rfl) dX3_move_116 ⟨Nat.le_of_ble_eq_true rfl, Nat.le_of_ble_eq_true rfl⟩) hP hD hS hA rfl rfl (by decide) (by decide) (fun _ => rfl) (by decide) (fun r_27 _ H locs h hP hD hS => ?_)
    replace hP : va_P (dC, dI) vwCl (wd_X3_move cI cJ cZ a0 a_nodes a_units a_came a_went a_drained a_reached a_present a_portion a_rest a_nodes_kind a_nodes_amount a_nodes_day a_nodes_held a_nodes_spot a_nodes_lotsByAge v_presentCount v_nodes_count v_nodes_lotCount f_nodes_kind f_units f_26 f_23 f_drained f_reached f_present f_portion f_rest) H := hP
    replace hD : va_D A (wd_X3_move cI cJ cZ a0 a_nodes a_units a_came a_went a_drained a_reached a_present a_portion a_rest a_nodes_kind a_nodes_amount a_nodes_day a_nodes_held a_nodes_spot a_nodes_lotsByAge v_presentCount v_nodes_count v_nodes_lotCount f_nodes_kind f_units f_26 f_23 f_drained f_reached f_present f_portion f_rest) := hD
    refine lv_if_eq (tgt := 132) hx hb dX3_move_119 (by decide) (fun c_28 => ?_) (fun c_28 => ?_)
    · replace h := h.1 c_28
      refine lv_iconst (v := 1) hx hb dX3_move_132 (by decide) ?_
      exact RET 1 v_presentCount f_units f_26 f_23 f_drained f_reached f_present f_portion f_rest H locs ls 133 vv_bo1 h hP hD hS dX3_move_133
    · replace h := h.2 c_28
      refine lv_aload_n hx hb dX3_move_122 rfl (lv_at hl 0 rfl) ?_
      refine va_get (D := (dC, dI)) (ci := 3) (v := .ref a_drained) (C := RX3) (T := TX3) (N := 10) hx hb hts in_X3 hown hK hP 0 rfl rfl 4 (by decide) fl21 (fun _ h9 => h9) rfl dX3_move_123 ?_
      refine lv_iload_n hx hb dX3_move_126 rfl (lv_at hl 1 rfl) ?_
      refine lv_dup2_11 hx hb dX3_move_127 rfl rfl ?_
      obtain ⟨hi_29, h⟩ := h
      refine va_lald hx hb hK hP 6 1 rfl rfl hi_29 dX3_move_128 ?_
      refine lv_lload_n hx hb dX3_move_129 rfl (lv_at hl 3 rfl) ?_
      refine lv_ladd hx hb dX3_move_130 ?_
      obtain ⟨hi_30, h⟩ := h
      refine vv_last hx hb hK hP hD hS 6 1 rfl rfl hi_30 dX3_move_131 (fun f_31 ef_31 H locs hP hD hS => ?_)
      replace h := h f_31 ef_31
      replace hP : va_P (dC, dI) vwCl (wd_X3_move cI cJ cZ a0 a_nodes a_units a_came a_went a_drained a_reached a_present a_portion a_rest a_nodes_kind a_nodes_amount a_nodes_day a_nodes_held a_nodes_spot a_nodes_lotsByAge v_presentCount v_nodes_count v_nodes_lotCount f_nodes_kind f_units f_26 f_23 f_31 f_reached f_present f_portion f_rest) H := hP
      replace hD : va_D A (wd_X3_move cI cJ cZ a0 a_nodes a_units a_came a_went a_drained a_reached a_present a_portion a_rest a_nodes_kind a_nodes_amount a_nodes_day a_nodes_held a_nodes_spot a_nodes_lotsByAge v_presentCount v_nodes_count v_nodes_lotCount f_nodes_kind f_units f_26 f_23 f_31 f_reached f_present f_portion f_rest) := hD
      refine lv_iconst (v := 1) hx hb dX3_move_132 (by decide) ?_
      exact RET 1 v_presentCount f_units f_26 f_23 f_31 f_reached f_present f_portion f_rest H locs ls 133 vv_bo1 h hP hD hS dX3_move_133
  have bk_56 : ∀ n : Nat, ∀ (x1 : Int32) (x2 : Int32) (x3 : Int64) (x7 : Int32) (v_presentCount : Int32) (f_units : (Nat → Int64)) (f_came : (Nat → Int64)) (f_went : (Nat → Int64)) (f_drained : (Nat → Int64)) (f_reached : (Nat → Int64)) (f_present : (Nat → Int32)) (f_portion : (Nat → Int64)) (f_rest : (Nat → Int64)) (H : Heap) (locs : List Loc) (ls : Array Slot), va_P (dC, dI) vwCl (wd_X3_move cI cJ cZ a0 a_nodes a_units a_came a_went a_drained a_reached a_present a_portion a_rest a_nodes_kind a_nodes_amount a_nodes_day a_nodes_held a_nodes_spot a_nodes_lotsByAge v_presentCount v_nodes_count v_nodes_lotCount f_nodes_kind f_units f_came f_went f_drained f_reached f_present f_portion f_rest) H → va_D A (wd_X3_move cI cJ cZ a0 a_nodes a_units a_came a_went a_drained a_reached a_present a_portion a_rest a_nodes_kind a_nodes_amount a_nodes_day a_nodes_held a_nodes_spot a_nodes_lotsByAge v_presentCount v_nodes_count v_nodes_lotCount f_nodes_kind f_units f_came f_went f_drained f_reached f_present f_portion f_rest) → va_S A s.heap H locs → lv_has ls 8 [(0, .ref a0), (1, .int x1), (2, .int x2), (3, .long x3), (7, .int x7)] → wb_X3_move_56 post v_nodes_count v_nodes_lotCount f_nodes_kind n x1 x2 x3 x7 v_presentCount f_units f_came f_went f_drained f_reached f_present f_portion f_rest → W p l e rm_X3_move s m av below meth c H locs 0 0 Q (F0 m 56 ls []) := by
    intro n
    induction n with
    | zero =>
      intro x1 x2 x3 x7 v_presentCount f_units f_came f_went f_drained f_reached f_present f_portion f_rest H locs ls hP hD hS hl h
      exact False.elim h
    | succ n ih56 =>
      intro x1 x2 x3 x7 v_presentCount f_units f_came f_went f_drained f_reached f_present f_portion f_rest H locs ls hP hD hS hl h
      refine lv_iload hx hb dX3_move_56 (lv_at hl 4 rfl) ?_
      refine lv_aload_n hx hb dX3_move_58 rfl (lv_at hl 0 rfl) ?_
      refine va_get (D := (dC, dI)) (ci := 3) (v := .int v_presentCount) (C := RX3) (T := TX3) (N := 10) hx hb hts in_X3 hown hK hP 0 rfl rfl 9 (by decide) fl100 (fun _ h9 => h9) rfl dX3_move_59 ?_
      refine lv_icmp_ge (tgt := 91) hx hb dX3_move_62 (by decide) (fun c_14 => ?_) (fun c_14 => ?_)
      · replace h := h.1 c_14
        exact bk_91 x1 x2 x3 v_presentCount f_units f_came f_went f_drained f_reached f_present f_portion f_rest H locs ls hP hD hS (lv_sub hl [0, 1, 2, 3] rfl) h
      · replace h := h.2 c_14
        refine lv_aload_n hx hb dX3_move_65 rfl (lv_at hl 0 rfl) ?_
        refine lv_iload_n hx hb dX3_move_66 rfl (lv_at hl 1 rfl) ?_
        refine lv_iload_n hx hb dX3_move_67 rfl (lv_at hl 2 rfl) ?_
        refine lv_aload_n hx hb dX3_move_68 rfl (lv_at hl 0 rfl) ?_
        refine va_get (D := (dC, dI)) (ci := 3) (v := .ref a_present) (C := RX3) (T := TX3) (N := 10) hx hb hts in_X3 hown hK hP 0 rfl rfl 6 (by decide) fl27 (fun _ h9 => h9) rfl dX3_move_69 ?_
        refine lv_iload hx hb dX3_move_72 (lv_at hl 4 rfl) ?_
        obtain ⟨hi_15, h⟩ := h
        refine va_iald hx hb hK hP 8 0 rfl rfl hi_15 dX3_move_74 ?_
        refine lv_aload_n hx hb dX3_move_75 rfl (lv_at hl 0 rfl) ?_
        refine va_get (D := (dC, dI)) (ci := 3) (v := .ref a_portion) (C := RX3) (T := TX3) (N := 10) hx hb hts in_X3 hown hK hP 0 rfl rfl 7 (by decide) fl31 (fun _ h9 => h9) rfl dX3_move_76 ?_
        refine lv_iload hx hb dX3_move_79 (lv_at hl 4 rfl) ?_
        obtain ⟨hi_16, h⟩ := h
        refine va_lald hx hb hK hP 9 1 rfl rfl hi_16 dX3_move_81 ?_
        refine vv_gov [0, 3, 7] [1, 2, 4, 5, 6, 8, 9, 10] [(a_nodes, .inr (1, [.int v_nodes_count, .int v_nodes_lotCount, .ref a_nodes_kind, .ref a_nodes_amount, .ref a_nodes_day, .ref a_nodes_held, .ref a_nodes_spot, .ref a_nodes_lotsByAge])), (a_nodes_kind, .inl (cI, 48, .inl f_nodes_kind)), (a_came, .inl (cJ, 48, .inr (.inl f_came))), (a_went, .inl (cJ, 48, .inr (.inl f_went))), (a_drained, .inl (cJ, 48, .inr (.inl f_drained))), (a_present, .inl (cI, 48, .inl f_present)), (a_portion, .inl (cJ, 48, .inr (.inl f_portion))), (a_rest, .inl (cJ, 48, .inr (.inl f_rest)))] [8, 0, 1, 9, 2, 3, 4, 10, 5, 6, 7] (fun u => wd_X3_move cI cJ cZ a0 a_nodes a_units a_came a_went a_drained a_reached a_present a_portion a_rest a_nodes_kind a_nodes_amount a_nodes_day a_nodes_held a_nodes_spot a_nodes_lotsByAge v_presentCount v_nodes_count v_nodes_lotCount f_nodes_kind (u.1) f_came f_went f_drained (u.2) f_present f_portion f_rest) (vv_rv (rest := []) (ci := 3) ⟨hx, hb, hml, hown, hts⟩ (cw_X3_carry l dC dI cI cJ cZ a0 a_nodes a_units a_came a_went a_drained a_reached a_present a_portion a_rest (H.size) v_presentCount f_units f_reached x1 x2 (f_present x7.toNatClampNeg) (f_portion x7.toNatClampNeg) _ h) (cwV 4 hts gX3_move_X3_carry rfl rfl rfl (by decide +kernel) ⟨Nat.le_of_ble_eq_true rfl, Nat.le_of_ble_eq_true rfl⟩) hK hP hD [0, 3, 7] rfl (by decide) rfl rfl rfl hl.1 rfl (Nat.le_of_ble_eq_true rfl) dX3_move_82 ⟨Nat.le_of_ble_eq_true rfl, Nat.le_of_ble_eq_true rfl⟩) hP hD hS hA rfl rfl (by decide) (by decide) (fun _ => rfl) (by decide) (fun u H locs h hP hD hS => ?_)
        obtain ⟨f_units_17, f_reached_18⟩ := u
        replace hP : va_P (dC, dI) vwCl (wd_X3_move cI cJ cZ a0 a_nodes a_units a_came a_went a_drained a_reached a_present a_portion a_rest a_nodes_kind a_nodes_amount a_nodes_day a_nodes_held a_nodes_spot a_nodes_lotsByAge v_presentCount v_nodes_count v_nodes_lotCount f_nodes_kind f_units_17 f_came f_went f_drained f_reached_18 f_present f_portion f_rest) H := hP
        replace hD : va_D A (wd_X3_move cI cJ cZ a0 a_nodes a_units a_came a_went a_drained a_reached a_present a_portion a_rest a_nodes_kind a_nodes_amount a_nodes_day a_nodes_held a_nodes_spot a_nodes_lotsByAge v_presentCount v_nodes_count v_nodes_lotCount f_nodes_kind f_units_17 f_came f_went f_drained f_reached_18 f_present f_portion f_rest) := hD
        obtain ⟨x_20, ex_20⟩ : ∃ y : Int32, y = x7 + 1 := ⟨_, rfl⟩
        replace h := h x_20 ex_20
        refine lv_iinc (v := x_20) (lv' := [(7, .int x_20), (0, .ref a0), (1, .int x1), (2, .int x2), (3, .long x3)]) hx hb dX3_move_85 hl (k := 4) rfl (by rw [ex_20]; rfl) (by decide) rfl (fun ls hl => ?_)
        refine lv_goto (tgt := 56) hx hb dX3_move_88 (by decide) ?_
        exact ih56 x1 x2 x3 x_20 v_presentCount f_units_17 f_came f_went f_drained f_reached_18 f_present f_portion f_rest H locs ls hP hD hS (lv_sub hl [1, 2, 3, 4, 0] rfl) h
  suffices START : ∀ (H : Heap) (locs : List Loc), va_P (dC, dI) vwCl (wd_X3_move cI cJ cZ a0 a_nodes a_units a_came a_went a_drained a_reached a_present a_portion a_rest a_nodes_kind a_nodes_amount a_nodes_day a_nodes_held a_nodes_spot a_nodes_lotsByAge v_presentCount v_nodes_count v_nodes_lotCount f_nodes_kind f_units f_came f_went f_drained f_reached f_present f_portion f_rest) H → va_D A (wd_X3_move cI cJ cZ a0 a_nodes a_units a_came a_went a_drained a_reached a_present a_portion a_rest a_nodes_kind a_nodes_amount a_nodes_day a_nodes_held a_nodes_spot a_nodes_lotsByAge v_presentCount v_nodes_count v_nodes_lotCount f_nodes_kind f_units f_came f_went f_drained f_reached f_present f_portion f_rest) → va_S A s.heap H locs → W p l e rm_X3_move s m av below meth c H locs 0 0 Q (F0 m 0 ls []) from START s.heap [] hP hD hS
  clear hP hD hS
  intro H locs hP hD hS
  refine lv_aload_n hx hb dX3_move_0 rfl (lv_at hl 0 rfl) ?_
  refine lv_iload_n hx hb dX3_move_1 rfl (lv_at hl 1 rfl) ?_
  refine vv_gol [0, 4, 5] [1, 2, 3, 6, 7, 8, 9, 10] [(a_nodes, .inr (1, [.int v_nodes_count, .int v_nodes_lotCount, .ref a_nodes_kind, .ref a_nodes_amount, .ref a_nodes_day, .ref a_nodes_held, .ref a_nodes_spot, .ref a_nodes_lotsByAge])), (a_nodes_kind, .inl (cI, 48, .inl f_nodes_kind)), (a_units, .inl (cJ, 2304, .inr (.inl f_units))), (a_drained, .inl (cJ, 48, .inr (.inl f_drained))), (a_reached, .inl (cJ, 48, .inr (.inl f_reached))), (a_present, .inl (cI, 48, .inl f_present)), (a_portion, .inl (cJ, 48, .inr (.inl f_portion))), (a_rest, .inl (cJ, 48, .inr (.inl f_rest)))] [8, 0, 1, 2, 9, 10, 3, 4, 5, 6, 7] (fun _ => wd_X3_move cI cJ cZ a0 a_nodes a_units a_came a_went a_drained a_reached a_present a_portion a_rest a_nodes_kind a_nodes_amount a_nodes_day a_nodes_held a_nodes_spot a_nodes_lotsByAge v_presentCount v_nodes_count v_nodes_lotCount f_nodes_kind f_units f_came f_went f_drained f_reached f_present f_portion f_rest) (vv_rv (rest := []) (ci := 3) ⟨hx, hb, hml, hown, hts⟩ (cw_X3_unitsIn l dC dI cI cJ cZ a0 a_nodes a_units a_came a_went a_drained a_reached a_present a_portion a_rest (H.size) v_presentCount f_came f_went p1 _ h) (cwV 1 hts gX3_move_X3_unitsIn rfl rfl rfl (by decide +kernel) ⟨Nat.le_of_ble_eq_true rfl, Nat.le_of_ble_eq_true rfl⟩) hK hP hD [0, 4, 5] rfl (by decide) rfl rfl rfl hl.1 rfl (Nat.le_of_ble_eq_true rfl) dX3_move_2 ⟨Nat.le_of_ble_eq_true rfl, Nat.le_of_ble_eq_true rfl⟩) hP hD hS hA rfl rfl (by decide) (by decide) (fun _ => rfl) (by decide) (fun r_1 _ H locs h hP hD hS => ?_)
  replace hP : va_P (dC, dI) vwCl (wd_X3_move cI cJ cZ a0 a_nodes a_units a_came a_went a_drained a_reached a_present a_portion a_rest a_nodes_kind a_nodes_amount a_nodes_day a_nodes_held a_nodes_spot a_nodes_lotsByAge v_presentCount v_nodes_count v_nodes_lotCount f_nodes_kind f_units f_came f_went f_drained f_reached f_present f_portion f_rest) H := hP
  replace hD : va_D A (wd_X3_move cI cJ cZ a0 a_nodes a_units a_came a_went a_drained a_reached a_present a_portion a_rest a_nodes_kind a_nodes_amount a_nodes_day a_nodes_held a_nodes_spot a_nodes_lotsByAge v_presentCount v_nodes_count v_nodes_lotCount f_nodes_kind f_units f_came f_went f_drained f_reached f_present f_portion f_rest) := hD
  refine lv_lstore (lv' := [(5, .long r_1), (0, .ref a0), (1, .int p1), (2, .int p2), (3, .long p3)]) hx hb dX3_move_5 hl (by decide) rfl (fun ls hl => ?_)
  refine lv_lload hx hb dX3_move_7 (lv_at hl 0 rfl) ?_
  refine lv_lconst (v := 0) hx hb dX3_move_9 (by decide) ?_
  refine vv_lcmp_le (tgt := 21) hx hb dX3_move_10 dX3_move_11 (by decide) (fun c_2 => ?_) (fun c_2 => ?_)
  · replace h := h.1 c_2
    refine lv_iconst (v := 0) hx hb dX3_move_21 (by decide) ?_
    exact RET 0 v_presentCount f_units f_came f_went f_drained f_reached f_present f_portion f_rest H locs ls 22 vv_bo0 h hP hD hS dX3_move_22
  · replace h := h.2 c_2
    refine lv_lload_n hx hb dX3_move_14 rfl (lv_at hl 4 rfl) ?_
    refine lv_lload hx hb dX3_move_15 (lv_at hl 0 rfl) ?_
    refine vv_lcmp_le (tgt := 23) hx hb dX3_move_17 dX3_move_18 (by decide) (fun c_3 => ?_) (fun c_3 => ?_)
    · replace h := h.1 c_3
      refine lv_aload_n hx hb dX3_move_23 rfl (lv_at hl 1 rfl) ?_
      refine va_get (D := (dC, dI)) (ci := 3) (v := .ref a_nodes) (C := RX3) (T := TX3) (N := 10) hx hb hts in_X3 hown hK hP 0 rfl rfl 0 (by decide) fl37 (fun _ h9 => h9) rfl dX3_move_24 ?_
      refine lv_iload_n hx hb dX3_move_27 rfl (lv_at hl 2 rfl) ?_
      refine vv_goi [1, 2] [0, 3, 4, 5, 6, 7, 8, 9, 10] [(a0, .inr (3, [.ref a_nodes, .ref a_units, .ref a_came, .ref a_went, .ref a_drained, .ref a_reached, .ref a_present, .ref a_portion, .ref a_rest, .int v_presentCount])), (a_units, .inl (cJ, 2304, .inr (.inl f_units))), (a_came, .inl (cJ, 48, .inr (.inl f_came))), (a_went, .inl (cJ, 48, .inr (.inl f_went))), (a_drained, .inl (cJ, 48, .inr (.inl f_drained))), (a_reached, .inl (cJ, 48, .inr (.inl f_reached))), (a_present, .inl (cI, 48, .inl f_present)), (a_portion, .inl (cJ, 48, .inr (.inl f_portion))), (a_rest, .inl (cJ, 48, .inr (.inl f_rest)))] [0, 9, 10, 1, 2, 3, 4, 5, 6, 7, 8] (fun _ => wd_X3_move cI cJ cZ a0 a_nodes a_units a_came a_went a_drained a_reached a_present a_portion a_rest a_nodes_kind a_nodes_amount a_nodes_day a_nodes_held a_nodes_spot a_nodes_lotsByAge v_presentCount v_nodes_count v_nodes_lotCount f_nodes_kind f_units f_came f_went f_drained f_reached f_present f_portion f_rest) (vv_rv (rest := []) (ci := 1) ⟨hx, hb, hml, hown, hts⟩ (cw_X1_isLot l dC dI cI cJ cZ a_nodes a_nodes_kind a_nodes_amount a_nodes_day a_nodes_held a_nodes_spot a_nodes_lotsByAge (H.size) v_nodes_count v_nodes_lotCount f_nodes_kind p1 _ h) (cwV 1 hts gX3_move_X1_isLot rfl rfl rfl (by decide +kernel) ⟨Nat.le_of_ble_eq_true rfl, Nat.le_of_ble_eq_true rfl⟩) hK hP hD [1, 2] rfl (by decide) rfl rfl rfl hl.1 rfl (Nat.le_of_ble_eq_true rfl) dX3_move_28 ⟨Nat.le_of_ble_eq_true rfl, Nat.le_of_ble_eq_true rfl⟩) hP hD hS hA rfl rfl (by decide) (by decide) (fun _ => rfl) (by decide) (fun r_4 _ H locs h hP hD hS => ?_)
      replace hP : va_P (dC, dI) vwCl (wd_X3_move cI cJ cZ a0 a_nodes a_units a_came a_went a_drained a_reached a_present a_portion a_rest a_nodes_kind a_nodes_amount a_nodes_day a_nodes_held a_nodes_spot a_nodes_lotsByAge v_presentCount v_nodes_count v_nodes_lotCount f_nodes_kind f_units f_came f_went f_drained f_reached f_present f_portion f_rest) H := hP
      replace hD : va_D A (wd_X3_move cI cJ cZ a0 a_nodes a_units a_came a_went a_drained a_reached a_present a_portion a_rest a_nodes_kind a_nodes_amount a_nodes_day a_nodes_held a_nodes_spot a_nodes_lotsByAge v_presentCount v_nodes_count v_nodes_lotCount f_nodes_kind f_units f_came f_went f_drained f_reached f_present f_portion f_rest) := hD
      refine lv_if_eq (tgt := 45) hx hb dX3_move_31 (by decide) (fun c_5 => ?_) (fun c_5 => ?_)
      · replace h := h.1 c_5
        refine lv_aload_n hx hb dX3_move_45 rfl (lv_at hl 1 rfl) ?_
        refine lv_iload_n hx hb dX3_move_46 rfl (lv_at hl 2 rfl) ?_
        refine lv_lload hx hb dX3_move_47 (lv_at hl 0 rfl) ?_
        refine lv_lload_n hx hb dX3_move_49 rfl (lv_at hl 4 rfl) ?_
        refine vv_gov [0, 1, 3, 8, 9, 10] [2, 4, 5, 6, 7] [(a_nodes_kind, .inl (cI, 48, .inl f_nodes_kind)), (a_came, .inl (cJ, 48, .inr (.inl f_came))), (a_went, .inl (cJ, 48, .inr (.inl f_went))), (a_drained, .inl (cJ, 48, .inr (.inl f_drained))), (a_reached, .inl (cJ, 48, .inr (.inl f_reached)))] [5, 6, 0, 7, 1, 2, 3, 4, 8, 9, 10] (fun u => wd_X3_move cI cJ cZ a0 a_nodes a_units a_came a_went a_drained a_reached a_present a_portion a_rest a_nodes_kind a_nodes_amount a_nodes_day a_nodes_held a_nodes_spot a_nodes_lotsByAge (u.1) v_nodes_count v_nodes_lotCount f_nodes_kind f_units f_came f_went f_drained f_reached (u.2.1) (u.2.2.1) (u.2.2.2)) (vv_rv (rest := []) (ci := 3) ⟨hx, hb, hml, hown, hts⟩ (cw_X3_part l dC dI cI cJ cZ a0 a_nodes a_units a_came a_went a_drained a_reached a_present a_portion a_rest a_nodes_kind a_nodes_amount a_nodes_day a_nodes_held a_nodes_spot a_nodes_lotsByAge (H.size) v_presentCount v_nodes_count v_nodes_lotCount f_units f_present f_portion f_rest p1 r_1 p3 _ h) (cwV 3 hts gX3_move_X3_part rfl rfl rfl (by decide +kernel) ⟨Nat.le_of_ble_eq_true rfl, Nat.le_of_ble_eq_true rfl⟩) hK hP hD [0, 1, 3, 8, 9, 10] rfl (by decide) rfl rfl rfl hl.1 rfl (Nat.le_of_ble_eq_true rfl) dX3_move_50 ⟨Nat.le_of_ble_eq_true rfl, Nat.le_of_ble_eq_true rfl⟩) hP hD hS hA rfl rfl (by decide) (by decide) (fun _ => rfl) (by decide) (fun u H locs h hP hD hS => ?_)
        obtain ⟨v_presentCount_6, f_present_7, f_portion_8, f_rest_9⟩ := u
        replace hP : va_P (dC, dI) vwCl (wd_X3_move cI cJ cZ a0 a_nodes a_units a_came a_went a_drained a_reached a_present a_portion a_rest a_nodes_kind a_nodes_amount a_nodes_day a_nodes_held a_nodes_spot a_nodes_lotsByAge v_presentCount_6 v_nodes_count v_nodes_lotCount f_nodes_kind f_units f_came f_went f_drained f_reached f_present_7 f_portion_8 f_rest_9) H := hP
        replace hD : va_D A (wd_X3_move cI cJ cZ a0 a_nodes a_units a_came a_went a_drained a_reached a_present a_portion a_rest a_nodes_kind a_nodes_amount a_nodes_day a_nodes_held a_nodes_spot a_nodes_lotsByAge v_presentCount_6 v_nodes_count v_nodes_lotCount f_nodes_kind f_units f_came f_went f_drained f_reached f_present_7 f_portion_8 f_rest_9) := hD
        refine lv_iconst (v := 0) hx hb dX3_move_53 (by decide) ?_
        refine lv_istore (lv' := [(7, .int 0), (5, .long r_1), (0, .ref a0), (1, .int p1), (2, .int p2), (3, .long p3)]) hx hb dX3_move_54 hl (by decide) rfl (fun ls hl => ?_)
        obtain ⟨n_56, h⟩ := h
        exact bk_56 n_56 p1 p2 p3 0 v_presentCount_6 f_units f_came f_went f_drained f_reached f_present_7 f_portion_8 f_rest_9 H locs ls hP hD hS (lv_sub hl [2, 3, 4, 5, 0] rfl) h
      · replace h := h.2 c_5
        refine lv_aload_n hx hb dX3_move_34 rfl (lv_at hl 1 rfl) ?_
        refine lv_iload_n hx hb dX3_move_35 rfl (lv_at hl 2 rfl) ?_
        refine lv_iload_n hx hb dX3_move_36 rfl (lv_at hl 3 rfl) ?_
        refine lv_iload_n hx hb dX3_move_37 rfl (lv_at hl 2 rfl) ?_
        refine lv_lload_n hx hb dX3_move_38 rfl (lv_at hl 4 rfl) ?_
        refine vv_gov [0, 3, 7] [1, 2, 4, 5, 6, 8, 9, 10] [(a_nodes, .inr (1, [.int v_nodes_count, .int v_nodes_lotCount, .ref a_nodes_kind, .ref a_nodes_amount, .ref a_nodes_day, .ref a_nodes_held, .ref a_nodes_spot, .ref a_nodes_lotsByAge])), (a_nodes_kind, .inl (cI, 48, .inl f_nodes_kind)), (a_came, .inl (cJ, 48, .inr (.inl f_came))), (a_went, .inl (cJ, 48, .inr (.inl f_went))), (a_drained, .inl (cJ, 48, .inr (.inl f_drained))), (a_present, .inl (cI, 48, .inl f_present)), (a_portion, .inl (cJ, 48, .inr (.inl f_portion))), (a_rest, .inl (cJ, 48, .inr (.inl f_rest)))] [8, 0, 1, 9, 2, 3, 4, 10, 5, 6, 7] (fun u => wd_X3_move cI cJ cZ a0 a_nodes a_units a_came a_went a_drained a_reached a_present a_portion a_rest a_nodes_kind a_nodes_amount a_nodes_day a_nodes_held a_nodes_spot a_nodes_lotsByAge v_presentCount v_nodes_count v_nodes_lotCount f_nodes_kind (u.1) f_came f_went f_drained (u.2) f_present f_portion f_rest) (vv_rv (rest := []) (ci := 3) ⟨hx, hb, hml, hown, hts⟩ (cw_X3_carry l dC dI cI cJ cZ a0 a_nodes a_units a_came a_went a_drained a_reached a_present a_portion a_rest (H.size) v_presentCount f_units f_reached p1 p2 p1 p3 _ h) (cwV 4 hts gX3_move_X3_carry rfl rfl rfl (by decide +kernel) ⟨Nat.le_of_ble_eq_true rfl, Nat.le_of_ble_eq_true rfl⟩) hK hP hD [0, 3, 7] rfl (by decide) rfl rfl rfl hl.1 rfl (Nat.le_of_ble_eq_true rfl) dX3_move_39 ⟨Nat.le_of_ble_eq_true rfl, Nat.le_of_ble_eq_true rfl⟩) hP hD hS hA rfl rfl (by decide) (by decide) (fun _ => rfl) (by decide) (fun u H locs h hP hD hS => ?_)
        obtain ⟨f_units_11, f_reached_12⟩ := u
        replace hP : va_P (dC, dI) vwCl (wd_X3_move cI cJ cZ a0 a_nodes a_units a_came a_went a_drained a_reached a_present a_portion a_rest a_nodes_kind a_nodes_amount a_nodes_day a_nodes_held a_nodes_spot a_nodes_lotsByAge v_presentCount v_nodes_count v_nodes_lotCount f_nodes_kind f_units_11 f_came f_went f_drained f_reached_12 f_present f_portion f_rest) H := hP
        replace hD : va_D A (wd_X3_move cI cJ cZ a0 a_nodes a_units a_came a_went a_drained a_reached a_present a_portion a_rest a_nodes_kind a_nodes_amount a_nodes_day a_nodes_held a_nodes_spot a_nodes_lotsByAge v_presentCount v_nodes_count v_nodes_lotCount f_nodes_kind f_units_11 f_came f_went f_drained f_reached_12 f_present f_portion f_rest) := hD
        refine lv_goto (tgt := 91) hx hb dX3_move_42 (by decide) ?_
        exact bk_91 p1 p2 p3 v_presentCount f_units_11 f_came f_went f_drained f_reached_12 f_present f_portion f_rest H locs ls hP hD hS (lv_sub hl [1, 2, 3, 4] rfl) h
    · replace h := h.2 c_3
      refine lv_iconst (v := 0) hx hb dX3_move_21 (by decide) ?_
      exact RET 0 v_presentCount f_units f_came f_went f_drained f_reached f_present f_portion f_rest H locs ls 22 vv_bo0 h hP hD hS dX3_move_22

abbrev wd_X3_replay (cI cJ cZ : ClassId) (a0 a_p1 a_nodes a_units a_came a_went a_drained a_reached a_present a_portion a_rest a_nodes_kind a_nodes_amount a_nodes_day a_nodes_held a_nodes_spot a_nodes_lotsByAge a_p1_from a_p1_to a_p1_amount a_p1_day a_p1_order : Nat) (v_presentCount : Int32) (v_nodes_count : Int32) (v_nodes_lotCount : Int32) (f_nodes_kind : (Nat → Int32)) (f_nodes_amount : (Nat → Int64)) (f_units : (Nat → Int64)) (f_came : (Nat → Int64)) (f_went : (Nat → Int64)) (f_drained : (Nat → Int64)) (f_reached : (Nat → Int64)) (f_present : (Nat → Int32)) (f_portion : (Nat → Int64)) (f_rest : (Nat → Int64)) (v_p1_count : Int32) (f_p1_from : (Nat → Int32)) (f_p1_to : (Nat → Int32)) (f_p1_amount : (Nat → Int64)) (f_p1_order : (Nat → Int32)) : va_W := [(a0, .inr (3, [.ref a_nodes, .ref a_units, .ref a_came, .ref a_went, .ref a_drained, .ref a_reached, .ref a_present, .ref a_portion, .ref a_rest, .int v_presentCount])), (a_nodes, .inr (1, [.int v_nodes_count, .int v_nodes_lotCount, .ref a_nodes_kind, .ref a_nodes_amount, .ref a_nodes_day, .ref a_nodes_held, .ref a_nodes_spot, .ref a_nodes_lotsByAge])), (a_nodes_kind, .inl (cI, 48, .inl f_nodes_kind)), (a_nodes_amount, .inl (cJ, 48, .inr (.inl f_nodes_amount))), (a_units, .inl (cJ, 2304, .inr (.inl f_units))), (a_came, .inl (cJ, 48, .inr (.inl f_came))), (a_went, .inl (cJ, 48, .inr (.inl f_went))), (a_drained, .inl (cJ, 48, .inr (.inl f_drained))), (a_reached, .inl (cJ, 48, .inr (.inl f_reached))), (a_present, .inl (cI, 48, .inl f_present)), (a_portion, .inl (cJ, 48, .inr (.inl f_portion))), (a_rest, .inl (cJ, 48, .inr (.inl f_rest))), (a_p1, .inr (0, [.int v_p1_count, .ref a_p1_from, .ref a_p1_to, .ref a_p1_amount, .ref a_p1_day, .ref a_p1_order])), (a_p1_from, .inl (cI, 400, .inl f_p1_from)), (a_p1_to, .inl (cI, 400, .inl f_p1_to)), (a_p1_amount, .inl (cJ, 400, .inr (.inl f_p1_amount))), (a_p1_order, .inl (cI, 400, .inl f_p1_order))]
abbrev rm_X3_replay : Room := { frames := 3, cells := 0, slots := 0, locals := 79 }
def wb_X3_replay_59 (post : Int32 → Int32 → (Nat → Int64) → (Nat → Int64) → (Nat → Int64) → (Nat → Int64) → (Nat → Int64) → (Nat → Int32) → (Nat → Int64) → (Nat → Int64) → Prop) (v_nodes_count : Int32) (v_nodes_lotCount : Int32) (f_nodes_kind : (Nat → Int32)) (f_nodes_amount : (Nat → Int64)) (v_p1_count : Int32) (f_p1_from : (Nat → Int32)) (f_p1_to : (Nat → Int32)) (f_p1_amount : (Nat → Int64)) (f_p1_order : (Nat → Int32)) (K6 : Int32 → Int32 → (Nat → Int64) → (Nat → Int64) → (Nat → Int64) → (Nat → Int64) → (Nat → Int64) → (Nat → Int32) → (Nat → Int64) → (Nat → Int64) → Prop) (x2 : Int32) (v_presentCount : Int32) (f_units : (Nat → Int64)) (f_came : (Nat → Int64)) (f_went : (Nat → Int64)) (f_drained : (Nat → Int64)) (f_reached : (Nat → Int64)) (f_present : (Nat → Int32)) (f_portion : (Nat → Int64)) (f_rest : (Nat → Int64)) : Prop := (∀ x_26 : Int32, x_26 = x2 + 1 → K6 x_26 v_presentCount f_units f_came f_went f_drained f_reached f_present f_portion f_rest)
def wb_X3_replay_6 (post : Int32 → Int32 → (Nat → Int64) → (Nat → Int64) → (Nat → Int64) → (Nat → Int64) → (Nat → Int64) → (Nat → Int32) → (Nat → Int64) → (Nat → Int64) → Prop) (v_nodes_count : Int32) (v_nodes_lotCount : Int32) (f_nodes_kind : (Nat → Int32)) (f_nodes_amount : (Nat → Int64)) (v_p1_count : Int32) (f_p1_from : (Nat → Int32)) (f_p1_to : (Nat → Int32)) (f_p1_amount : (Nat → Int64)) (f_p1_order : (Nat → Int32)) : Nat → Int32 → Int32 → (Nat → Int64) → (Nat → Int64) → (Nat → Int64) → (Nat → Int64) → (Nat → Int64) → (Nat → Int32) → (Nat → Int64) → (Nat → Int64) → Prop
  | 0 => fun _ _ _ _ _ _ _ _ _ _ => False
  | n + 1 => fun x2 v_presentCount f_units f_came f_went f_drained f_reached f_present f_portion f_rest => ((v_p1_count ≤ x2 → post 1 v_presentCount f_units f_came f_went f_drained f_reached f_present f_portion f_rest) ∧ (¬ v_p1_count ≤ x2 → (vp_in x2 400 ∧ (∀ x_9 : Int32, x_9 = (f_p1_order x2.toNatClampNeg) → vp_in x_9 400 ∧ (((¬ 0 < (f_p1_amount x_9.toNatClampNeg) → wb_X3_replay_59 post v_nodes_count v_nodes_lotCount f_nodes_kind f_nodes_amount v_p1_count f_p1_from f_p1_to f_p1_amount f_p1_order (wb_X3_replay_6 post v_nodes_count v_nodes_lotCount f_nodes_kind f_nodes_amount v_p1_count f_p1_from f_p1_to f_p1_amount f_p1_order n) x2 v_presentCount f_units f_came f_went f_drained f_reached f_present f_portion f_rest) ∧ (0 < (f_p1_amount x_9.toNatClampNeg) → (vp_in x_9 400 ∧ (vp_in x_9 400 ∧ (vp_in x_9 400 ∧ (wp_X3_move (fun r_24 v_presentCount_15 f_units_16 f_came_17 f_went_18 f_drained_19 f_reached_20 f_present_21 f_portion_22 f_rest_23 => ((¬ r_24 = 0 → wb_X3_replay_59 post v_nodes_count v_nodes_lotCount f_nodes_kind f_nodes_amount v_p1_count f_p1_from f_p1_to f_p1_amount f_p1_order (wb_X3_replay_6 post v_nodes_count v_nodes_lotCount f_nodes_kind f_nodes_amount v_p1_count f_p1_from f_p1_to f_p1_amount f_p1_order n) x2 v_presentCount_15 f_units_16 f_came_17 f_went_18 f_drained_19 f_reached_20 f_present_21 f_portion_22 f_rest_23) ∧ (r_24 = 0 → post 0 v_presentCount_15 f_units_16 f_came_17 f_went_18 f_drained_19 f_reached_20 f_present_21 f_portion_22 f_rest_23))) v_presentCount v_nodes_count v_nodes_lotCount f_nodes_kind f_units f_came f_went f_drained f_reached f_present f_portion f_rest (f_p1_from x_9.toNatClampNeg) (f_p1_to x_9.toNatClampNeg) (f_p1_amount x_9.toNatClampNeg))))))))))))
def wp_X3_replay (post : Int32 → Int32 → (Nat → Int64) → (Nat → Int64) → (Nat → Int64) → (Nat → Int64) → (Nat → Int64) → (Nat → Int32) → (Nat → Int64) → (Nat → Int64) → Prop) (v_presentCount : Int32) (v_nodes_count : Int32) (v_nodes_lotCount : Int32) (f_nodes_kind : (Nat → Int32)) (f_nodes_amount : (Nat → Int64)) (f_units : (Nat → Int64)) (f_came : (Nat → Int64)) (f_went : (Nat → Int64)) (f_drained : (Nat → Int64)) (f_reached : (Nat → Int64)) (f_present : (Nat → Int32)) (f_portion : (Nat → Int64)) (f_rest : (Nat → Int64)) (v_p1_count : Int32) (f_p1_from : (Nat → Int32)) (f_p1_to : (Nat → Int32)) (f_p1_amount : (Nat → Int64)) (f_p1_order : (Nat → Int32)) : Prop := (wp_X3_clear (fun f_units_1 f_came_2 f_went_3 f_drained_4 f_reached_5 => (∃ n_6 : Nat, wb_X3_replay_6 post v_nodes_count v_nodes_lotCount f_nodes_kind f_nodes_amount v_p1_count f_p1_from f_p1_to f_p1_amount f_p1_order n_6 0 v_presentCount f_units_1 f_came_2 f_went_3 f_drained_4 f_reached_5 f_present f_portion f_rest)) v_presentCount v_nodes_count v_nodes_lotCount f_nodes_kind f_nodes_amount f_units f_came f_went f_drained f_reached)
set_option maxHeartbeats 4000000 in
set_option maxRecDepth 100000 in
theorem cw_X3_replay (l : Launch) (dC : Nat → ClassId) (dI : Nat → Nat → Nat) (cI cJ cZ : ClassId) (a0 a_p1 a_nodes a_units a_came a_went a_drained a_reached a_present a_portion a_rest a_nodes_kind a_nodes_amount a_nodes_day a_nodes_held a_nodes_spot a_nodes_lotsByAge a_p1_from a_p1_to a_p1_amount a_p1_day a_p1_order : Nat) (sz : Nat) (v_presentCount : Int32) (v_nodes_count : Int32) (v_nodes_lotCount : Int32) (f_nodes_kind : (Nat → Int32)) (f_nodes_amount : (Nat → Int64)) (f_units : (Nat → Int64)) (f_came : (Nat → Int64)) (f_went : (Nat → Int64)) (f_drained : (Nat → Int64)) (f_reached : (Nat → Int64)) (f_present : (Nat → Int32)) (f_portion : (Nat → Int64)) (f_rest : (Nat → Int64)) (v_p1_count : Int32) (f_p1_from : (Nat → Int32)) (f_p1_to : (Nat → Int32)) (f_p1_amount : (Nat → Int64)) (f_p1_order : (Nat → Int32)) (post : Int32 → Int32 → (Nat → Int64) → (Nat → Int64) → (Nat → Int64) → (Nat → Int64) → (Nat → Int64) → (Nat → Int32) → (Nat → Int64) → (Nat → Int64) → Prop) (h : wp_X3_replay post v_presentCount v_nodes_count v_nodes_lotCount f_nodes_kind f_nodes_amount f_units f_came f_went f_drained f_reached f_present f_portion f_rest v_p1_count f_p1_from f_p1_to f_p1_amount f_p1_order) : Met l yX3_replay wsX3_replay rm_X3_replay (va_Pc [.ref a0, .ref a_p1] (vv_B (dC, dI) (vv_ty cI cJ cZ) (wd_X3_replay cI cJ cZ a0 a_p1 a_nodes a_units a_came a_went a_drained a_reached a_present a_portion a_rest a_nodes_kind a_nodes_amount a_nodes_day a_nodes_held a_nodes_spot a_nodes_lotsByAge a_p1_from a_p1_to a_p1_amount a_p1_day a_p1_order v_presentCount v_nodes_count v_nodes_lotCount f_nodes_kind f_nodes_amount f_units f_came f_went f_drained f_reached f_present f_portion f_rest v_p1_count f_p1_from f_p1_to f_p1_amount f_p1_order) sz)) (va_Qi (fun r (u : Int32 × (Nat → Int64) × (Nat → Int64) × (Nat → Int64) × (Nat → Int64) × (Nat → Int64) × (Nat → Int32) × (Nat → Int64) × (Nat → Int64)) => post r (u.1) (u.2.1) (u.2.2.1) (u.2.2.2.1) (u.2.2.2.2.1) (u.2.2.2.2.2.1) (u.2.2.2.2.2.2.1) (u.2.2.2.2.2.2.2.1) (u.2.2.2.2.2.2.2.2)) (vv_E (dC, dI) (vv_ty cI cJ cZ) (va_A (wd_X3_replay cI cJ cZ a0 a_p1 a_nodes a_units a_came a_went a_drained a_reached a_present a_portion a_rest a_nodes_kind a_nodes_amount a_nodes_day a_nodes_held a_nodes_spot a_nodes_lotsByAge a_p1_from a_p1_to a_p1_amount a_p1_day a_p1_order v_presentCount v_nodes_count v_nodes_lotCount f_nodes_kind f_nodes_amount f_units f_came f_went f_drained f_reached f_present f_portion f_rest v_p1_count f_p1_from f_p1_to f_p1_amount f_p1_order) sz) (fun u : Int32 × (Nat → Int64) × (Nat → Int64) × (Nat → Int64) × (Nat → Int64) × (Nat → Int64) × (Nat → Int32) × (Nat → Int64) × (Nat → Int64) => wd_X3_replay cI cJ cZ a0 a_p1 a_nodes a_units a_came a_went a_drained a_reached a_present a_portion a_rest a_nodes_kind a_nodes_amount a_nodes_day a_nodes_held a_nodes_spot a_nodes_lotsByAge a_p1_from a_p1_to a_p1_amount a_p1_day a_p1_order (u.1) v_nodes_count v_nodes_lotCount f_nodes_kind f_nodes_amount (u.2.1) (u.2.2.1) (u.2.2.2.1) (u.2.2.2.2.1) (u.2.2.2.2.2.1) (u.2.2.2.2.2.2.1) (u.2.2.2.2.2.2.2.1) (u.2.2.2.2.2.2.2.2) v_p1_count f_p1_from f_p1_to f_p1_amount f_p1_order)) (va_A (wd_X3_replay cI cJ cZ a0 a_p1 a_nodes a_units a_came a_went a_drained a_reached a_present a_portion a_rest a_nodes_kind a_nodes_amount a_nodes_day a_nodes_held a_nodes_spot a_nodes_lotsByAge a_p1_from a_p1_to a_p1_amount a_p1_day a_p1_order v_presentCount v_nodes_count v_nodes_lotCount f_nodes_kind f_nodes_amount f_units f_came f_went f_drained f_reached f_present f_portion f_rest v_p1_count f_p1_from f_p1_to f_p1_amount f_p1_order) sz)) 0 0 (va_A (wd_X3_replay cI cJ cZ a0 a_p1 a_nodes a_units a_came a_went a_drained a_reached a_present a_portion a_rest a_nodes_kind a_nodes_amount a_nodes_day a_nodes_held a_nodes_spot a_nodes_lotsByAge a_p1_from a_p1_to a_p1_amount a_p1_day a_p1_order v_presentCount v_nodes_count v_nodes_lotCount f_nodes_kind f_nodes_amount f_units f_came f_went f_drained f_reached f_present f_portion f_rest v_p1_count f_p1_from f_p1_to f_p1_amount f_p1_order) sz) := by
  refine Met.ofW (cc := cX3_replay) (maxL := 4) (ret := (some .boolean)) (by decide) rfl ?_
  intro p e s m args below meth c s₁ B hml hv
  obtain ⟨hav, hsz, hP, hK, hD0⟩ := hv
  have hx := B.exec
  have hb := B.bytes
  have hr := B.returns
  have hts := atoms_spec (ws := wsX3_replay) B.pre
  have hown : s.vm.findClass RX3 = some m.cls := findClass_of_methodNamed B.named
  have hlocks := B.notSynchronized
  subst hsz
  have hD := hD0.self (sz := s.heap.size)
  clear hD0
  generalize hAe : va_A (wd_X3_replay cI cJ cZ a0 a_p1 a_nodes a_units a_came a_went a_drained a_reached a_present a_portion a_rest a_nodes_kind a_nodes_amount a_nodes_day a_nodes_held a_nodes_spot a_nodes_lotsByAge a_p1_from a_p1_to a_p1_amount a_p1_day a_p1_order v_presentCount v_nodes_count v_nodes_lotCount f_nodes_kind f_nodes_amount f_units f_came f_went f_drained f_reached f_present f_portion f_rest v_p1_count f_p1_from f_p1_to f_p1_amount f_p1_order) s.heap.size = A at hD ⊢
  have hA : ∀ q : Nat, s.heap.size ≤ q → A q := fun q h => by rw [← hAe]; exact Or.inr h
  clear hAe
  have hS : va_S A s.heap s.heap [] := va_S.rf
  have hl := lv_entry ([.ref a0, .ref a_p1]) (n := 4) (Nat.le_of_ble_eq_true rfl)
  subst hav
  rw [lg_entry_eq]
  generalize (lg_sl ([.ref a0, .ref a_p1]) ++ List.replicate (4 - (lg_sl ([.ref a0, .ref a_p1])).length) Slot.unset).toArray = ls at hl ⊢
  replace hl : lv_has ls 4 [(0, .ref a0), (1, .ref a_p1)] := hl
  clear B
  generalize (([.ref a0, .ref a_p1] : List Value)).toArray = av at hts ⊢
  suffices MAIN : ∀ Q : State → Prop, (∀ (v : Int32) (v_presentCount : Int32) (f_units : (Nat → Int64)) (f_came : (Nat → Int64)) (f_went : (Nat → Int64)) (f_drained : (Nat → Int64)) (f_reached : (Nat → Int64)) (f_present : (Nat → Int32)) (f_portion : (Nat → Int64)) (f_rest : (Nat → Int64)) (H : Heap) (locs : List Loc) (ls : Array Slot) (pc : Nat), vv_bo v → post v v_presentCount f_units f_came f_went f_drained f_reached f_present f_portion f_rest → va_P (dC, dI) vwCl (wd_X3_replay cI cJ cZ a0 a_p1 a_nodes a_units a_came a_went a_drained a_reached a_present a_portion a_rest a_nodes_kind a_nodes_amount a_nodes_day a_nodes_held a_nodes_spot a_nodes_lotsByAge a_p1_from a_p1_to a_p1_amount a_p1_day a_p1_order v_presentCount v_nodes_count v_nodes_lotCount f_nodes_kind f_nodes_amount f_units f_came f_went f_drained f_reached f_present f_portion f_rest v_p1_count f_p1_from f_p1_to f_p1_amount f_p1_order) H → va_D A (wd_X3_replay cI cJ cZ a0 a_p1 a_nodes a_units a_came a_went a_drained a_reached a_present a_portion a_rest a_nodes_kind a_nodes_amount a_nodes_day a_nodes_held a_nodes_spot a_nodes_lotsByAge a_p1_from a_p1_to a_p1_amount a_p1_day a_p1_order v_presentCount v_nodes_count v_nodes_lotCount f_nodes_kind f_nodes_amount f_units f_came f_went f_drained f_reached f_present f_portion f_rest v_p1_count f_p1_from f_p1_to f_p1_amount f_p1_order) → va_S A s.heap H locs → decode cX3_replay pc = .ok (.ireturn, 1) → W p l e rm_X3_replay s m av below meth c H locs 0 0 Q (F0 m pc ls [.int v])) → W p l e rm_X3_replay s m av below meth c s.heap [] 0 0 Q (F0 m 0 ls []) from MAIN _ (fun v v_presentCount f_units f_came f_went f_drained f_reached f_present f_portion f_rest H locs ls pc hbo h hP hD hS hd => vv_zret (v_presentCount, f_units, f_came, f_went, f_drained, f_reached, f_present, f_portion, f_rest) hx hb hr hlocks hbo h hK hP hD hS hd)
  intro Q RET
  have fl57 := hts (.fieldLink RX3 57 "LotFlows$Flows" "count" "I") (by decide +kernel)
  have fl60 := hts (.fieldLink RX3 60 "LotFlows$Flows" "order" "[I") (by decide +kernel)
  have fl63 := hts (.fieldLink RX3 63 "LotFlows$Flows" "amount" "[J") (by decide +kernel)
  have fl64 := hts (.fieldLink RX3 64 "LotFlows$Flows" "from" "[I") (by decide +kernel)
  have fl67 := hts (.fieldLink RX3 67 "LotFlows$Flows" "to" "[I") (by decide +kernel)
  have in_X0 : ∀ w ∈ wsX00, w ∈ wsX3_replay := by decide +kernel
  have bk_59 : ∀ (K6 : Int32 → Int32 → (Nat → Int64) → (Nat → Int64) → (Nat → Int64) → (Nat → Int64) → (Nat → Int64) → (Nat → Int32) → (Nat → Int64) → (Nat → Int64) → Prop), (∀ (x2 : Int32) (v_presentCount : Int32) (f_units : (Nat → Int64)) (f_came : (Nat → Int64)) (f_went : (Nat → Int64)) (f_drained : (Nat → Int64)) (f_reached : (Nat → Int64)) (f_present : (Nat → Int32)) (f_portion : (Nat → Int64)) (f_rest : (Nat → Int64)) (H : Heap) (locs : List Loc) (ls : Array Slot), va_P (dC, dI) vwCl (wd_X3_replay cI cJ cZ a0 a_p1 a_nodes a_units a_came a_went a_drained a_reached a_present a_portion a_rest a_nodes_kind a_nodes_amount a_nodes_day a_nodes_held a_nodes_spot a_nodes_lotsByAge a_p1_from a_p1_to a_p1_amount a_p1_day a_p1_order v_presentCount v_nodes_count v_nodes_lotCount f_nodes_kind f_nodes_amount f_units f_came f_went f_drained f_reached f_present f_portion f_rest v_p1_count f_p1_from f_p1_to f_p1_amount f_p1_order) H → va_D A (wd_X3_replay cI cJ cZ a0 a_p1 a_nodes a_units a_came a_went a_drained a_reached a_present a_portion a_rest a_nodes_kind a_nodes_amount a_nodes_day a_nodes_held a_nodes_spot a_nodes_lotsByAge a_p1_from a_p1_to a_p1_amount a_p1_day a_p1_order v_presentCount v_nodes_count v_nodes_lotCount f_nodes_kind f_nodes_amount f_units f_came f_went f_drained f_reached f_present f_portion f_rest v_p1_count f_p1_from f_p1_to f_p1_amount f_p1_order) → va_S A s.heap H locs → lv_has ls 4 [(0, .ref a0), (1, .ref a_p1), (2, .int x2)] → K6 x2 v_presentCount f_units f_came f_went f_drained f_reached f_present f_portion f_rest → W p l e rm_X3_replay s m av below meth c H locs 0 0 Q (F0 m 6 ls [])) → ∀ (x2 : Int32) (v_presentCount : Int32) (f_units : (Nat → Int64)) (f_came : (Nat → Int64)) (f_went : (Nat → Int64)) (f_drained : (Nat → Int64)) (f_reached : (Nat → Int64)) (f_present : (Nat → Int32)) (f_portion : (Nat → Int64)) (f_rest : (Nat → Int64)) (H : Heap) (locs : List Loc) (ls : Array Slot), va_P (dC, dI) vwCl (wd_X3_replay cI cJ cZ a0 a_p1 a_nodes a_units a_came a_went a_drained a_reached a_present a_portion a_rest a_nodes_kind a_nodes_amount a_nodes_day a_nodes_held a_nodes_spot a_nodes_lotsByAge a_p1_from a_p1_to a_p1_amount a_p1_day a_p1_order v_presentCount v_nodes_count v_nodes_lotCount f_nodes_kind f_nodes_amount f_units f_came f_went f_drained f_reached f_present f_portion f_rest v_p1_count f_p1_from f_p1_to f_p1_amount f_p1_order) H → va_D A (wd_X3_replay cI cJ cZ a0 a_p1 a_nodes a_units a_came a_went a_drained a_reached a_present a_portion a_rest a_nodes_kind a_nodes_amount a_nodes_day a_nodes_held a_nodes_spot a_nodes_lotsByAge a_p1_from a_p1_to a_p1_amount a_p1_day a_p1_order v_presentCount v_nodes_count v_nodes_lotCount f_nodes_kind f_nodes_amount f_units f_came f_went f_drained f_reached f_present f_portion f_rest v_p1_count f_p1_from f_p1_to f_p1_amount f_p1_order) → va_S A s.heap H locs → lv_has ls 4 [(0, .ref a0), (1, .ref a_p1), (2, .int x2)] → wb_X3_replay_59 post v_nodes_count v_nodes_lotCount f_nodes_kind f_nodes_amount v_p1_count f_p1_from f_p1_to f_p1_amount f_p1_order K6 x2 v_presentCount f_units f_came f_went f_drained f_reached f_present f_portion f_rest → W p l e rm_X3_replay s m av below meth c H locs 0 0 Q (F0 m 59 ls []) := by
    intro K6 hK6 x2 v_presentCount f_units f_came f_went f_drained f_reached f_present f_portion f_rest H locs ls hP hD hS hl h
    obtain ⟨x_26, ex_26⟩ : ∃ y : Int32, y = x2 + 1 := ⟨_, rfl⟩
    replace h := h x_26 ex_26
    refine lv_iinc (v := x_26) (lv' := [(2, .int x_26), (0, .ref a0), (1, .ref a_p1)]) hx hb dX3_replay_59 hl (k := 2) rfl (by rw [ex_26]; rfl) (by decide) rfl (fun ls hl => ?_)
    refine lv_goto (tgt := 6) hx hb dX3_replay_62 (by decide) ?_
    exact hK6 x_26 v_presentCount f_units f_came f_went f_drained f_reached f_present f_portion f_rest H locs ls hP hD hS (lv_sub hl [1, 2, 0] rfl) h
  have bk_6 : ∀ n : Nat, ∀ (x2 : Int32) (v_presentCount : Int32) (f_units : (Nat → Int64)) (f_came : (Nat → Int64)) (f_went : (Nat → Int64)) (f_drained : (Nat → Int64)) (f_reached : (Nat → Int64)) (f_present : (Nat → Int32)) (f_portion : (Nat → Int64)) (f_rest : (Nat → Int64)) (H : Heap) (locs : List Loc) (ls : Array Slot), va_P (dC, dI) vwCl (wd_X3_replay cI cJ cZ a0 a_p1 a_nodes a_units a_came a_went a_drained a_reached a_present a_portion a_rest a_nodes_kind a_nodes_amount a_nodes_day a_nodes_held a_nodes_spot a_nodes_lotsByAge a_p1_from a_p1_to a_p1_amount a_p1_day a_p1_order v_presentCount v_nodes_count v_nodes_lotCount f_nodes_kind f_nodes_amount f_units f_came f_went f_drained f_reached f_present f_portion f_rest v_p1_count f_p1_from f_p1_to f_p1_amount f_p1_order) H → va_D A (wd_X3_replay cI cJ cZ a0 a_p1 a_nodes a_units a_came a_went a_drained a_reached a_present a_portion a_rest a_nodes_kind a_nodes_amount a_nodes_day a_nodes_held a_nodes_spot a_nodes_lotsByAge a_p1_from a_p1_to a_p1_amount a_p1_day a_p1_order v_presentCount v_nodes_count v_nodes_lotCount f_nodes_kind f_nodes_amount f_units f_came f_went f_drained f_reached f_present f_portion f_rest v_p1_count f_p1_from f_p1_to f_p1_amount f_p1_order) → va_S A s.heap H locs → lv_has ls 4 [(0, .ref a0), (1, .ref a_p1), (2, .int x2)] → wb_X3_replay_6 post v_nodes_count v_nodes_lotCount f_nodes_kind f_nodes_amount v_p1_count f_p1_from f_p1_to f_p1_amount f_p1_order n x2 v_presentCount f_units f_came f_went f_drained f_reached f_present f_portion f_rest → W p l e rm_X3_replay s m av below meth c H locs 0 0 Q (F0 m 6 ls []) := by
    intro n
    induction n with
    | zero =>
      intro x2 v_presentCount f_units f_came f_went f_drained f_reached f_present f_portion f_rest H locs ls hP hD hS hl h
      exact False.elim h
    | succ n ih6 =>
      intro x2 v_presentCount f_units f_came f_went f_drained f_reached f_present f_portion f_rest H locs ls hP hD hS hl h
      refine lv_iload_n hx hb dX3_replay_6 rfl (lv_at hl 2 rfl) ?_
      refine lv_aload_n hx hb dX3_replay_7 rfl (lv_at hl 1 rfl) ?_
      refine va_get (D := (dC, dI)) (ci := 0) (v := .int v_p1_count) (C := RX0) (T := TX0) (N := 6) hx hb hts in_X0 hown hK hP 12 rfl rfl 0 (by decide) fl57 (fun _ h9 => h9) rfl dX3_replay_8 ?_
      refine lv_icmp_ge (tgt := 65) hx hb dX3_replay_11 (by decide) (fun c_7 => ?_) (fun c_7 => ?_)
      · replace h := h.1 c_7
        refine lv_iconst (v := 1) hx hb dX3_replay_65 (by decide) ?_
        exact RET 1 v_presentCount f_units f_came f_went f_drained f_reached f_present f_portion f_rest H locs ls 66 vv_bo1 h hP hD hS dX3_replay_66
      · replace h := h.2 c_7
        refine lv_aload_n hx hb dX3_replay_14 rfl (lv_at hl 1 rfl) ?_
        refine va_get (D := (dC, dI)) (ci := 0) (v := .ref a_p1_order) (C := RX0) (T := TX0) (N := 6) hx hb hts in_X0 hown hK hP 12 rfl rfl 5 (by decide) fl60 (fun _ h9 => h9) rfl dX3_replay_15 ?_
        refine lv_iload_n hx hb dX3_replay_18 rfl (lv_at hl 2 rfl) ?_
        obtain ⟨hi_8, h⟩ := h
        refine va_iald hx hb hK hP 16 0 rfl rfl hi_8 dX3_replay_19 ?_
        refine lv_topi (fun x_9 ex_9 => ?_)
        replace h := h x_9 ex_9
        refine lv_istore_n (lv' := [(3, .int x_9), (0, .ref a0), (1, .ref a_p1), (2, .int x2)]) hx hb dX3_replay_20 rfl hl (by decide) rfl (fun ls hl => ?_)
        refine lv_aload_n hx hb dX3_replay_21 rfl (lv_at hl 2 rfl) ?_
        refine va_get (D := (dC, dI)) (ci := 0) (v := .ref a_p1_amount) (C := RX0) (T := TX0) (N := 6) hx hb hts in_X0 hown hK hP 12 rfl rfl 3 (by decide) fl63 (fun _ h9 => h9) rfl dX3_replay_22 ?_
        refine lv_iload_n hx hb dX3_replay_25 rfl (lv_at hl 0 rfl) ?_
        obtain ⟨hi_10, h⟩ := h
        refine va_lald hx hb hK hP 15 1 rfl rfl hi_10 dX3_replay_26 ?_
        refine lv_lconst (v := 0) hx hb dX3_replay_27 (by decide) ?_
        refine vv_lcmp_le (tgt := 59) hx hb dX3_replay_28 dX3_replay_29 (by decide) (fun c_11 => ?_) (fun c_11 => ?_)
        · replace h := h.1 c_11
          exact bk_59 (wb_X3_replay_6 post v_nodes_count v_nodes_lotCount f_nodes_kind f_nodes_amount v_p1_count f_p1_from f_p1_to f_p1_amount f_p1_order n) ih6 x2 v_presentCount f_units f_came f_went f_drained f_reached f_present f_portion f_rest H locs ls hP hD hS (lv_sub hl [1, 2, 3] rfl) h
        · replace h := h.2 c_11
          refine lv_aload_n hx hb dX3_replay_32 rfl (lv_at hl 1 rfl) ?_
          refine lv_aload_n hx hb dX3_replay_33 rfl (lv_at hl 2 rfl) ?_
          refine va_get (D := (dC, dI)) (ci := 0) (v := .ref a_p1_from) (C := RX0) (T := TX0) (N := 6) hx hb hts in_X0 hown hK hP 12 rfl rfl 1 (by decide) fl64 (fun _ h9 => h9) rfl dX3_replay_34 ?_
          refine lv_iload_n hx hb dX3_replay_37 rfl (lv_at hl 0 rfl) ?_
          obtain ⟨hi_12, h⟩ := h
          refine va_iald hx hb hK hP 13 0 rfl rfl hi_12 dX3_replay_38 ?_
          refine lv_aload_n hx hb dX3_replay_39 rfl (lv_at hl 2 rfl) ?_
          refine va_get (D := (dC, dI)) (ci := 0) (v := .ref a_p1_to) (C := RX0) (T := TX0) (N := 6) hx hb hts in_X0 hown hK hP 12 rfl rfl 2 (by decide) fl67 (fun _ h9 => h9) rfl dX3_replay_40 ?_
          refine lv_iload_n hx hb dX3_replay_43 rfl (lv_at hl 0 rfl) ?_
          obtain ⟨hi_13, h⟩ := h
          refine va_iald hx hb hK hP 14 0 rfl rfl hi_13 dX3_replay_44 ?_
          refine lv_aload_n hx hb dX3_replay_45 rfl (lv_at hl 2 rfl) ?_
          refine va_get (D := (dC, dI)) (ci := 0) (v := .ref a_p1_amount) (C := RX0) (T := TX0) (N := 6) hx hb hts in_X0 hown hK hP 12 rfl rfl 3 (by decide) fl63 (fun _ h9 => h9) rfl dX3_replay_46 ?_
          refine lv_iload_n hx hb dX3_replay_49 rfl (lv_at hl 0 rfl) ?_
          obtain ⟨hi_14, h⟩ := h
          refine va_lald hx hb hK hP 15 1 rfl rfl hi_14 dX3_replay_50 ?_
          refine vv_goi [0, 1, 2, 4, 5, 6, 7, 8, 9, 10, 11] [3, 12, 13, 14, 15, 16] [(a_nodes_amount, .inl (cJ, 48, .inr (.inl f_nodes_amount))), (a_p1, .inr (0, [.int v_p1_count, .ref a_p1_from, .ref a_p1_to, .ref a_p1_amount, .ref a_p1_day, .ref a_p1_order])), (a_p1_from, .inl (cI, 400, .inl f_p1_from)), (a_p1_to, .inl (cI, 400, .inl f_p1_to)), (a_p1_amount, .inl (cJ, 400, .inr (.inl f_p1_amount))), (a_p1_order, .inl (cI, 400, .inl f_p1_order))] [6, 7, 8, 0, 9, 10, 11, 12, 13, 14, 15, 16, 1, 2, 3, 4, 5] (fun u => wd_X3_replay cI cJ cZ a0 a_p1 a_nodes a_units a_came a_went a_drained a_reached a_present a_portion a_rest a_nodes_kind a_nodes_amount a_nodes_day a_nodes_held a_nodes_spot a_nodes_lotsByAge a_p1_from a_p1_to a_p1_amount a_p1_day a_p1_order (u.1) v_nodes_count v_nodes_lotCount f_nodes_kind f_nodes_amount (u.2.1) (u.2.2.1) (u.2.2.2.1) (u.2.2.2.2.1) (u.2.2.2.2.2.1) (u.2.2.2.2.2.2.1) (u.2.2.2.2.2.2.2.1) (u.2.2.2.2.2.2.2.2) v_p1_count f_p1_from f_p1_to f_p1_amount f_p1_order) (vv_rv (rest := []) (ci := 3) ⟨hx, hb, hml, hown, hts⟩ (cw_X3_move l dC dI cI cJ cZ a0 a_nodes a_units a_came a_went a_drained a_reached a_present a_portion a_rest a_nodes_kind a_nodes_amount a_nodes_day a_nodes_held a_nodes_spot a_nodes_lotsByAge (H.size) v_presentCount v_nodes_count v_nodes_lotCount f_nodes_kind f_units f_came f_went f_drained f_reached f_present f_portion f_rest (f_p1_from x_9.toNatClampNeg) (f_p1_to x_9.toNatClampNeg) (f_p1_amount x_9.toNatClampNeg) _ h) (cwV 3 hts gX3_replay_X3_move rfl rfl rfl (by decide +kernel) ⟨Nat.le_of_ble_eq_true rfl, Nat.le_of_ble_eq_true rfl⟩) hK hP hD [0, 1, 2, 4, 5, 6, 7, 8, 9, 10, 11] rfl (by decide) rfl rfl rfl hl.1 rfl (Nat.le_of_ble_eq_true rfl) dX3_replay_51 ⟨Nat.le_of_ble_eq_true rfl, Nat.le_of_ble_eq_true rfl⟩) hP hD hS hA rfl rfl (by decide) (by decide) (fun _ => rfl) (by decide) (fun r_24 u H locs h hP hD hS => ?_)
          obtain ⟨v_presentCount_15, f_units_16, f_came_17, f_went_18, f_drained_19, f_reached_20, f_present_21, f_portion_22, f_rest_23⟩ := u
          replace hP : va_P (dC, dI) vwCl (wd_X3_replay cI cJ cZ a0 a_p1 a_nodes a_units a_came a_went a_drained a_reached a_present a_portion a_rest a_nodes_kind a_nodes_amount a_nodes_day a_nodes_held a_nodes_spot a_nodes_lotsByAge a_p1_from a_p1_to a_p1_amount a_p1_day a_p1_order v_presentCount_15 v_nodes_count v_nodes_lotCount f_nodes_kind f_nodes_amount f_units_16 f_came_17 f_went_18 f_drained_19 f_reached_20 f_present_21 f_portion_22 f_rest_23 v_p1_count f_p1_from f_p1_to f_p1_amount f_p1_order) H := hP
          replace hD : va_D A (wd_X3_replay cI cJ cZ a0 a_p1 a_nodes a_units a_came a_went a_drained a_reached a_present a_portion a_rest a_nodes_kind a_nodes_amount a_nodes_day a_nodes_held a_nodes_spot a_nodes_lotsByAge a_p1_from a_p1_to a_p1_amount a_p1_day a_p1_order v_presentCount_15 v_nodes_count v_nodes_lotCount f_nodes_kind f_nodes_amount f_units_16 f_came_17 f_went_18 f_drained_19 f_reached_20 f_present_21 f_portion_22 f_rest_23 v_p1_count f_p1_from f_p1_to f_p1_amount f_p1_order) := hD
          refine lv_if_ne (tgt := 59) hx hb dX3_replay_54 (by decide) (fun c_25 => ?_) (fun c_25 => ?_)
          · replace h := h.1 c_25
            exact bk_59 (wb_X3_replay_6 post v_nodes_count v_nodes_lotCount f_nodes_kind f_nodes_amount v_p1_count f_p1_from f_p1_to f_p1_amount f_p1_order n) ih6 x2 v_presentCount_15 f_units_16 f_came_17 f_went_18 f_drained_19 f_reached_20 f_present_21 f_portion_22 f_rest_23 H locs ls hP hD hS (lv_sub hl [1, 2, 3] rfl) h
          · replace h := h.2 c_25
            refine lv_iconst (v := 0) hx hb dX3_replay_57 (by decide) ?_
            exact RET 0 v_presentCount_15 f_units_16 f_came_17 f_went_18 f_drained_19 f_reached_20 f_present_21 f_portion_22 f_rest_23 H locs ls 58 vv_bo0 h hP hD hS dX3_replay_58
  suffices START : ∀ (H : Heap) (locs : List Loc), va_P (dC, dI) vwCl (wd_X3_replay cI cJ cZ a0 a_p1 a_nodes a_units a_came a_went a_drained a_reached a_present a_portion a_rest a_nodes_kind a_nodes_amount a_nodes_day a_nodes_held a_nodes_spot a_nodes_lotsByAge a_p1_from a_p1_to a_p1_amount a_p1_day a_p1_order v_presentCount v_nodes_count v_nodes_lotCount f_nodes_kind f_nodes_amount f_units f_came f_went f_drained f_reached f_present f_portion f_rest v_p1_count f_p1_from f_p1_to f_p1_amount f_p1_order) H → va_D A (wd_X3_replay cI cJ cZ a0 a_p1 a_nodes a_units a_came a_went a_drained a_reached a_present a_portion a_rest a_nodes_kind a_nodes_amount a_nodes_day a_nodes_held a_nodes_spot a_nodes_lotsByAge a_p1_from a_p1_to a_p1_amount a_p1_day a_p1_order v_presentCount v_nodes_count v_nodes_lotCount f_nodes_kind f_nodes_amount f_units f_came f_went f_drained f_reached f_present f_portion f_rest v_p1_count f_p1_from f_p1_to f_p1_amount f_p1_order) → va_S A s.heap H locs → W p l e rm_X3_replay s m av below meth c H locs 0 0 Q (F0 m 0 ls []) from START s.heap [] hP hD hS
  clear hP hD hS
  intro H locs hP hD hS
  refine lv_aload_n hx hb dX3_replay_0 rfl (lv_at hl 0 rfl) ?_
  refine vv_gov [0, 1, 2, 3, 4, 5, 6, 7, 8] [9, 10, 11, 12, 13, 14, 15, 16] [(a_present, .inl (cI, 48, .inl f_present)), (a_portion, .inl (cJ, 48, .inr (.inl f_portion))), (a_rest, .inl (cJ, 48, .inr (.inl f_rest))), (a_p1, .inr (0, [.int v_p1_count, .ref a_p1_from, .ref a_p1_to, .ref a_p1_amount, .ref a_p1_day, .ref a_p1_order])), (a_p1_from, .inl (cI, 400, .inl f_p1_from)), (a_p1_to, .inl (cI, 400, .inl f_p1_to)), (a_p1_amount, .inl (cJ, 400, .inr (.inl f_p1_amount))), (a_p1_order, .inl (cI, 400, .inl f_p1_order))] [8, 9, 10, 11, 12, 13, 14, 15, 16, 0, 1, 2, 3, 4, 5, 6, 7] (fun u => wd_X3_replay cI cJ cZ a0 a_p1 a_nodes a_units a_came a_went a_drained a_reached a_present a_portion a_rest a_nodes_kind a_nodes_amount a_nodes_day a_nodes_held a_nodes_spot a_nodes_lotsByAge a_p1_from a_p1_to a_p1_amount a_p1_day a_p1_order v_presentCount v_nodes_count v_nodes_lotCount f_nodes_kind f_nodes_amount (u.1) (u.2.1) (u.2.2.1) (u.2.2.2.1) (u.2.2.2.2) f_present f_portion f_rest v_p1_count f_p1_from f_p1_to f_p1_amount f_p1_order) (vv_rv (rest := []) (ci := 3) ⟨hx, hb, hml, hown, hts⟩ (cw_X3_clear l dC dI cI cJ cZ a0 a_nodes a_units a_came a_went a_drained a_reached a_present a_portion a_rest a_nodes_kind a_nodes_amount a_nodes_day a_nodes_held a_nodes_spot a_nodes_lotsByAge (H.size) v_presentCount v_nodes_count v_nodes_lotCount f_nodes_kind f_nodes_amount f_units f_came f_went f_drained f_reached _ h) (cwV 0 hts gX3_replay_X3_clear rfl rfl rfl (by decide +kernel) ⟨Nat.le_of_ble_eq_true rfl, Nat.le_of_ble_eq_true rfl⟩) hK hP hD [0, 1, 2, 3, 4, 5, 6, 7, 8] rfl (by decide) rfl rfl rfl hl.1 rfl (Nat.le_of_ble_eq_true rfl) dX3_replay_1 ⟨Nat.le_of_ble_eq_true rfl, Nat.le_of_ble_eq_true rfl⟩) hP hD hS hA rfl rfl (by decide) (by decide) (fun _ => rfl) (by decide) (fun u H locs h hP hD hS => ?_)
  obtain ⟨f_units_1, f_came_2, f_went_3, f_drained_4, f_reached_5⟩ := u
  replace hP : va_P (dC, dI) vwCl (wd_X3_replay cI cJ cZ a0 a_p1 a_nodes a_units a_came a_went a_drained a_reached a_present a_portion a_rest a_nodes_kind a_nodes_amount a_nodes_day a_nodes_held a_nodes_spot a_nodes_lotsByAge a_p1_from a_p1_to a_p1_amount a_p1_day a_p1_order v_presentCount v_nodes_count v_nodes_lotCount f_nodes_kind f_nodes_amount f_units_1 f_came_2 f_went_3 f_drained_4 f_reached_5 f_present f_portion f_rest v_p1_count f_p1_from f_p1_to f_p1_amount f_p1_order) H := hP
  replace hD : va_D A (wd_X3_replay cI cJ cZ a0 a_p1 a_nodes a_units a_came a_went a_drained a_reached a_present a_portion a_rest a_nodes_kind a_nodes_amount a_nodes_day a_nodes_held a_nodes_spot a_nodes_lotsByAge a_p1_from a_p1_to a_p1_amount a_p1_day a_p1_order v_presentCount v_nodes_count v_nodes_lotCount f_nodes_kind f_nodes_amount f_units_1 f_came_2 f_went_3 f_drained_4 f_reached_5 f_present f_portion f_rest v_p1_count f_p1_from f_p1_to f_p1_amount f_p1_order) := hD
  refine lv_iconst (v := 0) hx hb dX3_replay_4 (by decide) ?_
  refine lv_istore_n (lv' := [(2, .int 0), (0, .ref a0), (1, .ref a_p1)]) hx hb dX3_replay_5 rfl hl (by decide) rfl (fun ls hl => ?_)
  obtain ⟨n_6, h⟩ := h
  exact bk_6 n_6 0 v_presentCount f_units_1 f_came_2 f_went_3 f_drained_4 f_reached_5 f_present f_portion f_rest H locs ls hP hD hS (lv_sub hl [1, 2, 0] rfl) h

abbrev wd_X3_differs (cI cJ cZ : ClassId) (a0 a_p1 a_nodes a_units a_came a_went a_drained a_reached a_present a_portion a_rest a_nodes_kind a_nodes_amount a_nodes_day a_nodes_held a_nodes_spot a_nodes_lotsByAge a_p1_units a_p1_came a_p1_went a_p1_drained a_p1_reached a_p1_present a_p1_portion a_p1_rest : Nat) (v_presentCount : Int32) (v_nodes_count : Int32) (v_nodes_lotCount : Int32) (f_units : (Nat → Int64)) (v_p1_presentCount : Int32) (f_p1_units : (Nat → Int64)) : va_W := [(a0, .inr (3, [.ref a_nodes, .ref a_units, .ref a_came, .ref a_went, .ref a_drained, .ref a_reached, .ref a_present, .ref a_portion, .ref a_rest, .int v_presentCount])), (a_nodes, .inr (1, [.int v_nodes_count, .int v_nodes_lotCount, .ref a_nodes_kind, .ref a_nodes_amount, .ref a_nodes_day, .ref a_nodes_held, .ref a_nodes_spot, .ref a_nodes_lotsByAge])), (a_units, .inl (cJ, 2304, .inr (.inl f_units))), (a_p1, .inr (3, [.ref a_nodes, .ref a_p1_units, .ref a_p1_came, .ref a_p1_went, .ref a_p1_drained, .ref a_p1_reached, .ref a_p1_present, .ref a_p1_portion, .ref a_p1_rest, .int v_p1_presentCount])), (a_p1_units, .inl (cJ, 2304, .inr (.inl f_p1_units)))]
abbrev rm_X3_differs : Room := { frames := 1, cells := 0, slots := 0, locals := 22 }
def wb_X3_differs_2 (post : Int32 → Prop) (v_presentCount : Int32) (v_nodes_count : Int32) (v_nodes_lotCount : Int32) (f_units : (Nat → Int64)) (v_p1_presentCount : Int32) (f_p1_units : (Nat → Int64)) : Nat → Int32 → Int32 → Prop
  | 0 => fun _ _ => False
  | n + 1 => fun x2 x3 => ((v_nodes_count ≤ x3 → post 0) ∧ (¬ v_nodes_count ≤ x3 → (wp_X3_unitsOf (fun r_2 => wp_X3_unitsOf (fun r_3 => ((r_2 = r_3 → (∀ x_5 : Int32, x_5 = x3 + 1 → wb_X3_differs_2 post v_presentCount v_nodes_count v_nodes_lotCount f_units v_p1_presentCount f_p1_units  n x2 x_5)) ∧ (¬ r_2 = r_3 → post 1))) v_p1_presentCount f_p1_units x2 x3) v_presentCount f_units x2 x3)))
def wp_X3_differs (post : Int32 → Prop) (v_presentCount : Int32) (v_nodes_count : Int32) (v_nodes_lotCount : Int32) (f_units : (Nat → Int64)) (v_p1_presentCount : Int32) (f_p1_units : (Nat → Int64)) (p2 : Int32) : Prop := (∃ n_2 : Nat, wb_X3_differs_2 post v_presentCount v_nodes_count v_nodes_lotCount f_units v_p1_presentCount f_p1_units n_2 p2 0)
set_option maxHeartbeats 4000000 in
set_option maxRecDepth 100000 in
theorem cw_X3_differs (l : Launch) (dC : Nat → ClassId) (dI : Nat → Nat → Nat) (cI cJ cZ : ClassId) (a0 a_p1 a_nodes a_units a_came a_went a_drained a_reached a_present a_portion a_rest a_nodes_kind a_nodes_amount a_nodes_day a_nodes_held a_nodes_spot a_nodes_lotsByAge a_p1_units a_p1_came a_p1_went a_p1_drained a_p1_reached a_p1_present a_p1_portion a_p1_rest : Nat) (sz : Nat) (v_presentCount : Int32) (v_nodes_count : Int32) (v_nodes_lotCount : Int32) (f_units : (Nat → Int64)) (v_p1_presentCount : Int32) (f_p1_units : (Nat → Int64)) (p2 : Int32) (post : Int32 → Prop) (h : wp_X3_differs post v_presentCount v_nodes_count v_nodes_lotCount f_units v_p1_presentCount f_p1_units p2) : Met l yX3_differs wsX3_differs rm_X3_differs (va_Pc [.ref a0, .ref a_p1, .int p2] (vv_B (dC, dI) (vv_ty cI cJ cZ) (wd_X3_differs cI cJ cZ a0 a_p1 a_nodes a_units a_came a_went a_drained a_reached a_present a_portion a_rest a_nodes_kind a_nodes_amount a_nodes_day a_nodes_held a_nodes_spot a_nodes_lotsByAge a_p1_units a_p1_came a_p1_went a_p1_drained a_p1_reached a_p1_present a_p1_portion a_p1_rest v_presentCount v_nodes_count v_nodes_lotCount f_units v_p1_presentCount f_p1_units) sz)) (va_Qi (fun r (_u : Unit) => post r) (vv_E (dC, dI) (vv_ty cI cJ cZ) (va_A (wd_X3_differs cI cJ cZ a0 a_p1 a_nodes a_units a_came a_went a_drained a_reached a_present a_portion a_rest a_nodes_kind a_nodes_amount a_nodes_day a_nodes_held a_nodes_spot a_nodes_lotsByAge a_p1_units a_p1_came a_p1_went a_p1_drained a_p1_reached a_p1_present a_p1_portion a_p1_rest v_presentCount v_nodes_count v_nodes_lotCount f_units v_p1_presentCount f_p1_units) sz) (fun _u : Unit => wd_X3_differs cI cJ cZ a0 a_p1 a_nodes a_units a_came a_went a_drained a_reached a_present a_portion a_rest a_nodes_kind a_nodes_amount a_nodes_day a_nodes_held a_nodes_spot a_nodes_lotsByAge a_p1_units a_p1_came a_p1_went a_p1_drained a_p1_reached a_p1_present a_p1_portion a_p1_rest v_presentCount v_nodes_count v_nodes_lotCount f_units v_p1_presentCount f_p1_units)) (va_A (wd_X3_differs cI cJ cZ a0 a_p1 a_nodes a_units a_came a_went a_drained a_reached a_present a_portion a_rest a_nodes_kind a_nodes_amount a_nodes_day a_nodes_held a_nodes_spot a_nodes_lotsByAge a_p1_units a_p1_came a_p1_went a_p1_drained a_p1_reached a_p1_present a_p1_portion a_p1_rest v_presentCount v_nodes_count v_nodes_lotCount f_units v_p1_presentCount f_p1_units) sz)) 0 0 (va_A (wd_X3_differs cI cJ cZ a0 a_p1 a_nodes a_units a_came a_went a_drained a_reached a_present a_portion a_rest a_nodes_kind a_nodes_amount a_nodes_day a_nodes_held a_nodes_spot a_nodes_lotsByAge a_p1_units a_p1_came a_p1_went a_p1_drained a_p1_reached a_p1_present a_p1_portion a_p1_rest v_presentCount v_nodes_count v_nodes_lotCount f_units v_p1_presentCount f_p1_units) sz) := by
  refine Met.ofW (cc := cX3_differs) (maxL := 4) (ret := (some .boolean)) (by decide) rfl ?_
  intro p e s m args below meth c s₁ B hml hv
  obtain ⟨hav, hsz, hP, hK, hD0⟩ := hv
  have hx := B.exec
  have hb := B.bytes
  have hr := B.returns
  have hts := atoms_spec (ws := wsX3_differs) B.pre
  have hown : s.vm.findClass RX3 = some m.cls := findClass_of_methodNamed B.named
  have hlocks := B.notSynchronized
  subst hsz
  have hD := hD0.self (sz := s.heap.size)
  clear hD0
  generalize hAe : va_A (wd_X3_differs cI cJ cZ a0 a_p1 a_nodes a_units a_came a_went a_drained a_reached a_present a_portion a_rest a_nodes_kind a_nodes_amount a_nodes_day a_nodes_held a_nodes_spot a_nodes_lotsByAge a_p1_units a_p1_came a_p1_went a_p1_drained a_p1_reached a_p1_present a_p1_portion a_p1_rest v_presentCount v_nodes_count v_nodes_lotCount f_units v_p1_presentCount f_p1_units) s.heap.size = A at hD ⊢
  have hA : ∀ q : Nat, s.heap.size ≤ q → A q := fun q h => by rw [← hAe]; exact Or.inr h
  clear hAe
  have hS : va_S A s.heap s.heap [] := va_S.rf
  have hl := lv_entry ([.ref a0, .ref a_p1, .int p2]) (n := 4) (Nat.le_of_ble_eq_true rfl)
  subst hav
  rw [lg_entry_eq]
  generalize (lg_sl ([.ref a0, .ref a_p1, .int p2]) ++ List.replicate (4 - (lg_sl ([.ref a0, .ref a_p1, .int p2])).length) Slot.unset).toArray = ls at hl ⊢
  replace hl : lv_has ls 4 [(0, .ref a0), (1, .ref a_p1), (2, .int p2)] := hl
  clear B
  generalize (([.ref a0, .ref a_p1, .int p2] : List Value)).toArray = av at hts ⊢
  suffices MAIN : ∀ Q : State → Prop, (∀ (v : Int32) (H : Heap) (locs : List Loc) (ls : Array Slot) (pc : Nat), vv_bo v → post v → va_P (dC, dI) vwCl (wd_X3_differs cI cJ cZ a0 a_p1 a_nodes a_units a_came a_went a_drained a_reached a_present a_portion a_rest a_nodes_kind a_nodes_amount a_nodes_day a_nodes_held a_nodes_spot a_nodes_lotsByAge a_p1_units a_p1_came a_p1_went a_p1_drained a_p1_reached a_p1_present a_p1_portion a_p1_rest v_presentCount v_nodes_count v_nodes_lotCount f_units v_p1_presentCount f_p1_units) H → va_D A (wd_X3_differs cI cJ cZ a0 a_p1 a_nodes a_units a_came a_went a_drained a_reached a_present a_portion a_rest a_nodes_kind a_nodes_amount a_nodes_day a_nodes_held a_nodes_spot a_nodes_lotsByAge a_p1_units a_p1_came a_p1_went a_p1_drained a_p1_reached a_p1_present a_p1_portion a_p1_rest v_presentCount v_nodes_count v_nodes_lotCount f_units v_p1_presentCount f_p1_units) → va_S A s.heap H locs → decode cX3_differs pc = .ok (.ireturn, 1) → W p l e rm_X3_differs s m av below meth c H locs 0 0 Q (F0 m pc ls [.int v])) → W p l e rm_X3_differs s m av below meth c s.heap [] 0 0 Q (F0 m 0 ls []) from MAIN _ (fun v H locs ls pc hbo h hP hD hS hd => vv_zret () hx hb hr hlocks hbo h hK hP hD hS hd)
  intro Q RET
  have fl37 := hts (.fieldLink RX3 37 "LotFlows$Stock" "nodes" "LLotFlows$Nodes;") (by decide +kernel)
  have fl41 := hts (.fieldLink RX3 41 "LotFlows$Nodes" "count" "I") (by decide +kernel)
  have in_X1 : ∀ w ∈ wsX10, w ∈ wsX3_differs := by decide +kernel
  have in_X3 : ∀ w ∈ wsX30, w ∈ wsX3_differs := by decide +kernel
  have bk_2 : ∀ n : Nat, ∀ (x2 : Int32) (x3 : Int32) (H : Heap) (locs : List Loc) (ls : Array Slot), va_P (dC, dI) vwCl (wd_X3_differs cI cJ cZ a0 a_p1 a_nodes a_units a_came a_went a_drained a_reached a_present a_portion a_rest a_nodes_kind a_nodes_amount a_nodes_day a_nodes_held a_nodes_spot a_nodes_lotsByAge a_p1_units a_p1_came a_p1_went a_p1_drained a_p1_reached a_p1_present a_p1_portion a_p1_rest v_presentCount v_nodes_count v_nodes_lotCount f_units v_p1_presentCount f_p1_units) H → va_D A (wd_X3_differs cI cJ cZ a0 a_p1 a_nodes a_units a_came a_went a_drained a_reached a_present a_portion a_rest a_nodes_kind a_nodes_amount a_nodes_day a_nodes_held a_nodes_spot a_nodes_lotsByAge a_p1_units a_p1_came a_p1_went a_p1_drained a_p1_reached a_p1_present a_p1_portion a_p1_rest v_presentCount v_nodes_count v_nodes_lotCount f_units v_p1_presentCount f_p1_units) → va_S A s.heap H locs → lv_has ls 4 [(0, .ref a0), (1, .ref a_p1), (2, .int x2), (3, .int x3)] → wb_X3_differs_2 post v_presentCount v_nodes_count v_nodes_lotCount f_units v_p1_presentCount f_p1_units n x2 x3 → W p l e rm_X3_differs s m av below meth c H locs 0 0 Q (F0 m 2 ls []) := by
    intro n
    induction n with
    | zero =>
      intro x2 x3 H locs ls hP hD hS hl h
      exact False.elim h
    | succ n ih2 =>
      intro x2 x3 H locs ls hP hD hS hl h
      refine lv_iload_n hx hb dX3_differs_2 rfl (lv_at hl 3 rfl) ?_
      refine lv_aload_n hx hb dX3_differs_3 rfl (lv_at hl 0 rfl) ?_
      refine va_get (D := (dC, dI)) (ci := 3) (v := .ref a_nodes) (C := RX3) (T := TX3) (N := 10) hx hb hts in_X3 hown hK hP 0 rfl rfl 0 (by decide) fl37 (fun _ h9 => h9) rfl dX3_differs_4 ?_
      refine va_get (D := (dC, dI)) (ci := 1) (v := .int v_nodes_count) (C := RX1) (T := TX1) (N := 8) hx hb hts in_X1 hown hK hP 1 rfl rfl 0 (by decide) fl41 (fun _ h9 => h9) rfl dX3_differs_7 ?_
      refine lv_icmp_ge (tgt := 37) hx hb dX3_differs_10 (by decide) (fun c_1 => ?_) (fun c_1 => ?_)
      · replace h := h.1 c_1
        refine lv_iconst (v := 0) hx hb dX3_differs_37 (by decide) ?_
        exact RET 0 H locs ls 38 vv_bo0 h hP hD hS dX3_differs_38
      · replace h := h.2 c_1
        refine lv_aload_n hx hb dX3_differs_13 rfl (lv_at hl 0 rfl) ?_
        refine lv_iload_n hx hb dX3_differs_14 rfl (lv_at hl 2 rfl) ?_
        refine lv_iload_n hx hb dX3_differs_15 rfl (lv_at hl 3 rfl) ?_
        refine vv_gol [0, 2] [1, 3, 4] [(a_nodes, .inr (1, [.int v_nodes_count, .int v_nodes_lotCount, .ref a_nodes_kind, .ref a_nodes_amount, .ref a_nodes_day, .ref a_nodes_held, .ref a_nodes_spot, .ref a_nodes_lotsByAge])), (a_p1, .inr (3, [.ref a_nodes, .ref a_p1_units, .ref a_p1_came, .ref a_p1_went, .ref a_p1_drained, .ref a_p1_reached, .ref a_p1_present, .ref a_p1_portion, .ref a_p1_rest, .int v_p1_presentCount])), (a_p1_units, .inl (cJ, 2304, .inr (.inl f_p1_units)))] [3, 0, 4, 1, 2] (fun _ => wd_X3_differs cI cJ cZ a0 a_p1 a_nodes a_units a_came a_went a_drained a_reached a_present a_portion a_rest a_nodes_kind a_nodes_amount a_nodes_day a_nodes_held a_nodes_spot a_nodes_lotsByAge a_p1_units a_p1_came a_p1_went a_p1_drained a_p1_reached a_p1_present a_p1_portion a_p1_rest v_presentCount v_nodes_count v_nodes_lotCount f_units v_p1_presentCount f_p1_units) (vv_rv (rest := []) (ci := 3) ⟨hx, hb, hml, hown, hts⟩ (cw_X3_unitsOf l dC dI cI cJ cZ a0 a_nodes a_units a_came a_went a_drained a_reached a_present a_portion a_rest (H.size) v_presentCount f_units x2 x3 _ h) (cwV 2 hts gX3_differs_X3_unitsOf rfl rfl rfl (by decide +kernel) ⟨Nat.le_of_ble_eq_true rfl, Nat.le_of_ble_eq_true rfl⟩) hK hP hD [0, 2] rfl (by decide) rfl rfl rfl hl.1 rfl (Nat.le_of_ble_eq_true rfl) dX3_differs_16 ⟨Nat.le_of_ble_eq_true rfl, Nat.le_of_ble_eq_true rfl⟩) hP hD hS hA rfl rfl (by decide) (by decide) (fun _ => rfl) (by decide) (fun r_2 _ H locs h hP hD hS => ?_)
        replace hP : va_P (dC, dI) vwCl (wd_X3_differs cI cJ cZ a0 a_p1 a_nodes a_units a_came a_went a_drained a_reached a_present a_portion a_rest a_nodes_kind a_nodes_amount a_nodes_day a_nodes_held a_nodes_spot a_nodes_lotsByAge a_p1_units a_p1_came a_p1_went a_p1_drained a_p1_reached a_p1_present a_p1_portion a_p1_rest v_presentCount v_nodes_count v_nodes_lotCount f_units v_p1_presentCount f_p1_units) H := hP
        replace hD : va_D A (wd_X3_differs cI cJ cZ a0 a_p1 a_nodes a_units a_came a_went a_drained a_reached a_present a_portion a_rest a_nodes_kind a_nodes_amount a_nodes_day a_nodes_held a_nodes_spot a_nodes_lotsByAge a_p1_units a_p1_came a_p1_went a_p1_drained a_p1_reached a_p1_present a_p1_portion a_p1_rest v_presentCount v_nodes_count v_nodes_lotCount f_units v_p1_presentCount f_p1_units) := hD
        refine lv_aload_n hx hb dX3_differs_19 rfl (lv_at hl 1 rfl) ?_
        refine lv_iload_n hx hb dX3_differs_20 rfl (lv_at hl 2 rfl) ?_
        refine lv_iload_n hx hb dX3_differs_21 rfl (lv_at hl 3 rfl) ?_
        refine vv_gol [3, 4] [0, 1, 2] [(a0, .inr (3, [.ref a_nodes, .ref a_units, .ref a_came, .ref a_went, .ref a_drained, .ref a_reached, .ref a_present, .ref a_portion, .ref a_rest, .int v_presentCount])), (a_nodes, .inr (1, [.int v_nodes_count, .int v_nodes_lotCount, .ref a_nodes_kind, .ref a_nodes_amount, .ref a_nodes_day, .ref a_nodes_held, .ref a_nodes_spot, .ref a_nodes_lotsByAge])), (a_units, .inl (cJ, 2304, .inr (.inl f_units)))] [0, 1, 2, 3, 4] (fun _ => wd_X3_differs cI cJ cZ a0 a_p1 a_nodes a_units a_came a_went a_drained a_reached a_present a_portion a_rest a_nodes_kind a_nodes_amount a_nodes_day a_nodes_held a_nodes_spot a_nodes_lotsByAge a_p1_units a_p1_came a_p1_went a_p1_drained a_p1_reached a_p1_present a_p1_portion a_p1_rest v_presentCount v_nodes_count v_nodes_lotCount f_units v_p1_presentCount f_p1_units) (vv_rv (rest := [.long r_2]) (ci := 3) ⟨hx, hb, hml, hown, hts⟩ (cw_X3_unitsOf l dC dI cI cJ cZ a_p1 a_nodes a_p1_units a_p1_came a_p1_went a_p1_drained a_p1_reached a_p1_present a_p1_portion a_p1_rest (H.size) v_p1_presentCount f_p1_units x2 x3 _ h) (cwV 2 hts gX3_differs_X3_unitsOf rfl rfl rfl (by decide +kernel) ⟨Nat.le_of_ble_eq_true rfl, Nat.le_of_ble_eq_true rfl⟩) hK hP hD [3, 4] rfl (by decide) rfl rfl rfl hl.1 rfl (Nat.le_of_ble_eq_true rfl) dX3_differs_22 ⟨Nat.le_of_ble_eq_true rfl, Nat.le_of_ble_eq_true rfl⟩) hP hD hS hA rfl rfl (by decide) (by decide) (fun _ => rfl) (by decide) (fun r_3 _ H locs h hP hD hS => ?_)
        replace hP : va_P (dC, dI) vwCl (wd_X3_differs cI cJ cZ a0 a_p1 a_nodes a_units a_came a_went a_drained a_reached a_present a_portion a_rest a_nodes_kind a_nodes_amount a_nodes_day a_nodes_held a_nodes_spot a_nodes_lotsByAge a_p1_units a_p1_came a_p1_went a_p1_drained a_p1_reached a_p1_present a_p1_portion a_p1_rest v_presentCount v_nodes_count v_nodes_lotCount f_units v_p1_presentCount f_p1_units) H := hP
        replace hD : va_D A (wd_X3_differs cI cJ cZ a0 a_p1 a_nodes a_units a_came a_went a_drained a_reached a_present a_portion a_rest a_nodes_kind a_nodes_amount a_nodes_day a_nodes_held a_nodes_spot a_nodes_lotsByAge a_p1_units a_p1_came a_p1_went a_p1_drained a_p1_reached a_p1_present a_p1_portion a_p1_rest v_presentCount v_nodes_count v_nodes_lotCount f_units v_p1_presentCount f_p1_units) := hD
        refine vv_lcmp_eq (tgt := 31) hx hb dX3_differs_25 dX3_differs_26 (by decide) (fun c_4 => ?_) (fun c_4 => ?_)
        · replace h := h.1 c_4
          obtain ⟨x_5, ex_5⟩ : ∃ y : Int32, y = x3 + 1 := ⟨_, rfl⟩
          replace h := h x_5 ex_5
          refine lv_iinc (v := x_5) (lv' := [(3, .int x_5), (0, .ref a0), (1, .ref a_p1), (2, .int x2)]) hx hb dX3_differs_31 hl (k := 3) rfl (by rw [ex_5]; rfl) (by decide) rfl (fun ls hl => ?_)
          refine lv_goto (tgt := 2) hx hb dX3_differs_34 (by decide) ?_
          exact ih2 x2 x_5 H locs ls hP hD hS (lv_sub hl [1, 2, 3, 0] rfl) h
        · replace h := h.2 c_4
          refine lv_iconst (v := 1) hx hb dX3_differs_29 (by decide) ?_
          exact RET 1 H locs ls 30 vv_bo1 h hP hD hS dX3_differs_30
  suffices START : ∀ (H : Heap) (locs : List Loc), va_P (dC, dI) vwCl (wd_X3_differs cI cJ cZ a0 a_p1 a_nodes a_units a_came a_went a_drained a_reached a_present a_portion a_rest a_nodes_kind a_nodes_amount a_nodes_day a_nodes_held a_nodes_spot a_nodes_lotsByAge a_p1_units a_p1_came a_p1_went a_p1_drained a_p1_reached a_p1_present a_p1_portion a_p1_rest v_presentCount v_nodes_count v_nodes_lotCount f_units v_p1_presentCount f_p1_units) H → va_D A (wd_X3_differs cI cJ cZ a0 a_p1 a_nodes a_units a_came a_went a_drained a_reached a_present a_portion a_rest a_nodes_kind a_nodes_amount a_nodes_day a_nodes_held a_nodes_spot a_nodes_lotsByAge a_p1_units a_p1_came a_p1_went a_p1_drained a_p1_reached a_p1_present a_p1_portion a_p1_rest v_presentCount v_nodes_count v_nodes_lotCount f_units v_p1_presentCount f_p1_units) → va_S A s.heap H locs → W p l e rm_X3_differs s m av below meth c H locs 0 0 Q (F0 m 0 ls []) from START s.heap [] hP hD hS
  clear hP hD hS
  intro H locs hP hD hS
  refine lv_iconst (v := 0) hx hb dX3_differs_0 (by decide) ?_
  refine lv_istore_n (lv' := [(3, .int 0), (0, .ref a0), (1, .ref a_p1), (2, .int p2)]) hx hb dX3_differs_1 rfl hl (by decide) rfl (fun ls hl => ?_)
  obtain ⟨n_2, h⟩ := h
  exact bk_2 n_2 p2 0 H locs ls hP hD hS (lv_sub hl [1, 2, 3, 0] rfl) h

abbrev wd_X3_countOtherNodes (cI cJ cZ : ClassId) (a0 a_p1 a_nodes a_units a_came a_went a_drained a_reached a_present a_portion a_rest a_nodes_kind a_nodes_amount a_nodes_day a_nodes_held a_nodes_spot a_nodes_lotsByAge a_p1_units a_p1_came a_p1_went a_p1_drained a_p1_reached a_p1_present a_p1_portion a_p1_rest : Nat) (v_presentCount : Int32) (v_nodes_count : Int32) (v_nodes_lotCount : Int32) (f_units : (Nat → Int64)) (v_p1_presentCount : Int32) (f_p1_units : (Nat → Int64)) : va_W := [(a0, .inr (3, [.ref a_nodes, .ref a_units, .ref a_came, .ref a_went, .ref a_drained, .ref a_reached, .ref a_present, .ref a_portion, .ref a_rest, .int v_presentCount])), (a_nodes, .inr (1, [.int v_nodes_count, .int v_nodes_lotCount, .ref a_nodes_kind, .ref a_nodes_amount, .ref a_nodes_day, .ref a_nodes_held, .ref a_nodes_spot, .ref a_nodes_lotsByAge])), (a_units, .inl (cJ, 2304, .inr (.inl f_units))), (a_p1, .inr (3, [.ref a_nodes, .ref a_p1_units, .ref a_p1_came, .ref a_p1_went, .ref a_p1_drained, .ref a_p1_reached, .ref a_p1_present, .ref a_p1_portion, .ref a_p1_rest, .int v_p1_presentCount])), (a_p1_units, .inl (cJ, 2304, .inr (.inl f_p1_units)))]
abbrev rm_X3_countOtherNodes : Room := { frames := 2, cells := 0, slots := 0, locals := 45 }
def wb_X3_countOtherNodes_27 (post : Int32 → Prop) (v_presentCount : Int32) (v_nodes_count : Int32) (v_nodes_lotCount : Int32) (f_units : (Nat → Int64)) (v_p1_presentCount : Int32) (f_p1_units : (Nat → Int64)) (K4 : Int32 → Int32 → Prop) (x2 : Int32) (x3 : Int32) : Prop := (∀ x_5 : Int32, x_5 = x3 + 1 → K4 x2 x_5)
def wb_X3_countOtherNodes_4 (post : Int32 → Prop) (v_presentCount : Int32) (v_nodes_count : Int32) (v_nodes_lotCount : Int32) (f_units : (Nat → Int64)) (v_p1_presentCount : Int32) (f_p1_units : (Nat → Int64)) : Nat → Int32 → Int32 → Prop
  | 0 => fun _ _ => False
  | n + 1 => fun x2 x3 => ((v_nodes_count ≤ x3 → post x2) ∧ (¬ v_nodes_count ≤ x3 → (wp_X3_differs (fun r_2 => ((r_2 = 0 → wb_X3_countOtherNodes_27 post v_presentCount v_nodes_count v_nodes_lotCount f_units v_p1_presentCount f_p1_units (wb_X3_countOtherNodes_4 post v_presentCount v_nodes_count v_nodes_lotCount f_units v_p1_presentCount f_p1_units n) x2 x3) ∧ (¬ r_2 = 0 → (∀ x_4 : Int32, x_4 = x2 + 1 → wb_X3_countOtherNodes_27 post v_presentCount v_nodes_count v_nodes_lotCount f_units v_p1_presentCount f_p1_units (wb_X3_countOtherNodes_4 post v_presentCount v_nodes_count v_nodes_lotCount f_units v_p1_presentCount f_p1_units n) x_4 x3)))) v_presentCount v_nodes_count v_nodes_lotCount f_units v_p1_presentCount f_p1_units x3)))
def wp_X3_countOtherNodes (post : Int32 → Prop) (v_presentCount : Int32) (v_nodes_count : Int32) (v_nodes_lotCount : Int32) (f_units : (Nat → Int64)) (v_p1_presentCount : Int32) (f_p1_units : (Nat → Int64)) : Prop := (∃ n_4 : Nat, wb_X3_countOtherNodes_4 post v_presentCount v_nodes_count v_nodes_lotCount f_units v_p1_presentCount f_p1_units n_4 0 0)
set_option maxHeartbeats 4000000 in
set_option maxRecDepth 100000 in
theorem cw_X3_countOtherNodes (l : Launch) (dC : Nat → ClassId) (dI : Nat → Nat → Nat) (cI cJ cZ : ClassId) (a0 a_p1 a_nodes a_units a_came a_went a_drained a_reached a_present a_portion a_rest a_nodes_kind a_nodes_amount a_nodes_day a_nodes_held a_nodes_spot a_nodes_lotsByAge a_p1_units a_p1_came a_p1_went a_p1_drained a_p1_reached a_p1_present a_p1_portion a_p1_rest : Nat) (sz : Nat) (v_presentCount : Int32) (v_nodes_count : Int32) (v_nodes_lotCount : Int32) (f_units : (Nat → Int64)) (v_p1_presentCount : Int32) (f_p1_units : (Nat → Int64)) (post : Int32 → Prop) (h : wp_X3_countOtherNodes post v_presentCount v_nodes_count v_nodes_lotCount f_units v_p1_presentCount f_p1_units) : Met l yX3_countOtherNodes wsX3_countOtherNodes rm_X3_countOtherNodes (va_Pc [.ref a0, .ref a_p1] (vv_B (dC, dI) (vv_ty cI cJ cZ) (wd_X3_countOtherNodes cI cJ cZ a0 a_p1 a_nodes a_units a_came a_went a_drained a_reached a_present a_portion a_rest a_nodes_kind a_nodes_amount a_nodes_day a_nodes_held a_nodes_spot a_nodes_lotsByAge a_p1_units a_p1_came a_p1_went a_p1_drained a_p1_reached a_p1_present a_p1_portion a_p1_rest v_presentCount v_nodes_count v_nodes_lotCount f_units v_p1_presentCount f_p1_units) sz)) (va_Qi (fun r (_u : Unit) => post r) (vv_E (dC, dI) (vv_ty cI cJ cZ) (va_A (wd_X3_countOtherNodes cI cJ cZ a0 a_p1 a_nodes a_units a_came a_went a_drained a_reached a_present a_portion a_rest a_nodes_kind a_nodes_amount a_nodes_day a_nodes_held a_nodes_spot a_nodes_lotsByAge a_p1_units a_p1_came a_p1_went a_p1_drained a_p1_reached a_p1_present a_p1_portion a_p1_rest v_presentCount v_nodes_count v_nodes_lotCount f_units v_p1_presentCount f_p1_units) sz) (fun _u : Unit => wd_X3_countOtherNodes cI cJ cZ a0 a_p1 a_nodes a_units a_came a_went a_drained a_reached a_present a_portion a_rest a_nodes_kind a_nodes_amount a_nodes_day a_nodes_held a_nodes_spot a_nodes_lotsByAge a_p1_units a_p1_came a_p1_went a_p1_drained a_p1_reached a_p1_present a_p1_portion a_p1_rest v_presentCount v_nodes_count v_nodes_lotCount f_units v_p1_presentCount f_p1_units)) (va_A (wd_X3_countOtherNodes cI cJ cZ a0 a_p1 a_nodes a_units a_came a_went a_drained a_reached a_present a_portion a_rest a_nodes_kind a_nodes_amount a_nodes_day a_nodes_held a_nodes_spot a_nodes_lotsByAge a_p1_units a_p1_came a_p1_went a_p1_drained a_p1_reached a_p1_present a_p1_portion a_p1_rest v_presentCount v_nodes_count v_nodes_lotCount f_units v_p1_presentCount f_p1_units) sz)) 0 0 (va_A (wd_X3_countOtherNodes cI cJ cZ a0 a_p1 a_nodes a_units a_came a_went a_drained a_reached a_present a_portion a_rest a_nodes_kind a_nodes_amount a_nodes_day a_nodes_held a_nodes_spot a_nodes_lotsByAge a_p1_units a_p1_came a_p1_went a_p1_drained a_p1_reached a_p1_present a_p1_portion a_p1_rest v_presentCount v_nodes_count v_nodes_lotCount f_units v_p1_presentCount f_p1_units) sz) := by
  refine Met.ofW (cc := cX3_countOtherNodes) (maxL := 4) (ret := (some .int)) (by decide) rfl ?_
  intro p e s m args below meth c s₁ B hml hv
  obtain ⟨hav, hsz, hP, hK, hD0⟩ := hv
  have hx := B.exec
  have hb := B.bytes
  have hr := B.returns
  have hts := atoms_spec (ws := wsX3_countOtherNodes) B.pre
  have hown : s.vm.findClass RX3 = some m.cls := findClass_of_methodNamed B.named
  have hlocks := B.notSynchronized
  subst hsz
  have hD := hD0.self (sz := s.heap.size)
  clear hD0
  generalize hAe : va_A (wd_X3_countOtherNodes cI cJ cZ a0 a_p1 a_nodes a_units a_came a_went a_drained a_reached a_present a_portion a_rest a_nodes_kind a_nodes_amount a_nodes_day a_nodes_held a_nodes_spot a_nodes_lotsByAge a_p1_units a_p1_came a_p1_went a_p1_drained a_p1_reached a_p1_present a_p1_portion a_p1_rest v_presentCount v_nodes_count v_nodes_lotCount f_units v_p1_presentCount f_p1_units) s.heap.size = A at hD ⊢
  have hA : ∀ q : Nat, s.heap.size ≤ q → A q := fun q h => by rw [← hAe]; exact Or.inr h
  clear hAe
  have hS : va_S A s.heap s.heap [] := va_S.rf
  have hl := lv_entry ([.ref a0, .ref a_p1]) (n := 4) (Nat.le_of_ble_eq_true rfl)
  subst hav
  rw [lg_entry_eq]
  generalize (lg_sl ([.ref a0, .ref a_p1]) ++ List.replicate (4 - (lg_sl ([.ref a0, .ref a_p1])).length) Slot.unset).toArray = ls at hl ⊢
  replace hl : lv_has ls 4 [(0, .ref a0), (1, .ref a_p1)] := hl
  clear B
  generalize (([.ref a0, .ref a_p1] : List Value)).toArray = av at hts ⊢
  suffices MAIN : ∀ Q : State → Prop, (∀ (v : Int32) (H : Heap) (locs : List Loc) (ls : Array Slot) (pc : Nat), post v → va_P (dC, dI) vwCl (wd_X3_countOtherNodes cI cJ cZ a0 a_p1 a_nodes a_units a_came a_went a_drained a_reached a_present a_portion a_rest a_nodes_kind a_nodes_amount a_nodes_day a_nodes_held a_nodes_spot a_nodes_lotsByAge a_p1_units a_p1_came a_p1_went a_p1_drained a_p1_reached a_p1_present a_p1_portion a_p1_rest v_presentCount v_nodes_count v_nodes_lotCount f_units v_p1_presentCount f_p1_units) H → va_D A (wd_X3_countOtherNodes cI cJ cZ a0 a_p1 a_nodes a_units a_came a_went a_drained a_reached a_present a_portion a_rest a_nodes_kind a_nodes_amount a_nodes_day a_nodes_held a_nodes_spot a_nodes_lotsByAge a_p1_units a_p1_came a_p1_went a_p1_drained a_p1_reached a_p1_present a_p1_portion a_p1_rest v_presentCount v_nodes_count v_nodes_lotCount f_units v_p1_presentCount f_p1_units) → va_S A s.heap H locs → decode cX3_countOtherNodes pc = .ok (.ireturn, 1) → W p l e rm_X3_countOtherNodes s m av below meth c H locs 0 0 Q (F0 m pc ls [.int v])) → W p l e rm_X3_countOtherNodes s m av below meth c s.heap [] 0 0 Q (F0 m 0 ls []) from MAIN _ (fun v H locs ls pc h hP hD hS hd => vv_iret () hx hb hr hlocks h hK hP hD hS hd)
  intro Q RET
  have fl37 := hts (.fieldLink RX3 37 "LotFlows$Stock" "nodes" "LLotFlows$Nodes;") (by decide +kernel)
  have fl41 := hts (.fieldLink RX3 41 "LotFlows$Nodes" "count" "I") (by decide +kernel)
  have in_X1 : ∀ w ∈ wsX10, w ∈ wsX3_countOtherNodes := by decide +kernel
  have in_X3 : ∀ w ∈ wsX30, w ∈ wsX3_countOtherNodes := by decide +kernel
  have bk_27 : ∀ (K4 : Int32 → Int32 → Prop), (∀ (x2 : Int32) (x3 : Int32) (H : Heap) (locs : List Loc) (ls : Array Slot), va_P (dC, dI) vwCl (wd_X3_countOtherNodes cI cJ cZ a0 a_p1 a_nodes a_units a_came a_went a_drained a_reached a_present a_portion a_rest a_nodes_kind a_nodes_amount a_nodes_day a_nodes_held a_nodes_spot a_nodes_lotsByAge a_p1_units a_p1_came a_p1_went a_p1_drained a_p1_reached a_p1_present a_p1_portion a_p1_rest v_presentCount v_nodes_count v_nodes_lotCount f_units v_p1_presentCount f_p1_units) H → va_D A (wd_X3_countOtherNodes cI cJ cZ a0 a_p1 a_nodes a_units a_came a_went a_drained a_reached a_present a_portion a_rest a_nodes_kind a_nodes_amount a_nodes_day a_nodes_held a_nodes_spot a_nodes_lotsByAge a_p1_units a_p1_came a_p1_went a_p1_drained a_p1_reached a_p1_present a_p1_portion a_p1_rest v_presentCount v_nodes_count v_nodes_lotCount f_units v_p1_presentCount f_p1_units) → va_S A s.heap H locs → lv_has ls 4 [(0, .ref a0), (1, .ref a_p1), (2, .int x2), (3, .int x3)] → K4 x2 x3 → W p l e rm_X3_countOtherNodes s m av below meth c H locs 0 0 Q (F0 m 4 ls [])) → ∀ (x2 : Int32) (x3 : Int32) (H : Heap) (locs : List Loc) (ls : Array Slot), va_P (dC, dI) vwCl (wd_X3_countOtherNodes cI cJ cZ a0 a_p1 a_nodes a_units a_came a_went a_drained a_reached a_present a_portion a_rest a_nodes_kind a_nodes_amount a_nodes_day a_nodes_held a_nodes_spot a_nodes_lotsByAge a_p1_units a_p1_came a_p1_went a_p1_drained a_p1_reached a_p1_present a_p1_portion a_p1_rest v_presentCount v_nodes_count v_nodes_lotCount f_units v_p1_presentCount f_p1_units) H → va_D A (wd_X3_countOtherNodes cI cJ cZ a0 a_p1 a_nodes a_units a_came a_went a_drained a_reached a_present a_portion a_rest a_nodes_kind a_nodes_amount a_nodes_day a_nodes_held a_nodes_spot a_nodes_lotsByAge a_p1_units a_p1_came a_p1_went a_p1_drained a_p1_reached a_p1_present a_p1_portion a_p1_rest v_presentCount v_nodes_count v_nodes_lotCount f_units v_p1_presentCount f_p1_units) → va_S A s.heap H locs → lv_has ls 4 [(0, .ref a0), (1, .ref a_p1), (2, .int x2), (3, .int x3)] → wb_X3_countOtherNodes_27 post v_presentCount v_nodes_count v_nodes_lotCount f_units v_p1_presentCount f_p1_units K4 x2 x3 → W p l e rm_X3_countOtherNodes s m av below meth c H locs 0 0 Q (F0 m 27 ls []) := by
    intro K4 hK4 x2 x3 H locs ls hP hD hS hl h
    obtain ⟨x_5, ex_5⟩ : ∃ y : Int32, y = x3 + 1 := ⟨_, rfl⟩
    replace h := h x_5 ex_5
    refine lv_iinc (v := x_5) (lv' := [(3, .int x_5), (0, .ref a0), (1, .ref a_p1), (2, .int x2)]) hx hb dX3_countOtherNodes_27 hl (k := 3) rfl (by rw [ex_5]; rfl) (by decide) rfl (fun ls hl => ?_)
    refine lv_goto (tgt := 4) hx hb dX3_countOtherNodes_30 (by decide) ?_
    exact hK4 x2 x_5 H locs ls hP hD hS (lv_sub hl [1, 2, 3, 0] rfl) h
  have bk_4 : ∀ n : Nat, ∀ (x2 : Int32) (x3 : Int32) (H : Heap) (locs : List Loc) (ls : Array Slot), va_P (dC, dI) vwCl (wd_X3_countOtherNodes cI cJ cZ a0 a_p1 a_nodes a_units a_came a_went a_drained a_reached a_present a_portion a_rest a_nodes_kind a_nodes_amount a_nodes_day a_nodes_held a_nodes_spot a_nodes_lotsByAge a_p1_units a_p1_came a_p1_went a_p1_drained a_p1_reached a_p1_present a_p1_portion a_p1_rest v_presentCount v_nodes_count v_nodes_lotCount f_units v_p1_presentCount f_p1_units) H → va_D A (wd_X3_countOtherNodes cI cJ cZ a0 a_p1 a_nodes a_units a_came a_went a_drained a_reached a_present a_portion a_rest a_nodes_kind a_nodes_amount a_nodes_day a_nodes_held a_nodes_spot a_nodes_lotsByAge a_p1_units a_p1_came a_p1_went a_p1_drained a_p1_reached a_p1_present a_p1_portion a_p1_rest v_presentCount v_nodes_count v_nodes_lotCount f_units v_p1_presentCount f_p1_units) → va_S A s.heap H locs → lv_has ls 4 [(0, .ref a0), (1, .ref a_p1), (2, .int x2), (3, .int x3)] → wb_X3_countOtherNodes_4 post v_presentCount v_nodes_count v_nodes_lotCount f_units v_p1_presentCount f_p1_units n x2 x3 → W p l e rm_X3_countOtherNodes s m av below meth c H locs 0 0 Q (F0 m 4 ls []) := by
    intro n
    induction n with
    | zero =>
      intro x2 x3 H locs ls hP hD hS hl h
      exact False.elim h
    | succ n ih4 =>
      intro x2 x3 H locs ls hP hD hS hl h
      refine lv_iload_n hx hb dX3_countOtherNodes_4 rfl (lv_at hl 3 rfl) ?_
      refine lv_aload_n hx hb dX3_countOtherNodes_5 rfl (lv_at hl 0 rfl) ?_
      refine va_get (D := (dC, dI)) (ci := 3) (v := .ref a_nodes) (C := RX3) (T := TX3) (N := 10) hx hb hts in_X3 hown hK hP 0 rfl rfl 0 (by decide) fl37 (fun _ h9 => h9) rfl dX3_countOtherNodes_6 ?_
      refine va_get (D := (dC, dI)) (ci := 1) (v := .int v_nodes_count) (C := RX1) (T := TX1) (N := 8) hx hb hts in_X1 hown hK hP 1 rfl rfl 0 (by decide) fl41 (fun _ h9 => h9) rfl dX3_countOtherNodes_9 ?_
      refine lv_icmp_ge (tgt := 33) hx hb dX3_countOtherNodes_12 (by decide) (fun c_1 => ?_) (fun c_1 => ?_)
      · replace h := h.1 c_1
        refine lv_iload_n hx hb dX3_countOtherNodes_33 rfl (lv_at hl 2 rfl) ?_
        exact RET x2 H locs ls 34 h hP hD hS dX3_countOtherNodes_34
      · replace h := h.2 c_1
        refine lv_aload_n hx hb dX3_countOtherNodes_15 rfl (lv_at hl 0 rfl) ?_
        refine lv_aload_n hx hb dX3_countOtherNodes_16 rfl (lv_at hl 1 rfl) ?_
        refine lv_iload_n hx hb dX3_countOtherNodes_17 rfl (lv_at hl 3 rfl) ?_
        refine vv_goi [0, 1, 2, 3, 4] [] [] [0, 1, 2, 3, 4] (fun _ => wd_X3_countOtherNodes cI cJ cZ a0 a_p1 a_nodes a_units a_came a_went a_drained a_reached a_present a_portion a_rest a_nodes_kind a_nodes_amount a_nodes_day a_nodes_held a_nodes_spot a_nodes_lotsByAge a_p1_units a_p1_came a_p1_went a_p1_drained a_p1_reached a_p1_present a_p1_portion a_p1_rest v_presentCount v_nodes_count v_nodes_lotCount f_units v_p1_presentCount f_p1_units) (vv_rv (rest := []) (ci := 3) ⟨hx, hb, hml, hown, hts⟩ (cw_X3_differs l dC dI cI cJ cZ a0 a_p1 a_nodes a_units a_came a_went a_drained a_reached a_present a_portion a_rest a_nodes_kind a_nodes_amount a_nodes_day a_nodes_held a_nodes_spot a_nodes_lotsByAge a_p1_units a_p1_came a_p1_went a_p1_drained a_p1_reached a_p1_present a_p1_portion a_p1_rest (H.size) v_presentCount v_nodes_count v_nodes_lotCount f_units v_p1_presentCount f_p1_units x3 _ h) (cwV 2 hts gX3_countOtherNodes_X3_differs rfl rfl rfl (by decide +kernel) ⟨Nat.le_of_ble_eq_true rfl, Nat.le_of_ble_eq_true rfl⟩) hK hP hD [0, 1, 2, 3, 4] rfl (by decide) rfl rfl rfl hl.1 rfl (Nat.le_of_ble_eq_true rfl) dX3_countOtherNodes_18 ⟨Nat.le_of_ble_eq_true rfl, Nat.le_of_ble_eq_true rfl⟩) hP hD hS hA rfl rfl (by decide) (by decide) (fun _ => rfl) (by decide) (fun r_2 _ H locs h hP hD hS => ?_)
        replace hP : va_P (dC, dI) vwCl (wd_X3_countOtherNodes cI cJ cZ a0 a_p1 a_nodes a_units a_came a_went a_drained a_reached a_present a_portion a_rest a_nodes_kind a_nodes_amount a_nodes_day a_nodes_held a_nodes_spot a_nodes_lotsByAge a_p1_units a_p1_came a_p1_went a_p1_drained a_p1_reached a_p1_present a_p1_portion a_p1_rest v_presentCount v_nodes_count v_nodes_lotCount f_units v_p1_presentCount f_p1_units) H := hP
        replace hD : va_D A (wd_X3_countOtherNodes cI cJ cZ a0 a_p1 a_nodes a_units a_came a_went a_drained a_reached a_present a_portion a_rest a_nodes_kind a_nodes_amount a_nodes_day a_nodes_held a_nodes_spot a_nodes_lotsByAge a_p1_units a_p1_came a_p1_went a_p1_drained a_p1_reached a_p1_present a_p1_portion a_p1_rest v_presentCount v_nodes_count v_nodes_lotCount f_units v_p1_presentCount f_p1_units) := hD
        refine lv_if_eq (tgt := 27) hx hb dX3_countOtherNodes_21 (by decide) (fun c_3 => ?_) (fun c_3 => ?_)
        · replace h := h.1 c_3
          exact bk_27 (wb_X3_countOtherNodes_4 post v_presentCount v_nodes_count v_nodes_lotCount f_units v_p1_presentCount f_p1_units n) ih4 x2 x3 H locs ls hP hD hS (lv_sub hl [0, 1, 2, 3] rfl) h
        · replace h := h.2 c_3
          obtain ⟨x_4, ex_4⟩ : ∃ y : Int32, y = x2 + 1 := ⟨_, rfl⟩
          replace h := h x_4 ex_4
          refine lv_iinc (v := x_4) (lv' := [(2, .int x_4), (0, .ref a0), (1, .ref a_p1), (3, .int x3)]) hx hb dX3_countOtherNodes_24 hl (k := 2) rfl (by rw [ex_4]; rfl) (by decide) rfl (fun ls hl => ?_)
          exact bk_27 (wb_X3_countOtherNodes_4 post v_presentCount v_nodes_count v_nodes_lotCount f_units v_p1_presentCount f_p1_units n) ih4 x_4 x3 H locs ls hP hD hS (lv_sub hl [1, 2, 0, 3] rfl) h
  suffices START : ∀ (H : Heap) (locs : List Loc), va_P (dC, dI) vwCl (wd_X3_countOtherNodes cI cJ cZ a0 a_p1 a_nodes a_units a_came a_went a_drained a_reached a_present a_portion a_rest a_nodes_kind a_nodes_amount a_nodes_day a_nodes_held a_nodes_spot a_nodes_lotsByAge a_p1_units a_p1_came a_p1_went a_p1_drained a_p1_reached a_p1_present a_p1_portion a_p1_rest v_presentCount v_nodes_count v_nodes_lotCount f_units v_p1_presentCount f_p1_units) H → va_D A (wd_X3_countOtherNodes cI cJ cZ a0 a_p1 a_nodes a_units a_came a_went a_drained a_reached a_present a_portion a_rest a_nodes_kind a_nodes_amount a_nodes_day a_nodes_held a_nodes_spot a_nodes_lotsByAge a_p1_units a_p1_came a_p1_went a_p1_drained a_p1_reached a_p1_present a_p1_portion a_p1_rest v_presentCount v_nodes_count v_nodes_lotCount f_units v_p1_presentCount f_p1_units) → va_S A s.heap H locs → W p l e rm_X3_countOtherNodes s m av below meth c H locs 0 0 Q (F0 m 0 ls []) from START s.heap [] hP hD hS
  clear hP hD hS
  intro H locs hP hD hS
  refine lv_iconst (v := 0) hx hb dX3_countOtherNodes_0 (by decide) ?_
  refine lv_istore_n (lv' := [(2, .int 0), (0, .ref a0), (1, .ref a_p1)]) hx hb dX3_countOtherNodes_1 rfl hl (by decide) rfl (fun ls hl => ?_)
  refine lv_iconst (v := 0) hx hb dX3_countOtherNodes_2 (by decide) ?_
  refine lv_istore_n (lv' := [(3, .int 0), (2, .int 0), (0, .ref a0), (1, .ref a_p1)]) hx hb dX3_countOtherNodes_3 rfl hl (by decide) rfl (fun ls hl => ?_)
  obtain ⟨n_4, h⟩ := h
  exact bk_4 n_4 0 0 H locs ls hP hD hS (lv_sub hl [2, 3, 1, 0] rfl) h
