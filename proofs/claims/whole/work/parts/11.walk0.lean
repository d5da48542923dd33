abbrev wd_X0_greatestDay (cI cJ cZ : ClassId) (a0 a_from a_to a_amount a_day a_order : Nat) (v_count : Int32) (f_day : (Nat → Int64)) (f_order : (Nat → Int32)) : va_W := [(a0, .inr (0, [.int v_count, .ref a_from, .ref a_to, .ref a_amount, .ref a_day, .ref a_order])), (a_day, .inl (cJ, 400, .inr (.inl f_day))), (a_order, .inl (cI, 400, .inl f_order))]
abbrev rm_X0_greatestDay : Room := { frames := 0, cells := 0, slots := 0, locals := 0 }
def wp_X0_greatestDay (post : Int64 → Prop) (v_count : Int32) (f_day : (Nat → Int64)) (f_order : (Nat → Int32)) : Prop := ((¬ v_count = 0 → (vp_in (v_count - 1) 400 ∧ (vp_in (f_order (v_count - 1).toNatClampNeg) 400 ∧ (post (f_day (f_order (v_count - 1).toNatClampNeg).toNatClampNeg))))) ∧ (v_count = 0 → post 0))
set_option maxHeartbeats 4000000 in
set_option maxRecDepth 100000 in
theorem cw_X0_greatestDay (l : Launch) (dC : Nat → ClassId) (dI : Nat → Nat → Nat) (cI cJ cZ : ClassId) (a0 a_from a_to a_amount a_day a_order : Nat) (sz : Nat) (v_count : Int32) (f_day : (Nat → Int64)) (f_order : (Nat → Int32)) (post : Int64 → Prop) (h : wp_X0_greatestDay post v_count f_day f_order) : Met l yX0_greatestDay wsX0_greatestDay rm_X0_greatestDay (va_Pc [.ref a0] (vv_B (dC, dI) (vv_ty cI cJ cZ) (wd_X0_greatestDay cI cJ cZ a0 a_from a_to a_amount a_day a_order v_count f_day f_order) sz)) (va_Ql (fun r (_u : Unit) => post r) (vv_E (dC, dI) (vv_ty cI cJ cZ) (va_A (wd_X0_greatestDay cI cJ cZ a0 a_from a_to a_amount a_day a_order v_count f_day f_order) sz) (fun _u : Unit => wd_X0_greatestDay cI cJ cZ a0 a_from a_to a_amount a_day a_order v_count f_day f_order)) (va_A (wd_X0_greatestDay cI cJ cZ a0 a_from a_to a_amount a_day a_order v_count f_day f_order) sz)) 0 0 (va_A (wd_X0_greatestDay cI cJ cZ a0 a_from a_to a_amount a_day a_order v_count f_day f_order) sz) := by
  refine Met.ofW (cc := cX0_greatestDay) (maxL := 1) (ret := (some .long)) (by decide) rfl ?_
  intro p e s m args below meth c s₁ B hml hv
  obtain ⟨hav, hsz, hP, hK, hD0⟩ := hv
  have hx := B.exec
  have hb := B.bytes
  have hr := B.returns
  have hts := atoms_spec (ws := wsX0_greatestDay) B.pre
  have hown : s.vm.findClass RX0 = some m.cls := findClass_of_methodNamed B.named
  have hlocks := B.notSynchronized
  subst hsz
  have hD := hD0.self (sz := s.heap.size)
  clear hD0
  generalize hAe : va_A (wd_X0_greatestDay cI cJ cZ a0 a_from a_to a_amount a_day a_order v_count f_day f_order) s.heap.size = A at hD ⊢
  have hA : ∀ q : Nat, s.heap.size ≤ q → A q := fun q h => by rw [← hAe]; exact Or.inr h
  clear hAe
  have hS : va_S A s.heap s.heap [] := va_S.rf
  have hl := lv_entry ([.ref a0]) (n := 1) (Nat.le_of_ble_eq_true rfl)
  subst hav
  rw [lg_entry_eq]
  generalize (lg_sl ([.ref a0]) ++ List.replicate (1 - (lg_sl ([.ref a0])).length) Slot.unset).toArray = ls at hl ⊢
  replace hl : lv_has ls 1 [(0, .ref a0)] := hl
  clear B
  generalize (([.ref a0] : List Value)).toArray = av at hts ⊢
  suffices MAIN : ∀ Q : State → Prop, (∀ (v : Int64) (H : Heap) (locs : List Loc) (ls : Array Slot) (pc : Nat), post v → va_P (dC, dI) vwCl (wd_X0_greatestDay cI cJ cZ a0 a_from a_to a_amount a_day a_order v_count f_day f_order) H → va_D A (wd_X0_greatestDay cI cJ cZ a0 a_from a_to a_amount a_day a_order v_count f_day f_order) → va_S A s.heap H locs → decode cX0_greatestDay pc = .ok (.lreturn, 1) → W p l e rm_X0_greatestDay s m av below meth c H locs 0 0 Q (F0 m pc ls [.long v])) → W p l e rm_X0_greatestDay s m av below meth c s.heap [] 0 0 Q (F0 m 0 ls []) from MAIN _ (fun v H locs ls pc h hP hD hS hd => vv_lret () hx hb hr hlocks h hK hP hD hS hd)
  intro Q RET
  have fl22 := hts (.fieldLink RX0 22 "LotFlows$Flows" "day" "[J") (by decide +kernel)
  have fl25 := hts (.fieldLink RX0 25 "LotFlows$Flows" "order" "[I") (by decide +kernel)
  have fl28 := hts (.fieldLink RX0 28 "LotFlows$Flows" "count" "I") (by decide +kernel)
  have in_X0 : ∀ w ∈ wsX00, w ∈ wsX0_greatestDay := by decide +kernel
  suffices START : ∀ (H : Heap) (locs : List Loc), va_P (dC, dI) vwCl (wd_X0_greatestDay cI cJ cZ a0 a_from a_to a_amount a_day a_order v_count f_day f_order) H → va_D A (wd_X0_greatestDay cI cJ cZ a0 a_from a_to a_amount a_day a_order v_count f_day f_order) → va_S A s.heap H locs → W p l e rm_X0_greatestDay s m av below meth c H locs 0 0 Q (F0 m 0 ls []) from START s.heap [] hP hD hS
  clear hP hD hS
  intro H locs hP hD hS
  refine lv_aload_n hx hb dX0_greatestDay_0 rfl (lv_at hl 0 rfl) ?_
  refine va_get (D := (dC, dI)) (ci := 0) (v := .int v_count) (C := RX0) (T := TX0) (N := 6) hx hb hts in_X0 hown hK hP 0 rfl rfl 0 (by decide) fl28 (fun _ h9 => h9) rfl dX0_greatestDay_1 ?_
  refine lv_if_ne (tgt := 11) hx hb dX0_greatestDay_4 (by decide) (fun c_1 => ?_) (fun c_1 => ?_)
  · replace h := h.1 c_1
    refine lv_aload_n hx hb dX0_greatestDay_11 rfl (lv_at hl 0 rfl) ?_
    refine va_get (D := (dC, dI)) (ci := 0) (v := .ref a_day) (C := RX0) (T := TX0) (N := 6) hx hb hts in_X0 hown hK hP 0 rfl rfl 4 (by decide) fl22 (fun _ h9 => h9) rfl dX0_greatestDay_12 ?_
    refine lv_aload_n hx hb dX0_greatestDay_15 rfl (lv_at hl 0 rfl) ?_
    refine va_get (D := (dC, dI)) (ci := 0) (v := .ref a_order) (C := RX0) (T := TX0) (N := 6) hx hb hts in_X0 hown hK hP 0 rfl rfl 5 (by decide) fl25 (fun _ h9 => h9) rfl dX0_greatestDay_16 ?_
    refine lv_aload_n hx hb dX0_greatestDay_19 rfl (lv_at hl 0 rfl) ?_
    refine va_get (D := (dC, dI)) (ci := 0) (v := .int v_count) (C := RX0) (T := TX0) (N := 6) hx hb hts in_X0 hown hK hP 0 rfl rfl 0 (by decide) fl28 (fun _ h9 => h9) rfl dX0_greatestDay_20 ?_
    refine lv_iconst (v := 1) hx hb dX0_greatestDay_23 (by decide) ?_
    refine lv_isub hx hb dX0_greatestDay_24 ?_
    obtain ⟨hi_2, h⟩ := h
    refine va_iald hx hb hK hP 2 0 rfl rfl hi_2 dX0_greatestDay_25 ?_
    obtain ⟨hi_3, h⟩ := h
    refine va_lald hx hb hK hP 1 1 rfl rfl hi_3 dX0_greatestDay_26 ?_
    exact RET (f_day (f_order (v_count - 1).toNatClampNeg).toNatClampNeg) H locs ls 27 h hP hD hS dX0_greatestDay_27
  · replace h := h.2 c_1
    refine lv_lconst (v := 0) hx hb dX0_greatestDay_7 (by decide) ?_
    refine lv_goto (tgt := 27) hx hb dX0_greatestDay_8 (by decide) ?_
    exact RET 0 H locs ls 27 h hP hD hS dX0_greatestDay_27

abbrev wd_X0_turnFor (cI cJ cZ : ClassId) (a0 a_from a_to a_amount a_day a_order : Nat) (v_count : Int32) (f_day : (Nat → Int64)) (f_order : (Nat → Int32)) : va_W := [(a0, .inr (0, [.int v_count, .ref a_from, .ref a_to, .ref a_amount, .ref a_day, .ref a_order])), (a_day, .inl (cJ, 400, .inr (.inl f_day))), (a_order, .inl (cI, 400, .inl f_order))]
abbrev rm_X0_turnFor : Room := { frames := 0, cells := 0, slots := 0, locals := 0 }
def wb_X0_turnFor_5 (post : Int32 → Prop) (v_count : Int32) (f_day : (Nat → Int64)) (f_order : (Nat → Int32)) : Nat → Int64 → Int32 → Prop
  | 0 => fun _ _ => False
  | n + 1 => fun x1 x3 => ((x3 ≤ 0 → post x3) ∧ (¬ x3 ≤ 0 → (vp_in (x3 - 1) 400 ∧ (vp_in (f_order (x3 - 1).toNatClampNeg) 400 ∧ (((¬ x1 < (f_day (f_order (x3 - 1).toNatClampNeg).toNatClampNeg) → post x3) ∧ (x1 < (f_day (f_order (x3 - 1).toNatClampNeg).toNatClampNeg) → (∀ x_5 : Int32, x_5 = x3 + (-1) → wb_X0_turnFor_5 post v_count f_day f_order  n x1 x_5))))))))
def wp_X0_turnFor (post : Int32 → Prop) (v_count : Int32) (f_day : (Nat → Int64)) (f_order : (Nat → Int32)) (p1 : Int64) : Prop := (∃ n_5 : Nat, wb_X0_turnFor_5 post v_count f_day f_order n_5 p1 v_count)
set_option maxHeartbeats 4000000 in
set_option maxRecDepth 100000 in
theorem cw_X0_turnFor (l : Launch) (dC : Nat → ClassId) (dI : Nat → Nat → Nat) (cI cJ cZ : ClassId) (a0 a_from a_to a_amount a_day a_order : Nat) (sz : Nat) (v_count : Int32) (f_day : (Nat → Int64)) (f_order : (Nat → Int32)) (p1 : Int64) (post : Int32 → Prop) (h : wp_X0_turnFor post v_count f_day f_order p1) : Met l yX0_turnFor wsX0_turnFor rm_X0_turnFor (va_Pc [.ref a0, .long p1] (vv_B (dC, dI) (vv_ty cI cJ cZ) (wd_X0_turnFor cI cJ cZ a0 a_from a_to a_amount a_day a_order v_count f_day f_order) sz)) (va_Qi (fun r (_u : Unit) => post r) (vv_E (dC, dI) (vv_ty cI cJ cZ) (va_A (wd_X0_turnFor cI cJ cZ a0 a_from a_to a_amount a_day a_order v_count f_day f_order) sz) (fun _u : Unit => wd_X0_turnFor cI cJ cZ a0 a_from a_to a_amount a_day a_order v_count f_day f_order)) (va_A (wd_X0_turnFor cI cJ cZ a0 a_from a_to a_amount a_day a_order v_count f_day f_order) sz)) 0 0 (va_A (wd_X0_turnFor cI cJ cZ a0 a_from a_to a_amount a_day a_order v_count f_day f_order) sz) := by
  refine Met.ofW (cc := cX0_turnFor) (maxL := 4) (ret := (some .int)) (by decide) rfl ?_
  intro p e s m args below meth c s₁ B hml hv
  obtain ⟨hav, hsz, hP, hK, hD0⟩ := hv
  have hx := B.exec
  have hb := B.bytes
  have hr := B.returns
  have hts := atoms_spec (ws := wsX0_turnFor) B.pre
  have hown : s.vm.findClass RX0 = some m.cls := findClass_of_methodNamed B.named
  have hlocks := B.notSynchronized
  subst hsz
  have hD := hD0.self (sz := s.heap.size)
  clear hD0
  generalize hAe : va_A (wd_X0_turnFor cI cJ cZ a0 a_from a_to a_amount a_day a_order v_count f_day f_order) s.heap.size = A at hD ⊢
  have hA : ∀ q : Nat, s.heap.size ≤ q → A q := fun q h => by rw [← hAe]; exact Or.inr h
  clear hAe
  have hS : va_S A s.heap s.heap [] := va_S.rf
  have hl := lv_entry ([.ref a0, .long p1]) (n := 4) (Nat.le_of_ble_eq_true rfl)
  subst hav
  rw [lg_entry_eq]
  generalize (lg_sl ([.ref a0, .long p1]) ++ List.replicate (4 - (lg_sl ([.ref a0, .long p1])).length) Slot.unset).toArray = ls at hl ⊢
  replace hl : lv_has ls 4 [(0, .ref a0), (1, .long p1)] := hl
  clear B
  generalize (([.ref a0, .long p1] : List Value)).toArray = av at hts ⊢
  suffices MAIN : ∀ Q : State → Prop, (∀ (v : Int32) (H : Heap) (locs : List Loc) (ls : Array Slot) (pc : Nat), post v → va_P (dC, dI) vwCl (wd_X0_turnFor cI cJ cZ a0 a_from a_to a_amount a_day a_order v_count f_day f_order) H → va_D A (wd_X0_turnFor cI cJ cZ a0 a_from a_to a_amount a_day a_order v_count f_day f_order) → va_S A s.heap H locs → decode cX0_turnFor pc = .ok (.ireturn, 1) → W p l e rm_X0_turnFor s m av below meth c H locs 0 0 Q (F0 m pc ls [.int v])) → W p l e rm_X0_turnFor s m av below meth c s.heap [] 0 0 Q (F0 m 0 ls []) from MAIN _ (fun v H locs ls pc h hP hD hS hd => vv_iret () hx hb hr hlocks h hK hP hD hS hd)
  intro Q RET
  have fl22 := hts (.fieldLink RX0 22 "LotFlows$Flows" "day" "[J") (by decide +kernel)
  have fl25 := hts (.fieldLink RX0 25 "LotFlows$Flows" "order" "[I") (by decide +kernel)
  have fl28 := hts (.fieldLink RX0 28 "LotFlows$Flows" "count" "I") (by decide +kernel)
  have in_X0 : ∀ w ∈ wsX00, w ∈ wsX0_turnFor := by decide +kernel
  have bk_5 : ∀ n : Nat, ∀ (x1 : Int64) (x3 : Int32) (H : Heap) (locs : List Loc) (ls : Array Slot), va_P (dC, dI) vwCl (wd_X0_turnFor cI cJ cZ a0 a_from a_to a_amount a_day a_order v_count f_day f_order) H → va_D A (wd_X0_turnFor cI cJ cZ a0 a_from a_to a_amount a_day a_order v_count f_day f_order) → va_S A s.heap H locs → lv_has ls 4 [(0, .ref a0), (1, .long x1), (3, .int x3)] → wb_X0_turnFor_5 post v_count f_day f_order n x1 x3 → W p l e rm_X0_turnFor s m av below meth c H locs 0 0 Q (F0 m 5 ls []) := by
    intro n
    induction n with
    | zero =>
      intro x1 x3 H locs ls hP hD hS hl h
      exact False.elim h
    | succ n ih5 =>
      intro x1 x3 H locs ls hP hD hS hl h
      refine lv_iload_n hx hb dX0_turnFor_5 rfl (lv_at hl 2 rfl) ?_
      refine lv_if_le (tgt := 33) hx hb dX0_turnFor_6 (by decide) (fun c_1 => ?_) (fun c_1 => ?_)
      · replace h := h.1 c_1
        refine lv_iload_n hx hb dX0_turnFor_33 rfl (lv_at hl 2 rfl) ?_
        exact RET x3 H locs ls 34 h hP hD hS dX0_turnFor_34
      · replace h := h.2 c_1
        refine lv_aload_n hx hb dX0_turnFor_9 rfl (lv_at hl 0 rfl) ?_
        refine va_get (D := (dC, dI)) (ci := 0) (v := .ref a_day) (C := RX0) (T := TX0) (N := 6) hx hb hts in_X0 hown hK hP 0 rfl rfl 4 (by decide) fl22 (fun _ h9 => h9) rfl dX0_turnFor_10 ?_
        refine lv_aload_n hx hb dX0_turnFor_13 rfl (lv_at hl 0 rfl) ?_
        refine va_get (D := (dC, dI)) (ci := 0) (v := .ref a_order) (C := RX0) (T := TX0) (N := 6) hx hb hts in_X0 hown hK hP 0 rfl rfl 5 (by decide) fl25 (fun _ h9 => h9) rfl dX0_turnFor_14 ?_
        refine lv_iload_n hx hb dX0_turnFor_17 rfl (lv_at hl 2 rfl) ?_
        refine lv_iconst (v := 1) hx hb dX0_turnFor_18 (by decide) ?_
        refine lv_isub hx hb dX0_turnFor_19 ?_
        obtain ⟨hi_2, h⟩ := h
        refine va_iald hx hb hK hP 2 0 rfl rfl hi_2 dX0_turnFor_20 ?_
        obtain ⟨hi_3, h⟩ := h
        refine va_lald hx hb hK hP 1 1 rfl rfl hi_3 dX0_turnFor_21 ?_
        refine lv_lload_n hx hb dX0_turnFor_22 rfl (lv_at hl 1 rfl) ?_
        refine vv_lcmp_le (tgt := 33) hx hb dX0_turnFor_23 dX0_turnFor_24 (by decide) (fun c_4 => ?_) (fun c_4 => ?_)
        · replace h := h.1 c_4
          refine lv_iload_n hx hb dX0_turnFor_33 rfl (lv_at hl 2 rfl) ?_
          exact RET x3 H locs ls 34 h hP hD hS dX0_turnFor_34
        · replace h := h.2 c_4
          obtain ⟨x_5, ex_5⟩ : ∃ y : Int32, y = x3 + (-1) := ⟨_, rfl⟩
          replace h := h x_5 ex_5
          refine lv_iinc (v := x_5) (lv' := [(3, .int x_5), (0, .ref a0), (1, .long x1)]) hx hb dX0_turnFor_27 hl (k := 2) rfl (by rw [ex_5]; rfl) (by decide) rfl (fun ls hl => ?_)
          refine lv_goto (tgt := 5) hx hb dX0_turnFor_30 (by decide) ?_
          exact ih5 x1 x_5 H locs ls hP hD hS (lv_sub hl [1, 2, 0] rfl) h
  suffices START : ∀ (H : Heap) (locs : List Loc), va_P (dC, dI) vwCl (wd_X0_turnFor cI cJ cZ a0 a_from a_to a_amount a_day a_order v_count f_day f_order) H → va_D A (wd_X0_turnFor cI cJ cZ a0 a_from a_to a_amount a_day a_order v_count f_day f_order) → va_S A s.heap H locs → W p l e rm_X0_turnFor s m av below meth c H locs 0 0 Q (F0 m 0 ls []) from START s.heap [] hP hD hS
  clear hP hD hS
  intro H locs hP hD hS
  refine lv_aload_n hx hb dX0_turnFor_0 rfl (lv_at hl 0 rfl) ?_
  refine va_get (D := (dC, dI)) (ci := 0) (v := .int v_count) (C := RX0) (T := TX0) (N := 6) hx hb hts in_X0 hown hK hP 0 rfl rfl 0 (by decide) fl28 (fun _ h9 => h9) rfl dX0_turnFor_1 ?_
  refine lv_istore_n (lv' := [(3, .int v_count), (0, .ref a0), (1, .long p1)]) hx hb dX0_turnFor_4 rfl hl (by decide) rfl (fun ls hl => ?_)
  obtain ⟨n_5, h⟩ := h
  exact bk_5 n_5 p1 v_count H locs ls hP hD hS (lv_sub hl [1, 2, 0] rfl) h

abbrev wd_X0_insert (cI cJ cZ : ClassId) (a0 a_from a_to a_amount a_day a_order : Nat) (v_count : Int32) (f_from : (Nat → Int32)) (f_to : (Nat → Int32)) (f_amount : (Nat → Int64)) (f_day : (Nat → Int64)) (f_order : (Nat → Int32)) : va_W := [(a0, .inr (0, [.int v_count, .ref a_from, .ref a_to, .ref a_amount, .ref a_day, .ref a_order])), (a_from, .inl (cI, 400, .inl f_from)), (a_to, .inl (cI, 400, .inl f_to)), (a_amount, .inl (cJ, 400, .inr (.inl f_amount))), (a_day, .inl (cJ, 400, .inr (.inl f_day))), (a_order, .inl (cI, 400, .inl f_order))]
abbrev rm_X0_insert : Room := { frames := 0, cells := 0, slots := 0, locals := 0 }
def wb_X0_insert_71 (post : Int32 → (Nat → Int32) → (Nat → Int32) → (Nat → Int64) → (Nat → Int64) → (Nat → Int32) → Prop) : Nat → Int32 → Int32 → Int32 → (Nat → Int32) → (Nat → Int32) → (Nat → Int64) → (Nat → Int64) → (Nat → Int32) → Prop
  | 0 => fun _ _ _ _ _ _ _ _ => False
  | n + 1 => fun x1 x8 v_count f_from f_to f_amount f_day f_order => ((x8 ≤ x1 → (vp_in x1 400 ∧ (∀ f_14 : Nat → Int32, f_14 = upd f_order x1.toNatClampNeg v_count → ∀ v_15 : Int32, v_15 = (v_count + 1) → post v_15 f_from f_to f_amount f_day f_14))) ∧ (¬ x8 ≤ x1 → (vp_in (x8 - 1) 400 ∧ (vp_in x8 400 ∧ (∀ f_18 : Nat → Int32, f_18 = upd f_order x8.toNatClampNeg (f_order (x8 - 1).toNatClampNeg) → ∀ x_19 : Int32, x_19 = x8 + (-1) → wb_X0_insert_71 post   n x1 x_19 v_count f_from f_to f_amount f_day f_18)))))
def wp_X0_insert (post : Int32 → (Nat → Int32) → (Nat → Int32) → (Nat → Int64) → (Nat → Int64) → (Nat → Int32) → Prop) (v_count : Int32) (f_from : (Nat → Int32)) (f_to : (Nat → Int32)) (f_amount : (Nat → Int64)) (f_day : (Nat → Int64)) (f_order : (Nat → Int32)) (p1 : Int32) (p2 : Int32) (p3 : Int32) (p4 : Int64) (p5 : Int64) : Prop := ((400 ≤ v_count → post v_count f_from f_to f_amount f_day f_order) ∧ (¬ 400 ≤ v_count → ((p1 < 0 → post v_count f_from f_to f_amount f_day f_order) ∧ (¬ p1 < 0 → ((p1 ≤ v_count → (vp_in v_count 400 ∧ (∀ f_5 : Nat → Int32, f_5 = upd f_from v_count.toNatClampNeg p2 → vp_in v_count 400 ∧ (∀ f_7 : Nat → Int32, f_7 = upd f_to v_count.toNatClampNeg p3 → vp_in v_count 400 ∧ (∀ f_9 : Nat → Int64, f_9 = vp_updL f_amount v_count.toNatClampNeg p4 → vp_in v_count 400 ∧ (∀ f_11 : Nat → Int64, f_11 = vp_updL f_day v_count.toNatClampNeg p5 → (∃ n_71 : Nat, wb_X0_insert_71 post  n_71 p1 v_count v_count f_5 f_7 f_9 f_11 f_order))))))) ∧ (¬ p1 ≤ v_count → post v_count f_from f_to f_amount f_day f_order))))))
set_option maxHeartbeats 4000000 in
set_option maxRecDepth 100000 in
theorem cw_X0_insert (l : Launch) (dC : Nat → ClassId) (dI : Nat → Nat → Nat) (cI cJ cZ : ClassId) (a0 a_from a_to a_amount a_day a_order : Nat) (sz : Nat) (v_count : Int32) (f_from : (Nat → Int32)) (f_to : (Nat → Int32)) (f_amount : (Nat → Int64)) (f_day : (Nat → Int64)) (f_order : (Nat → Int32)) (p1 : Int32) (p2 : Int32) (p3 : Int32) (p4 : Int64) (p5 : Int64) (post : Int32 → (Nat → Int32) → (Nat → Int32) → (Nat → Int64) → (Nat → Int64) → (Nat → Int32) → Prop) (h : wp_X0_insert post v_count f_from f_to f_amount f_day f_order p1 p2 p3 p4 p5) : Met l yX0_insert wsX0_insert rm_X0_insert (va_Pc [.ref a0, .int p1, .int p2, .int p3, .long p4, .long p5] (vv_B (dC, dI) (vv_ty cI cJ cZ) (wd_X0_insert cI cJ cZ a0 a_from a_to a_amount a_day a_order v_count f_from f_to f_amount f_day f_order) sz)) (va_Qv (fun (u : Int32 × (Nat → Int32) × (Nat → Int32) × (Nat → Int64) × (Nat → Int64) × (Nat → Int32)) => post (u.1) (u.2.1) (u.2.2.1) (u.2.2.2.1) (u.2.2.2.2.1) (u.2.2.2.2.2)) (vv_E (dC, dI) (vv_ty cI cJ cZ) (va_A (wd_X0_insert cI cJ cZ a0 a_from a_to a_amount a_day a_order v_count f_from f_to f_amount f_day f_order) sz) (fun u : Int32 × (Nat → Int32) × (Nat → Int32) × (Nat → Int64) × (Nat → Int64) × (Nat → Int32) => wd_X0_insert cI cJ cZ a0 a_from a_to a_amount a_day a_order (u.1) (u.2.1) (u.2.2.1) (u.2.2.2.1) (u.2.2.2.2.1) (u.2.2.2.2.2))) (va_A (wd_X0_insert cI cJ cZ a0 a_from a_to a_amount a_day a_order v_count f_from f_to f_amount f_day f_order) sz)) 0 0 (va_A (wd_X0_insert cI cJ cZ a0 a_from a_to a_amount a_day a_order v_count f_from f_to f_amount f_day f_order) sz) := by
  refine Met.ofW (cc := cX0_insert) (maxL := 9) (ret := none) (by decide) rfl ?_
  intro p e s m args below meth c s₁ B hml hv
  obtain ⟨hav, hsz, hP, hK, hD0⟩ := hv
  have hx := B.exec
  have hb := B.bytes
  have hr := B.returns
  have hts := atoms_spec (ws := wsX0_insert) B.pre
  have hown : s.vm.findClass RX0 = some m.cls := findClass_of_methodNamed B.named
  have hlocks := B.notSynchronized
  subst hsz
  have hD := hD0.self (sz := s.heap.size)
  clear hD0
  generalize hAe : va_A (wd_X0_insert cI cJ cZ a0 a_from a_to a_amount a_day a_order v_count f_from f_to f_amount f_day f_order) s.heap.size = A at hD ⊢
  have hA : ∀ q : Nat, s.heap.size ≤ q → A q := fun q h => by rw [← hAe]; exact Or.inr h
  clear hAe
  have hS : va_S A s.heap s.heap [] := va_S.rf
  have hl := lv_entry ([.ref a0, .int p1, .int p2, .int p3, .long p4, .long p5]) (n := 9) (Nat.le_of_ble_eq_true rfl)
  subst hav
  rw [lg_entry_eq]
  generalize (lg_sl ([.ref a0, .int p1, .int p2, .int p3, .long p4, .long p5]) ++ List.replicate (9 - (lg_sl ([.ref a0, .int p1, .int p2, .int p3, .long p4, .long p5])).length) Slot.unset).toArray = ls at hl ⊢
  replace hl : lv_has ls 9 [(0, .ref a0), (1, .int p1), (2, .int p2), (3, .int p3), (4, .long p4), (6, .long p5)] := hl
  clear B
  generalize (([.ref a0, .int p1, .int p2, .int p3, .long p4, .long p5] : List Value)).toArray = av at hts ⊢
  suffices MAIN : ∀ Q : State → Prop, (∀ (v_count : Int32) (f_from : (Nat → Int32)) (f_to : (Nat → Int32)) (f_amount : (Nat → Int64)) (f_day : (Nat → Int64)) (f_order : (Nat → Int32)) (H : Heap) (locs : List Loc) (ls : Array Slot) (pc : Nat), post v_count f_from f_to f_amount f_day f_order → va_P (dC, dI) vwCl (wd_X0_insert cI cJ cZ a0 a_from a_to a_amount a_day a_order v_count f_from f_to f_amount f_day f_order) H → va_D A (wd_X0_insert cI cJ cZ a0 a_from a_to a_amount a_day a_order v_count f_from f_to f_amount f_day f_order) → va_S A s.heap H locs → decode cX0_insert pc = .ok (.return_, 1) → W p l e rm_X0_insert s m av below meth c H locs 0 0 Q (F0 m pc ls [])) → W p l e rm_X0_insert s m av below meth c s.heap [] 0 0 Q (F0 m 0 ls []) from MAIN _ (fun v_count f_from f_to f_amount f_day f_order H locs ls pc h hP hD hS hd => vv_vret (v_count, f_from, f_to, f_amount, f_day, f_order) hx hb hr hlocks h hK hP hD hS hd)
  intro Q RET
  have fl9 := hts (.fieldLink RX0 9 "LotFlows$Flows" "from" "[I") (by decide +kernel)
  have fl15 := hts (.fieldLink RX0 15 "LotFlows$Flows" "to" "[I") (by decide +kernel)
  have fl18 := hts (.fieldLink RX0 18 "LotFlows$Flows" "amount" "[J") (by decide +kernel)
  have fl22 := hts (.fieldLink RX0 22 "LotFlows$Flows" "day" "[J") (by decide +kernel)
  have fl25 := hts (.fieldLink RX0 25 "LotFlows$Flows" "order" "[I") (by decide +kernel)
  have fl28 := hts (.fieldLink RX0 28 "LotFlows$Flows" "count" "I") (by decide +kernel)
  have in_X0 : ∀ w ∈ wsX00, w ∈ wsX0_insert := by decide +kernel
  have bk_71 : ∀ n : Nat, ∀ (x1 : Int32) (x8 : Int32) (v_count : Int32) (f_from : (Nat → Int32)) (f_to : (Nat → Int32)) (f_amount : (Nat → Int64)) (f_day : (Nat → Int64)) (f_order : (Nat → Int32)) (H : Heap) (locs : List Loc) (ls : Array Slot), va_P (dC, dI) vwCl (wd_X0_insert cI cJ cZ a0 a_from a_to a_amount a_day a_order v_count f_from f_to f_amount f_day f_order) H → va_D A (wd_X0_insert cI cJ cZ a0 a_from a_to a_amount a_day a_order v_count f_from f_to f_amount f_day f_order) → va_S A s.heap H locs → lv_has ls 9 [(0, .ref a0), (1, .int x1), (8, .int x8)] → wb_X0_insert_71 post  n x1 x8 v_count f_from f_to f_amount f_day f_order → W p l e rm_X0_insert s m av below meth c H locs 0 0 Q (F0 m 71 ls []) := by
    intro n
    induction n with
    | zero =>
      intro x1 x8 v_count f_from f_to f_amount f_day f_order H locs ls hP hD hS hl h
      exact False.elim h
    | succ n ih71 =>
      intro x1 x8 v_count f_from f_to f_amount f_day f_order H locs ls hP hD hS hl h
      refine lv_iload hx hb dX0_insert_71 (lv_at hl 2 rfl) ?_
      refine lv_iload_n hx hb dX0_insert_73 rfl (lv_at hl 1 rfl) ?_
      refine lv_icmp_le (tgt := 99) hx hb dX0_insert_74 (by decide) (fun c_12 => ?_) (fun c_12 => ?_)
      · replace h := h.1 c_12
        refine lv_aload_n hx hb dX0_insert_99 rfl (lv_at hl 0 rfl) ?_
        refine va_get (D := (dC, dI)) (ci := 0) (v := .ref a_order) (C := RX0) (T := TX0) (N := 6) hx hb hts in_X0 hown hK hP 0 rfl rfl 5 (by decide) fl25 (fun _ h9 => h9) rfl dX0_insert_100 ?_
        refine lv_iload_n hx hb dX0_insert_103 rfl (lv_at hl 1 rfl) ?_
        refine lv_aload_n hx hb dX0_insert_104 rfl (lv_at hl 0 rfl) ?_
        refine va_get (D := (dC, dI)) (ci := 0) (v := .int v_count) (C := RX0) (T := TX0) (N := 6) hx hb hts in_X0 hown hK hP 0 rfl rfl 0 (by decide) fl28 (fun _ h9 => h9) rfl dX0_insert_105 ?_
        obtain ⟨hi_13, h⟩ := h
        refine vv_iast hx hb hK hP hD hS 5 0 rfl rfl hi_13 dX0_insert_108 (fun f_14 ef_14 H locs hP hD hS => ?_)
        replace h := h f_14 ef_14
        replace hP : va_P (dC, dI) vwCl (wd_X0_insert cI cJ cZ a0 a_from a_to a_amount a_day a_order v_count f_from f_to f_amount f_day f_14) H := hP
        replace hD : va_D A (wd_X0_insert cI cJ cZ a0 a_from a_to a_amount a_day a_order v_count f_from f_to f_amount f_day f_14) := hD
        refine lv_aload_n hx hb dX0_insert_109 rfl (lv_at hl 0 rfl) ?_
        refine lv_dup hx hb dX0_insert_110 rfl ?_
        refine va_get (D := (dC, dI)) (ci := 0) (v := .int v_count) (C := RX0) (T := TX0) (N := 6) hx hb hts in_X0 hown hK hP 0 rfl rfl 0 (by decide) fl28 (fun _ h9 => h9) rfl dX0_insert_111 ?_
        refine lv_iconst (v := 1) hx hb dX0_insert_114 (by decide) ?_
        refine lv_iadd hx hb dX0_insert_115 ?_
        refine lv_topi (fun v_15 ev_15 => ?_)
        replace h := h v_15 ev_15
        refine va_put (D := (dC, dI)) (ci := 0) (v := .int v_15) (ty := .int) (C := RX0) (T := TX0) (N := 6) hx hb hts in_X0 tyX0 tyX0_ok nmX0 hown hK hP hD hS 0 rfl rfl 0 (by decide) fl28 (fun _ h9 => h9) rfl (by decide +kernel) rfl rfl (Nat.le_of_ble_eq_true rfl) dX0_insert_116 (fun H locs hP hD hS => ?_)
        replace hP : va_P (dC, dI) vwCl (wd_X0_insert cI cJ cZ a0 a_from a_to a_amount a_day a_order v_15 f_from f_to f_amount f_day f_14) H := hP
        replace hD : va_D A (wd_X0_insert cI cJ cZ a0 a_from a_to a_amount a_day a_order v_15 f_from f_to f_amount f_day f_14) := hD
        exact RET v_15 f_from f_to f_amount f_day f_14 H locs ls 119 h hP hD hS dX0_insert_119
      · replace h := h.2 c_12
        refine lv_aload_n hx hb dX0_insert_77 rfl (lv_at hl 0 rfl) ?_
        refine va_get (D := (dC, dI)) (ci := 0) (v := .ref a_order) (C := RX0) (T := TX0) (N := 6) hx hb hts in_X0 hown hK hP 0 rfl rfl 5 (by decide) fl25 (fun _ h9 => h9) rfl dX0_insert_78 ?_
        refine lv_iload hx hb dX0_insert_81 (lv_at hl 2 rfl) ?_
        refine lv_aload_n hx hb dX0_insert_83 rfl (lv_at hl 0 rfl) ?_
        refine va_get (D := (dC, dI)) (ci := 0) (v := .ref a_order) (C := RX0) (T := TX0) (N := 6) hx hb hts in_X0 hown hK hP 0 rfl rfl 5 (by decide) fl25 (fun _ h9 => h9) rfl dX0_insert_84 ?_
        refine lv_iload hx hb dX0_insert_87 (lv_at hl 2 rfl) ?_
        refine lv_iconst (v := 1) hx hb dX0_insert_89 (by decide) ?_
        refine lv_isub hx hb dX0_insert_90 ?_
        obtain ⟨hi_16, h⟩ := h
        refine va_iald hx hb hK hP 5 0 rfl rfl hi_16 dX0_insert_91 ?_
        obtain ⟨hi_17, h⟩ := h
        refine vv_iast hx hb hK hP hD hS 5 0 rfl rfl hi_17 dX0_insert_92 (fun f_18 ef_18 H locs hP hD hS => ?_)
        replace h := h f_18 ef_18
        replace hP : va_P (dC, dI) vwCl (wd_X0_insert cI cJ cZ a0 a_from a_to a_amount a_day a_order v_count f_from f_to f_amount f_day f_18) H := hP
        replace hD : va_D A (wd_X0_insert cI cJ cZ a0 a_from a_to a_amount a_day a_order v_count f_from f_to f_amount f_day f_18) := hD
        obtain ⟨x_19, ex_19⟩ : ∃ y : Int32, y = x8 + (-1) := ⟨_, rfl⟩
        replace h := h x_19 ex_19
        refine lv_iinc (v := x_19) (lv' := [(8, .int x_19), (0, .ref a0), (1, .int x1)]) hx hb dX0_insert_93 hl (k := 2) rfl (by rw [ex_19]; rfl) (by decide) rfl (fun ls hl => ?_)
        refine lv_goto (tgt := 71) hx hb dX0_insert_96 (by decide) ?_
        exact ih71 x1 x_19 v_count f_from f_to f_amount f_day f_18 H locs ls hP hD hS (lv_sub hl [1, 2, 0] rfl) h
  suffices START : ∀ (H : Heap) (locs : List Loc), va_P (dC, dI) vwCl (wd_X0_insert cI cJ cZ a0 a_from a_to a_amount a_day a_order v_count f_from f_to f_amount f_day f_order) H → va_D A (wd_X0_insert cI cJ cZ a0 a_from a_to a_amount a_day a_order v_count f_from f_to f_amount f_day f_order) → va_S A s.heap H locs → W p l e rm_X0_insert s m av below meth c H locs 0 0 Q (F0 m 0 ls []) from START s.heap [] hP hD hS
  clear hP hD hS
  intro H locs hP hD hS
  refine lv_aload_n hx hb dX0_insert_0 rfl (lv_at hl 0 rfl) ?_
  refine va_get (D := (dC, dI)) (ci := 0) (v := .int v_count) (C := RX0) (T := TX0) (N := 6) hx hb hts in_X0 hown hK hP 0 rfl rfl 0 (by decide) fl28 (fun _ h9 => h9) rfl dX0_insert_1 ?_
  refine lv_sipush (v := 400) hx hb dX0_insert_4 (by decide) ?_
  refine lv_icmp_ge (tgt := 22) hx hb dX0_insert_7 (by decide) (fun c_1 => ?_) (fun c_1 => ?_)
  · replace h := h.1 c_1
    exact RET v_count f_from f_to f_amount f_day f_order H locs ls 22 h hP hD hS dX0_insert_22
  · replace h := h.2 c_1
    refine lv_iload_n hx hb dX0_insert_10 rfl (lv_at hl 1 rfl) ?_
    refine lv_if_lt (tgt := 22) hx hb dX0_insert_11 (by decide) (fun c_2 => ?_) (fun c_2 => ?_)
    · replace h := h.1 c_2
      exact RET v_count f_from f_to f_amount f_day f_order H locs ls 22 h hP hD hS dX0_insert_22
    · replace h := h.2 c_2
      refine lv_iload_n hx hb dX0_insert_14 rfl (lv_at hl 1 rfl) ?_
      refine lv_aload_n hx hb dX0_insert_15 rfl (lv_at hl 0 rfl) ?_
      refine va_get (D := (dC, dI)) (ci := 0) (v := .int v_count) (C := RX0) (T := TX0) (N := 6) hx hb hts in_X0 hown hK hP 0 rfl rfl 0 (by decide) fl28 (fun _ h9 => h9) rfl dX0_insert_16 ?_
      refine lv_icmp_le (tgt := 23) hx hb dX0_insert_19 (by decide) (fun c_3 => ?_) (fun c_3 => ?_)
      · replace h := h.1 c_3
        refine lv_aload_n hx hb dX0_insert_23 rfl (lv_at hl 0 rfl) ?_
        refine va_get (D := (dC, dI)) (ci := 0) (v := .ref a_from) (C := RX0) (T := TX0) (N := 6) hx hb hts in_X0 hown hK hP 0 rfl rfl 1 (by decide) fl9 (fun _ h9 => h9) rfl dX0_insert_24 ?_
        refine lv_aload_n hx hb dX0_insert_27 rfl (lv_at hl 0 rfl) ?_
        refine va_get (D := (dC, dI)) (ci := 0) (v := .int v_count) (C := RX0) (T := TX0) (N := 6) hx hb hts in_X0 hown hK hP 0 rfl rfl 0 (by decide) fl28 (fun _ h9 => h9) rfl dX0_insert_28 ?_
        refine lv_iload_n hx hb dX0_insert_31 rfl (lv_at hl 2 rfl) ?_
        obtain ⟨hi_4, h⟩ := h
        refine vv_iast hx hb hK hP hD hS 1 0 rfl rfl hi_4 dX0_insert_32 (fun f_5 ef_5 H locs hP hD hS => ?_)
        replace h := h f_5 ef_5
        replace hP : va_P (dC, dI) vwCl (wd_X0_insert cI cJ cZ a0 a_from a_to a_amount a_day a_order v_count f_5 f_to f_amount f_day f_order) H := hP
        replace hD : va_D A (wd_X0_insert cI cJ cZ a0 a_from a_to a_amount a_day a_order v_count f_5 f_to f_amount f_day f_order) := hD
        refine lv_aload_n hx hb dX0_insert_33 rfl (lv_at hl 0 rfl) ?_
        refine va_get (D := (dC, dI)) (ci := 0) (v := .ref a_to) (C := RX0) (T := TX0) (N := 6) hx hb hts in_X0 hown hK hP 0 rfl rfl 2 (by decide) fl15 (fun _ h9 => h9) rfl dX0_insert_34 ?_
        refine lv_aload_n hx hb dX0_insert_37 rfl (lv_at hl 0 rfl) ?_
        refine va_get (D := (dC, dI)) (ci := 0) (v := .int v_count) (C := RX0) (T := TX0) (N := 6) hx hb hts in_X0 hown hK hP 0 rfl rfl 0 (by decide) fl28 (fun _ h9 => h9) rfl dX0_insert_38 ?_
        refine lv_iload_n hx hb dX0_insert_41 rfl (lv_at hl 3 rfl) ?_
        obtain ⟨hi_6, h⟩ := h
        refine vv_iast hx hb hK hP hD hS 2 0 rfl rfl hi_6 dX0_insert_42 (fun f_7 ef_7 H locs hP hD hS => ?_)
        replace h := h f_7 ef_7
        replace hP : va_P (dC, dI) vwCl (wd_X0_insert cI cJ cZ a0 a_from a_to a_amount a_day a_order v_count f_5 f_7 f_amount f_day f_order) H := hP
        replace hD : va_D A (wd_X0_insert cI cJ cZ a0 a_from a_to a_amount a_day a_order v_count f_5 f_7 f_amount f_day f_order) := hD
        refine lv_aload_n hx hb dX0_insert_43 rfl (lv_at hl 0 rfl) ?_
        refine va_get (D := (dC, dI)) (ci := 0) (v := .ref a_amount) (C := RX0) (T := TX0) (N := 6) hx hb hts in_X0 hown hK hP 0 rfl rfl 3 (by decide) fl18 (fun _ h9 => h9) rfl dX0_insert_44 ?_
        refine lv_aload_n hx hb dX0_insert_47 rfl (lv_at hl 0 rfl) ?_
        refine va_get (D := (dC, dI)) (ci := 0) (v := .int v_count) (C := RX0) (T := TX0) (N := 6) hx hb hts in_X0 hown hK hP 0 rfl rfl 0 (by decide) fl28 (fun _ h9 => h9) rfl dX0_insert_48 ?_
        refine lv_lload hx hb dX0_insert_51 (lv_at hl 4 rfl) ?_
        obtain ⟨hi_8, h⟩ := h
        refine vv_last hx hb hK hP hD hS 3 1 rfl rfl hi_8 dX0_insert_53 (fun f_9 ef_9 H locs hP hD hS => ?_)
        replace h := h f_9 ef_9
        replace hP : va_P (dC, dI) vwCl (wd_X0_insert cI cJ cZ a0 a_from a_to a_amount a_day a_order v_count f_5 f_7 f_9 f_day f_order) H := hP
        replace hD : va_D A (wd_X0_insert cI cJ cZ a0 a_from a_to a_amount a_day a_order v_count f_5 f_7 f_9 f_day f_order) := hD
        refine lv_aload_n hx hb dX0_insert_54 rfl (lv_at hl 0 rfl) ?_
        refine va_get (D := (dC, dI)) (ci := 0) (v := .ref a_day) (C := RX0) (T := TX0) (N := 6) hx hb hts in_X0 hown hK hP 0 rfl rfl 4 (by decide) fl22 (fun _ h9 => h9) rfl dX0_insert_55 ?_
        refine lv_aload_n hx hb dX0_insert_58 rfl (lv_at hl 0 rfl) ?_
        refine va_get (D := (dC, dI)) (ci := 0) (v := .int v_count) (C := RX0) (T := TX0) (N := 6) hx hb hts in_X0 hown hK hP 0 rfl rfl 0 (by decide) fl28 (fun _ h9 => h9) rfl dX0_insert_59 ?_
        refine lv_lload hx hb dX0_insert_62 (lv_at hl 5 rfl) ?_
        obtain ⟨hi_10, h⟩ := h
        refine vv_last hx hb hK hP hD hS 4 1 rfl rfl hi_10 dX0_insert_64 (fun f_11 ef_11 H locs hP hD hS => ?_)
        replace h := h f_11 ef_11
        replace hP : va_P (dC, dI) vwCl (wd_X0_insert cI cJ cZ a0 a_from a_to a_amount a_day a_order v_count f_5 f_7 f_9 f_11 f_order) H := hP
        replace hD : va_D A (wd_X0_insert cI cJ cZ a0 a_from a_to a_amount a_day a_order v_count f_5 f_7 f_9 f_11 f_order) := hD
        refine lv_aload_n hx hb dX0_insert_65 rfl (lv_at hl 0 rfl) ?_
        refine va_get (D := (dC, dI)) (ci := 0) (v := .int v_count) (C := RX0) (T := TX0) (N := 6) hx hb hts in_X0 hown hK hP 0 rfl rfl 0 (by decide) fl28 (fun _ h9 => h9) rfl dX0_insert_66 ?_
        refine lv_istore (lv' := [(8, .int v_count), (0, .ref a0), (1, .int p1), (2, .int p2), (3, .int p3), (4, .long p4), (6, .long p5)]) hx hb dX0_insert_69 hl (by decide) rfl (fun ls hl => ?_)
        obtain ⟨n_71, h⟩ := h
        exact bk_71 n_71 p1 v_count v_count f_5 f_7 f_9 f_11 f_order H locs ls hP hD hS (lv_sub hl [1, 2, 0] rfl) h
      · replace h := h.2 c_3
        exact RET v_count f_from f_to f_amount f_day f_order H locs ls 22 h hP hD hS dX0_insert_22

abbrev wd_X0_removeNewest (cI cJ cZ : ClassId) (a0 a_from a_to a_amount a_day a_order : Nat) (v_count : Int32) (f_order : (Nat → Int32)) : va_W := [(a0, .inr (0, [.int v_count, .ref a_from, .ref a_to, .ref a_amount, .ref a_day, .ref a_order])), (a_order, .inl (cI, 400, .inl f_order))]
abbrev rm_X0_removeNewest : Room := { frames := 0, cells := 0, slots := 0, locals := 0 }
def wb_X0_removeNewest_24 (post : Int32 → (Nat → Int32) → Prop) : Nat → Int32 → Int32 → (Nat → Int32) → Prop
  | 0 => fun _ _ _ => False
  | n + 1 => fun x2 v_count f_order => ((v_count ≤ x2 → post v_count f_order) ∧ (¬ v_count ≤ x2 → (vp_in (x2 + 1) 400 ∧ (vp_in x2 400 ∧ (∀ f_7 : Nat → Int32, f_7 = upd f_order x2.toNatClampNeg (f_order (x2 + 1).toNatClampNeg) → ∀ x_8 : Int32, x_8 = x2 + 1 → wb_X0_removeNewest_24 post   n x_8 v_count f_7)))))
def wp_X0_removeNewest (post : Int32 → (Nat → Int32) → Prop) (v_count : Int32) (f_order : (Nat → Int32)) (p1 : Int32) : Prop := ((v_count ≤ 0 → post v_count f_order) ∧ (¬ v_count ≤ 0 → ((0 ≤ p1 → (∀ v_3 : Int32, v_3 = (v_count - 1) → (∃ n_24 : Nat, wb_X0_removeNewest_24 post  n_24 p1 v_3 f_order))) ∧ (¬ 0 ≤ p1 → post v_count f_order))))
set_option maxHeartbeats 4000000 in
set_option maxRecDepth 100000 in
theorem cw_X0_removeNewest (l : Launch) (dC : Nat → ClassId) (dI : Nat → Nat → Nat) (cI cJ cZ : ClassId) (a0 a_from a_to a_amount a_day a_order : Nat) (sz : Nat) (v_count : Int32) (f_order : (Nat → Int32)) (p1 : Int32) (post : Int32 → (Nat → Int32) → Prop) (h : wp_X0_removeNewest post v_count f_order p1) : Met l yX0_removeNewest wsX0_removeNewest rm_X0_removeNewest (va_Pc [.ref a0, .int p1] (vv_B (dC, dI) (vv_ty cI cJ cZ) (wd_X0_removeNewest cI cJ cZ a0 a_from a_to a_amount a_day a_order v_count f_order) sz)) (va_Qv (fun (u : Int32 × (Nat → Int32)) => post (u.1) (u.2)) (vv_E (dC, dI) (vv_ty cI cJ cZ) (va_A (wd_X0_removeNewest cI cJ cZ a0 a_from a_to a_amount a_day a_order v_count f_order) sz) (fun u : Int32 × (Nat → Int32) => wd_X0_removeNewest cI cJ cZ a0 a_from a_to a_amount a_day a_order (u.1) (u.2))) (va_A (wd_X0_removeNewest cI cJ cZ a0 a_from a_to a_amount a_day a_order v_count f_order) sz)) 0 0 (va_A (wd_X0_removeNewest cI cJ cZ a0 a_from a_to a_amount a_day a_order v_count f_order) sz) := by
  refine Met.ofW (cc := cX0_removeNewest) (maxL := 3) (ret := none) (by decide) rfl ?_
  intro p e s m args below meth c s₁ B hml hv
  obtain ⟨hav, hsz, hP, hK, hD0⟩ := hv
  have hx := B.exec
  have hb := B.bytes
  have hr := B.returns
  have hts := atoms_spec (ws := wsX0_removeNewest) B.pre
  have hown : s.vm.findClass RX0 = some m.cls := findClass_of_methodNamed B.named
  have hlocks := B.notSynchronized
  subst hsz
  have hD := hD0.self (sz := s.heap.size)
  clear hD0
  generalize hAe : va_A (wd_X0_removeNewest cI cJ cZ a0 a_from a_to a_amount a_day a_order v_count f_order) s.heap.size = A at hD ⊢
  have hA : ∀ q : Nat, s.heap.size ≤ q → A q := fun q h => by rw [← hAe]; exact Or.inr h
  clear hAe
  have hS : va_S A s.heap s.heap [] := va_S.rf
  have hl := lv_entry ([.ref a0, .int p1]) (n := 3) (Nat.le_of_ble_eq_true rfl)
  subst hav
  rw [lg_entry_eq]
  generalize (lg_sl ([.ref a0, .int p1]) ++ List.replicate (3 - (lg_sl ([.ref a0, .int p1])).length) Slot.unset).toArray = ls at hl ⊢
  replace hl : lv_has ls 3 [(0, .ref a0), (1, .int p1)] := hl
  clear B
  generalize (([.ref a0, .int p1] : List Value)).toArray = av at hts ⊢
  suffices MAIN : ∀ Q : State → Prop, (∀ (v_count : Int32) (f_order : (Nat → Int32)) (H : Heap) (locs : List Loc) (ls : Array Slot) (pc : Nat), post v_count f_order → va_P (dC, dI) vwCl (wd_X0_removeNewest cI cJ cZ a0 a_from a_to a_amount a_day a_order v_count f_order) H → va_D A (wd_X0_removeNewest cI cJ cZ a0 a_from a_to a_amount a_day a_order v_count f_order) → va_S A s.heap H locs → decode cX0_removeNewest pc = .ok (.return_, 1) → W p l e rm_X0_removeNewest s m av below meth c H locs 0 0 Q (F0 m pc ls [])) → W p l e rm_X0_removeNewest s m av below meth c s.heap [] 0 0 Q (F0 m 0 ls []) from MAIN _ (fun v_count f_order H locs ls pc h hP hD hS hd => vv_vret (v_count, f_order) hx hb hr hlocks h hK hP hD hS hd)
  intro Q RET
  have fl25 := hts (.fieldLink RX0 25 "LotFlows$Flows" "order" "[I") (by decide +kernel)
  have fl28 := hts (.fieldLink RX0 28 "LotFlows$Flows" "count" "I") (by decide +kernel)
  have in_X0 : ∀ w ∈ wsX00, w ∈ wsX0_removeNewest := by decide +kernel
  have bk_24 : ∀ n : Nat, ∀ (x2 : Int32) (v_count : Int32) (f_order : (Nat → Int32)) (H : Heap) (locs : List Loc) (ls : Array Slot), va_P (dC, dI) vwCl (wd_X0_removeNewest cI cJ cZ a0 a_from a_to a_amount a_day a_order v_count f_order) H → va_D A (wd_X0_removeNewest cI cJ cZ a0 a_from a_to a_amount a_day a_order v_count f_order) → va_S A s.heap H locs → lv_has ls 3 [(0, .ref a0), (2, .int x2)] → wb_X0_removeNewest_24 post  n x2 v_count f_order → W p l e rm_X0_removeNewest s m av below meth c H locs 0 0 Q (F0 m 24 ls []) := by
    intro n
    induction n with
    | zero =>
      intro x2 v_count f_order H locs ls hP hD hS hl h
      exact False.elim h
    | succ n ih24 =>
      intro x2 v_count f_order H locs ls hP hD hS hl h
      refine lv_iload_n hx hb dX0_removeNewest_24 rfl (lv_at hl 1 rfl) ?_
      refine lv_aload_n hx hb dX0_removeNewest_25 rfl (lv_at hl 0 rfl) ?_
      refine va_get (D := (dC, dI)) (ci := 0) (v := .int v_count) (C := RX0) (T := TX0) (N := 6) hx hb hts in_X0 hown hK hP 0 rfl rfl 0 (by decide) fl28 (fun _ h9 => h9) rfl dX0_removeNewest_26 ?_
      refine lv_icmp_ge (tgt := 52) hx hb dX0_removeNewest_29 (by decide) (fun c_4 => ?_) (fun c_4 => ?_)
      · replace h := h.1 c_4
        exact RET v_count f_order H locs ls 52 h hP hD hS dX0_removeNewest_52
      · replace h := h.2 c_4
        refine lv_aload_n hx hb dX0_removeNewest_32 rfl (lv_at hl 0 rfl) ?_
        refine va_get (D := (dC, dI)) (ci := 0) (v := .ref a_order) (C := RX0) (T := TX0) (N := 6) hx hb hts in_X0 hown hK hP 0 rfl rfl 5 (by decide) fl25 (fun _ h9 => h9) rfl dX0_removeNewest_33 ?_
        refine lv_iload_n hx hb dX0_removeNewest_36 rfl (lv_at hl 1 rfl) ?_
        refine lv_aload_n hx hb dX0_removeNewest_37 rfl (lv_at hl 0 rfl) ?_
        refine va_get (D := (dC, dI)) (ci := 0) (v := .ref a_order) (C := RX0) (T := TX0) (N := 6) hx hb hts in_X0 hown hK hP 0 rfl rfl 5 (by decide) fl25 (fun _ h9 => h9) rfl dX0_removeNewest_38 ?_
        refine lv_iload_n hx hb dX0_removeNewest_41 rfl (lv_at hl 1 rfl) ?_
        refine lv_iconst (v := 1) hx hb dX0_removeNewest_42 (by decide) ?_
        refine lv_iadd hx hb dX0_removeNewest_43 ?_
        obtain ⟨hi_5, h⟩ := h
        refine va_iald hx hb hK hP 1 0 rfl rfl hi_5 dX0_removeNewest_44 ?_
        obtain ⟨hi_6, h⟩ := h
        refine vv_iast hx hb hK hP hD hS 1 0 rfl rfl hi_6 dX0_removeNewest_45 (fun f_7 ef_7 H locs hP hD hS => ?_)
        replace h := h f_7 ef_7
        replace hP : va_P (dC, dI) vwCl (wd_X0_removeNewest cI cJ cZ a0 a_from a_to a_amount a_day a_order v_count f_7) H := hP
        replace hD : va_D A (wd_X0_removeNewest cI cJ cZ a0 a_from a_to a_amount a_day a_order v_count f_7) := hD
        obtain ⟨x_8, ex_8⟩ : ∃ y : Int32, y = x2 + 1 := ⟨_, rfl⟩
        replace h := h x_8 ex_8
        refine lv_iinc (v := x_8) (lv' := [(2, .int x_8), (0, .ref a0)]) hx hb dX0_removeNewest_46 hl (k := 1) rfl (by rw [ex_8]; rfl) (by decide) rfl (fun ls hl => ?_)
        refine lv_goto (tgt := 24) hx hb dX0_removeNewest_49 (by decide) ?_
        exact ih24 x_8 v_count f_7 H locs ls hP hD hS (lv_sub hl [1, 0] rfl) h
  suffices START : ∀ (H : Heap) (locs : List Loc), va_P (dC, dI) vwCl (wd_X0_removeNewest cI cJ cZ a0 a_from a_to a_amount a_day a_order v_count f_order) H → va_D A (wd_X0_removeNewest cI cJ cZ a0 a_from a_to a_amount a_day a_order v_count f_order) → va_S A s.heap H locs → W p l e rm_X0_removeNewest s m av below meth c H locs 0 0 Q (F0 m 0 ls []) from START s.heap [] hP hD hS
  clear hP hD hS
  intro H locs hP hD hS
  refine lv_aload_n hx hb dX0_removeNewest_0 rfl (lv_at hl 0 rfl) ?_
  refine va_get (D := (dC, dI)) (ci := 0) (v := .int v_count) (C := RX0) (T := TX0) (N := 6) hx hb hts in_X0 hown hK hP 0 rfl rfl 0 (by decide) fl28 (fun _ h9 => h9) rfl dX0_removeNewest_1 ?_
  refine lv_if_le (tgt := 11) hx hb dX0_removeNewest_4 (by decide) (fun c_1 => ?_) (fun c_1 => ?_)
  · replace h := h.1 c_1
    exact RET v_count f_order H locs ls 11 h hP hD hS dX0_removeNewest_11
  · replace h := h.2 c_1
    refine lv_iload_n hx hb dX0_removeNewest_7 rfl (lv_at hl 1 rfl) ?_
    refine lv_if_ge (tgt := 12) hx hb dX0_removeNewest_8 (by decide) (fun c_2 => ?_) (fun c_2 => ?_)
    · replace h := h.1 c_2
      refine lv_aload_n hx hb dX0_removeNewest_12 rfl (lv_at hl 0 rfl) ?_
      refine lv_dup hx hb dX0_removeNewest_13 rfl ?_
      refine va_get (D := (dC, dI)) (ci := 0) (v := .int v_count) (C := RX0) (T := TX0) (N := 6) hx hb hts in_X0 hown hK hP 0 rfl rfl 0 (by decide) fl28 (fun _ h9 => h9) rfl dX0_removeNewest_14 ?_
      refine lv_iconst (v := 1) hx hb dX0_removeNewest_17 (by decide) ?_
      refine lv_isub hx hb dX0_removeNewest_18 ?_
      refine lv_topi (fun v_3 ev_3 => ?_)
      replace h := h v_3 ev_3
      refine va_put (D := (dC, dI)) (ci := 0) (v := .int v_3) (ty := .int) (C := RX0) (T := TX0) (N := 6) hx hb hts in_X0 tyX0 tyX0_ok nmX0 hown hK hP hD hS 0 rfl rfl 0 (by decide) fl28 (fun _ h9 => h9) rfl (by decide +kernel) rfl rfl (Nat.le_of_ble_eq_true rfl) dX0_removeNewest_19 (fun H locs hP hD hS => ?_)
      replace hP : va_P (dC, dI) vwCl (wd_X0_removeNewest cI cJ cZ a0 a_from a_to a_amount a_day a_order v_3 f_order) H := hP
      replace hD : va_D A (wd_X0_removeNewest cI cJ cZ a0 a_from a_to a_amount a_day a_order v_3 f_order) := hD
      refine lv_iload_n hx hb dX0_removeNewest_22 rfl (lv_at hl 1 rfl) ?_
      refine lv_istore_n (lv' := [(2, .int p1), (0, .ref a0), (1, .int p1)]) hx hb dX0_removeNewest_23 rfl hl (by decide) rfl (fun ls hl => ?_)
      obtain ⟨n_24, h⟩ := h
      exact bk_24 n_24 p1 v_3 f_order H locs ls hP hD hS (lv_sub hl [1, 0] rfl) h
    · replace h := h.2 c_2
      exact RET v_count f_order H locs ls 11 h hP hD hS dX0_removeNewest_11

abbrev wd_X1_has (cI cJ cZ : ClassId) (a0 a_kind a_amount a_day a_held a_spot a_lotsByAge : Nat) (v_count : Int32) (v_lotCount : Int32) : va_W := [(a0, .inr (1, [.int v_count, .int v_lotCount, .ref a_kind, .ref a_amount, .ref a_day, .ref a_held, .ref a_spot, .ref a_lotsByAge]))]
abbrev rm_X1_has : Room := { frames := 0, cells := 0, slots := 0, locals := 0 }
def wp_X1_has (post : Int32 → Prop) (v_count : Int32) (v_lotCount : Int32) (p1 : Int32) : Prop := ((p1 < 0 → post 0) ∧ (¬ p1 < 0 → ((v_count ≤ p1 → post 0) ∧ (¬ v_count ≤ p1 → post 1))))
set_option maxHeartbeats 4000000 in
set_option maxRecDepth 100000 in
theorem cw_X1_has (l : Launch) (dC : Nat → ClassId) (dI : Nat → Nat → Nat) (cI cJ cZ : ClassId) (a0 a_kind a_amount a_day a_held a_spot a_lotsByAge : Nat) (sz : Nat) (v_count : Int32) (v_lotCount : Int32) (p1 : Int32) (post : Int32 → Prop) (h : wp_X1_has post v_count v_lotCount p1) : Met l yX1_has wsX1_has rm_X1_has (va_Pc [.ref a0, .int p1] (vv_B (dC, dI) (vv_ty cI cJ cZ) (wd_X1_has cI cJ cZ a0 a_kind a_amount a_day a_held a_spot a_lotsByAge v_count v_lotCount) sz)) (va_Qi (fun r (_u : Unit) => post r) (vv_E (dC, dI) (vv_ty cI cJ cZ) (va_A (wd_X1_has cI cJ cZ a0 a_kind a_amount a_day a_held a_spot a_lotsByAge v_count v_lotCount) sz) (fun _u : Unit => wd_X1_has cI cJ cZ a0 a_kind a_amount a_day a_held a_spot a_lotsByAge v_count v_lotCount)) (va_A (wd_X1_has cI cJ cZ a0 a_kind a_amount a_day a_held a_spot a_lotsByAge v_count v_lotCount) sz)) 0 0 (va_A (wd_X1_has cI cJ cZ a0 a_kind a_amount a_day a_held a_spot a_lotsByAge v_count v_lotCount) sz) := by
  refine Met.ofW (cc := cX1_has) (maxL := 2) (ret := (some .boolean)) (by decide) rfl ?_
  intro p e s m args below meth c s₁ B hml hv
  obtain ⟨hav, hsz, hP, hK, hD0⟩ := hv
  have hx := B.exec
  have hb := B.bytes
  have hr := B.returns
  have hts := atoms_spec (ws := wsX1_has) B.pre
  have hown : s.vm.findClass RX1 = some m.cls := findClass_of_methodNamed B.named
  have hlocks := B.notSynchronized
  subst hsz
  have hD := hD0.self (sz := s.heap.size)
  clear hD0
  generalize hAe : va_A (wd_X1_has cI cJ cZ a0 a_kind a_amount a_day a_held a_spot a_lotsByAge v_count v_lotCount) s.heap.size = A at hD ⊢
  have hA : ∀ q : Nat, s.heap.size ≤ q → A q := fun q h => by rw [← hAe]; exact Or.inr h
  clear hAe
  have hS : va_S A s.heap s.heap [] := va_S.rf
  have hl := lv_entry ([.ref a0, .int p1]) (n := 2) (Nat.le_of_ble_eq_true rfl)
  subst hav
  rw [lg_entry_eq]
  generalize (lg_sl ([.ref a0, .int p1]) ++ List.replicate (2 - (lg_sl ([.ref a0, .int p1])).length) Slot.unset).toArray = ls at hl ⊢
  replace hl : lv_has ls 2 [(0, .ref a0), (1, .int p1)] := hl
  clear B
  generalize (([.ref a0, .int p1] : List Value)).toArray = av at hts ⊢
  suffices MAIN : ∀ Q : State → Prop, (∀ (v : Int32) (H : Heap) (locs : List Loc) (ls : Array Slot) (pc : Nat), vv_bo v → post v → va_P (dC, dI) vwCl (wd_X1_has cI cJ cZ a0 a_kind a_amount a_day a_held a_spot a_lotsByAge v_count v_lotCount) H → va_D A (wd_X1_has cI cJ cZ a0 a_kind a_amount a_day a_held a_spot a_lotsByAge v_count v_lotCount) → va_S A s.heap H locs → decode cX1_has pc = .ok (.ireturn, 1) → W p l e rm_X1_has s m av below meth c H locs 0 0 Q (F0 m pc ls [.int v])) → W p l e rm_X1_has s m av below meth c s.heap [] 0 0 Q (F0 m 0 ls []) from MAIN _ (fun v H locs ls pc hbo h hP hD hS hd => vv_zret () hx hb hr hlocks hbo h hK hP hD hS hd)
  intro Q RET
  have fl32 := hts (.fieldLink RX1 32 "LotFlows$Nodes" "count" "I") (by decide +kernel)
  have in_X1 : ∀ w ∈ wsX10, w ∈ wsX1_has := by decide +kernel
  suffices START : ∀ (H : Heap) (locs : List Loc), va_P (dC, dI) vwCl (wd_X1_has cI cJ cZ a0 a_kind a_amount a_day a_held a_spot a_lotsByAge v_count v_lotCount) H → va_D A (wd_X1_has cI cJ cZ a0 a_kind a_amount a_day a_held a_spot a_lotsByAge v_count v_lotCount) → va_S A s.heap H locs → W p l e rm_X1_has s m av below meth c H locs 0 0 Q (F0 m 0 ls []) from START s.heap [] hP hD hS
  clear hP hD hS
  intro H locs hP hD hS
  refine lv_iload_n hx hb dX1_has_0 rfl (lv_at hl 1 rfl) ?_
  refine lv_if_lt (tgt := 16) hx hb dX1_has_1 (by decide) (fun c_1 => ?_) (fun c_1 => ?_)
  · replace h := h.1 c_1
    refine lv_iconst (v := 0) hx hb dX1_has_16 (by decide) ?_
    exact RET 0 H locs ls 17 vv_bo0 h hP hD hS dX1_has_17
  · replace h := h.2 c_1
    refine lv_iload_n hx hb dX1_has_4 rfl (lv_at hl 1 rfl) ?_
    refine lv_aload_n hx hb dX1_has_5 rfl (lv_at hl 0 rfl) ?_
    refine va_get (D := (dC, dI)) (ci := 1) (v := .int v_count) (C := RX1) (T := TX1) (N := 8) hx hb hts in_X1 hown hK hP 0 rfl rfl 0 (by decide) fl32 (fun _ h9 => h9) rfl dX1_has_6 ?_
    refine lv_icmp_ge (tgt := 16) hx hb dX1_has_9 (by decide) (fun c_2 => ?_) (fun c_2 => ?_)
    · replace h := h.1 c_2
      refine lv_iconst (v := 0) hx hb dX1_has_16 (by decide) ?_
      exact RET 0 H locs ls 17 vv_bo0 h hP hD hS dX1_has_17
    · replace h := h.2 c_2
      refine lv_iconst (v := 1) hx hb dX1_has_12 (by decide) ?_
      refine lv_goto (tgt := 17) hx hb dX1_has_13 (by decide) ?_
      exact RET 1 H locs ls 17 vv_bo1 h hP hD hS dX1_has_17

abbrev wd_X1_isLot (cI cJ cZ : ClassId) (a0 a_kind a_amount a_day a_held a_spot a_lotsByAge : Nat) (v_count : Int32) (v_lotCount : Int32) (f_kind : (Nat → Int32)) : va_W := [(a0, .inr (1, [.int v_count, .int v_lotCount, .ref a_kind, .ref a_amount, .ref a_day, .ref a_held, .ref a_spot, .ref a_lotsByAge])), (a_kind, .inl (cI, 48, .inl f_kind))]
abbrev rm_X1_isLot : Room := { frames := 1, cells := 0, slots := 0, locals := 21 }
def wp_X1_isLot (post : Int32 → Prop) (v_count : Int32) (v_lotCount : Int32) (f_kind : (Nat → Int32)) (p1 : Int32) : Prop := (wp_X1_has (fun r_1 => ((r_1 = 0 → post 0) ∧ (¬ r_1 = 0 → (vp_in p1 48 ∧ (((¬ (f_kind p1.toNatClampNeg) = 5 → post 0) ∧ ((f_kind p1.toNatClampNeg) = 5 → post 1))))))) v_count v_lotCount p1)
set_option maxHeartbeats 4000000 in
set_option maxRecDepth 100000 in
theorem cw_X1_isLot (l : Launch) (dC : Nat → ClassId) (dI : Nat → Nat → Nat) (cI cJ cZ : ClassId) (a0 a_kind a_amount a_day a_held a_spot a_lotsByAge : Nat) (sz : Nat) (v_count : Int32) (v_lotCount : Int32) (f_kind : (Nat → Int32)) (p1 : Int32) (post : Int32 → Prop) (h : wp_X1_isLot post v_count v_lotCount f_kind p1) : Met l yX1_isLot wsX1_isLot rm_X1_isLot (va_Pc [.ref a0, .int p1] (vv_B (dC, dI) (vv_ty cI cJ cZ) (wd_X1_isLot cI cJ cZ a0 a_kind a_amount a_day a_held a_spot a_lotsByAge v_count v_lotCount f_kind) sz)) (va_Qi (fun r (_u : Unit) => post r) (vv_E (dC, dI) (vv_ty cI cJ cZ) (va_A (wd_X1_isLot cI cJ cZ a0 a_kind a_amount a_day a_held a_spot a_lotsByAge v_count v_lotCount f_kind) sz) (fun _u : Unit => wd_X1_isLot cI cJ cZ a0 a_kind a_amount a_day a_held a_spot a_lotsByAge v_count v_lotCount f_kind)) (va_A (wd_X1_isLot cI cJ cZ a0 a_kind a_amount a_day a_held a_spot a_lotsByAge v_count v_lotCount f_kind) sz)) 0 0 (va_A (wd_X1_isLot cI cJ cZ a0 a_kind a_amount a_day a_held a_spot a_lotsByAge v_count v_lotCount f_kind) sz) := by
  refine Met.ofW (cc := cX1_isLot) (maxL := 2) (ret := (some .boolean)) (by decide) rfl ?_
  intro p e s m args below meth c s₁ B hml hv
  obtain ⟨hav, hsz, hP, hK, hD0⟩ := hv
  have hx := B.exec
  have hb := B.bytes
  have hr := B.returns
  have hts := atoms_spec (ws := wsX1_isLot) B.pre
  have hown : s.vm.findClass RX1 = some m.cls := findClass_of_methodNamed B.named
  have hlocks := B.notSynchronized
  subst hsz
  have hD := hD0.self (sz := s.heap.size)
  clear hD0
  generalize hAe : va_A (wd_X1_isLot cI cJ cZ a0 a_kind a_amount a_day a_held a_spot a_lotsByAge v_count v_lotCount f_kind) s.heap.size = A at hD ⊢
  have hA : ∀ q : Nat, s.heap.size ≤ q → A q := fun q h => by rw [← hAe]; exact Or.inr h
  clear hAe
  have hS : va_S A s.heap s.heap [] := va_S.rf
  have hl := lv_entry ([.ref a0, .int p1]) (n := 2) (Nat.le_of_ble_eq_true rfl)
  subst hav
  rw [lg_entry_eq]
  generalize (lg_sl ([.ref a0, .int p1]) ++ List.replicate (2 - (lg_sl ([.ref a0, .int p1])).length) Slot.unset).toArray = ls at hl ⊢
  replace hl : lv_has ls 2 [(0, .ref a0), (1, .int p1)] := hl
  clear B
  generalize (([.ref a0, .int p1] : List Value)).toArray = av at hts ⊢
  suffices MAIN : ∀ Q : State → Prop, (∀ (v : Int32) (H : Heap) (locs : List Loc) (ls : Array Slot) (pc : Nat), vv_bo v → post v → va_P (dC, dI) vwCl (wd_X1_isLot cI cJ cZ a0 a_kind a_amount a_day a_held a_spot a_lotsByAge v_count v_lotCount f_kind) H → va_D A (wd_X1_isLot cI cJ cZ a0 a_kind a_amount a_day a_held a_spot a_lotsByAge v_count v_lotCount f_kind) → va_S A s.heap H locs → decode cX1_isLot pc = .ok (.ireturn, 1) → W p l e rm_X1_isLot s m av below meth c H locs 0 0 Q (F0 m pc ls [.int v])) → W p l e rm_X1_isLot s m av below meth c s.heap [] 0 0 Q (F0 m 0 ls []) from MAIN _ (fun v H locs ls pc hbo h hP hD hS hd => vv_zret () hx hb hr hlocks hbo h hK hP hD hS hd)
  intro Q RET
  have fl9 := hts (.fieldLink RX1 9 "LotFlows$Nodes" "kind" "[I") (by decide +kernel)
  have in_X1 : ∀ w ∈ wsX10, w ∈ wsX1_isLot := by decide +kernel
  suffices START : ∀ (H : Heap) (locs : List Loc), va_P (dC, dI) vwCl (wd_X1_isLot cI cJ cZ a0 a_kind a_amount a_day a_held a_spot a_lotsByAge v_count v_lotCount f_kind) H → va_D A (wd_X1_isLot cI cJ cZ a0 a_kind a_amount a_day a_held a_spot a_lotsByAge v_count v_lotCount f_kind) → va_S A s.heap H locs → W p l e rm_X1_isLot s m av below meth c H locs 0 0 Q (F0 m 0 ls []) from START s.heap [] hP hD hS
  clear hP hD hS
  intro H locs hP hD hS
  refine lv_aload_n hx hb dX1_isLot_0 rfl (lv_at hl 0 rfl) ?_
  refine lv_iload_n hx hb dX1_isLot_1 rfl (lv_at hl 1 rfl) ?_
  refine vv_goi [0] [1] [(a_kind, .inl (cI, 48, .inl f_kind))] [1, 0] (fun _ => wd_X1_isLot cI cJ cZ a0 a_kind a_amount a_day a_held a_spot a_lotsByAge v_count v_lotCount f_kind) (vv_rv (rest := []) (ci := 1) ⟨hx, hb, hml, hown, hts⟩ (cw_X1_has l dC dI cI cJ cZ a0 a_kind a_amount a_day a_held a_spot a_lotsByAge (H.size) v_count v_lotCount p1 _ h) (cwV 1 hts gX1_isLot_X1_has rfl rfl rfl (by decide +kernel) ⟨Nat.le_of_ble_eq_true rfl, Nat.le_of_ble_eq_true rfl⟩) hK hP hD [0] rfl (by decide) rfl rfl rfl hl.1 rfl (Nat.le_of_ble_eq_true rfl) dX1_isLot_2 ⟨Nat.le_of_ble_eq_true rfl, Nat.le_of_ble_eq_true rfl⟩) hP hD hS hA rfl rfl (by decide) (by decide) (fun _ => rfl) (by decide) (fun r_1 _ H locs h hP hD hS => ?_)
  replace hP : va_P (dC, dI) vwCl (wd_X1_isLot cI cJ cZ a0 a_kind a_amount a_day a_held a_spot a_lotsByAge v_count v_lotCount f_kind) H := hP
  replace hD : va_D A (wd_X1_isLot cI cJ cZ a0 a_kind a_amount a_day a_held a_spot a_lotsByAge v_count v_lotCount f_kind) := hD
  refine lv_if_eq (tgt := 22) hx hb dX1_isLot_5 (by decide) (fun c_2 => ?_) (fun c_2 => ?_)
  · replace h := h.1 c_2
    refine lv_iconst (v := 0) hx hb dX1_isLot_22 (by decide) ?_
    exact RET 0 H locs ls 23 vv_bo0 h hP hD hS dX1_isLot_23
  · replace h := h.2 c_2
    refine lv_aload_n hx hb dX1_isLot_8 rfl (lv_at hl 0 rfl) ?_
    refine va_get (D := (dC, dI)) (ci := 1) (v := .ref a_kind) (C := RX1) (T := TX1) (N := 8) hx hb hts in_X1 hown hK hP 0 rfl rfl 2 (by decide) fl9 (fun _ h9 => h9) rfl dX1_isLot_9 ?_
    refine lv_iload_n hx hb dX1_isLot_12 rfl (lv_at hl 1 rfl) ?_
    obtain ⟨hi_3, h⟩ := h
    refine va_iald hx hb hK hP 1 0 rfl rfl hi_3 dX1_isLot_13 ?_
    refine lv_iconst (v := 5) hx hb dX1_isLot_14 (by decide) ?_
    refine lv_icmp_ne (tgt := 22) hx hb dX1_isLot_15 (by decide) (fun c_4 => ?_) (fun c_4 => ?_)
    · replace h := h.1 c_4
      refine lv_iconst (v := 0) hx hb dX1_isLot_22 (by decide) ?_
      exact RET 0 H locs ls 23 vv_bo0 h hP hD hS dX1_isLot_23
    · replace h := h.2 c_4
      refine lv_iconst (v := 1) hx hb dX1_isLot_18 (by decide) ?_
      refine lv_goto (tgt := 23) hx hb dX1_isLot_19 (by decide) ?_
      exact RET 1 H locs ls 23 vv_bo1 h hP hD hS dX1_isLot_23

abbrev wd_X1_isDrain (cI cJ cZ : ClassId) (a0 a_kind a_amount a_day a_held a_spot a_lotsByAge : Nat) (v_count : Int32) (v_lotCount : Int32) (f_kind : (Nat → Int32)) : va_W := [(a0, .inr (1, [.int v_count, .int v_lotCount, .ref a_kind, .ref a_amount, .ref a_day, .ref a_held, .ref a_spot, .ref a_lotsByAge])), (a_kind, .inl (cI, 48, .inl f_kind))]
abbrev rm_X1_isDrain : Room := { frames := 1, cells := 0, slots := 0, locals := 21 }
def wp_X1_isDrain (post : Int32 → Prop) (v_count : Int32) (v_lotCount : Int32) (f_kind : (Nat → Int32)) (p1 : Int32) : Prop := (wp_X1_has (fun r_1 => ((r_1 = 0 → post 0) ∧ (¬ r_1 = 0 → (vp_in p1 48 ∧ (((¬ (f_kind p1.toNatClampNeg) = 0 → post 0) ∧ ((f_kind p1.toNatClampNeg) = 0 → post 1))))))) v_count v_lotCount p1)
set_option maxHeartbeats 4000000 in
set_option maxRecDepth 100000 in
theorem cw_X1_isDrain (l : Launch) (dC : Nat → ClassId) (dI : Nat → Nat → Nat) (cI cJ cZ : ClassId) (a0 a_kind a_amount a_day a_held a_spot a_lotsByAge : Nat) (sz : Nat) (v_count : Int32) (v_lotCount : Int32) (f_kind : (Nat → Int32)) (p1 : Int32) (post : Int32 → Prop) (h : wp_X1_isDrain post v_count v_lotCount f_kind p1) : Met l yX1_isDrain wsX1_isDrain rm_X1_isDrain (va_Pc [.ref a0, .int p1] (vv_B (dC, dI) (vv_ty cI cJ cZ) (wd_X1_isDrain cI cJ cZ a0 a_kind a_amount a_day a_held a_spot a_lotsByAge v_count v_lotCount f_kind) sz)) (va_Qi (fun r (_u : Unit) => post r) (vv_E (dC, dI) (vv_ty cI cJ cZ) (va_A (wd_X1_isDrain cI cJ cZ a0 a_kind a_amount a_day a_held a_spot a_lotsByAge v_count v_lotCount f_kind) sz) (fun _u : Unit => wd_X1_isDrain cI cJ cZ a0 a_kind a_amount a_day a_held a_spot a_lotsByAge v_count v_lotCount f_kind)) (va_A (wd_X1_isDrain cI cJ cZ a0 a_kind a_amount a_day a_held a_spot a_lotsByAge v_count v_lotCount f_kind) sz)) 0 0 (va_A (wd_X1_isDrain cI cJ cZ a0 a_kind a_amount a_day a_held a_spot a_lotsByAge v_count v_lotCount f_kind) sz) := by
  refine Met.ofW (cc := cX1_isDrain) (maxL := 2) (ret := (some .boolean)) (by decide) rfl ?_
  intro p e s m args below meth c s₁ B hml hv
  obtain ⟨hav, hsz, hP, hK, hD0⟩ := hv
  have hx := B.exec
  have hb := B.bytes
  have hr := B.returns
  have hts := atoms_spec (ws := wsX1_isDrain) B.pre
  have hown : s.vm.findClass RX1 = some m.cls := findClass_of_methodNamed B.named
  have hlocks := B.notSynchronized
  subst hsz
  have hD := hD0.self (sz := s.heap.size)
  clear hD0
  generalize hAe : va_A (wd_X1_isDrain cI cJ cZ a0 a_kind a_amount a_day a_held a_spot a_lotsByAge v_count v_lotCount f_kind) s.heap.size = A at hD ⊢
  have hA : ∀ q : Nat, s.heap.size ≤ q → A q := fun q h => by rw [← hAe]; exact Or.inr h
  clear hAe
  have hS : va_S A s.heap s.heap [] := va_S.rf
  have hl := lv_entry ([.ref a0, .int p1]) (n := 2) (Nat.le_of_ble_eq_true rfl)
  subst hav
  rw [lg_entry_eq]
  generalize (lg_sl ([.ref a0, .int p1]) ++ List.replicate (2 - (lg_sl ([.ref a0, .int p1])).length) Slot.unset).toArray = ls at hl ⊢
  replace hl : lv_has ls 2 [(0, .ref a0), (1, .int p1)] := hl
  clear B
  generalize (([.ref a0, .int p1] : List Value)).toArray = av at hts ⊢
  suffices MAIN : ∀ Q : State → Prop, (∀ (v : Int32) (H : Heap) (locs : List Loc) (ls : Array Slot) (pc : Nat), vv_bo v → post v → va_P (dC, dI) vwCl (wd_X1_isDrain cI cJ cZ a0 a_kind a_amount a_day a_held a_spot a_lotsByAge v_count v_lotCount f_kind) H → va_D A (wd_X1_isDrain cI cJ cZ a0 a_kind a_amount a_day a_held a_spot a_lotsByAge v_count v_lotCount f_kind) → va_S A s.heap H locs → decode cX1_isDrain pc = .ok (.ireturn, 1) → W p l e rm_X1_isDrain s m av below meth c H locs 0 0 Q (F0 m pc ls [.int v])) → W p l e rm_X1_isDrain s m av below meth c s.heap [] 0 0 Q (F0 m 0 ls []) from MAIN _ (fun v H locs ls pc hbo h hP hD hS hd => vv_zret () hx hb hr hlocks hbo h hK hP hD hS hd)
  intro Q RET
  have fl9 := hts (.fieldLink RX1 9 "LotFlows$Nodes" "kind" "[I") (by decide +kernel)
  have in_X1 : ∀ w ∈ wsX10, w ∈ wsX1_isDrain := by decide +kernel
  suffices START : ∀ (H : Heap) (locs : List Loc), va_P (dC, dI) vwCl (wd_X1_isDrain cI cJ cZ a0 a_kind a_amount a_day a_held a_spot a_lotsByAge v_count v_lotCount f_kind) H → va_D A (wd_X1_isDrain cI cJ cZ a0 a_kind a_amount a_day a_held a_spot a_lotsByAge v_count v_lotCount f_kind) → va_S A s.heap H locs → W p l e rm_X1_isDrain s m av below meth c H locs 0 0 Q (F0 m 0 ls []) from START s.heap [] hP hD hS
  clear hP hD hS
  intro H locs hP hD hS
  refine lv_aload_n hx hb dX1_isDrain_0 rfl (lv_at hl 0 rfl) ?_
  refine lv_iload_n hx hb dX1_isDrain_1 rfl (lv_at hl 1 rfl) ?_
  refine vv_goi [0] [1] [(a_kind, .inl (cI, 48, .inl f_kind))] [1, 0] (fun _ => wd_X1_isDrain cI cJ cZ a0 a_kind a_amount a_day a_held a_spot a_lotsByAge v_count v_lotCount f_kind) (vv_rv (rest := []) (ci := 1) ⟨hx, hb, hml, hown, hts⟩ (cw_X1_has l dC dI cI cJ cZ a0 a_kind a_amount a_day a_held a_spot a_lotsByAge (H.size) v_count v_lotCount p1 _ h) (cwV 1 hts gX1_isDrain_X1_has rfl rfl rfl (by decide +kernel) ⟨Nat.le_of_ble_eq_true rfl, Nat.le_of_ble_eq_true rfl⟩) hK hP hD [0] rfl (by decide) rfl rfl rfl hl.1 rfl (Nat.le_of_ble_eq_true rfl) dX1_isDrain_2 ⟨Nat.le_of_ble_eq_true rfl, Nat.le_of_ble_eq_true rfl⟩) hP hD hS hA rfl rfl (by decide) (by decide) (fun _ => rfl) (by decide) (fun r_1 _ H locs h hP hD hS => ?_)
  replace hP : va_P (dC, dI) vwCl (wd_X1_isDrain cI cJ cZ a0 a_kind a_amount a_day a_held a_spot a_lotsByAge v_count v_lotCount f_kind) H := hP
  replace hD : va_D A (wd_X1_isDrain cI cJ cZ a0 a_kind a_amount a_day a_held a_spot a_lotsByAge v_count v_lotCount f_kind) := hD
  refine lv_if_eq (tgt := 21) hx hb dX1_isDrain_5 (by decide) (fun c_2 => ?_) (fun c_2 => ?_)
  · replace h := h.1 c_2
    refine lv_iconst (v := 0) hx hb dX1_isDrain_21 (by decide) ?_
    exact RET 0 H locs ls 22 vv_bo0 h hP hD hS dX1_isDrain_22
  · replace h := h.2 c_2
    refine lv_aload_n hx hb dX1_isDrain_8 rfl (lv_at hl 0 rfl) ?_
    refine va_get (D := (dC, dI)) (ci := 1) (v := .ref a_kind) (C := RX1) (T := TX1) (N := 8) hx hb hts in_X1 hown hK hP 0 rfl rfl 2 (by decide) fl9 (fun _ h9 => h9) rfl dX1_isDrain_9 ?_
    refine lv_iload_n hx hb dX1_isDrain_12 rfl (lv_at hl 1 rfl) ?_
    obtain ⟨hi_3, h⟩ := h
    refine va_iald hx hb hK hP 1 0 rfl rfl hi_3 dX1_isDrain_13 ?_
    refine lv_if_ne (tgt := 21) hx hb dX1_isDrain_14 (by decide) (fun c_4 => ?_) (fun c_4 => ?_)
    · replace h := h.1 c_4
      refine lv_iconst (v := 0) hx hb dX1_isDrain_21 (by decide) ?_
      exact RET 0 H locs ls 22 vv_bo0 h hP hD hS dX1_isDrain_22
    · replace h := h.2 c_4
      refine lv_iconst (v := 1) hx hb dX1_isDrain_17 (by decide) ?_
      refine lv_goto (tgt := 22) hx hb dX1_isDrain_18 (by decide) ?_
      exact RET 1 H locs ls 22 vv_bo1 h hP hD hS dX1_isDrain_22

abbrev wd_X1_canTake (cI cJ cZ : ClassId) (a0 a_kind a_amount a_day a_held a_spot a_lotsByAge : Nat) (v_count : Int32) (v_lotCount : Int32) (f_kind : (Nat → Int32)) : va_W := [(a0, .inr (1, [.int v_count, .int v_lotCount, .ref a_kind, .ref a_amount, .ref a_day, .ref a_held, .ref a_spot, .ref a_lotsByAge])), (a_kind, .inl (cI, 48, .inl f_kind))]
abbrev rm_X1_canTake : Room := { frames := 1, cells := 0, slots := 0, locals := 21 }
def wp_X1_canTake (post : Int32 → Prop) (v_count : Int32) (v_lotCount : Int32) (f_kind : (Nat → Int32)) (p1 : Int32) : Prop := (wp_X1_has (fun r_1 => ((r_1 = 0 → post 0) ∧ (¬ r_1 = 0 → (vp_in p1 48 ∧ ((((f_kind p1.toNatClampNeg) = 5 → post 0) ∧ (¬ (f_kind p1.toNatClampNeg) = 5 → post 1))))))) v_count v_lotCount p1)
set_option maxHeartbeats 4000000 in
set_option maxRecDepth 100000 in
theorem cw_X1_canTake (l : Launch) (dC : Nat → ClassId) (dI : Nat → Nat → Nat) (cI cJ cZ : ClassId) (a0 a_kind a_amount a_day a_held a_spot a_lotsByAge : Nat) (sz : Nat) (v_count : Int32) (v_lotCount : Int32) (f_kind : (Nat → Int32)) (p1 : Int32) (post : Int32 → Prop) (h : wp_X1_canTake post v_count v_lotCount f_kind p1) : Met l yX1_canTake wsX1_canTake rm_X1_canTake (va_Pc [.ref a0, .int p1] (vv_B (dC, dI) (vv_ty cI cJ cZ) (wd_X1_canTake cI cJ cZ a0 a_kind a_amount a_day a_held a_spot a_lotsByAge v_count v_lotCount f_kind) sz)) (va_Qi (fun r (_u : Unit) => post r) (vv_E (dC, dI) (vv_ty cI cJ cZ) (va_A (wd_X1_canTake cI cJ cZ a0 a_kind a_amount a_day a_held a_spot a_lotsByAge v_count v_lotCount f_kind) sz) (fun _u : Unit => wd_X1_canTake cI cJ cZ a0 a_kind a_amount a_day a_held a_spot a_lotsByAge v_count v_lotCount f_kind)) (va_A (wd_X1_canTake cI cJ cZ a0 a_kind a_amount a_day a_held a_spot a_lotsByAge v_count v_lotCount f_kind) sz)) 0 0 (va_A (wd_X1_canTake cI cJ cZ a0 a_kind a_amount a_day a_held a_spot a_lotsByAge v_count v_lotCount f_kind) sz) := by
  refine Met.ofW (cc := cX1_canTake) (maxL := 2) (ret := (some .boolean)) (by decide) rfl ?_
  intro p e s m args below meth c s₁ B hml hv
  obtain ⟨hav, hsz, hP, hK, hD0⟩ := hv
  have hx := B.exec
  have hb := B.bytes
  have hr := B.returns
  have hts := atoms_spec (ws := wsX1_canTake) B.pre
  have hown : s.vm.findClass RX1 = some m.cls := findClass_of_methodNamed B.named
  have hlocks := B.notSynchronized
  subst hsz
  have hD := hD0.self (sz := s.heap.size)
  clear hD0
  generalize hAe : va_A (wd_X1_canTake cI cJ cZ a0 a_kind a_amount a_day a_held a_spot a_lotsByAge v_count v_lotCount f_kind) s.heap.size = A at hD ⊢
  have hA : ∀ q : Nat, s.heap.size ≤ q → A q := fun q h => by rw [← hAe]; exact Or.inr h
  clear hAe
  have hS : va_S A s.heap s.heap [] := va_S.rf
  have hl := lv_entry ([.ref a0, .int p1]) (n := 2) (Nat.le_of_ble_eq_true rfl)
  subst hav
  rw [lg_entry_eq]
  generalize (lg_sl ([.ref a0, .int p1]) ++ List.replicate (2 - (lg_sl ([.ref a0, .int p1])).length) Slot.unset).toArray = ls at hl ⊢
  replace hl : lv_has ls 2 [(0, .ref a0), (1, .int p1)] := hl
  clear B
  generalize (([.ref a0, .int p1] : List Value)).toArray = av at hts ⊢
  suffices MAIN : ∀ Q : State → Prop, (∀ (v : Int32) (H : Heap) (locs : List Loc) (ls : Array Slot) (pc : Nat), vv_bo v → post v → va_P (dC, dI) vwCl (wd_X1_canTake cI cJ cZ a0 a_kind a_amount a_day a_held a_spot a_lotsByAge v_count v_lotCount f_kind) H → va_D A (wd_X1_canTake cI cJ cZ a0 a_kind a_amount a_day a_held a_spot a_lotsByAge v_count v_lotCount f_kind) → va_S A s.heap H locs → decode cX1_canTake pc = .ok (.ireturn, 1) → W p l e rm_X1_canTake s m av below meth c H locs 0 0 Q (F0 m pc ls [.int v])) → W p l e rm_X1_canTake s m av below meth c s.heap [] 0 0 Q (F0 m 0 ls []) from MAIN _ (fun v H locs ls pc hbo h hP hD hS hd => vv_zret () hx hb hr hlocks hbo h hK hP hD hS hd)
  intro Q RET
  have fl9 := hts (.fieldLink RX1 9 "LotFlows$Nodes" "kind" "[I") (by decide +kernel)
  have in_X1 : ∀ w ∈ wsX10, w ∈ wsX1_canTake := by decide +kernel
  suffices START : ∀ (H : Heap) (locs : List Loc), va_P (dC, dI) vwCl (wd_X1_canTake cI cJ cZ a0 a_kind a_amount a_day a_held a_spot a_lotsByAge v_count v_lotCount f_kind) H → va_D A (wd_X1_canTake cI cJ cZ a0 a_kind a_amount a_day a_held a_spot a_lotsByAge v_count v_lotCount f_kind) → va_S A s.heap H locs → W p l e rm_X1_canTake s m av below meth c H locs 0 0 Q (F0 m 0 ls []) from START s.heap [] hP hD hS
  clear hP hD hS
  intro H locs hP hD hS
  refine lv_aload_n hx hb dX1_canTake_0 rfl (lv_at hl 0 rfl) ?_
  refine lv_iload_n hx hb dX1_canTake_1 rfl (lv_at hl 1 rfl) ?_
  refine vv_goi [0] [1] [(a_kind, .inl (cI, 48, .inl f_kind))] [1, 0] (fun _ => wd_X1_canTake cI cJ cZ a0 a_kind a_amount a_day a_held a_spot a_lotsByAge v_count v_lotCount f_kind) (vv_rv (rest := []) (ci := 1) ⟨hx, hb, hml, hown, hts⟩ (cw_X1_has l dC dI cI cJ cZ a0 a_kind a_amount a_day a_held a_spot a_lotsByAge (H.size) v_count v_lotCount p1 _ h) (cwV 1 hts gX1_canTake_X1_has rfl rfl rfl (by decide +kernel) ⟨Nat.le_of_ble_eq_true rfl, Nat.le_of_ble_eq_true rfl⟩) hK hP hD [0] rfl (by decide) rfl rfl rfl hl.1 rfl (Nat.le_of_ble_eq_true rfl) dX1_canTake_2 ⟨Nat.le_of_ble_eq_true rfl, Nat.le_of_ble_eq_true rfl⟩) hP hD hS hA rfl rfl (by decide) (by decide) (fun _ => rfl) (by decide) (fun r_1 _ H locs h hP hD hS => ?_)
  replace hP : va_P (dC, dI) vwCl (wd_X1_canTake cI cJ cZ a0 a_kind a_amount a_day a_held a_spot a_lotsByAge v_count v_lotCount f_kind) H := hP
  replace hD : va_D A (wd_X1_canTake cI cJ cZ a0 a_kind a_amount a_day a_held a_spot a_lotsByAge v_count v_lotCount f_kind) := hD
  refine lv_if_eq (tgt := 22) hx hb dX1_canTake_5 (by decide) (fun c_2 => ?_) (fun c_2 => ?_)
  · replace h := h.1 c_2
    refine lv_iconst (v := 0) hx hb dX1_canTake_22 (by decide) ?_
    exact RET 0 H locs ls 23 vv_bo0 h hP hD hS dX1_canTake_23
  · replace h := h.2 c_2
    refine lv_aload_n hx hb dX1_canTake_8 rfl (lv_at hl 0 rfl) ?_
    refine va_get (D := (dC, dI)) (ci := 1) (v := .ref a_kind) (C := RX1) (T := TX1) (N := 8) hx hb hts in_X1 hown hK hP 0 rfl rfl 2 (by decide) fl9 (fun _ h9 => h9) rfl dX1_canTake_9 ?_
    refine lv_iload_n hx hb dX1_canTake_12 rfl (lv_at hl 1 rfl) ?_
    obtain ⟨hi_3, h⟩ := h
    refine va_iald hx hb hK hP 1 0 rfl rfl hi_3 dX1_canTake_13 ?_
    refine lv_iconst (v := 5) hx hb dX1_canTake_14 (by decide) ?_
    refine lv_icmp_eq (tgt := 22) hx hb dX1_canTake_15 (by decide) (fun c_4 => ?_) (fun c_4 => ?_)
    · replace h := h.1 c_4
      refine lv_iconst (v := 0) hx hb dX1_canTake_22 (by decide) ?_
      exact RET 0 H locs ls 23 vv_bo0 h hP hD hS dX1_canTake_23
    · replace h := h.2 c_4
      refine lv_iconst (v := 1) hx hb dX1_canTake_18 (by decide) ?_
      refine lv_goto (tgt := 23) hx hb dX1_canTake_19 (by decide) ?_
      exact RET 1 H locs ls 23 vv_bo1 h hP hD hS dX1_canTake_23

abbrev wd_X1_add (cI cJ cZ : ClassId) (a0 a_kind a_amount a_day a_held a_spot a_lotsByAge : Nat) (v_count : Int32) (v_lotCount : Int32) (f_kind : (Nat → Int32)) (f_spot : (Nat → Int32)) : va_W := [(a0, .inr (1, [.int v_count, .int v_lotCount, .ref a_kind, .ref a_amount, .ref a_day, .ref a_held, .ref a_spot, .ref a_lotsByAge])), (a_kind, .inl (cI, 48, .inl f_kind)), (a_spot, .inl (cI, 48, .inl f_spot))]
abbrev rm_X1_add : Room := { frames := 0, cells := 0, slots := 0, locals := 0 }
def wp_X1_add (post : Int32 → Int32 → (Nat → Int32) → (Nat → Int32) → Prop) (v_count : Int32) (v_lotCount : Int32) (f_kind : (Nat → Int32)) (f_spot : (Nat → Int32)) (p1 : Int32) : Prop := ((v_count < 48 → (vp_in v_count 48 ∧ (∀ f_3 : Nat → Int32, f_3 = upd f_kind v_count.toNatClampNeg p1 → vp_in v_count 48 ∧ (∀ f_5 : Nat → Int32, f_5 = upd f_spot v_count.toNatClampNeg (-1) → ∀ v_6 : Int32, v_6 = (v_count + 1) → post (v_6 - 1) v_6 f_3 f_5)))) ∧ (¬ v_count < 48 → post (-2) v_count f_kind f_spot))
set_option maxHeartbeats 4000000 in
set_option maxRecDepth 100000 in
theorem cw_X1_add (l : Launch) (dC : Nat → ClassId) (dI : Nat → Nat → Nat) (cI cJ cZ : ClassId) (a0 a_kind a_amount a_day a_held a_spot a_lotsByAge : Nat) (sz : Nat) (v_count : Int32) (v_lotCount : Int32) (f_kind : (Nat → Int32)) (f_spot : (Nat → Int32)) (p1 : Int32) (post : Int32 → Int32 → (Nat → Int32) → (Nat → Int32) → Prop) (h : wp_X1_add post v_count v_lotCount f_kind f_spot p1) : Met l yX1_add wsX1_add rm_X1_add (va_Pc [.ref a0, .int p1] (vv_B (dC, dI) (vv_ty cI cJ cZ) (wd_X1_add cI cJ cZ a0 a_kind a_amount a_day a_held a_spot a_lotsByAge v_count v_lotCount f_kind f_spot) sz)) (va_Qi (fun r (u : Int32 × (Nat → Int32) × (Nat → Int32)) => post r (u.1) (u.2.1) (u.2.2)) (vv_E (dC, dI) (vv_ty cI cJ cZ) (va_A (wd_X1_add cI cJ cZ a0 a_kind a_amount a_day a_held a_spot a_lotsByAge v_count v_lotCount f_kind f_spot) sz) (fun u : Int32 × (Nat → Int32) × (Nat → Int32) => wd_X1_add cI cJ cZ a0 a_kind a_amount a_day a_held a_spot a_lotsByAge (u.1) v_lotCount (u.2.1) (u.2.2))) (va_A (wd_X1_add cI cJ cZ a0 a_kind a_amount a_day a_held a_spot a_lotsByAge v_count v_lotCount f_kind f_spot) sz)) 0 0 (va_A (wd_X1_add cI cJ cZ a0 a_kind a_amount a_day a_held a_spot a_lotsByAge v_count v_lotCount f_kind f_spot) sz) := by
  refine Met.ofW (cc := cX1_add) (maxL := 2) (ret := (some .int)) (by decide) rfl ?_
  intro p e s m args below meth c s₁ B hml hv
  obtain ⟨hav, hsz, hP, hK, hD0⟩ := hv
  have hx := B.exec
  have hb := B.bytes
  have hr := B.returns
  have hts := atoms_spec (ws := wsX1_add) B.pre
  have hown : s.vm.findClass RX1 = some m.cls := findClass_of_methodNamed B.named
  have hlocks := B.notSynchronized
  subst hsz
  have hD := hD0.self (sz := s.heap.size)
  clear hD0
  generalize hAe : va_A (wd_X1_add cI cJ cZ a0 a_kind a_amount a_day a_held a_spot a_lotsByAge v_count v_lotCount f_kind f_spot) s.heap.size = A at hD ⊢
  have hA : ∀ q : Nat, s.heap.size ≤ q → A q := fun q h => by rw [← hAe]; exact Or.inr h
  clear hAe
  have hS : va_S A s.heap s.heap [] := va_S.rf
  have hl := lv_entry ([.ref a0, .int p1]) (n := 2) (Nat.le_of_ble_eq_true rfl)
  subst hav
  rw [lg_entry_eq]
  generalize (lg_sl ([.ref a0, .int p1]) ++ List.replicate (2 - (lg_sl ([.ref a0, .int p1])).length) Slot.unset).toArray = ls at hl ⊢
  replace hl : lv_has ls 2 [(0, .ref a0), (1, .int p1)] := hl
  clear B
  generalize (([.ref a0, .int p1] : List Value)).toArray = av at hts ⊢
  suffices MAIN : ∀ Q : State → Prop, (∀ (v : Int32) (v_count : Int32) (f_kind : (Nat → Int32)) (f_spot : (Nat → Int32)) (H : Heap) (locs : List Loc) (ls : Array Slot) (pc : Nat), post v v_count f_kind f_spot → va_P (dC, dI) vwCl (wd_X1_add cI cJ cZ a0 a_kind a_amount a_day a_held a_spot a_lotsByAge v_count v_lotCount f_kind f_spot) H → va_D A (wd_X1_add cI cJ cZ a0 a_kind a_amount a_day a_held a_spot a_lotsByAge v_count v_lotCount f_kind f_spot) → va_S A s.heap H locs → decode cX1_add pc = .ok (.ireturn, 1) → W p l e rm_X1_add s m av below meth c H locs 0 0 Q (F0 m pc ls [.int v])) → W p l e rm_X1_add s m av below meth c s.heap [] 0 0 Q (F0 m 0 ls []) from MAIN _ (fun v v_count f_kind f_spot H locs ls pc h hP hD hS hd => vv_iret (v_count, f_kind, f_spot) hx hb hr hlocks h hK hP hD hS hd)
  intro Q RET
  have fl9 := hts (.fieldLink RX1 9 "LotFlows$Nodes" "kind" "[I") (by decide +kernel)
  have fl26 := hts (.fieldLink RX1 26 "LotFlows$Nodes" "spot" "[I") (by decide +kernel)
  have fl32 := hts (.fieldLink RX1 32 "LotFlows$Nodes" "count" "I") (by decide +kernel)
  have in_X1 : ∀ w ∈ wsX10, w ∈ wsX1_add := by decide +kernel
  suffices START : ∀ (H : Heap) (locs : List Loc), va_P (dC, dI) vwCl (wd_X1_add cI cJ cZ a0 a_kind a_amount a_day a_held a_spot a_lotsByAge v_count v_lotCount f_kind f_spot) H → va_D A (wd_X1_add cI cJ cZ a0 a_kind a_amount a_day a_held a_spot a_lotsByAge v_count v_lotCount f_kind f_spot) → va_S A s.heap H locs → W p l e rm_X1_add s m av below meth c H locs 0 0 Q (F0 m 0 ls []) from START s.heap [] hP hD hS
  clear hP hD hS
  intro H locs hP hD hS
  refine lv_aload_n hx hb dX1_add_0 rfl (lv_at hl 0 rfl) ?_
  refine va_get (D := (dC, dI)) (ci := 1) (v := .int v_count) (C := RX1) (T := TX1) (N := 8) hx hb hts in_X1 hown hK hP 0 rfl rfl 0 (by decide) fl32 (fun _ h9 => h9) rfl dX1_add_1 ?_
  refine lv_bipush (v := 48) hx hb dX1_add_4 (by decide) ?_
  refine lv_icmp_lt (tgt := 12) hx hb dX1_add_6 (by decide) (fun c_1 => ?_) (fun c_1 => ?_)
  · replace h := h.1 c_1
    refine lv_aload_n hx hb dX1_add_12 rfl (lv_at hl 0 rfl) ?_
    refine va_get (D := (dC, dI)) (ci := 1) (v := .ref a_kind) (C := RX1) (T := TX1) (N := 8) hx hb hts in_X1 hown hK hP 0 rfl rfl 2 (by decide) fl9 (fun _ h9 => h9) rfl dX1_add_13 ?_
    refine lv_aload_n hx hb dX1_add_16 rfl (lv_at hl 0 rfl) ?_
    refine va_get (D := (dC, dI)) (ci := 1) (v := .int v_count) (C := RX1) (T := TX1) (N := 8) hx hb hts in_X1 hown hK hP 0 rfl rfl 0 (by decide) fl32 (fun _ h9 => h9) rfl dX1_add_17 ?_
    refine lv_iload_n hx hb dX1_add_20 rfl (lv_at hl 1 rfl) ?_
    obtain ⟨hi_2, h⟩ := h
    refine vv_iast hx hb hK hP hD hS 1 0 rfl rfl hi_2 dX1_add_21 (fun f_3 ef_3 H locs hP hD hS => ?_)
    replace h := h f_3 ef_3
    replace hP : va_P (dC, dI) vwCl (wd_X1_add cI cJ cZ a0 a_kind a_amount a_day a_held a_spot a_lotsByAge v_count v_lotCount f_3 f_spot) H := hP
    replace hD : va_D A (wd_X1_add cI cJ cZ a0 a_kind a_amount a_day a_held a_spot a_lotsByAge v_count v_lotCount f_3 f_spot) := hD
    refine lv_aload_n hx hb dX1_add_22 rfl (lv_at hl 0 rfl) ?_
    refine va_get (D := (dC, dI)) (ci := 1) (v := .ref a_spot) (C := RX1) (T := TX1) (N := 8) hx hb hts in_X1 hown hK hP 0 rfl rfl 6 (by decide) fl26 (fun _ h9 => h9) rfl dX1_add_23 ?_
    refine lv_aload_n hx hb dX1_add_26 rfl (lv_at hl 0 rfl) ?_
    refine va_get (D := (dC, dI)) (ci := 1) (v := .int v_count) (C := RX1) (T := TX1) (N := 8) hx hb hts in_X1 hown hK hP 0 rfl rfl 0 (by decide) fl32 (fun _ h9 => h9) rfl dX1_add_27 ?_
    refine lv_iconst (v := (-1)) hx hb dX1_add_30 (by decide) ?_
    obtain ⟨hi_4, h⟩ := h
    refine vv_iast hx hb hK hP hD hS 2 0 rfl rfl hi_4 dX1_add_31 (fun f_5 ef_5 H locs hP hD hS => ?_)
    replace h := h f_5 ef_5
    replace hP : va_P (dC, dI) vwCl (wd_X1_add cI cJ cZ a0 a_kind a_amount a_day a_held a_spot a_lotsByAge v_count v_lotCount f_3 f_5) H := hP
    replace hD : va_D A (wd_X1_add cI cJ cZ a0 a_kind a_amount a_day a_held a_spot a_lotsByAge v_count v_lotCount f_3 f_5) := hD
    refine lv_aload_n hx hb dX1_add_32 rfl (lv_at hl 0 rfl) ?_
    refine lv_dup hx hb dX1_add_33 rfl ?_
    refine va_get (D := (dC, dI)) (ci := 1) (v := .int v_count) (C := RX1) (T := TX1) (N := 8) hx hb hts in_X1 hown hK hP 0 rfl rfl 0 (by decide) fl32 (fun _ h9 => h9) rfl dX1_add_34 ?_
    refine lv_iconst (v := 1) hx hb dX1_add_37 (by decide) ?_
    refine lv_iadd hx hb dX1_add_38 ?_
    refine lv_topi (fun v_6 ev_6 => ?_)
    replace h := h v_6 ev_6
    refine va_put (D := (dC, dI)) (ci := 1) (v := .int v_6) (ty := .int) (C := RX1) (T := TX1) (N := 8) hx hb hts in_X1 tyX1 tyX1_ok nmX1 hown hK hP hD hS 0 rfl rfl 0 (by decide) fl32 (fun _ h9 => h9) rfl (by decide +kernel) rfl rfl (Nat.le_of_ble_eq_true rfl) dX1_add_39 (fun H locs hP hD hS => ?_)
    replace hP : va_P (dC, dI) vwCl (wd_X1_add cI cJ cZ a0 a_kind a_amount a_day a_held a_spot a_lotsByAge v_6 v_lotCount f_3 f_5) H := hP
    replace hD : va_D A (wd_X1_add cI cJ cZ a0 a_kind a_amount a_day a_held a_spot a_lotsByAge v_6 v_lotCount f_3 f_5) := hD
    refine lv_aload_n hx hb dX1_add_42 rfl (lv_at hl 0 rfl) ?_
    refine va_get (D := (dC, dI)) (ci := 1) (v := .int v_6) (C := RX1) (T := TX1) (N := 8) hx hb hts in_X1 hown hK hP 0 rfl rfl 0 (by decide) fl32 (fun _ h9 => h9) rfl dX1_add_43 ?_
    refine lv_iconst (v := 1) hx hb dX1_add_46 (by decide) ?_
    refine lv_isub hx hb dX1_add_47 ?_
    exact RET (v_6 - 1) v_6 f_3 f_5 H locs ls 48 h hP hD hS dX1_add_48
  · replace h := h.2 c_1
    refine lv_bipush (v := (-2)) hx hb dX1_add_9 (by decide) ?_
    exact RET (-2) v_count f_kind f_spot H locs ls 11 h hP hD hS dX1_add_11

abbrev wd_X1_addLot (cI cJ cZ : ClassId) (a0 a_kind a_amount a_day a_held a_spot a_lotsByAge : Nat) (v_count : Int32) (v_lotCount : Int32) (f_kind : (Nat → Int32)) (f_amount : (Nat → Int64)) (f_day : (Nat → Int64)) (f_spot : (Nat → Int32)) (f_lotsByAge : (Nat → Int32)) : va_W := [(a0, .inr (1, [.int v_count, .int v_lotCount, .ref a_kind, .ref a_amount, .ref a_day, .ref a_held, .ref a_spot, .ref a_lotsByAge])), (a_kind, .inl (cI, 48, .inl f_kind)), (a_amount, .inl (cJ, 48, .inr (.inl f_amount))), (a_day, .inl (cJ, 48, .inr (.inl f_day))), (a_spot, .inl (cI, 48, .inl f_spot)), (a_lotsByAge, .inl (cI, 48, .inl f_lotsByAge))]
abbrev rm_X1_addLot : Room := { frames := 1, cells := 0, slots := 0, locals := 21 }
def wb_X1_addLot_83 (post : Int32 → Int32 → Int32 → (Nat → Int32) → (Nat → Int64) → (Nat → Int64) → (Nat → Int32) → (Nat → Int32) → Prop) (x5 : Int32) (x6 : Int32) (v_count : Int32) (v_lotCount : Int32) (f_kind : (Nat → Int32)) (f_amount : (Nat → Int64)) (f_day : (Nat → Int64)) (f_spot : (Nat → Int32)) (f_lotsByAge : (Nat → Int32)) : Prop := (vp_in x6 48 ∧ (∀ f_19 : Nat → Int32, f_19 = upd f_lotsByAge x6.toNatClampNeg x5 → ∀ v_20 : Int32, v_20 = (v_lotCount + 1) → post x5 v_count v_20 f_kind f_amount f_day f_spot f_19))
def wb_X1_addLot_37 (post : Int32 → Int32 → Int32 → (Nat → Int32) → (Nat → Int64) → (Nat → Int64) → (Nat → Int32) → (Nat → Int32) → Prop) : Nat → Int64 → Int32 → Int32 → Int32 → Int32 → (Nat → Int32) → (Nat → Int64) → (Nat → Int64) → (Nat → Int32) → (Nat → Int32) → Prop
  | 0 => fun _ _ _ _ _ _ _ _ _ _ => False
  | n + 1 => fun x3 x5 x6 v_count v_lotCount f_kind f_amount f_day f_spot f_lotsByAge => ((x6 ≤ 0 → wb_X1_addLot_83 post  x5 x6 v_count v_lotCount f_kind f_amount f_day f_spot f_lotsByAge) ∧ (¬ x6 ≤ 0 → (vp_in (x6 - 1) 48 ∧ (vp_in (f_lotsByAge (x6 - 1).toNatClampNeg) 48 ∧ (((¬ x3 < (f_day (f_lotsByAge (x6 - 1).toNatClampNeg).toNatClampNeg) → wb_X1_addLot_83 post  x5 x6 v_count v_lotCount f_kind f_amount f_day f_spot f_lotsByAge) ∧ (x3 < (f_day (f_lotsByAge (x6 - 1).toNatClampNeg).toNatClampNeg) → (vp_in (x6 - 1) 48 ∧ (vp_in x6 48 ∧ (∀ f_16 : Nat → Int32, f_16 = upd f_lotsByAge x6.toNatClampNeg (f_lotsByAge (x6 - 1).toNatClampNeg) → ∀ x_17 : Int32, x_17 = x6 + (-1) → wb_X1_addLot_37 post   n x3 x5 x_17 v_count v_lotCount f_kind f_amount f_day f_spot f_16))))))))))
def wp_X1_addLot (post : Int32 → Int32 → Int32 → (Nat → Int32) → (Nat → Int64) → (Nat → Int64) → (Nat → Int32) → (Nat → Int32) → Prop) (v_count : Int32) (v_lotCount : Int32) (f_kind : (Nat → Int32)) (f_amount : (Nat → Int64)) (f_day : (Nat → Int64)) (f_spot : (Nat → Int32)) (f_lotsByAge : (Nat → Int32)) (p1 : Int64) (p2 : Int64) : Prop := (wp_X1_add (fun r_4 v_count_1 f_kind_2 f_spot_3 => ((0 ≤ r_4 → (vp_in r_4 48 ∧ (∀ f_7 : Nat → Int64, f_7 = vp_updL f_amount r_4.toNatClampNeg p1 → vp_in r_4 48 ∧ (∀ f_9 : Nat → Int64, f_9 = vp_updL f_day r_4.toNatClampNeg p2 → (∃ n_37 : Nat, wb_X1_addLot_37 post  n_37 p2 r_4 v_lotCount v_count_1 v_lotCount f_kind_2 f_7 f_9 f_spot_3 f_lotsByAge))))) ∧ (¬ 0 ≤ r_4 → post r_4 v_count_1 v_lotCount f_kind_2 f_amount f_day f_spot_3 f_lotsByAge))) v_count v_lotCount f_kind f_spot 5)
set_option maxHeartbeats 4000000 in
set_option maxRecDepth 100000 in
theorem cw_X1_addLot (l : Launch) (dC : Nat → ClassId) (dI : Nat → Nat → Nat) (cI cJ cZ : ClassId) (a0 a_kind a_amount a_day a_held a_spot a_lotsByAge : Nat) (sz : Nat) (v_count : Int32) (v_lotCount : Int32) (f_kind : (Nat → Int32)) (f_amount : (Nat → Int64)) (f_day : (Nat → Int64)) (f_spot : (Nat → Int32)) (f_lotsByAge : (Nat → Int32)) (p1 : Int64) (p2 : Int64) (post : Int32 → Int32 → Int32 → (Nat → Int32) → (Nat → Int64) → (Nat → Int64) → (Nat → Int32) → (Nat → Int32) → Prop) (h : wp_X1_addLot post v_count v_lotCount f_kind f_amount f_day f_spot f_lotsByAge p1 p2) : Met l yX1_addLot wsX1_addLot rm_X1_addLot (va_Pc [.ref a0, .long p1, .long p2] (vv_B (dC, dI) (vv_ty cI cJ cZ) (wd_X1_addLot cI cJ cZ a0 a_kind a_amount a_day a_held a_spot a_lotsByAge v_count v_lotCount f_kind f_amount f_day f_spot f_lotsByAge) sz)) (va_Qi (fun r (u : Int32 × Int32 × (Nat → Int32) × (Nat → Int64) × (Nat → Int64) × (Nat → Int32) × (Nat → Int32)) => post r (u.1) (u.2.1) (u.2.2.1) (u.2.2.2.1) (u.2.2.2.2.1) (u.2.2.2.2.2.1) (u.2.2.2.2.2.2)) (vv_E (dC, dI) (vv_ty cI cJ cZ) (va_A (wd_X1_addLot cI cJ cZ a0 a_kind a_amount a_day a_held a_spot a_lotsByAge v_count v_lotCount f_kind f_amount f_day f_spot f_lotsByAge) sz) (fun u : Int32 × Int32 × (Nat → Int32) × (Nat → Int64) × (Nat → Int64) × (Nat → Int32) × (Nat → Int32) => wd_X1_addLot cI cJ cZ a0 a_kind a_amount a_day a_held a_spot a_lotsByAge (u.1) (u.2.1) (u.2.2.1) (u.2.2.2.1) (u.2.2.2.2.1) (u.2.2.2.2.2.1) (u.2.2.2.2.2.2))) (va_A (wd_X1_addLot cI cJ cZ a0 a_kind a_amount a_day a_held a_spot a_lotsByAge v_count v_lotCount f_kind f_amount f_day f_spot f_lotsByAge) sz)) 0 0 (va_A (wd_X1_addLot cI cJ cZ a0 a_kind a_amount a_day a_held a_spot a_lotsByAge v_count v_lotCount f_kind f_amount f_day f_spot f_lotsByAge) sz) := by
  refine Met.ofW (cc := cX1_addLot) (maxL := 7) (ret := (some .int)) (by decide) rfl ?_
  intro p e s m args below meth c s₁ B hml hv
  obtain ⟨hav, hsz, hP, hK, hD0⟩ := hv
  have hx := B.exec
  have hb := B.bytes
  have hr := B.returns
  have hts := atoms_spec (ws := wsX1_addLot) B.pre
  have hown : s.vm.findClass RX1 = some m.cls := findClass_of_methodNamed B.named
  have hlocks := B.notSynchronized
  subst hsz
  have hD := hD0.self (sz := s.heap.size)
  clear hD0
  generalize hAe : va_A (wd_X1_addLot cI cJ cZ a0 a_kind a_amount a_day a_held a_spot a_lotsByAge v_count v_lotCount f_kind f_amount f_day f_spot f_lotsByAge) s.heap.size = A at hD ⊢
  have hA : ∀ q : Nat, s.heap.size ≤ q → A q := fun q h => by rw [← hAe]; exact Or.inr h
  clear hAe
  have hS : va_S A s.heap s.heap [] := va_S.rf
  have hl := lv_entry ([.ref a0, .long p1, .long p2]) (n := 7) (Nat.le_of_ble_eq_true rfl)
  subst hav
  rw [lg_entry_eq]
  generalize (lg_sl ([.ref a0, .long p1, .long p2]) ++ List.replicate (7 - (lg_sl ([.ref a0, .long p1, .long p2])).length) Slot.unset).toArray = ls at hl ⊢
  replace hl : lv_has ls 7 [(0, .ref a0), (1, .long p1), (3, .long p2)] := hl
  clear B
  generalize (([.ref a0, .long p1, .long p2] : List Value)).toArray = av at hts ⊢
  suffices MAIN : ∀ Q : State → Prop, (∀ (v : Int32) (v_count : Int32) (v_lotCount : Int32) (f_kind : (Nat → Int32)) (f_amount : (Nat → Int64)) (f_day : (Nat → Int64)) (f_spot : (Nat → Int32)) (f_lotsByAge : (Nat → Int32)) (H : Heap) (locs : List Loc) (ls : Array Slot) (pc : Nat), post v v_count v_lotCount f_kind f_amount f_day f_spot f_lotsByAge → va_P (dC, dI) vwCl (wd_X1_addLot cI cJ cZ a0 a_kind a_amount a_day a_held a_spot a_lotsByAge v_count v_lotCount f_kind f_amount f_day f_spot f_lotsByAge) H → va_D A (wd_X1_addLot cI cJ cZ a0 a_kind a_amount a_day a_held a_spot a_lotsByAge v_count v_lotCount f_kind f_amount f_day f_spot f_lotsByAge) → va_S A s.heap H locs → decode cX1_addLot pc = .ok (.ireturn, 1) → W p l e rm_X1_addLot s m av below meth c H locs 0 0 Q (F0 m pc ls [.int v])) → W p l e rm_X1_addLot s m av below meth c s.heap [] 0 0 Q (F0 m 0 ls []) from MAIN _ (fun v v_count v_lotCount f_kind f_amount f_day f_spot f_lotsByAge H locs ls pc h hP hD hS hd => vv_iret (v_count, v_lotCount, f_kind, f_amount, f_day, f_spot, f_lotsByAge) hx hb hr hlocks h hK hP hD hS hd)
  intro Q RET
  have fl15 := hts (.fieldLink RX1 15 "LotFlows$Nodes" "amount" "[J") (by decide +kernel)
  have fl19 := hts (.fieldLink RX1 19 "LotFlows$Nodes" "day" "[J") (by decide +kernel)
  have fl29 := hts (.fieldLink RX1 29 "LotFlows$Nodes" "lotsByAge" "[I") (by decide +kernel)
  have fl44 := hts (.fieldLink RX1 44 "LotFlows$Nodes" "lotCount" "I") (by decide +kernel)
  have in_X1 : ∀ w ∈ wsX10, w ∈ wsX1_addLot := by decide +kernel
  have bk_83 : ∀ (x5 : Int32) (x6 : Int32) (v_count : Int32) (v_lotCount : Int32) (f_kind : (Nat → Int32)) (f_amount : (Nat → Int64)) (f_day : (Nat → Int64)) (f_spot : (Nat → Int32)) (f_lotsByAge : (Nat → Int32)) (H : Heap) (locs : List Loc) (ls : Array Slot), va_P (dC, dI) vwCl (wd_X1_addLot cI cJ cZ a0 a_kind a_amount a_day a_held a_spot a_lotsByAge v_count v_lotCount f_kind f_amount f_day f_spot f_lotsByAge) H → va_D A (wd_X1_addLot cI cJ cZ a0 a_kind a_amount a_day a_held a_spot a_lotsByAge v_count v_lotCount f_kind f_amount f_day f_spot f_lotsByAge) → va_S A s.heap H locs → lv_has ls 7 [(0, .ref a0), (5, .int x5), (6, .int x6)] → wb_X1_addLot_83 post  x5 x6 v_count v_lotCount f_kind f_amount f_day f_spot f_lotsByAge → W p l e rm_X1_addLot s m av below meth c H locs 0 0 Q (F0 m 83 ls []) := by
    intro x5 x6 v_count v_lotCount f_kind f_amount f_day f_spot f_lotsByAge H locs ls hP hD hS hl h
    refine lv_aload_n hx hb dX1_addLot_83 rfl (lv_at hl 0 rfl) ?_
    refine va_get (D := (dC, dI)) (ci := 1) (v := .ref a_lotsByAge) (C := RX1) (T := TX1) (N := 8) hx hb hts in_X1 hown hK hP 0 rfl rfl 7 (by decide) fl29 (fun _ h9 => h9) rfl dX1_addLot_84 ?_
    refine lv_iload hx hb dX1_addLot_87 (lv_at hl 2 rfl) ?_
    refine lv_iload hx hb dX1_addLot_89 (lv_at hl 1 rfl) ?_
    obtain ⟨hi_18, h⟩ := h
    refine vv_iast hx hb hK hP hD hS 5 0 rfl rfl hi_18 dX1_addLot_91 (fun f_19 ef_19 H locs hP hD hS => ?_)
    replace h := h f_19 ef_19
    replace hP : va_P (dC, dI) vwCl (wd_X1_addLot cI cJ cZ a0 a_kind a_amount a_day a_held a_spot a_lotsByAge v_count v_lotCount f_kind f_amount f_day f_spot f_19) H := hP
    replace hD : va_D A (wd_X1_addLot cI cJ cZ a0 a_kind a_amount a_day a_held a_spot a_lotsByAge v_count v_lotCount f_kind f_amount f_day f_spot f_19) := hD
    refine lv_aload_n hx hb dX1_addLot_92 rfl (lv_at hl 0 rfl) ?_
    refine lv_dup hx hb dX1_addLot_93 rfl ?_
    refine va_get (D := (dC, dI)) (ci := 1) (v := .int v_lotCount) (C := RX1) (T := TX1) (N := 8) hx hb hts in_X1 hown hK hP 0 rfl rfl 1 (by decide) fl44 (fun _ h9 => h9) rfl dX1_addLot_94 ?_
    refine lv_iconst (v := 1) hx hb dX1_addLot_97 (by decide) ?_
    refine lv_iadd hx hb dX1_addLot_98 ?_
    refine lv_topi (fun v_20 ev_20 => ?_)
    replace h := h v_20 ev_20
    refine va_put (D := (dC, dI)) (ci := 1) (v := .int v_20) (ty := .int) (C := RX1) (T := TX1) (N := 8) hx hb hts in_X1 tyX1 tyX1_ok nmX1 hown hK hP hD hS 0 rfl rfl 1 (by decide) fl44 (fun _ h9 => h9) rfl (by decide +kernel) rfl rfl (Nat.le_of_ble_eq_true rfl) dX1_addLot_99 (fun H locs hP hD hS => ?_)
    replace hP : va_P (dC, dI) vwCl (wd_X1_addLot cI cJ cZ a0 a_kind a_amount a_day a_held a_spot a_lotsByAge v_count v_20 f_kind f_amount f_day f_spot f_19) H := hP
    replace hD : va_D A (wd_X1_addLot cI cJ cZ a0 a_kind a_amount a_day a_held a_spot a_lotsByAge v_count v_20 f_kind f_amount f_day f_spot f_19) := hD
    refine lv_iload hx hb dX1_addLot_102 (lv_at hl 1 rfl) ?_
    exact RET x5 v_count v_20 f_kind f_amount f_day f_spot f_19 H locs ls 104 h hP hD hS dX1_addLot_104
  have bk_37 : ∀ n : Nat, ∀ (x3 : Int64) (x5 : Int32) (x6 : Int32) (v_count : Int32) (v_lotCount : Int32) (f_kind : (Nat → Int32)) (f_amount : (Nat → Int64)) (f_day : (Nat → Int64)) (f_spot : (Nat → Int32)) (f_lotsByAge : (Nat → Int32)) (H : Heap) (locs : List Loc) (ls : Array Slot), va_P (dC, dI) vwCl (wd_X1_addLot cI cJ cZ a0 a_kind a_amount a_day a_held a_spot a_lotsByAge v_count v_lotCount f_kind f_amount f_day f_spot f_lotsByAge) H → va_D A (wd_X1_addLot cI cJ cZ a0 a_kind a_amount a_day a_held a_spot a_lotsByAge v_count v_lotCount f_kind f_amount f_day f_spot f_lotsByAge) → va_S A s.heap H locs → lv_has ls 7 [(0, .ref a0), (3, .long x3), (5, .int x5), (6, .int x6)] → wb_X1_addLot_37 post  n x3 x5 x6 v_count v_lotCount f_kind f_amount f_day f_spot f_lotsByAge → W p l e rm_X1_addLot s m av below meth c H locs 0 0 Q (F0 m 37 ls []) := by
    intro n
    induction n with
    | zero =>
      intro x3 x5 x6 v_count v_lotCount f_kind f_amount f_day f_spot f_lotsByAge H locs ls hP hD hS hl h
      exact False.elim h
    | succ n ih37 =>
      intro x3 x5 x6 v_count v_lotCount f_kind f_amount f_day f_spot f_lotsByAge H locs ls hP hD hS hl h
      refine lv_iload hx hb dX1_addLot_37 (lv_at hl 3 rfl) ?_
      refine lv_if_le (tgt := 83) hx hb dX1_addLot_39 (by decide) (fun c_10 => ?_) (fun c_10 => ?_)
      · replace h := h.1 c_10
        exact bk_83 x5 x6 v_count v_lotCount f_kind f_amount f_day f_spot f_lotsByAge H locs ls hP hD hS (lv_sub hl [0, 2, 3] rfl) h
      · replace h := h.2 c_10
        refine lv_aload_n hx hb dX1_addLot_42 rfl (lv_at hl 0 rfl) ?_
        refine va_get (D := (dC, dI)) (ci := 1) (v := .ref a_day) (C := RX1) (T := TX1) (N := 8) hx hb hts in_X1 hown hK hP 0 rfl rfl 4 (by decide) fl19 (fun _ h9 => h9) rfl dX1_addLot_43 ?_
        refine lv_aload_n hx hb dX1_addLot_46 rfl (lv_at hl 0 rfl) ?_
        refine va_get (D := (dC, dI)) (ci := 1) (v := .ref a_lotsByAge) (C := RX1) (T := TX1) (N := 8) hx hb hts in_X1 hown hK hP 0 rfl rfl 7 (by decide) fl29 (fun _ h9 => h9) rfl dX1_addLot_47 ?_
        refine lv_iload hx hb dX1_addLot_50 (lv_at hl 3 rfl) ?_
        refine lv_iconst (v := 1) hx hb dX1_addLot_52 (by decide) ?_
        refine lv_isub hx hb dX1_addLot_53 ?_
        obtain ⟨hi_11, h⟩ := h
        refine va_iald hx hb hK hP 5 0 rfl rfl hi_11 dX1_addLot_54 ?_
        obtain ⟨hi_12, h⟩ := h
        refine va_lald hx hb hK hP 3 1 rfl rfl hi_12 dX1_addLot_55 ?_
        refine lv_lload_n hx hb dX1_addLot_56 rfl (lv_at hl 1 rfl) ?_
        refine vv_lcmp_le (tgt := 83) hx hb dX1_addLot_57 dX1_addLot_58 (by decide) (fun c_13 => ?_) (fun c_13 => ?_)
        · replace h := h.1 c_13
          exact bk_83 x5 x6 v_count v_lotCount f_kind f_amount f_day f_spot f_lotsByAge H locs ls hP hD hS (lv_sub hl [0, 2, 3] rfl) h
        · replace h := h.2 c_13
          refine lv_aload_n hx hb dX1_addLot_61 rfl (lv_at hl 0 rfl) ?_
          refine va_get (D := (dC, dI)) (ci := 1) (v := .ref a_lotsByAge) (C := RX1) (T := TX1) (N := 8) hx hb hts in_X1 hown hK hP 0 rfl rfl 7 (by decide) fl29 (fun _ h9 => h9) rfl dX1_addLot_62 ?_
          refine lv_iload hx hb dX1_addLot_65 (lv_at hl 3 rfl) ?_
          refine lv_aload_n hx hb dX1_addLot_67 rfl (lv_at hl 0 rfl) ?_
          refine va_get (D := (dC, dI)) (ci := 1) (v := .ref a_lotsByAge) (C := RX1) (T := TX1) (N := 8) hx hb hts in_X1 hown hK hP 0 rfl rfl 7 (by decide) fl29 (fun _ h9 => h9) rfl dX1_addLot_68 ?_
          refine lv_iload hx hb dX1_addLot_71 (lv_at hl 3 rfl) ?_
          refine lv_iconst (v := 1) hx hb dX1_addLot_73 (by decide) ?_
          refine lv_isub hx hb dX1_addLot_74 ?_
          obtain ⟨hi_14, h⟩ := h
          refine va_iald hx hb hK hP 5 0 rfl rfl hi_14 dX1_addLot_75 ?_
          obtain ⟨hi_15, h⟩ := h
          refine vv_iast hx hb hK hP hD hS 5 0 rfl rfl hi_15 dX1_addLot_76 (fun f_16 ef_16 H locs hP hD hS => ?_)
          replace h := h f_16 ef_16
          replace hP : va_P (dC, dI) vwCl (wd_X1_addLot cI cJ cZ a0 a_kind a_amount a_day a_held a_spot a_lotsByAge v_count v_lotCount f_kind f_amount f_day f_spot f_16) H := hP
          replace hD : va_D A (wd_X1_addLot cI cJ cZ a0 a_kind a_amount a_day a_held a_spot a_lotsByAge v_count v_lotCount f_kind f_amount f_day f_spot f_16) := hD
          obtain ⟨x_17, ex_17⟩ : ∃ y : Int32, y = x6 + (-1) := ⟨_, rfl⟩
          replace h := h x_17 ex_17
          refine lv_iinc (v := x_17) (lv' := [(6, .int x_17), (0, .ref a0), (3, .long x3), (5, .int x5)]) hx hb dX1_addLot_77 hl (k := 3) rfl (by rw [ex_17]; rfl) (by decide) rfl (fun ls hl => ?_)
          refine lv_goto (tgt := 37) hx hb dX1_addLot_80 (by decide) ?_
          exact ih37 x3 x5 x_17 v_count v_lotCount f_kind f_amount f_day f_spot f_16 H locs ls hP hD hS (lv_sub hl [1, 2, 3, 0] rfl) h
  suffices START : ∀ (H : Heap) (locs : List Loc), va_P (dC, dI) vwCl (wd_X1_addLot cI cJ cZ a0 a_kind a_amount a_day a_held a_spot a_lotsByAge v_count v_lotCount f_kind f_amount f_day f_spot f_lotsByAge) H → va_D A (wd_X1_addLot cI cJ cZ a0 a_kind a_amount a_day a_held a_spot a_lotsByAge v_count v_lotCount f_kind f_amount f_day f_spot f_lotsByAge) → va_S A s.heap H locs → W p l e rm_X1_addLot s m av below meth c H locs 0 0 Q (F0 m 0 ls []) from START s.heap [] hP hD hS
  clear hP hD hS
  intro H locs hP hD hS
  refine lv_aload_n hx hb dX1_addLot_0 rfl (lv_at hl 0 rfl) ?_
  refine lv_iconst (v := 5) hx hb dX1_addLot_1 (by decide) ?_
  refine vv_goi [0, 1, 4] [2, 3, 5] [(a_amount, .inl (cJ, 48, .inr (.inl f_amount))), (a_day, .inl (cJ, 48, .inr (.inl f_day))), (a_lotsByAge, .inl (cI, 48, .inl f_lotsByAge))] [3, 4, 0, 1, 5, 2] (fun u => wd_X1_addLot cI cJ cZ a0 a_kind a_amount a_day a_held a_spot a_lotsByAge (u.1) v_lotCount (u.2.1) f_amount f_day (u.2.2) f_lotsByAge) (vv_rv (rest := []) (ci := 1) ⟨hx, hb, hml, hown, hts⟩ (cw_X1_add l dC dI cI cJ cZ a0 a_kind a_amount a_day a_held a_spot a_lotsByAge (H.size) v_count v_lotCount f_kind f_spot 5 _ h) (cwV 1 hts gX1_addLot_X1_add rfl rfl rfl (by decide +kernel) ⟨Nat.le_of_ble_eq_true rfl, Nat.le_of_ble_eq_true rfl⟩) hK hP hD [0, 1, 4] rfl (by decide) rfl rfl rfl hl.1 rfl (Nat.le_of_ble_eq_true rfl) dX1_addLot_2 ⟨Nat.le_of_ble_eq_true rfl, Nat.le_of_ble_eq_true rfl⟩) hP hD hS hA rfl rfl (by decide) (by decide) (fun _ => rfl) (by decide) (fun r_4 u H locs h hP hD hS => ?_)
  obtain ⟨v_count_1, f_kind_2, f_spot_3⟩ := u
  replace hP : va_P (dC, dI) vwCl (wd_X1_addLot cI cJ cZ a0 a_kind a_amount a_day a_held a_spot a_lotsByAge v_count_1 v_lotCount f_kind_2 f_amount f_day f_spot_3 f_lotsByAge) H := hP
  replace hD : va_D A (wd_X1_addLot cI cJ cZ a0 a_kind a_amount a_day a_held a_spot a_lotsByAge v_count_1 v_lotCount f_kind_2 f_amount f_day f_spot_3 f_lotsByAge) := hD
  refine lv_istore (lv' := [(5, .int r_4), (0, .ref a0), (1, .long p1), (3, .long p2)]) hx hb dX1_addLot_5 hl (by decide) rfl (fun ls hl => ?_)
  refine lv_iload hx hb dX1_addLot_7 (lv_at hl 0 rfl) ?_
  refine lv_if_ge (tgt := 15) hx hb dX1_addLot_9 (by decide) (fun c_5 => ?_) (fun c_5 => ?_)
  · replace h := h.1 c_5
    refine lv_aload_n hx hb dX1_addLot_15 rfl (lv_at hl 1 rfl) ?_
    refine va_get (D := (dC, dI)) (ci := 1) (v := .ref a_amount) (C := RX1) (T := TX1) (N := 8) hx hb hts in_X1 hown hK hP 0 rfl rfl 3 (by decide) fl15 (fun _ h9 => h9) rfl dX1_addLot_16 ?_
    refine lv_iload hx hb dX1_addLot_19 (lv_at hl 0 rfl) ?_
    refine lv_lload_n hx hb dX1_addLot_21 rfl (lv_at hl 2 rfl) ?_
    obtain ⟨hi_6, h⟩ := h
    refine vv_last hx hb hK hP hD hS 2 1 rfl rfl hi_6 dX1_addLot_22 (fun f_7 ef_7 H locs hP hD hS => ?_)
    replace h := h f_7 ef_7
    replace hP : va_P (dC, dI) vwCl (wd_X1_addLot cI cJ cZ a0 a_kind a_amount a_day a_held a_spot a_lotsByAge v_count_1 v_lotCount f_kind_2 f_7 f_day f_spot_3 f_lotsByAge) H := hP
    replace hD : va_D A (wd_X1_addLot cI cJ cZ a0 a_kind a_amount a_day a_held a_spot a_lotsByAge v_count_1 v_lotCount f_kind_2 f_7 f_day f_spot_3 f_lotsByAge) := hD
    refine lv_aload_n hx hb dX1_addLot_23 rfl (lv_at hl 1 rfl) ?_
    refine va_get (D := (dC, dI)) (ci := 1) (v := .ref a_day) (C := RX1) (T := TX1) (N := 8) hx hb hts in_X1 hown hK hP 0 rfl rfl 4 (by decide) fl19 (fun _ h9 => h9) rfl dX1_addLot_24 ?_
    refine lv_iload hx hb dX1_addLot_27 (lv_at hl 0 rfl) ?_
    refine lv_lload_n hx hb dX1_addLot_29 rfl (lv_at hl 3 rfl) ?_
    obtain ⟨hi_8, h⟩ := h
    refine vv_last hx hb hK hP hD hS 3 1 rfl rfl hi_8 dX1_addLot_30 (fun f_9 ef_9 H locs hP hD hS => ?_)
    replace h := h f_9 ef_9
    replace hP : va_P (dC, dI) vwCl (wd_X1_addLot cI cJ cZ a0 a_kind a_amount a_day a_held a_spot a_lotsByAge v_count_1 v_lotCount f_kind_2 f_7 f_9 f_spot_3 f_lotsByAge) H := hP
    replace hD : va_D A (wd_X1_addLot cI cJ cZ a0 a_kind a_amount a_day a_held a_spot a_lotsByAge v_count_1 v_lotCount f_kind_2 f_7 f_9 f_spot_3 f_lotsByAge) := hD
    refine lv_aload_n hx hb dX1_addLot_31 rfl (lv_at hl 1 rfl) ?_
    refine va_get (D := (dC, dI)) (ci := 1) (v := .int v_lotCount) (C := RX1) (T := TX1) (N := 8) hx hb hts in_X1 hown hK hP 0 rfl rfl 1 (by decide) fl44 (fun _ h9 => h9) rfl dX1_addLot_32 ?_
    refine lv_istore (lv' := [(6, .int v_lotCount), (5, .int r_4), (0, .ref a0), (1, .long p1), (3, .long p2)]) hx hb dX1_addLot_35 hl (by decide) rfl (fun ls hl => ?_)
    obtain ⟨n_37, h⟩ := h
    exact bk_37 n_37 p2 r_4 v_lotCount v_count_1 v_lotCount f_kind_2 f_7 f_9 f_spot_3 f_lotsByAge H locs ls hP hD hS (lv_sub hl [2, 4, 1, 0] rfl) h
  · replace h := h.2 c_5
    refine lv_iload hx hb dX1_addLot_12 (lv_at hl 0 rfl) ?_
    exact RET r_4 v_count_1 v_lotCount f_kind_2 f_amount f_day f_spot_3 f_lotsByAge H locs ls 14 h hP hD hS dX1_addLot_14

abbrev wd_X2_insert (cI cJ cZ : ClassId) (a0 a_spot a_units a_holders : Nat) (v_count : Int32) (f_spot : (Nat → Int32)) (f_units : (Nat → Int64)) (f_holders : (Nat → Int32)) : va_W := [(a0, .inr (2, [.int v_count, .ref a_spot, .ref a_units, .ref a_holders])), (a_spot, .inl (cI, 48, .inl f_spot)), (a_units, .inl (cJ, 48, .inr (.inl f_units))), (a_holders, .inl (cI, 48, .inl f_holders))]
abbrev rm_X2_insert : Room := { frames := 0, cells := 0, slots := 0, locals := 0 }
def wb_X2_insert_16 (post : Int32 → (Nat → Int32) → (Nat → Int64) → (Nat → Int32) → Prop) : Nat → Int32 → Int32 → Int64 → Int32 → Int32 → (Nat → Int32) → (Nat → Int64) → (Nat → Int32) → Prop
  | 0 => fun _ _ _ _ _ _ _ _ => False
  | n + 1 => fun x1 x2 x3 x5 v_count f_spot f_units f_holders => ((x5 ≤ x1 → (vp_in x1 48 ∧ (∀ f_4 : Nat → Int32, f_4 = upd f_spot x1.toNatClampNeg x2 → vp_in x1 48 ∧ (∀ f_6 : Nat → Int64, f_6 = vp_updL f_units x1.toNatClampNeg x3 → vp_in x1 48 ∧ (∀ f_8 : Nat → Int32, f_8 = upd f_holders x1.toNatClampNeg 1 → ∀ v_9 : Int32, v_9 = (v_count + 1) → post v_9 f_4 f_6 f_8))))) ∧ (¬ x5 ≤ x1 → (vp_in (x5 - 1) 48 ∧ (vp_in x5 48 ∧ (∀ f_12 : Nat → Int32, f_12 = upd f_spot x5.toNatClampNeg (f_spot (x5 - 1).toNatClampNeg) → vp_in (x5 - 1) 48 ∧ (vp_in x5 48 ∧ (∀ f_15 : Nat → Int64, f_15 = vp_updL f_units x5.toNatClampNeg (f_units (x5 - 1).toNatClampNeg) → vp_in (x5 - 1) 48 ∧ (vp_in x5 48 ∧ (∀ f_18 : Nat → Int32, f_18 = upd f_holders x5.toNatClampNeg (f_holders (x5 - 1).toNatClampNeg) → ∀ x_19 : Int32, x_19 = x5 + (-1) → wb_X2_insert_16 post   n x1 x2 x3 x_19 v_count f_12 f_15 f_18)))))))))
def wp_X2_insert (post : Int32 → (Nat → Int32) → (Nat → Int64) → (Nat → Int32) → Prop) (v_count : Int32) (f_spot : (Nat → Int32)) (f_units : (Nat → Int64)) (f_holders : (Nat → Int32)) (p1 : Int32) (p2 : Int32) (p3 : Int64) : Prop := ((v_count < 48 → (∃ n_16 : Nat, wb_X2_insert_16 post  n_16 p1 p2 p3 v_count v_count f_spot f_units f_holders)) ∧ (¬ v_count < 48 → post v_count f_spot f_units f_holders))
set_option maxHeartbeats 4000000 in
set_option maxRecDepth 100000 in
theorem cw_X2_insert (l : Launch) (dC : Nat → ClassId) (dI : Nat → Nat → Nat) (cI cJ cZ : ClassId) (a0 a_spot a_units a_holders : Nat) (sz : Nat) (v_count : Int32) (f_spot : (Nat → Int32)) (f_units : (Nat → Int64)) (f_holders : (Nat → Int32)) (p1 : Int32) (p2 : Int32) (p3 : Int64) (post : Int32 → (Nat → Int32) → (Nat → Int64) → (Nat → Int32) → Prop) (h : wp_X2_insert post v_count f_spot f_units f_holders p1 p2 p3) : Met l yX2_insert wsX2_insert rm_X2_insert (va_Pc [.ref a0, .int p1, .int p2, .long p3] (vv_B (dC, dI) (vv_ty cI cJ cZ) (wd_X2_insert cI cJ cZ a0 a_spot a_units a_holders v_count f_spot f_units f_holders) sz)) (va_Qv (fun (u : Int32 × (Nat → Int32) × (Nat → Int64) × (Nat → Int32)) => post (u.1) (u.2.1) (u.2.2.1) (u.2.2.2)) (vv_E (dC, dI) (vv_ty cI cJ cZ) (va_A (wd_X2_insert cI cJ cZ a0 a_spot a_units a_holders v_count f_spot f_units f_holders) sz) (fun u : Int32 × (Nat → Int32) × (Nat → Int64) × (Nat → Int32) => wd_X2_insert cI cJ cZ a0 a_spot a_units a_holders (u.1) (u.2.1) (u.2.2.1) (u.2.2.2))) (va_A (wd_X2_insert cI cJ cZ a0 a_spot a_units a_holders v_count f_spot f_units f_holders) sz)) 0 0 (va_A (wd_X2_insert cI cJ cZ a0 a_spot a_units a_holders v_count f_spot f_units f_holders) sz) := by
  refine Met.ofW (cc := cX2_insert) (maxL := 6) (ret := none) (by decide) rfl ?_
  intro p e s m args below meth c s₁ B hml hv
  obtain ⟨hav, hsz, hP, hK, hD0⟩ := hv
  have hx := B.exec
  have hb := B.bytes
  have hr := B.returns
  have hts := atoms_spec (ws := wsX2_insert) B.pre
  have hown : s.vm.findClass RX2 = some m.cls := findClass_of_methodNamed B.named
  have hlocks := B.notSynchronized
  subst hsz
  have hD := hD0.self (sz := s.heap.size)
  clear hD0
  generalize hAe : va_A (wd_X2_insert cI cJ cZ a0 a_spot a_units a_holders v_count f_spot f_units f_holders) s.heap.size = A at hD ⊢
  have hA : ∀ q : Nat, s.heap.size ≤ q → A q := fun q h => by rw [← hAe]; exact Or.inr h
  clear hAe
  have hS : va_S A s.heap s.heap [] := va_S.rf
  have hl := lv_entry ([.ref a0, .int p1, .int p2, .long p3]) (n := 6) (Nat.le_of_ble_eq_true rfl)
  subst hav
  rw [lg_entry_eq]
  generalize (lg_sl ([.ref a0, .int p1, .int p2, .long p3]) ++ List.replicate (6 - (lg_sl ([.ref a0, .int p1, .int p2, .long p3])).length) Slot.unset).toArray = ls at hl ⊢
  replace hl : lv_has ls 6 [(0, .ref a0), (1, .int p1), (2, .int p2), (3, .long p3)] := hl
  clear B
  generalize (([.ref a0, .int p1, .int p2, .long p3] : List Value)).toArray = av at hts ⊢
  suffices MAIN : ∀ Q : State → Prop, (∀ (v_count : Int32) (f_spot : (Nat → Int32)) (f_units : (Nat → Int64)) (f_holders : (Nat → Int32)) (H : Heap) (locs : List Loc) (ls : Array Slot) (pc : Nat), post v_count f_spot f_units f_holders → va_P (dC, dI) vwCl (wd_X2_insert cI cJ cZ a0 a_spot a_units a_holders v_count f_spot f_units f_holders) H → va_D A (wd_X2_insert cI cJ cZ a0 a_spot a_units a_holders v_count f_spot f_units f_holders) → va_S A s.heap H locs → decode cX2_insert pc = .ok (.return_, 1) → W p l e rm_X2_insert s m av below meth c H locs 0 0 Q (F0 m pc ls [])) → W p l e rm_X2_insert s m av below meth c s.heap [] 0 0 Q (F0 m 0 ls []) from MAIN _ (fun v_count f_spot f_units f_holders H locs ls pc h hP hD hS hd => vv_vret (v_count, f_spot, f_units, f_holders) hx hb hr hlocks h hK hP hD hS hd)
  intro Q RET
  have fl9 := hts (.fieldLink RX2 9 "LotFlows$RecallList" "spot" "[I") (by decide +kernel)
  have fl15 := hts (.fieldLink RX2 15 "LotFlows$RecallList" "units" "[J") (by decide +kernel)
  have fl19 := hts (.fieldLink RX2 19 "LotFlows$RecallList" "holders" "[I") (by decide +kernel)
  have fl22 := hts (.fieldLink RX2 22 "LotFlows$RecallList" "count" "I") (by decide +kernel)
  have in_X2 : ∀ w ∈ wsX20, w ∈ wsX2_insert := by decide +kernel
  have bk_16 : ∀ n : Nat, ∀ (x1 : Int32) (x2 : Int32) (x3 : Int64) (x5 : Int32) (v_count : Int32) (f_spot : (Nat → Int32)) (f_units : (Nat → Int64)) (f_holders : (Nat → Int32)) (H : Heap) (locs : List Loc) (ls : Array Slot), va_P (dC, dI) vwCl (wd_X2_insert cI cJ cZ a0 a_spot a_units a_holders v_count f_spot f_units f_holders) H → va_D A (wd_X2_insert cI cJ cZ a0 a_spot a_units a_holders v_count f_spot f_units f_holders) → va_S A s.heap H locs → lv_has ls 6 [(0, .ref a0), (1, .int x1), (2, .int x2), (3, .long x3), (5, .int x5)] → wb_X2_insert_16 post  n x1 x2 x3 x5 v_count f_spot f_units f_holders → W p l e rm_X2_insert s m av below meth c H locs 0 0 Q (F0 m 16 ls []) := by
    intro n
    induction n with
    | zero =>
      intro x1 x2 x3 x5 v_count f_spot f_units f_holders H locs ls hP hD hS hl h
      exact False.elim h
    | succ n ih16 =>
      intro x1 x2 x3 x5 v_count f_spot f_units f_holders H locs ls hP hD hS hl h
      refine lv_iload hx hb dX2_insert_16 (lv_at hl 4 rfl) ?_
      refine lv_iload_n hx hb dX2_insert_18 rfl (lv_at hl 1 rfl) ?_
      refine lv_icmp_le (tgt := 76) hx hb dX2_insert_19 (by decide) (fun c_2 => ?_) (fun c_2 => ?_)
      · replace h := h.1 c_2
        refine lv_aload_n hx hb dX2_insert_76 rfl (lv_at hl 0 rfl) ?_
        refine va_get (D := (dC, dI)) (ci := 2) (v := .ref a_spot) (C := RX2) (T := TX2) (N := 4) hx hb hts in_X2 hown hK hP 0 rfl rfl 1 (by decide) fl9 (fun _ h9 => h9) rfl dX2_insert_77 ?_
        refine lv_iload_n hx hb dX2_insert_80 rfl (lv_at hl 1 rfl) ?_
        refine lv_iload_n hx hb dX2_insert_81 rfl (lv_at hl 2 rfl) ?_
        obtain ⟨hi_3, h⟩ := h
        refine vv_iast hx hb hK hP hD hS 1 0 rfl rfl hi_3 dX2_insert_82 (fun f_4 ef_4 H locs hP hD hS => ?_)
        replace h := h f_4 ef_4
        replace hP : va_P (dC, dI) vwCl (wd_X2_insert cI cJ cZ a0 a_spot a_units a_holders v_count f_4 f_units f_holders) H := hP
        replace hD : va_D A (wd_X2_insert cI cJ cZ a0 a_spot a_units a_holders v_count f_4 f_units f_holders) := hD
        refine lv_aload_n hx hb dX2_insert_83 rfl (lv_at hl 0 rfl) ?_
        refine va_get (D := (dC, dI)) (ci := 2) (v := .ref a_units) (C := RX2) (T := TX2) (N := 4) hx hb hts in_X2 hown hK hP 0 rfl rfl 2 (by decide) fl15 (fun _ h9 => h9) rfl dX2_insert_84 ?_
        refine lv_iload_n hx hb dX2_insert_87 rfl (lv_at hl 1 rfl) ?_
        refine lv_lload_n hx hb dX2_insert_88 rfl (lv_at hl 3 rfl) ?_
        obtain ⟨hi_5, h⟩ := h
        refine vv_last hx hb hK hP hD hS 2 1 rfl rfl hi_5 dX2_insert_89 (fun f_6 ef_6 H locs hP hD hS => ?_)
        replace h := h f_6 ef_6
        replace hP : va_P (dC, dI) vwCl (wd_X2_insert cI cJ cZ a0 a_spot a_units a_holders v_count f_4 f_6 f_holders) H := hP
        replace hD : va_D A (wd_X2_insert cI cJ cZ a0 a_spot a_units a_holders v_count f_4 f_6 f_holders) := hD
        refine lv_aload_n hx hb dX2_insert_90 rfl (lv_at hl 0 rfl) ?_
        refine va_get (D := (dC, dI)) (ci := 2) (v := .ref a_holders) (C := RX2) (T := TX2) (N := 4) hx hb hts in_X2 hown hK hP 0 rfl rfl 3 (by decide) fl19 (fun _ h9 => h9) rfl dX2_insert_91 ?_
        refine lv_iload_n hx hb dX2_insert_94 rfl (lv_at hl 1 rfl) ?_
        refine lv_iconst (v := 1) hx hb dX2_insert_95 (by decide) ?_
        obtain ⟨hi_7, h⟩ := h
        refine vv_iast hx hb hK hP hD hS 3 0 rfl rfl hi_7 dX2_insert_96 (fun f_8 ef_8 H locs hP hD hS => ?_)
        replace h := h f_8 ef_8
        replace hP : va_P (dC, dI) vwCl (wd_X2_insert cI cJ cZ a0 a_spot a_units a_holders v_count f_4 f_6 f_8) H := hP
        replace hD : va_D A (wd_X2_insert cI cJ cZ a0 a_spot a_units a_holders v_count f_4 f_6 f_8) := hD
        refine lv_aload_n hx hb dX2_insert_97 rfl (lv_at hl 0 rfl) ?_
        refine lv_dup hx hb dX2_insert_98 rfl ?_
        refine va_get (D := (dC, dI)) (ci := 2) (v := .int v_count) (C := RX2) (T := TX2) (N := 4) hx hb hts in_X2 hown hK hP 0 rfl rfl 0 (by decide) fl22 (fun _ h9 => h9) rfl dX2_insert_99 ?_
        refine lv_iconst (v := 1) hx hb dX2_insert_102 (by decide) ?_
        refine lv_iadd hx hb dX2_insert_103 ?_
        refine lv_topi (fun v_9 ev_9 => ?_)
        replace h := h v_9 ev_9
        refine va_put (D := (dC, dI)) (ci := 2) (v := .int v_9) (ty := .int) (C := RX2) (T := TX2) (N := 4) hx hb hts in_X2 tyX2 tyX2_ok nmX2 hown hK hP hD hS 0 rfl rfl 0 (by decide) fl22 (fun _ h9 => h9) rfl (by decide +kernel) rfl rfl (Nat.le_of_ble_eq_true rfl) dX2_insert_104 (fun H locs hP hD hS => ?_)
        replace hP : va_P (dC, dI) vwCl (wd_X2_insert cI cJ cZ a0 a_spot a_units a_holders v_9 f_4 f_6 f_8) H := hP
        replace hD : va_D A (wd_X2_insert cI cJ cZ a0 a_spot a_units a_holders v_9 f_4 f_6 f_8) := hD
        exact RET v_9 f_4 f_6 f_8 H locs ls 107 h hP hD hS dX2_insert_107
      · replace h := h.2 c_2
        refine lv_aload_n hx hb dX2_insert_22 rfl (lv_at hl 0 rfl) ?_
        refine va_get (D := (dC, dI)) (ci := 2) (v := .ref a_spot) (C := RX2) (T := TX2) (N := 4) hx hb hts in_X2 hown hK hP 0 rfl rfl 1 (by decide) fl9 (fun _ h9 => h9) rfl dX2_insert_23 ?_
        refine lv_iload hx hb dX2_insert_26 (lv_at hl 4 rfl) ?_
        refine lv_aload_n hx hb dX2_insert_28 rfl (lv_at hl 0 rfl) ?_
        refine va_get (D := (dC, dI)) (ci := 2) (v := .ref a_spot) (C := RX2) (T := TX2) (N := 4) hx hb hts in_X2 hown hK hP 0 rfl rfl 1 (by decide) fl9 (fun _ h9 => h9) rfl dX2_insert_29 ?_
        refine lv_iload hx hb dX2_insert_32 (lv_at hl 4 rfl) ?_
        refine lv_iconst (v := 1) hx hb dX2_insert_34 (by decide) ?_
        refine lv_isub hx hb dX2_insert_35 ?_
        obtain ⟨hi_10, h⟩ := h
        refine va_iald hx hb hK hP 1 0 rfl rfl hi_10 dX2_insert_36 ?_
        obtain ⟨hi_11, h⟩ := h
        refine vv_iast hx hb hK hP hD hS 1 0 rfl rfl hi_11 dX2_insert_37 (fun f_12 ef_12 H locs hP hD hS => ?_)
        replace h := h f_12 ef_12
        replace hP : va_P (dC, dI) vwCl (wd_X2_insert cI cJ cZ a0 a_spot a_units a_holders v_count f_12 f_units f_holders) H := hP
        replace hD : va_D A (wd_X2_insert cI cJ cZ a0 a_spot a_units a_holders v_count f_12 f_units f_holders) := hD
        refine lv_aload_n hx hb dX2_insert_38 rfl (lv_at hl 0 rfl) ?_
        refine va_get (D := (dC, dI)) (ci := 2) (v := .ref a_units) (C := RX2) (T := TX2) (N := 4) hx hb hts in_X2 hown hK hP 0 rfl rfl 2 (by decide) fl15 (fun _ h9 => h9) rfl dX2_insert_39 ?_
        refine lv_iload hx hb dX2_insert_42 (lv_at hl 4 rfl) ?_
        refine lv_aload_n hx hb dX2_insert_44 rfl (lv_at hl 0 rfl) ?_
        refine va_get (D := (dC, dI)) (ci := 2) (v := .ref a_units) (C := RX2) (T := TX2) (N := 4) hx hb hts in_X2 hown hK hP 0 rfl rfl 2 (by decide) fl15 (fun _ h9 => h9) rfl dX2_insert_45 ?_
        refine lv_iload hx hb dX2_insert_48 (lv_at hl 4 rfl) ?_
        refine lv_iconst (v := 1) hx hb dX2_insert_50 (by decide) ?_
        refine lv_isub hx hb dX2_insert_51 ?_
        obtain ⟨hi_13, h⟩ := h
        refine va_lald hx hb hK hP 2 1 rfl rfl hi_13 dX2_insert_52 ?_
        obtain ⟨hi_14, h⟩ := h
        refine vv_last hx hb hK hP hD hS 2 1 rfl rfl hi_14 dX2_insert_53 (fun f_15 ef_15 H locs hP hD hS => ?_)
        replace h := h f_15 ef_15
        replace hP : va_P (dC, dI) vwCl (wd_X2_insert cI cJ cZ a0 a_spot a_units a_holders v_count f_12 f_15 f_holders) H := hP
        replace hD : va_D A (wd_X2_insert cI cJ cZ a0 a_spot a_units a_holders v_count f_12 f_15 f_holders) := hD
        refine lv_aload_n hx hb dX2_insert_54 rfl (lv_at hl 0 rfl) ?_
        refine va_get (D := (dC, dI)) (ci := 2) (v := .ref a_holders) (C := RX2) (T := TX2) (N := 4) hx hb hts in_X2 hown hK hP 0 rfl rfl 3 (by decide) fl19 (fun _ h9 => h9) rfl dX2_insert_55 ?_
        refine lv_iload hx hb dX2_insert_58 (lv_at hl 4 rfl) ?_
        refine lv_aload_n hx hb dX2_insert_60 rfl (lv_at hl 0 rfl) ?_
        refine va_get (D := (dC, dI)) (ci := 2) (v := .ref a_holders) (C := RX2) (T := TX2) (N := 4) hx hb hts in_X2 hown hK hP 0 rfl rfl 3 (by decide) fl19 (fun _ h9 => h9) rfl dX2_insert_61 ?_
        refine lv_iload hx hb dX2_insert_64 (lv_at hl 4 rfl) ?_
        refine lv_iconst (v := 1) hx hb dX2_insert_66 (by decide) ?_
        refine lv_isub hx hb dX2_insert_67 ?_
        obtain ⟨hi_16, h⟩ := h
        refine va_iald hx hb hK hP 3 0 rfl rfl hi_16 dX2_insert_68 ?_
        obtain ⟨hi_17, h⟩ := h
        refine vv_iast hx hb hK hP hD hS 3 0 rfl rfl hi_17 dX2_insert_69 (fun f_18 ef_18 H locs hP hD hS => ?_)
        replace h := h f_18 ef_18
        replace hP : va_P (dC, dI) vwCl (wd_X2_insert cI cJ cZ a0 a_spot a_units a_holders v_count f_12 f_15 f_18) H := hP
        replace hD : va_D A (wd_X2_insert cI cJ cZ a0 a_spot a_units a_holders v_count f_12 f_15 f_18) := hD
        obtain ⟨x_19, ex_19⟩ : ∃ y : Int32, y = x5 + (-1) := ⟨_, rfl⟩
        replace h := h x_19 ex_19
        refine lv_iinc (v := x_19) (lv' := [(5, .int x_19), (0, .ref a0), (1, .int x1), (2, .int x2), (3, .long x3)]) hx hb dX2_insert_70 hl (k := 4) rfl (by rw [ex_19]; rfl) (by decide) rfl (fun ls hl => ?_)
        refine lv_goto (tgt := 16) hx hb dX2_insert_73 (by decide) ?_
        exact ih16 x1 x2 x3 x_19 v_count f_12 f_15 f_18 H locs ls hP hD hS (lv_sub hl [1, 2, 3, 4, 0] rfl) h
  suffices START : ∀ (H : Heap) (locs : List Loc), va_P (dC, dI) vwCl (wd_X2_insert cI cJ cZ a0 a_spot a_units a_holders v_count f_spot f_units f_holders) H → va_D A (wd_X2_insert cI cJ cZ a0 a_spot a_units a_holders v_count f_spot f_units f_holders) → va_S A s.heap H locs → W p l e rm_X2_insert s m av below meth c H locs 0 0 Q (F0 m 0 ls []) from START s.heap [] hP hD hS
  clear hP hD hS
  intro H locs hP hD hS
  refine lv_aload_n hx hb dX2_insert_0 rfl (lv_at hl 0 rfl) ?_
  refine va_get (D := (dC, dI)) (ci := 2) (v := .int v_count) (C := RX2) (T := TX2) (N := 4) hx hb hts in_X2 hown hK hP 0 rfl rfl 0 (by decide) fl22 (fun _ h9 => h9) rfl dX2_insert_1 ?_
  refine lv_bipush (v := 48) hx hb dX2_insert_4 (by decide) ?_
  refine lv_icmp_lt (tgt := 10) hx hb dX2_insert_6 (by decide) (fun c_1 => ?_) (fun c_1 => ?_)
  · replace h := h.1 c_1
    refine lv_aload_n hx hb dX2_insert_10 rfl (lv_at hl 0 rfl) ?_
    refine va_get (D := (dC, dI)) (ci := 2) (v := .int v_count) (C := RX2) (T := TX2) (N := 4) hx hb hts in_X2 hown hK hP 0 rfl rfl 0 (by decide) fl22 (fun _ h9 => h9) rfl dX2_insert_11 ?_
    refine lv_istore (lv' := [(5, .int v_count), (0, .ref a0), (1, .int p1), (2, .int p2), (3, .long p3)]) hx hb dX2_insert_14 hl (by decide) rfl (fun ls hl => ?_)
    obtain ⟨n_16, h⟩ := h
    exact bk_16 n_16 p1 p2 p3 v_count v_count f_spot f_units f_holders H locs ls hP hD hS (lv_sub hl [1, 2, 3, 4, 0] rfl) h
  · replace h := h.2 c_1
    exact RET v_count f_spot f_units f_holders H locs ls 9 h hP hD hS dX2_insert_9

abbrev wd_X2_enter (cI cJ cZ : ClassId) (a0 a_spot a_units a_holders : Nat) (v_count : Int32) (f_spot : (Nat → Int32)) (f_units : (Nat → Int64)) (f_holders : (Nat → Int32)) : va_W := [(a0, .inr (2, [.int v_count, .ref a_spot, .ref a_units, .ref a_holders])), (a_spot, .inl (cI, 48, .inl f_spot)), (a_units, .inl (cJ, 48, .inr (.inl f_units))), (a_holders, .inl (cI, 48, .inl f_holders))]
abbrev rm_X2_enter : Room := { frames := 1, cells := 0, slots := 0, locals := 25 }
def wb_X2_enter_74 (post : Int32 → (Nat → Int32) → (Nat → Int64) → (Nat → Int32) → Prop) (x1 : Int32) (x2 : Int64) (x4 : Int32) (v_count : Int32) (f_spot : (Nat → Int32)) (f_units : (Nat → Int64)) (f_holders : (Nat → Int32)) : Prop := (wp_X2_insert (fun v_count_14 f_spot_15 f_units_16 f_holders_17 => post v_count_14 f_spot_15 f_units_16 f_holders_17) v_count f_spot f_units f_holders x4 x1 x2)
def wb_X2_enter_29 (post : Int32 → (Nat → Int32) → (Nat → Int64) → (Nat → Int32) → Prop) (x1 : Int32) (x2 : Int64) (x4 : Int32) (v_count : Int32) (f_spot : (Nat → Int32)) (f_units : (Nat → Int64)) (f_holders : (Nat → Int32)) : Prop := ((v_count ≤ x4 → wb_X2_enter_74 post  x1 x2 x4 v_count f_spot f_units f_holders) ∧ (¬ v_count ≤ x4 → (vp_in x4 48 ∧ (((¬ (f_spot x4.toNatClampNeg) = x1 → wb_X2_enter_74 post  x1 x2 x4 v_count f_spot f_units f_holders) ∧ ((f_spot x4.toNatClampNeg) = x1 → (vp_in x4 48 ∧ (vp_in x4 48 ∧ (∀ f_10 : Nat → Int64, f_10 = vp_updL f_units x4.toNatClampNeg ((f_units x4.toNatClampNeg) + x2) → vp_in x4 48 ∧ (vp_in x4 48 ∧ (∀ f_13 : Nat → Int32, f_13 = upd f_holders x4.toNatClampNeg ((f_holders x4.toNatClampNeg) + 1) → post v_count f_spot f_10 f_13)))))))))))
def wb_X2_enter_3 (post : Int32 → (Nat → Int32) → (Nat → Int64) → (Nat → Int32) → Prop) : Nat → Int32 → Int64 → Int32 → Int32 → (Nat → Int32) → (Nat → Int64) → (Nat → Int32) → Prop
  | 0 => fun _ _ _ _ _ _ _ => False
  | n + 1 => fun x1 x2 x4 v_count f_spot f_units f_holders => ((v_count ≤ x4 → wb_X2_enter_29 post  x1 x2 x4 v_count f_spot f_units f_holders) ∧ (¬ v_count ≤ x4 → (vp_in x4 48 ∧ (((x1 ≤ (f_spot x4.toNatClampNeg) → wb_X2_enter_29 post  x1 x2 x4 v_count f_spot f_units f_holders) ∧ (¬ x1 ≤ (f_spot x4.toNatClampNeg) → (∀ x_4 : Int32, x_4 = x4 + 1 → wb_X2_enter_3 post   n x1 x2 x_4 v_count f_spot f_units f_holders)))))))
def wp_X2_enter (post : Int32 → (Nat → Int32) → (Nat → Int64) → (Nat → Int32) → Prop) (v_count : Int32) (f_spot : (Nat → Int32)) (f_units : (Nat → Int64)) (f_holders : (Nat → Int32)) (p1 : Int32) (p2 : Int64) : Prop := (∃ n_3 : Nat, wb_X2_enter_3 post  n_3 p1 p2 0 v_count f_spot f_units f_holders)
set_option maxHeartbeats 4000000 in
set_option maxRecDepth 100000 in
theorem cw_X2_enter (l : Launch) (dC : Nat → ClassId) (dI : Nat → Nat → Nat) (cI cJ cZ : ClassId) (a0 a_spot a_units a_holders : Nat) (sz : Nat) (v_count : Int32) (f_spot : (Nat → Int32)) (f_units : (Nat → Int64)) (f_holders : (Nat → Int32)) (p1 : Int32) (p2 : Int64) (post : Int32 → (Nat → Int32) → (Nat → Int64) → (Nat → Int32) → Prop) (h : wp_X2_enter post v_count f_spot f_units f_holders p1 p2) : Met l yX2_enter wsX2_enter rm_X2_enter (va_Pc [.ref a0, .int p1, .long p2] (vv_B (dC, dI) (vv_ty cI cJ cZ) (wd_X2_enter cI cJ cZ a0 a_spot a_units a_holders v_count f_spot f_units f_holders) sz)) (va_Qv (fun (u : Int32 × (Nat → Int32) × (Nat → Int64) × (Nat → Int32)) => post (u.1) (u.2.1) (u.2.2.1) (u.2.2.2)) (vv_E (dC, dI) (vv_ty cI cJ cZ) (va_A (wd_X2_enter cI cJ cZ a0 a_spot a_units a_holders v_count f_spot f_units f_holders) sz) (fun u : Int32 × (Nat → Int32) × (Nat → Int64) × (Nat → Int32) => wd_X2_enter cI cJ cZ a0 a_spot a_units a_holders (u.1) (u.2.1) (u.2.2.1) (u.2.2.2))) (va_A (wd_X2_enter cI cJ cZ a0 a_spot a_units a_holders v_count f_spot f_units f_holders) sz)) 0 0 (va_A (wd_X2_enter cI cJ cZ a0 a_spot a_units a_holders v_count f_spot f_units f_holders) sz) := by
  refine Met.ofW (cc := cX2_enter) (maxL := 5) (ret := none) (by decide) rfl ?_
  intro p e s m args below meth c s₁ B hml hv
  obtain ⟨hav, hsz, hP, hK, hD0⟩ := hv
  have hx := B.exec
  have hb := B.bytes
  have hr := B.returns
  have hts := atoms_spec (ws := wsX2_enter) B.pre
  have hown : s.vm.findClass RX2 = some m.cls := findClass_of_methodNamed B.named
  have hlocks := B.notSynchronized
  subst hsz
  have hD := hD0.self (sz := s.heap.size)
  clear hD0
  generalize hAe : va_A (wd_X2_enter cI cJ cZ a0 a_spot a_units a_holders v_count f_spot f_units f_holders) s.heap.size = A at hD ⊢
  have hA : ∀ q : Nat, s.heap.size ≤ q → A q := fun q h => by rw [← hAe]; exact Or.inr h
  clear hAe
  have hS : va_S A s.heap s.heap [] := va_S.rf
  have hl := lv_entry ([.ref a0, .int p1, .long p2]) (n := 5) (Nat.le_of_ble_eq_true rfl)
  subst hav
  rw [lg_entry_eq]
  generalize (lg_sl ([.ref a0, .int p1, .long p2]) ++ List.replicate (5 - (lg_sl ([.ref a0, .int p1, .long p2])).length) Slot.unset).toArray = ls at hl ⊢
  replace hl : lv_has ls 5 [(0, .ref a0), (1, .int p1), (2, .long p2)] := hl
  clear B
  generalize (([.ref a0, .int p1, .long p2] : List Value)).toArray = av at hts ⊢
  suffices MAIN : ∀ Q : State → Prop, (∀ (v_count : Int32) (f_spot : (Nat → Int32)) (f_units : (Nat → Int64)) (f_holders : (Nat → Int32)) (H : Heap) (locs : List Loc) (ls : Array Slot) (pc : Nat), post v_count f_spot f_units f_holders → va_P (dC, dI) vwCl (wd_X2_enter cI cJ cZ a0 a_spot a_units a_holders v_count f_spot f_units f_holders) H → va_D A (wd_X2_enter cI cJ cZ a0 a_spot a_units a_holders v_count f_spot f_units f_holders) → va_S A s.heap H locs → decode cX2_enter pc = .ok (.return_, 1) → W p l e rm_X2_enter s m av below meth c H locs 0 0 Q (F0 m pc ls [])) → W p l e rm_X2_enter s m av below meth c s.heap [] 0 0 Q (F0 m 0 ls []) from MAIN _ (fun v_count f_spot f_units f_holders H locs ls pc h hP hD hS hd => vv_vret (v_count, f_spot, f_units, f_holders) hx hb hr hlocks h hK hP hD hS hd)
  intro Q RET
  have fl9 := hts (.fieldLink RX2 9 "LotFlows$RecallList" "spot" "[I") (by decide +kernel)
  have fl15 := hts (.fieldLink RX2 15 "LotFlows$RecallList" "units" "[J") (by decide +kernel)
  have fl19 := hts (.fieldLink RX2 19 "LotFlows$RecallList" "holders" "[I") (by decide +kernel)
  have fl22 := hts (.fieldLink RX2 22 "LotFlows$RecallList" "count" "I") (by decide +kernel)
  have in_X2 : ∀ w ∈ wsX20, w ∈ wsX2_enter := by decide +kernel
  have bk_74 : ∀ (x1 : Int32) (x2 : Int64) (x4 : Int32) (v_count : Int32) (f_spot : (Nat → Int32)) (f_units : (Nat → Int64)) (f_holders : (Nat → Int32)) (H : Heap) (locs : List Loc) (ls : Array Slot), va_P (dC, dI) vwCl (wd_X2_enter cI cJ cZ a0 a_spot a_units a_holders v_count f_spot f_units f_holders) H → va_D A (wd_X2_enter cI cJ cZ a0 a_spot a_units a_holders v_count f_spot f_units f_holders) → va_S A s.heap H locs → lv_has ls 5 [(0, .ref a0), (1, .int x1), (2, .long x2), (4, .int x4)] → wb_X2_enter_74 post  x1 x2 x4 v_count f_spot f_units f_holders → W p l e rm_X2_enter s m av below meth c H locs 0 0 Q (F0 m 74 ls []) := by
    intro x1 x2 x4 v_count f_spot f_units f_holders H locs ls hP hD hS hl h
    refine lv_aload_n hx hb dX2_enter_74 rfl (lv_at hl 0 rfl) ?_
    refine lv_iload hx hb dX2_enter_75 (lv_at hl 3 rfl) ?_
    refine lv_iload_n hx hb dX2_enter_77 rfl (lv_at hl 1 rfl) ?_
    refine lv_lload_n hx hb dX2_enter_78 rfl (lv_at hl 2 rfl) ?_
    refine vv_gov [0, 1, 2, 3] [] [] [0, 1, 2, 3] (fun u => wd_X2_enter cI cJ cZ a0 a_spot a_units a_holders (u.1) (u.2.1) (u.2.2.1) (u.2.2.2)) (vv_rv (rest := []) (ci := 2) ⟨hx, hb, hml, hown, hts⟩ (cw_X2_insert l dC dI cI cJ cZ a0 a_spot a_units a_holders (H.size) v_count f_spot f_units f_holders x4 x1 x2 _ h) (cwV 3 hts gX2_enter_X2_insert rfl rfl rfl (by decide +kernel) ⟨Nat.le_of_ble_eq_true rfl, Nat.le_of_ble_eq_true rfl⟩) hK hP hD [0, 1, 2, 3] rfl (by decide) rfl rfl rfl hl.1 rfl (Nat.le_of_ble_eq_true rfl) dX2_enter_79 ⟨Nat.le_of_ble_eq_true rfl, Nat.le_of_ble_eq_true rfl⟩) hP hD hS hA rfl rfl (by decide) (by decide) (fun _ => rfl) (by decide) (fun u H locs h hP hD hS => ?_)
    obtain ⟨v_count_14, f_spot_15, f_units_16, f_holders_17⟩ := u
    replace hP : va_P (dC, dI) vwCl (wd_X2_enter cI cJ cZ a0 a_spot a_units a_holders v_count_14 f_spot_15 f_units_16 f_holders_17) H := hP
    replace hD : va_D A (wd_X2_enter cI cJ cZ a0 a_spot a_units a_holders v_count_14 f_spot_15 f_units_16 f_holders_17) := hD
    exact RET v_count_14 f_spot_15 f_units_16 f_holders_17 H locs ls 82 h hP hD hS dX2_enter_82
  have bk_29 : ∀ (x1 : Int32) (x2 : Int64) (x4 : Int32) (v_count : Int32) (f_spot : (Nat → Int32)) (f_units : (Nat → Int64)) (f_holders : (Nat → Int32)) (H : Heap) (locs : List Loc) (ls : Array Slot), va_P (dC, dI) vwCl (wd_X2_enter cI cJ cZ a0 a_spot a_units a_holders v_count f_spot f_units f_holders) H → va_D A (wd_X2_enter cI cJ cZ a0 a_spot a_units a_holders v_count f_spot f_units f_holders) → va_S A s.heap H locs → lv_has ls 5 [(0, .ref a0), (1, .int x1), (2, .long x2), (4, .int x4)] → wb_X2_enter_29 post  x1 x2 x4 v_count f_spot f_units f_holders → W p l e rm_X2_enter s m av below meth c H locs 0 0 Q (F0 m 29 ls []) := by
    intro x1 x2 x4 v_count f_spot f_units f_holders H locs ls hP hD hS hl h
    refine lv_iload hx hb dX2_enter_29 (lv_at hl 3 rfl) ?_
    refine lv_aload_n hx hb dX2_enter_31 rfl (lv_at hl 0 rfl) ?_
    refine va_get (D := (dC, dI)) (ci := 2) (v := .int v_count) (C := RX2) (T := TX2) (N := 4) hx hb hts in_X2 hown hK hP 0 rfl rfl 0 (by decide) fl22 (fun _ h9 => h9) rfl dX2_enter_32 ?_
    refine lv_icmp_ge (tgt := 74) hx hb dX2_enter_35 (by decide) (fun c_5 => ?_) (fun c_5 => ?_)
    · replace h := h.1 c_5
      exact bk_74 x1 x2 x4 v_count f_spot f_units f_holders H locs ls hP hD hS (lv_sub hl [0, 1, 2, 3] rfl) h
    · replace h := h.2 c_5
      refine lv_aload_n hx hb dX2_enter_38 rfl (lv_at hl 0 rfl) ?_
      refine va_get (D := (dC, dI)) (ci := 2) (v := .ref a_spot) (C := RX2) (T := TX2) (N := 4) hx hb hts in_X2 hown hK hP 0 rfl rfl 1 (by decide) fl9 (fun _ h9 => h9) rfl dX2_enter_39 ?_
      refine lv_iload hx hb dX2_enter_42 (lv_at hl 3 rfl) ?_
      obtain ⟨hi_6, h⟩ := h
      refine va_iald hx hb hK hP 1 0 rfl rfl hi_6 dX2_enter_44 ?_
      refine lv_iload_n hx hb dX2_enter_45 rfl (lv_at hl 1 rfl) ?_
      refine lv_icmp_ne (tgt := 74) hx hb dX2_enter_46 (by decide) (fun c_7 => ?_) (fun c_7 => ?_)
      · replace h := h.1 c_7
        exact bk_74 x1 x2 x4 v_count f_spot f_units f_holders H locs ls hP hD hS (lv_sub hl [0, 1, 2, 3] rfl) h
      · replace h := h.2 c_7
        refine lv_aload_n hx hb dX2_enter_49 rfl (lv_at hl 0 rfl) ?_
        refine va_get (D := (dC, dI)) (ci := 2) (v := .ref a_units) (C := RX2) (T := TX2) (N := 4) hx hb hts in_X2 hown hK hP 0 rfl rfl 2 (by decide) fl15 (fun _ h9 => h9) rfl dX2_enter_50 ?_
        refine lv_iload hx hb dX2_enter_53 (lv_at hl 3 rfl) ?_
        refine lv_dup2_11 hx hb dX2_enter_55 rfl rfl ?_
        obtain ⟨hi_8, h⟩ := h
        refine va_lald hx hb hK hP 2 1 rfl rfl hi_8 dX2_enter_56 ?_
        refine lv_lload_n hx hb dX2_enter_57 rfl (lv_at hl 2 rfl) ?_
        refine lv_ladd hx hb dX2_enter_58 ?_
        obtain ⟨hi_9, h⟩ := h
        refine vv_last hx hb hK hP hD hS 2 1 rfl rfl hi_9 dX2_enter_59 (fun f_10 ef_10 H locs hP hD hS => ?_)
        replace h := h f_10 ef_10
        replace hP : va_P (dC, dI) vwCl (wd_X2_enter cI cJ cZ a0 a_spot a_units a_holders v_count f_spot f_10 f_holders) H := hP
        replace hD : va_D A (wd_X2_enter cI cJ cZ a0 a_spot a_units a_holders v_count f_spot f_10 f_holders) := hD
        refine lv_aload_n hx hb dX2_enter_60 rfl (lv_at hl 0 rfl) ?_
        refine va_get (D := (dC, dI)) (ci := 2) (v := .ref a_holders) (C := RX2) (T := TX2) (N := 4) hx hb hts in_X2 hown hK hP 0 rfl rfl 3 (by decide) fl19 (fun _ h9 => h9) rfl dX2_enter_61 ?_
        refine lv_iload hx hb dX2_enter_64 (lv_at hl 3 rfl) ?_
        refine lv_dup2_11 hx hb dX2_enter_66 rfl rfl ?_
        obtain ⟨hi_11, h⟩ := h
        refine va_iald hx hb hK hP 3 0 rfl rfl hi_11 dX2_enter_67 ?_
        refine lv_iconst (v := 1) hx hb dX2_enter_68 (by decide) ?_
        refine lv_iadd hx hb dX2_enter_69 ?_
        obtain ⟨hi_12, h⟩ := h
        refine vv_iast hx hb hK hP hD hS 3 0 rfl rfl hi_12 dX2_enter_70 (fun f_13 ef_13 H locs hP hD hS => ?_)
        replace h := h f_13 ef_13
        replace hP : va_P (dC, dI) vwCl (wd_X2_enter cI cJ cZ a0 a_spot a_units a_holders v_count f_spot f_10 f_13) H := hP
        replace hD : va_D A (wd_X2_enter cI cJ cZ a0 a_spot a_units a_holders v_count f_spot f_10 f_13) := hD
        refine lv_goto (tgt := 82) hx hb dX2_enter_71 (by decide) ?_
        exact RET v_count f_spot f_10 f_13 H locs ls 82 h hP hD hS dX2_enter_82
  have bk_3 : ∀ n : Nat, ∀ (x1 : Int32) (x2 : Int64) (x4 : Int32) (v_count : Int32) (f_spot : (Nat → Int32)) (f_units : (Nat → Int64)) (f_holders : (Nat → Int32)) (H : Heap) (locs : List Loc) (ls : Array Slot), va_P (dC, dI) vwCl (wd_X2_enter cI cJ cZ a0 a_spot a_units a_holders v_count f_spot f_units f_holders) H → va_D A (wd_X2_enter cI cJ cZ a0 a_spot a_units a_holders v_count f_spot f_units f_holders) → va_S A s.heap H locs → lv_has ls 5 [(0, .ref a0), (1, .int x1), (2, .long x2), (4, .int x4)] → wb_X2_enter_3 post  n x1 x2 x4 v_count f_spot f_units f_holders → W p l e rm_X2_enter s m av below meth c H locs 0 0 Q (F0 m 3 ls []) := by
    intro n
    induction n with
    | zero =>
      intro x1 x2 x4 v_count f_spot f_units f_holders H locs ls hP hD hS hl h
      exact False.elim h
    | succ n ih3 =>
      intro x1 x2 x4 v_count f_spot f_units f_holders H locs ls hP hD hS hl h
      refine lv_iload hx hb dX2_enter_3 (lv_at hl 3 rfl) ?_
      refine lv_aload_n hx hb dX2_enter_5 rfl (lv_at hl 0 rfl) ?_
      refine va_get (D := (dC, dI)) (ci := 2) (v := .int v_count) (C := RX2) (T := TX2) (N := 4) hx hb hts in_X2 hown hK hP 0 rfl rfl 0 (by decide) fl22 (fun _ h9 => h9) rfl dX2_enter_6 ?_
      refine lv_icmp_ge (tgt := 29) hx hb dX2_enter_9 (by decide) (fun c_1 => ?_) (fun c_1 => ?_)
      · replace h := h.1 c_1
        exact bk_29 x1 x2 x4 v_count f_spot f_units f_holders H locs ls hP hD hS (lv_sub hl [0, 1, 2, 3] rfl) h
      · replace h := h.2 c_1
        refine lv_aload_n hx hb dX2_enter_12 rfl (lv_at hl 0 rfl) ?_
        refine va_get (D := (dC, dI)) (ci := 2) (v := .ref a_spot) (C := RX2) (T := TX2) (N := 4) hx hb hts in_X2 hown hK hP 0 rfl rfl 1 (by decide) fl9 (fun _ h9 => h9) rfl dX2_enter_13 ?_
        refine lv_iload hx hb dX2_enter_16 (lv_at hl 3 rfl) ?_
        obtain ⟨hi_2, h⟩ := h
        refine va_iald hx hb hK hP 1 0 rfl rfl hi_2 dX2_enter_18 ?_
        refine lv_iload_n hx hb dX2_enter_19 rfl (lv_at hl 1 rfl) ?_
        refine lv_icmp_ge (tgt := 29) hx hb dX2_enter_20 (by decide) (fun c_3 => ?_) (fun c_3 => ?_)
        · replace h := h.1 c_3
          exact bk_29 x1 x2 x4 v_count f_spot f_units f_holders H locs ls hP hD hS (lv_sub hl [0, 1, 2, 3] rfl) h
        · replace h := h.2 c_3
          obtain ⟨x_4, ex_4⟩ : ∃ y : Int32, y = x4 + 1 := ⟨_, rfl⟩
          replace h := h x_4 ex_4
          refine lv_iinc (v := x_4) (lv' := [(4, .int x_4), (0, .ref a0), (1, .int x1), (2, .long x2)]) hx hb dX2_enter_23 hl (k := 3) rfl (by rw [ex_4]; rfl) (by decide) rfl (fun ls hl => ?_)
          refine lv_goto (tgt := 3) hx hb dX2_enter_26 (by decide) ?_
          exact ih3 x1 x2 x_4 v_count f_spot f_units f_holders H locs ls hP hD hS (lv_sub hl [1, 2, 3, 0] rfl) h
  suffices START : ∀ (H : Heap) (locs : List Loc), va_P (dC, dI) vwCl (wd_X2_enter cI cJ cZ a0 a_spot a_units a_holders v_count f_spot f_units f_holders) H → va_D A (wd_X2_enter cI cJ cZ a0 a_spot a_units a_holders v_count f_spot f_units f_holders) → va_S A s.heap H locs → W p l e rm_X2_enter s m av below meth c H locs 0 0 Q (F0 m 0 ls []) from START s.heap [] hP hD hS
  clear hP hD hS
  intro H locs hP hD hS
  refine lv_iconst (v := 0) hx hb dX2_enter_0 (by decide) ?_
  refine lv_istore (lv' := [(4, .int 0), (0, .ref a0), (1, .int p1), (2, .long p2)]) hx hb dX2_enter_1 hl (by decide) rfl (fun ls hl => ?_)
  obtain ⟨n_3, h⟩ := h
  exact bk_3 n_3 p1 p2 0 v_count f_spot f_units f_holders H locs ls hP hD hS (lv_sub hl [1, 2, 3, 0] rfl) h
