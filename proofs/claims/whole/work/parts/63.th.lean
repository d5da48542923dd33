/-! WHAT A THROW ASKS OF THE START: the strings, two statics, words that the tables hold -/
abbrev eI : String := "java/lang/IndexOutOfBoundsException"
abbrev eA : String := "java/lang/IllegalArgumentException"
abbrev eS : String := "java/lang/IllegalStateException"
abbrev eNs : List String := ["java/lang/RuntimeException", "java/lang/Exception"]
abbrev iS (C : String) : MethodName := ⟨C, "<init>", "(Ljava/lang/String;)V"⟩
def th_R (A : Nat → Prop) (U : State) (H : Heap) : Prop :=
  (vx_Zq Bundle.tN "UNASSIGNED_STACK" Bundle.steD A U H ∧ vx_Zq Bundle.tN "SUPPRESSED_SENTINEL" Bundle.listD A U H) ∧
  ((∃ a, vk_R RX4 74 "no such node" a U) ∧ (∃ a, vk_R RX4 83 "no room for one more flow" a U) ∧ (∃ a, vk_R RX4 90 "nothing can flow this way" a U) ∧ (∃ a, vk_R RX4 93 "amount or day out of range" a U) ∧ (∃ a, vk_R RX4 101 "the node is held" a U) ∧ ∃ a, vk_R RX4 108 "not all flows could happen" a U) ∧
  (va_Nw (.declares (iS "java/lang/RuntimeException")) U ∧ va_Nw (.declares (iS "java/lang/Exception")) U ∧ va_Nw (.declares (iS "java/lang/Throwable")) U) ∧
  (va_Nw (.castable eI eI) U ∧ va_Nw (.castable eA eA) U ∧ va_Nw (.castable eS eS) U) ∧ va_Nc eA eI U ∧ va_Nc eS eI U ∧ va_Nc eS eA U
theorem th_R.moved {A : Nat → Prop} {s U : State} {H : Heap} (hW : s.WarmedH U.vm) (h : th_R A s H) : th_R A U H := by
  obtain ⟨⟨a1, a2⟩, ⟨⟨x1, b1⟩, ⟨x2, b2⟩, ⟨x3, b3⟩, ⟨x4, b4⟩, ⟨x5, b5⟩, x6, b6⟩, ⟨c1, c2, c3⟩, ⟨d1, d2, d3⟩, e1, e2, e3⟩ := h
  exact ⟨⟨a1.moved hW.alike, a2.moved hW.alike⟩, ⟨⟨x1, b1.warm hW⟩, ⟨x2, b2.warm hW⟩, ⟨x3, b3.warm hW⟩, ⟨x4, b4.warm hW⟩, ⟨x5, b5.warm hW⟩, x6, b6.warm hW⟩, ⟨va_Nw.warmD hW c1, va_Nw.warmD hW c2, va_Nw.warmD hW c3⟩, ⟨va_Nw.warmC hW d1, va_Nw.warmC hW d2, va_Nw.warmC hW d3⟩, e1.moved hW.alike, e2.moved hW.alike, e3.moved hW.alike⟩
theorem th_R.same {A : Nat → Prop} {s U : State} {H : Heap} (hv : U.vm = s.vm) (h : th_R A s H) : th_R A U H := by
  have hal : s.vm.Alike U.vm := by rw [hv]; exact Vm.Alike.refl s.vm
  obtain ⟨⟨a1, a2⟩, ⟨⟨x1, b1⟩, ⟨x2, b2⟩, ⟨x3, b3⟩, ⟨x4, b4⟩, ⟨x5, b5⟩, x6, b6⟩, ⟨c1, c2, c3⟩, ⟨d1, d2, d3⟩, e1, e2, e3⟩ := h
  exact ⟨⟨a1.moved hal, a2.moved hal⟩, ⟨⟨x1, b1.same hv⟩, ⟨x2, b2.same hv⟩, ⟨x3, b3.same hv⟩, ⟨x4, b4.same hv⟩, ⟨x5, b5.same hv⟩, x6, b6.same hv⟩, ⟨c1.same rfl hv.symm, c2.same rfl hv.symm, c3.same rfl hv.symm⟩, ⟨d1.same rfl hv.symm, d2.same rfl hv.symm, d3.same rfl hv.symm⟩, e1.moved hal, e2.moved hal, e3.moved hal⟩
theorem th_R.kept {A : Nat → Prop} {s : State} {H H1 : Heap} (h : th_R A s H) (hq : ∀ a : Nat, a < H.size → ¬ A a → H1[a]? = H[a]?) : th_R A s H1 := ⟨⟨h.1.1.kept hq, h.1.2.kept hq⟩, h.2⟩
theorem th_R.narrow {A B : Nat → Prop} {s : State} {H : Heap} (h : th_R A s H) (hAB : ∀ q, B q → A q) : th_R B s H := ⟨⟨h.1.1.narrow hAB, h.1.2.narrow hAB⟩, h.2⟩
/-- a contract's start with what a throw asks -/
def th_B (D : va_G) (tys : List (ClassId × FieldType)) (ws : va_W) (sz : Nat) : State → Prop := fun U => vv_B D tys ws sz U ∧ th_R (va_A ws sz) U U.heap
theorem th_blind {D : va_G} {tys : List (ClassId × FieldType)} {ws : va_W} {sz : Nat} {av : List Value} : FrameBlind (va_Pc av (th_B D tys ws sz)) := fun a U g mk q => by
  obtain ⟨q0, q1, q2⟩ := q
  obtain ⟨z0, z1⟩ := vv_blind a U g mk ⟨q0, q1⟩
  exact ⟨z0, z1, q2.same (U := U.calling g mk a) rfl⟩
theorem th_preV {D : va_G} {tys : List (ClassId × FieldType)} {ws : va_W} {s : State} {H : Heap} {A : Nat → Prop} {C : String} {T : u_T} {N b ci : Nat} {fs As : List Value} (hK : va_K D vwCl tys s) (hP : va_P D vwCl ws H) (hD : va_D A ws) (hT : th_R (va_A ws H.size) s H) (hc : vwCl[ci]? = some (C, T, N)) (he : ws[0]? = some (b, .inr (ci, fs))) : PreV s H C b (va_Pc (.ref b :: As) (th_B D tys ws H.size)) As :=
  ⟨th_blind, va_recv hK hP hc he, fun U hU hW => ⟨rfl, ⟨by rw [hU], by rw [hU]; exact hP, va_K.moved hW.alike hK, hD.weaken (fun _ _ _ _ => trivial)⟩, by rw [hU]; exact hT.moved hW⟩⟩
theorem th_preS {D : va_G} {tys : List (ClassId × FieldType)} {ws : va_W} {s : State} {H : Heap} {A : Nat → Prop} {As : List Value} (hK : va_K D vwCl tys s) (hP : va_P D vwCl ws H) (hD : va_D A ws) (hT : th_R (va_A ws H.size) s H) : PreS s H (va_Pc As (th_B D tys ws H.size)) As :=
  ⟨th_blind, fun U hU hW => ⟨rfl, ⟨by rw [hU], by rw [hU]; exact hP, va_K.moved hW.alike hK, hD.weaken (fun _ _ _ _ => trivial)⟩, by rw [hU]; exact hT.moved hW⟩⟩
/-- a contract of a method with a table -/
theorem vv_ofWH {l : Launch} {y : MethodName} {ws ws' : List Cond} {rm : Room} {Pc : Array Value → State → Prop} {Qc : Array Value → State → Outcome → State → Prop} {mc ms : Nat} {free : Addr → Prop} {cc : ByteArray} {maxL : Nat} {ret : Option FieldType} {hh : List (Nat × Nat × Nat × Nat)}
    (hy : plainName y.cls = true) (hw : ws = Cond.codeWith y cc maxL ret hh :: ws')
    (body : ∀ p e s m args below meth c s₁, BodyLoose p l y (headSpec ws rm) cc maxL ret e s m args below meth c s₁ → c.maxLocals = maxL → Pc args s →
      W p l e (headSpec ws rm).room s m args below meth c s.heap [] 0 0 (MQ below Qc args s mc ms free) (entryFrame m args maxL)) : Met l y ws rm Pc Qc mc ms free := by
  refine MetFree.of_bodyS (code := cc) (maxLocals := maxL) (ret := ret) hy (fun args s m h hn => ?_) (fun p e s m args below meth c s₁ B hml hP _ => ?_)
  · obtain ⟨m9, meth, c, hn9, h1, h2, h3, h4, -, h5, h6, -⟩ := Cond.codeWith_spec (atoms_spec (ws := ws) h _ (by rw [hw]; exact List.mem_cons_self))
    cases hn.symm.trans hn9
    exact ⟨meth, c, h1, h2, h3, h4, h5, h6⟩
  · obtain ⟨t, a1, o, b1, b2, b3⟩ := body p e s m args below meth c s₁ B hml hP s₁ (by rw [B.state]; rfl) (Stand.of_body B)
    exact ⟨t, o, a1, b1, b2, ⟨b3.1, b3.2⟩⟩
/-- what a world holds still stands where the heap has grown -/
theorem vv_grow {D : va_G} {ws : va_W} {H H1 : Heap} (hP : va_P D vwCl ws H) (hk : ∀ q : Nat, q < H.size → H1[q]? = H[q]?) : va_P D vwCl ws H1 := hP.kept (fun k q hq => hk q.1 (vx_lt hP hq))
/-- the words of a throw, the good ones out of a list that has them -/
theorem th_hat {A : Nat → Prop} {args : Array Value} {s : State} {H : Heap} {ic : Nat} {X : String} {Ts : List Cond} (hts : ∀ w ∈ Ts, w.before args s = true) (hin : ∀ w ∈ (vx_atS RX4 ic X eNs).filter goodWord, w ∈ Ts)
    (hb : ∀ w ∈ (vx_atS RX4 ic X eNs).filter (fun w => !goodWord w), w ∈ [Cond.declares (iS "java/lang/RuntimeException"), Cond.declares (iS "java/lang/Exception"), Cond.declares (iS "java/lang/Throwable"), Cond.castable X X]) (h : th_R A s H) (hX : va_Nw (.castable X X) s) : ∀ w ∈ vx_atS RX4 ic X eNs, w.before args s = true :=
  vx_hat (fun w hw => hts w (hin w hw)) hb (vx_c (h.2.2.1.1.use rfl) (vx_c (h.2.2.1.2.1.use rfl) (vx_c (h.2.2.1.2.2.use rfl) (vx_c (hX.use rfl) vx_n))))
