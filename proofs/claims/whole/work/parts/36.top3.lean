/-! TOP, both -/
section TOT
variable {n m : Nat} {kd am0 dy0 fr to am dy : Nat → Nat} {fk : Nat → Int32} {fa fd : Nat → Int64} {fk' : Nat → Int32} {fa' fd' : Nat → Int64}
def dm_f (dy : Nat → Nat) (m : Nat) : Nat := if m = 0 then 0 else dy (od_f dy m (m - 1))
theorem dm_ge (dy : Nat → Nat) (m : Nat) : ∀ k, k < m → dy k ≤ dm_f dy m := fun k hk => by
  unfold dm_f; rw [if_neg (by omega)]; exact od_last dy (by omega) k hk
theorem dm_at (dy : Nat → Nat) (m : Nat) : dm_f dy m = 0 ∨ ∃ k, k < m ∧ dy k = dm_f dy m := by
  unfold dm_f
  by_cases c : m = 0
  · rw [if_pos c]; exact Or.inl rfl
  · rw [if_neg c]; exact Or.inr ⟨od_f dy m (m - 1), od_lt dy m _ (by omega), rfl⟩
theorem sp_Rday {post : Int32 → Int32 → Int32 → (Nat → Int32) → (Nat → Int32) → (Nat → Int64) → (Nat → Int64) → (Nat → Int64) → (Nat → Int32) → (Nat → Int64) → (Nat → Int64) → (Nat → Int32) → Prop} {lt a : Int64} {r1 t1 p q : Int32} {fh' gf gt : Nat → Int32} {ga gd fu f1 f2 : Nat → Int64} {fcm f3 : Nat → Int32} (hm : m ≤ 400) (rd : rw_J m gd dy) (hdy : ∀ k, k < m → dy k ≤ 100000)
    (H : ∃ k, wb_X5_top_126 post (nI n) lt r1 fk' fa' fd' fh' k p q (lN (dm_f dy m)) (nI m) a (-1) (-1) 1 (nI m) t1 gf gt ga gd fu fcm f1 f2 f3) : ∃ k, wb_X5_top_64 post (nI n) lt r1 fk' fa' fd' fh' k p q a 0 0 (nI m) t1 gf gt ga gd fu fcm f1 f2 f3 := by
  refine lo_u1 (A1 := Nat) (fun k i e => wb_X5_top_64 post (nI n) lt r1 fk' fa' fd' fh' k p q a (lN e) (nI i) (nI m) t1 gf gt ga gd fu fcm f1 f2 f3) (fun i e => e ≤ 100000 ∧ (∀ k, k < i → dy k ≤ e) ∧ (e = 0 ∨ ∃ k, k < i ∧ dy k = e)) m ?_ ?_ 0 0 (by omega) ⟨by omega, fun k h => by omega, Or.inl rfl⟩
  · intro k e h
    obtain ⟨h0, h1, h2⟩ := h
    have ee : e = dm_f dy m := by
      have g1 := dm_ge dy m
      have g2 := dm_at dy m
      have l1 : e ≤ dm_f dy m := by
        rcases h2 with w | ⟨k, k1, k2⟩
        · omega
        · have := g1 k k1; omega
      have l2 : dm_f dy m ≤ e := by
        rcases g2 with w | ⟨k, k1, k2⟩
        · omega
        · have := h1 k k1; omega
      omega
    rw [ee]
    exact ⟨fun _ => H, fun w => absurd (nI_le (Nat.le_refl m) (by omega)) w⟩
  · intro k i e hi h ih
    obtain ⟨h0, h1, h2⟩ := h
    have d1 := hdy i hi
    refine ⟨fun w => absurd w (nI_ge hi (by omega)), fun _ => ⟨vp_in_nI (by omega) (by omega), ?_⟩⟩
    rw [nI_clamp (show i < 2 ^ 31 by omega), rd i hi, pk_lLT (by omega) (by omega)]
    refine ⟨fun w x hx => ?_, fun w => ⟨vp_in_nI (by omega) (by omega), fun x hx => ?_⟩⟩
    · rw [hx, nI_1]
      refine ih e ⟨h0, fun k hk => ?_, ?_⟩
      · by_cases c : k = i
        · subst c; omega
        · exact h1 k (by omega)
      · rcases h2 with w | ⟨k, k1, k2⟩
        · exact Or.inl w
        · exact Or.inr ⟨k, by omega, k2⟩
    · rw [hx, nI_1]
      refine ih (dy i) ⟨d1, fun k hk => ?_, Or.inr ⟨i, by omega, rfl⟩⟩
      by_cases c : k = i
      · subst c; omega
      · have := h1 k (by omega); omega
/-- top -/
theorem op_top {lt : Int64} {r1 t1 : Int32} {lc : Nat} {la : Nat → Nat} {fl fh fh' : Nat → Int32} {gf gt : Nat → Int32} {ga gd : Nat → Int64} {go gf' gt' : Nat → Int32} {ga' gd' : Nat → Int64} {su sc sw sd sr sp sq tu tc tw tdr tr tp tq fu0 : Nat → Int64} {spc tpc : Int32} {se te : Nat → Int32} {fc0 : Nat → Int32} {fr0 fp0 : Nat → Int64} {fo0 : Nat → Int32} {s : (Nat → Nat → Nat) × (Nat → Nat → Bool)} {lt2 : Int64} (hN : iv_N n kd am0 dy0 fk fa fd fk' fa' fd') (hH : iv_H n fh fh') (hA : iv_A n kd dy0 lc la fl) (hF : iv_F n m kd dy0 fr to am dy gf gt ga gd go gf' gt' ga' gd') (hS : iv_S n m kd am0 fr to am dy s su sc sw sd sr) (p q : Int32) (a : Int64) :
    ∃ (v : Int32) (m' : Nat) (fr' to' am' dy' : Nat → Nat) (P : (Nat → Int32) → (Nat → Int32) → (Nat → Int64) → (Nat → Int64) → (Nat → Int32) → (Nat → Int64) → (Nat → Int64) → (Nat → Int64) → (Nat → Int64) → (Nat → Int64) → Prop) (Q : (Nat → Int32) → (Nat → Int32) → (Nat → Int64) → (Nat → Int64) → Prop), (∀ gf gt ga gd go su sc sw sd sr gf' gt' ga' gd', P gf gt ga gd go su sc sw sd sr → Q gf' gt' ga' gd' → iv_F n m' kd dy0 fr' to' am' dy' gf gt ga gd go gf' gt' ga' gd' ∧ ∃ s', iv_S n m' kd am0 fr' to' am' dy' s' su sc sw sd sr) ∧
      (∀ post : Int32 → Int32 → (Nat → Int32) → (Nat → Int32) → (Nat → Int64) → (Nat → Int64) → (Nat → Int32) → Int32 → (Nat → Int64) → (Nat → Int64) → (Nat → Int64) → (Nat → Int64) → (Nat → Int64) → (Nat → Int32) → (Nat → Int64) → (Nat → Int64) → Int32 → (Nat → Int64) → (Nat → Int64) → (Nat → Int64) → (Nat → Int64) → (Nat → Int64) → (Nat → Int32) → (Nat → Int64) → (Nat → Int64) → Prop, (∀ gf gt ga gd go spc su sc sw sd sr se sp sq tpc tu tc tw tdr tr te tp tq, P gf gt ga gd go su sc sw sd sr → post v (nI m') gf gt ga gd go spc su sc sw sd sr se sp sq tpc tu tc tw tdr tr te tp tq) → wp_X4_top post lt (nI n) (nI lc) fk fa fd fh fl (nI m) gf gt ga gd go spc su sc sw sd sr se sp sq tpc tu tc tw tdr tr te tp tq p q a) ∧
      ∀ post : Int32 → Int32 → Int32 → (Nat → Int32) → (Nat → Int32) → (Nat → Int64) → (Nat → Int64) → (Nat → Int64) → (Nat → Int32) → (Nat → Int64) → (Nat → Int64) → (Nat → Int32) → Prop, (∀ gf gt ga gd x1 x2 x3 x4 x5, Q gf gt ga gd → post v (nI m') 0 gf gt ga gd x1 x2 x3 x4 x5) → wp_X5_top post (nI n) (nI m) lt2 r1 t1 fk' fa' fd' fh' gf' gt' ga' gd' fu0 fc0 fr0 fp0 fo0 p q a := by
  have hn := hN.1
  have hF0 := hF
  obtain ⟨f1, f2, f3, f4, f5, f6, f7, f8, f9, f10, f11⟩ := hF
  obtain ⟨hs, ca, we, w0, hSR⟩ := id hS
  have mk : ∀ gf2 gt2 ga2 gd2 go2 su2 sc2 sw2 sd2 sr2 gf2' gt2' ga2' gd2', (fc_R m fr to am dy gf2 gt2 ga2 gd2 go2 ∧ iv_S n m kd am0 fr to am dy s su2 sc2 sw2 sd2 sr2) → fr_R m fr to am dy gf2' gt2' ga2' gd2' → iv_F n m kd dy0 fr to am dy gf2 gt2 ga2 gd2 go2 gf2' gt2' ga2' gd2' ∧ ∃ s', iv_S n m kd am0 fr to am dy s' su2 sc2 sw2 sd2 sr2 := by
    rintro gf2 gt2 ga2 gd2 go2 su2 sc2 sw2 sd2 sr2 gf2' gt2' ga2' gd2' ⟨⟨c1, c2, c3, c4, c5⟩, h⟩ ⟨d1, d2, d3, d4⟩
    exact ⟨⟨f1, c1, c2, c3, c4, c5, d1, d2, d3, d4, f11⟩, s, h⟩
  have hC : fc_R m fr to am dy gf gt ga gd go := ⟨f2, f3, f4, f5, f6⟩
  have hR : fr_R m fr to am dy gf' gt' ga' gd' := ⟨f7, f8, f9, f10⟩
  rcases ix_2 p hn with h | ⟨t, ht, rfl⟩
  · exact ⟨-1, m, fr, to, am, dy, _, _, mk, fun post H => sp_canTake0 hn h ⟨fun _ => H _ _ _ _ _ _ _ _ _ _ _ _ _ _ _ _ _ _ _ _ _ _ _ ⟨hC, hS⟩, fun w => absurd rfl w⟩, fun post H => sp_isNode0 hn h ⟨fun _ => H _ _ _ _ _ _ _ _ _ hR, fun w => absurd rfl w⟩⟩
  · obtain ⟨l1, l2, l3, l4, l5⟩ := hN.lot ht
    have hin : vp_in (nI t) 48 := vp_in_nI (by omega) (by omega)
    have ct : (nI t).toNatClampNeg = t := nI_clamp (by omega)
    by_cases k5 : kd t = 5 ∨ kd t = 0
    · refine ⟨-1, m, fr, to, am, dy, _, _, mk, fun post H => sp_canTake1 hn ht (fun z => ⟨fun w => absurd w (by decide), fun _ => sp_isDrain1 hn ht (fun z2 => ⟨fun _ => H _ _ _ _ _ _ _ _ _ _ _ _ _ _ _ _ _ _ _ _ _ _ _ ⟨hC, hS⟩, fun w => absurd w (by decide)⟩) (fun z2 => ?_)⟩) (fun z => ⟨fun _ => H _ _ _ _ _ _ _ _ _ _ _ _ _ _ _ _ _ _ _ _ _ _ _ ⟨hC, hS⟩, fun w => absurd rfl w⟩), fun post H => sp_isNode1 hn ht ⟨fun w => absurd w (by decide), fun _ => ⟨hin, ?_⟩⟩⟩
      · rcases k5 with k5 | k5
        · exact absurd (l1.mpr k5) z
        · exact absurd (l3.mpr k5) z2
      · rw [ct]
        exact ⟨fun _ => H _ _ _ _ _ _ _ _ _ hR, fun w => absurd (l5.mpr k5) w⟩
    · have kt5 : kd t ≠ 5 := fun w => k5 (Or.inl w)
      have kt0 : kd t ≠ 0 := fun w => k5 (Or.inr w)
      have n1 : ¬ fk t = 5 := fun w => kt5 (l1.mp w)
      have n2 : ¬ fk t = 0 := fun w => kt0 (l3.mp w)
      have n3 : ¬ fk' t < 1 := fun w => k5 (l5.mp w)
      have cls0 : ∀ (post : Int32 → Int32 → (Nat → Int32) → (Nat → Int32) → (Nat → Int64) → (Nat → Int64) → (Nat → Int32) → Int32 → (Nat → Int64) → (Nat → Int64) → (Nat → Int64) → (Nat → Int64) → (Nat → Int64) → (Nat → Int32) → (Nat → Int64) → (Nat → Int64) → Int32 → (Nat → Int64) → (Nat → Int64) → (Nat → Int64) → (Nat → Int64) → (Nat → Int64) → (Nat → Int32) → (Nat → Int64) → (Nat → Int64) → Prop), wp_X4_isAmount (fun r_5 => ((¬ r_5 = 0 → ((q = (-1) → wb_X4_top_49 post lt (nI n) (nI lc) fk fa fd fh fl (nI t) q a (nI m) gf gt ga gd go spc su sc sw sd sr se sp sq tpc tu tc tw tdr tr te tp tq) ∧ (¬ q = (-1) → (wp_X1_isLot (fun r_8 => ((¬ r_8 = 0 → wb_X4_top_49 post lt (nI n) (nI lc) fk fa fd fh fl (nI t) q a (nI m) gf gt ga gd go spc su sc sw sd sr se sp sq tpc tu tc tw tdr tr te tp tq) ∧ (r_8 = 0 → post (-1) (nI m) gf gt ga gd go spc su sc sw sd sr se sp sq tpc tu tc tw tdr tr te tp tq))) (nI n) (nI lc) fk q)))) ∧ (r_5 = 0 → post (-1) (nI m) gf gt ga gd go spc su sc sw sd sr se sp sq tpc tu tc tw tdr tr te tp tq))) a → wp_X4_top post lt (nI n) (nI lc) fk fa fd fh fl (nI m) gf gt ga gd go spc su sc sw sd sr se sp sq tpc tu tc tw tdr tr te tp tq (nI t) q a := by
        intro post H
        exact sp_canTake1 hn ht (fun z => ⟨fun w => absurd w (by decide), fun _ => sp_isDrain1 hn ht (fun z2 => absurd z2 n2) (fun z2 => ⟨fun w => absurd rfl w, fun _ => H⟩)⟩) (fun z => absurd z n1)
      have ref0 : ∀ (post : Int32 → Int32 → Int32 → (Nat → Int32) → (Nat → Int32) → (Nat → Int64) → (Nat → Int64) → (Nat → Int64) → (Nat → Int32) → (Nat → Int64) → (Nat → Int64) → (Nat → Int32) → Prop), ((q = (-1) → wb_X5_top_36 post (nI n) lt2 r1 fk' fa' fd' fh' (nI t) q a (nI m) 0 gf' gt' ga' gd' fu0 fc0 fr0 fp0 fo0) ∧ (¬ q = (-1) → (wp_X5_isLot (fun r_6 => ((r_6 = 0 → post (-1) (nI m) 0 gf' gt' ga' gd' fu0 fc0 fr0 fp0 fo0) ∧ (¬ r_6 = 0 → wb_X5_top_36 post (nI n) lt2 r1 fk' fa' fd' fh' (nI t) q a (nI m) 0 gf' gt' ga' gd' fu0 fc0 fr0 fp0 fo0))) (nI n) (nI m) lt2 r1 0 fk' q))) → wp_X5_top post (nI n) (nI m) lt2 r1 t1 fk' fa' fd' fh' gf' gt' ga' gd' fu0 fc0 fr0 fp0 fo0 (nI t) q a := by
        intro post H
        refine sp_isNode1 hn ht ⟨fun w => absurd w (by decide), fun _ => ⟨hin, ?_⟩⟩
        rw [ct]
        exact ⟨fun w => absurd w n3, fun _ => H⟩
      rcases amt_2 a with h | ⟨ka, b1, b2, e, b3, b4⟩
      · have am36 : ∀ (post : Int32 → Int32 → Int32 → (Nat → Int32) → (Nat → Int32) → (Nat → Int64) → (Nat → Int64) → (Nat → Int64) → (Nat → Int32) → (Nat → Int64) → (Nat → Int64) → (Nat → Int32) → Prop), post (-1) (nI m) 0 gf' gt' ga' gd' fu0 fc0 fr0 fp0 fo0 → wb_X5_top_36 post (nI n) lt2 r1 fk' fa' fd' fh' (nI t) q a (nI m) 0 gf' gt' ga' gd' fu0 fc0 fr0 fp0 fo0 := by
          intro post H
          rcases h with h | ⟨g1, g2⟩
          · exact ⟨fun _ => H, fun w => absurd h w⟩
          · exact ⟨fun w => absurd w g1, fun _ => ⟨fun w => absurd g2 w, fun _ => H⟩⟩
        refine ⟨-1, m, fr, to, am, dy, _, _, mk, fun post H => cls0 post (sp_amt0 h ⟨fun w => absurd rfl w, fun _ => H _ _ _ _ _ _ _ _ _ _ _ _ _ _ _ _ _ _ _ _ _ _ _ ⟨hC, hS⟩⟩), fun post H => ref0 post ⟨fun _ => am36 post (H _ _ _ _ _ _ _ _ _ hR), fun _ => ?_⟩⟩
        rcases lot_2 hN q with ⟨h1, h2⟩ | ⟨i, hi, e2, hk5, h1, h2⟩
        · exact h2 _ _ _ _ _ ⟨fun _ => H _ _ _ _ _ _ _ _ _ hR, fun w => absurd rfl w⟩
        · exact h2 _ _ _ _ _ ⟨fun w => absurd w (by decide), fun _ => am36 post (H _ _ _ _ _ _ _ _ _ hR)⟩
      · by_cases okq : q = -1 ∨ ∃ i, i < n ∧ q = nI i ∧ kd i = 5
        · have cls : ∀ (post : Int32 → Int32 → (Nat → Int32) → (Nat → Int32) → (Nat → Int64) → (Nat → Int64) → (Nat → Int32) → Int32 → (Nat → Int64) → (Nat → Int64) → (Nat → Int64) → (Nat → Int64) → (Nat → Int64) → (Nat → Int32) → (Nat → Int64) → (Nat → Int64) → Int32 → (Nat → Int64) → (Nat → Int64) → (Nat → Int64) → (Nat → Int64) → (Nat → Int64) → (Nat → Int32) → (Nat → Int64) → (Nat → Int64) → Prop), wb_X4_top_49 post lt (nI n) (nI lc) fk fa fd fh fl (nI t) q a (nI m) gf gt ga gd go spc su sc sw sd sr se sp sq tpc tu tc tw tdr tr te tp tq → wp_X4_top post lt (nI n) (nI lc) fk fa fd fh fl (nI m) gf gt ga gd go spc su sc sw sd sr se sp sq tpc tu tc tw tdr tr te tp tq (nI t) q a := by
            intro post H
            refine cls0 post (sp_amt1 b3 b4 ⟨fun _ => ⟨fun _ => H, fun w => ?_⟩, fun w => absurd w (by decide)⟩)
            rcases okq with v | ⟨i, hi, e2, hk5⟩
            · exact absurd v w
            · rw [e2]
              refine sp_isLot1 hn hi (fun _ => ⟨fun _ => ?_, fun w => absurd w (by decide)⟩) (fun z => absurd ((hN.lot hi).1.mpr hk5) z)
              rw [← e2]; exact H
          have ref : ∀ (post : Int32 → Int32 → Int32 → (Nat → Int32) → (Nat → Int32) → (Nat → Int64) → (Nat → Int64) → (Nat → Int64) → (Nat → Int32) → (Nat → Int64) → (Nat → Int64) → (Nat → Int32) → Prop), wb_X5_top_36 post (nI n) lt2 r1 fk' fa' fd' fh' (nI t) q a (nI m) 0 gf' gt' ga' gd' fu0 fc0 fr0 fp0 fo0 → wp_X5_top post (nI n) (nI m) lt2 r1 t1 fk' fa' fd' fh' gf' gt' ga' gd' fu0 fc0 fr0 fp0 fo0 (nI t) q a := by
            intro post H
            refine ref0 post ⟨fun _ => H, fun w => ?_⟩
            rcases okq with v | ⟨i, hi, e2, hk5⟩
            · exact absurd v w
            · rw [e2]
              refine sp_RisLot1 hn hi (fun _ => ⟨fun w => absurd w (by decide), fun _ => ?_⟩) (fun z => absurd ((hN.lot hi).2.1.mpr hk5) z)
              rw [← e2]; exact H
          have hD := dm_ge dy m
          have hD2 : dm_f dy m ≤ 100000 := by
            rcases dm_at dy m with w | ⟨k, k1, k2⟩
            · omega
            · have := (f11 k k1).2.2.2.2.1; omega
          have hb := in_all hN f1 f11 hs
          have hc : ∀ l, l < n → sc l - sw l = lN (su_m (s.1 l) n) := fun l hl => by
            obtain ⟨rU, rC, rW, rD, rB, rS⟩ := hSR
            have z := rS l (by omega)
            rw [rC _ (by omega), rW _ (by omega), lN_sub (by omega)]
            congr 1; omega
          have hA2 := hA
          obtain ⟨a1, a2, a3, a4, a5⟩ := hA2
          subst e
          have kl := tp_kle (gv_f n s dy0 fh q (dm_f dy m)) la ka lc
          by_cases bad : 0 < tp_m (gv_f n s dy0 fh q (dm_f dy m)) la ka lc ∨ 400 < m + tp_k (gv_f n s dy0 fh q (dm_f dy m)) la ka lc
          · refine ⟨-1, m, fr, to, am, dy, _, _, mk, fun post H => cls post (sp_greatest f1 f5 f6 (sp_countTop hN hA hD2 b2 hb hc ?_)), fun post H => ref post ⟨fun w => absurd w b3, fun _ => ⟨fun _ => sp_Rok hN hF0 hs (fun u1 u2 u3 u4 u5 gU gC => sp_Rday f1 f10 (fun k hk => (f11 k hk).2.2.2.2.1) (sp_Rtop hN hH hA f1 f11 hs gU hD hD2 b2 ht kt5 hR (fun _ _ _ _ _ _ _ _ _ _ hR2 => H _ _ _ _ _ _ _ _ _ hR2) (fun w1 w2 => ?_))), fun w => absurd w b4⟩⟩⟩
            · by_cases c : 0 < tp_m (gv_f n s dy0 fh q (dm_f dy m)) la ka lc
              · have c' : 0 < tp_m (gv_f n s dy0 fh q (if m = 0 then 0 else dy (od_f dy m (m - 1)))) la ka lc := c
                rw [if_pos c']
                exact ⟨fun _ => H _ _ _ _ _ _ _ _ _ _ _ _ _ _ _ _ _ _ _ _ _ _ _ ⟨hC, hS⟩, fun w => absurd rfl w⟩
              · have c' : ¬ 0 < tp_m (gv_f n s dy0 fh q (if m = 0 then 0 else dy (od_f dy m (m - 1)))) la ka lc := c
                rw [if_neg c']
                refine ⟨fun w => absurd w (nq_neg1 _ ?_), fun _ => ⟨fun w => ?_, fun _ => H _ _ _ _ _ _ _ _ _ _ _ _ _ _ _ _ _ _ _ _ _ _ _ ⟨hC, hS⟩⟩⟩
                · have : tp_k (gv_f n s dy0 fh q (if m = 0 then 0 else dy (od_f dy m (m - 1)))) la ka lc ≤ lc := kl
                  omega
                · have k2 : tp_k (gv_f n s dy0 fh q (if m = 0 then 0 else dy (od_f dy m (m - 1)))) la ka lc ≤ lc := kl
                  rw [nI_add, nq_400, nI_leI (by omega) (by omega)] at w
                  have w : m + tp_k (gv_f n s dy0 fh q (dm_f dy m)) la ka lc ≤ 400 := w
                  omega
            · omega
          · have z1 : tp_m (gv_f n s dy0 fh q (dm_f dy m)) la ka lc = 0 := by omega
            have z2 : m + tp_k (gv_f n s dy0 fh q (dm_f dy m)) la ka lc ≤ 400 := by omega
            refine ⟨nI (tp_k (gv_f n s dy0 fh q (dm_f dy m)) la ka lc), m + tp_k (gv_f n s dy0 fh q (dm_f dy m)) la ka lc, tp_u (gv_f n s dy0 fh q (dm_f dy m)) la ka m la fr lc, tp_u (gv_f n s dy0 fh q (dm_f dy m)) la ka m (fun _ => t) to lc, tp_u (gv_f n s dy0 fh q (dm_f dy m)) la ka m (tp_g (gv_f n s dy0 fh q (dm_f dy m)) la ka) am lc, tp_u (gv_f n s dy0 fh q (dm_f dy m)) la ka m (fun _ => dm_f dy m) dy lc, fun gf gt ga gd go su sc sw sd sr => fc_R (m + tp_k (gv_f n s dy0 fh q (dm_f dy m)) la ka lc) (tp_u (gv_f n s dy0 fh q (dm_f dy m)) la ka m la fr lc) (tp_u (gv_f n s dy0 fh q (dm_f dy m)) la ka m (fun _ => t) to lc) (tp_u (gv_f n s dy0 fh q (dm_f dy m)) la ka m (tp_g (gv_f n s dy0 fh q (dm_f dy m)) la ka) am lc) (tp_u (gv_f n s dy0 fh q (dm_f dy m)) la ka m (fun _ => dm_f dy m) dy lc) gf gt ga gd go ∧ ∃ s', iv_S n (m + tp_k (gv_f n s dy0 fh q (dm_f dy m)) la ka lc) kd am0 (tp_u (gv_f n s dy0 fh q (dm_f dy m)) la ka m la fr lc) (tp_u (gv_f n s dy0 fh q (dm_f dy m)) la ka m (fun _ => t) to lc) (tp_u (gv_f n s dy0 fh q (dm_f dy m)) la ka m (tp_g (gv_f n s dy0 fh q (dm_f dy m)) la ka) am lc) (tp_u (gv_f n s dy0 fh q (dm_f dy m)) la ka m (fun _ => dm_f dy m) dy lc) s' su sc sw sd sr, fr_R (m + tp_k (gv_f n s dy0 fh q (dm_f dy m)) la ka lc) (tp_u (gv_f n s dy0 fh q (dm_f dy m)) la ka m la fr lc) (tp_u (gv_f n s dy0 fh q (dm_f dy m)) la ka m (fun _ => t) to lc) (tp_u (gv_f n s dy0 fh q (dm_f dy m)) la ka m (tp_g (gv_f n s dy0 fh q (dm_f dy m)) la ka) am lc) (tp_u (gv_f n s dy0 fh q (dm_f dy m)) la ka m (fun _ => dm_f dy m) dy lc), ?_, fun post H => cls post (sp_greatest f1 f5 f6 (sp_countTop hN hA hD2 b2 hb hc ?_)), fun post H => ref post ⟨fun w => absurd w b3, fun _ => ⟨fun _ => sp_Rok hN hF0 hs (fun u1 u2 u3 u4 u5 gU gC => sp_Rday f1 f10 (fun k hk => (f11 k hk).2.2.2.2.1) (sp_Rtop hN hH hA f1 f11 hs gU hD hD2 b2 ht kt5 hR (fun w => absurd w bad) (fun w1 w2 _ _ _ _ _ _ _ _ _ hR2 => H _ _ _ _ _ _ _ _ _ hR2))), fun w => absurd w b4⟩⟩⟩
            · rintro gf2 gt2 ga2 gd2 go2 su2 sc2 sw2 sd2 sr2 gf2' gt2' ga2' gd2' ⟨⟨c1, c2, c3, c4, c5⟩, h⟩ ⟨d1, d2, d3, d4⟩
              have gb : ∀ l, gv_f n s dy0 fh q (dm_f dy m) l ≤ su_m (s.1 l) n ∧ (0 < gv_f n s dy0 fh q (dm_f dy m) l → dy0 l ≤ dm_f dy m) := fun l => by
                unfold gv_f
                split
                · rename_i w; exact ⟨Nat.le_refl _, fun _ => w.2.2⟩
                · exact ⟨by omega, fun w => by omega⟩
              obtain ⟨sp', r1', r2', -⟩ := tp_run (gv := gv_f n s dy0 fh q (dm_f dy m)) (la := la) (a := ka) (lc := lc) f11 hs hD hD2 b2 ht kt5 (fun j hj => ⟨(a3 j hj).1, (a3 j hj).2, fun w => ⟨(gb _).2 w, (gb _).1⟩⟩) (fun i j h1 h2 e => by have := a4 i j h1 h2; rw [e] at this; omega) lc (Nat.le_refl lc)
              exact ⟨⟨z2, c1, c2, c3, c4, c5, d1, d2, d3, d4, r2'⟩, h⟩
            · have c' : ¬ 0 < tp_m (gv_f n s dy0 fh q (if m = 0 then 0 else dy (od_f dy m (m - 1)))) la ka lc := by
                have : tp_m (gv_f n s dy0 fh q (if m = 0 then 0 else dy (od_f dy m (m - 1)))) la ka lc = 0 := z1
                omega
              rw [if_neg c']
              have k2 : tp_k (gv_f n s dy0 fh q (if m = 0 then 0 else dy (od_f dy m (m - 1)))) la ka lc ≤ lc := kl
              refine ⟨fun w => absurd w (nq_neg1 _ (by omega)), fun _ => ⟨fun _ => ?_, fun w => absurd ?_ w⟩⟩
              · exact sp_tellTop hN hA z2 hC f11 hS hD hD2 b2 ht kt5 (fun s' _ _ _ _ _ _ _ _ _ _ _ _ _ _ _ _ _ _ _ _ _ _ _ hC2 hS2 => H _ _ _ _ _ _ _ _ _ _ _ _ _ _ _ _ _ _ _ _ _ _ _ ⟨hC2, s', hS2⟩)
              · rw [nI_add, nq_400, nI_leI (by omega) (by omega)]; exact z2
        · refine ⟨-1, m, fr, to, am, dy, _, _, mk, fun post H => cls0 post (sp_amt1 b3 b4 ⟨fun _ => ⟨fun w => absurd (Or.inl w) okq, fun _ => ?_⟩, fun w => absurd w (by decide)⟩), fun post H => ref0 post ⟨fun w => absurd (Or.inl w) okq, fun _ => ?_⟩⟩
          · rcases lot_2 hN q with ⟨h1, h2⟩ | ⟨i, hi, e2, hk5, h1, h2⟩
            · exact h1 _ _ ⟨fun w => absurd rfl w, fun _ => H _ _ _ _ _ _ _ _ _ _ _ _ _ _ _ _ _ _ _ _ _ _ _ ⟨hC, hS⟩⟩
            · exact absurd (Or.inr ⟨i, hi, e2, hk5⟩) okq
          · rcases lot_2 hN q with ⟨h1, h2⟩ | ⟨i, hi, e2, hk5, h1, h2⟩
            · exact h2 _ _ _ _ _ ⟨fun _ => H _ _ _ _ _ _ _ _ _ hR, fun w => absurd rfl w⟩
            · exact absurd (Or.inr ⟨i, hi, e2, hk5⟩) okq
end TOT
