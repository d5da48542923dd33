/-! CALLS THAT ASK: recalled, back, forward, share -/
/-- place k among those that have g, from t on, r places -/
def ft_f (g : Nat → Bool) : Nat → Nat → Nat → Option Nat
  | 0, _, _ => none
  | r + 1, t, k => if g t = true then (if k = 0 then some t else ft_f g r (t + 1) (k - 1)) else ft_f g r (t + 1) k
def ft_v (o : Option Nat) : Int32 := match o with
  | some t => nI t
  | none => -1
theorem ft_end (g : Nat → Bool) {n t k : Nat} (h : n ≤ t) : ft_f g (n - t) t k = none := by rw [show n - t = 0 by omega]; rfl
theorem ft_at (g : Nat → Bool) {n t k : Nat} (h : t < n) : ft_f g (n - t) t k = if g t = true then (if k = 0 then some t else ft_f g (n - (t + 1)) (t + 1) (k - 1)) else ft_f g (n - (t + 1)) (t + 1) k := by
  rw [show n - t = (n - (t + 1)) + 1 by omega, ft_f]
theorem ge_0 {p : Int32} : 0 ≤ p ↔ ¬ p < 0 := vv_i32_ge
theorem neg_or (p : Int32) : p < 0 ∨ ∃ k : Nat, k < 2 ^ 31 ∧ p = nI k := by
  by_cases h : p < 0
  · exact Or.inl h
  · exact Or.inr (nI_of h)
section OPS
variable {n m : Nat} {kd am0 dy0 fr to am dy : Nat → Nat} {fk : Nat → Int32} {fa fd : Nat → Int64} {fk' : Nat → Int32} {fa' fd' : Nat → Int64}
theorem op_recalled {lt l1 : Int64} {c0 c1 t1 : Int32} {rc : Nat} {ls : Nat → Int32} {lu : Nat → Int64} {lh rp rcu : Nat → Int32} {ru : Nat → Int64} {rt : Nat → Int32} (hL : iv_L rc ls lu lh rp rcu ru rt) (p w : Int32) :
    ∃ v : Int32, (∀ post : Int32 → Prop, post v → wp_X4_recalled post lt (nI rc) ls lu lh p w) ∧ ∀ post : Int32 → Int32 → Prop, post v 0 → wp_X5_recalled post c0 c1 l1 (nI rc) t1 rp rcu ru rt p w := by
  have hr := hL.1
  rcases pk_ix p (show rc < 2 ^ 31 by omega) with h | h | ⟨k, hk, rfl⟩
  · exact ⟨-1, fun post H => ⟨fun _ => H, fun q => absurd h q⟩, fun post H => ⟨fun _ => H, fun q => absurd h q⟩⟩
  · have h2 : ¬ p < nI rc := fun q => absurd (Int32.lt_iff_toInt_lt.mp q) (by have := Int32.le_iff_toInt_le.mp h; omega)
    exact ⟨-1, fun post H => ⟨fun _ => H, fun _ => ⟨fun q => absurd q h2, fun _ => H⟩⟩, fun post H => ⟨fun _ => H, fun _ => ⟨fun q => absurd q h2, fun _ => H⟩⟩⟩
  · obtain ⟨pl, c, hp, hc, e1, e2, e3, e4, e5⟩ := hL.2 k hk
    have hin : vp_in (nI k) 48 := vp_in_nI (by omega) (by omega)
    have n1 : ¬ nI k < 0 := nI_pos (by omega)
    have n2 : nI k < nI rc := nI_lt hk (by omega)
    have ec : (nI k).toNatClampNeg = k := nI_clamp (by omega)
    have d1 : nI (c * 1000 + pl) - nI (c * 1000 + pl) / 1000 * 1000 = nI pl := by
      rw [nq_1000, pk_rem (by omega) (by omega) (by omega)]
      congr 1; omega
    have d2 : nI (c * 1000 + pl) / 1000 = nI c := by
      rw [nq_1000, pk_div (by omega) (by omega) (by omega)]
      congr 1; omega
    by_cases w0 : w = 0
    · subst w0
      refine ⟨nI pl, fun post H => ⟨fun q => absurd q n1, fun _ => ⟨fun _ => ⟨fun _ => ⟨hin, by rw [ec, e1, d1]; exact H⟩, fun q => absurd q (by decide), fun q => absurd q (by decide), fun q => absurd q (by decide), fun q => absurd rfl q⟩, fun q => absurd n2 q⟩⟩, fun post H => ⟨fun q => absurd q n1, fun _ => ⟨fun _ => ⟨fun _ => ⟨hin, by rw [ec, e2]; exact H⟩, fun q => absurd q (by decide), fun q => absurd q (by decide), fun q => absurd q (by decide), fun q => absurd rfl q⟩, fun q => absurd n2 q⟩⟩⟩
    · by_cases w1 : w = 1
      · subst w1
        refine ⟨nI c, fun post H => ⟨fun q => absurd q n1, fun _ => ⟨fun _ => ⟨fun q => absurd q (by decide), fun _ => ⟨hin, by rw [ec, e1, d2]; exact H⟩, fun q => absurd q (by decide), fun q => absurd q (by decide), fun _ q => absurd rfl q⟩, fun q => absurd n2 q⟩⟩, fun post H => ⟨fun q => absurd q n1, fun _ => ⟨fun _ => ⟨fun q => absurd q (by decide), fun _ => ⟨hin, by rw [ec, e3]; exact H⟩, fun q => absurd q (by decide), fun q => absurd q (by decide), fun _ q => absurd rfl q⟩, fun q => absurd n2 q⟩⟩⟩
      · by_cases w2 : w = 2
        · subst w2
          refine ⟨(if 2147483647 < lu k then 2147483647 else lu k).toInt32, fun post H => ⟨fun q => absurd q n1, fun _ => ⟨fun _ => ⟨fun q => absurd q (by decide), fun q => absurd q (by decide), fun _ => ⟨hin, by rw [ec]; exact H⟩, fun q => absurd q (by decide), fun _ _ q => absurd rfl q⟩, fun q => absurd n2 q⟩⟩, fun post H => ⟨fun q => absurd q n1, fun _ => ⟨fun _ => ⟨fun q => absurd q (by decide), fun q => absurd q (by decide), fun _ => ⟨hin, ?_⟩, fun q => absurd q (by decide), fun _ _ q => absurd rfl q⟩, fun q => absurd n2 q⟩⟩⟩
          rw [ec, ← e4]
          refine ⟨fun q => ⟨hin, ?_⟩, fun q => ?_⟩
          · rw [if_neg q] at H; exact H
          · rw [if_pos q] at H; exact H
        · by_cases w3 : w = 3
          · subst w3
            refine ⟨lh k, fun post H => ⟨fun q => absurd q n1, fun _ => ⟨fun _ => ⟨fun q => absurd q (by decide), fun q => absurd q (by decide), fun q => absurd q (by decide), fun _ => ⟨hin, by rw [ec]; exact H⟩, fun _ _ _ q => absurd rfl q⟩, fun q => absurd n2 q⟩⟩, fun post H => ⟨fun q => absurd q n1, fun _ => ⟨fun _ => ⟨fun q => absurd q (by decide), fun q => absurd q (by decide), fun q => absurd q (by decide), fun _ => ⟨hin, by rw [ec, ← e5]; exact H⟩, fun _ _ _ q => absurd rfl q⟩, fun q => absurd n2 q⟩⟩⟩
          · refine ⟨-1, fun post H => ⟨fun q => absurd q n1, fun _ => ⟨fun _ => ⟨fun q => absurd q w0, fun q => absurd q w1, fun q => absurd q w2, fun q => absurd q w3, fun _ _ _ _ => H⟩, fun q => absurd n2 q⟩⟩, fun post H => ⟨fun q => absurd q n1, fun _ => ⟨fun _ => ⟨fun q => absurd q w0, fun q => absurd q w1, fun q => absurd q w2, fun q => absurd q w3, fun _ _ _ _ => H⟩, fun q => absurd n2 q⟩⟩⟩
/-- back -/
theorem op_back {spc : Int32} {lt l1 : Int64} {lcn r1 t1 : Int32} {gf gt : Nat → Int32} {ga gd : Nat → Int64} {go gf' gt' : Nat → Int32} {ga' gd' : Nat → Int64} {su sc sw sd sr fu0 : Nat → Int64} {fc0 : Nat → Int32} {fr0 fp0 : Nat → Int64} {fo0 : Nat → Int32} {s : (Nat → Nat → Nat) × (Nat → Nat → Bool)} (hN : iv_N n kd am0 dy0 fk fa fd fk' fa' fd') (hF : iv_F n m kd dy0 fr to am dy gf gt ga gd go gf' gt' ga' gd') (hS : iv_S n m kd am0 fr to am dy s su sc sw sd sr) (p k : Int32) :
    ∃ v : Int32, (∀ post : Int32 → Prop, post v → wp_X4_back post lt (nI n) lcn spc sr p k) ∧ ∀ post : Int32 → Int32 → (Nat → Int64) → (Nat → Int32) → (Nat → Int64) → (Nat → Int64) → (Nat → Int32) → Prop, (∀ a b c d e, post v 0 a b c d e) → wp_X5_back post (nI n) (nI m) l1 r1 t1 fk' fa' fd' gf' gt' ga' gd' fu0 fc0 fr0 fp0 fo0 p k := by
  have hn := hN.1
  obtain ⟨hs, ca, we, w0, rU, rC, rW, rD, rB, rS⟩ := hS
  rcases ix_2 p hn with h | ⟨i, hi, rfl⟩
  · refine ⟨-1, fun post H => ?_, fun post H => ?_⟩
    · exact sp_has0 hn h ⟨fun _ => H, fun q => absurd rfl q⟩
    · exact sp_isNode0 hn h ⟨fun q => absurd rfl q, fun _ => H _ _ _ _ _⟩
  · rcases neg_or k with hk | ⟨K, hK, rfl⟩
    · refine ⟨-1, fun post H => ?_, fun post H => ?_⟩
      · exact sp_has1 hn hi ⟨fun q => absurd q (by decide), fun _ => ⟨fun q => absurd hk (ge_0.mp q), fun _ => H⟩⟩
      · refine sp_isNode1 hn hi ⟨fun _ => sp_Rok hN hF hs (fun fu fc fr fp fo gU gC => ⟨1, ?_, fun _ => ⟨fun _ => H _ _ _ _ _, fun q => absurd hk q⟩⟩), fun q => absurd q (by decide)⟩
        exact fun _ => H _ _ _ _ _
    · refine ⟨ft_v (ft_f (s.2 i) n 0 K), fun post H => ?_, fun post H => ?_⟩
      · refine sp_has1 hn hi ⟨fun q => absurd q (by decide), fun _ => ⟨fun _ => ?_, fun q => absurd (ge_0.mpr (nI_pos hK)) q⟩⟩
        refine lo_u1 (fun j t b => wb_X4_back_22 post lt (nI n) lcn spc sr j (nI i) (nI K) (nI b) (nI t)) (fun t b => b ≤ K ∧ ft_f (s.2 i) (n - t) t (K - b) = ft_f (s.2 i) n 0 K) n ?_ ?_ 0 0 (by omega) ⟨by omega, by simp⟩
        · intro j b hb
          refine ⟨fun _ => ?_, fun q => absurd (nI_le (Nat.le_refl n) (by omega)) q⟩
          rw [← hb.2, ft_end _ (Nat.le_refl n)] at H
          exact H
        · intro j t b ht hb ih
          obtain ⟨b1, b2⟩ := hb
          rw [ft_at _ ht] at b2
          refine ⟨fun q => absurd q (nI_ge ht (by omega)), fun _ => ?_⟩
          refine sp_reached (by omega) (by omega) rB ?_
          by_cases c : s.2 i t = true
          · rw [if_pos c] at b2
            rw [if_pos c]
            refine ⟨fun q => absurd q (by decide), fun _ => ⟨fun q x hx y hy => ?_, fun q => ?_⟩⟩
            · have hne : b ≠ K := fun e => q (by rw [e])
              rw [if_neg (by omega)] at b2
              rw [hx, hy, nI_1, nI_1]
              exact ih (b + 1) ⟨by omega, by rw [← b2]; congr 1⟩
            · have e : b = K := (nI_eq (by omega) (by omega)).mp q
              rw [if_pos (by omega)] at b2
              rw [← b2] at H
              exact H
          · rw [if_neg c] at b2
            rw [if_neg c]
            refine ⟨fun _ y hy => ?_, fun q => absurd rfl q⟩
            rw [hy, nI_1]
            exact ih b ⟨b1, b2⟩
      · refine sp_isNode1 hn hi ⟨fun _ => sp_Rok hN hF hs (fun fu fc frr fp fo gU gC => ?_), fun q => absurd q (by decide)⟩
        refine lo_u1 (fun j t b => wb_X5_back_26 post (nI n) (nI m) l1 r1 fk' fa' fd' gf' gt' ga' gd' j (nI i) (nI b) (nI t) 0 fu fc frr fp fo) (fun t b => b < 2 ^ 31 ∧ ft_f (s.2 i) (n - t) t b = ft_f (s.2 i) n 0 K) n ?_ ?_ 0 K (by omega) ⟨hK, by simp⟩
        · intro j b hb
          refine ⟨fun _ => ?_, fun q => absurd (nI_le (Nat.le_refl n) (by omega)) q⟩
          have H := H fu fc frr fp fo
          rw [← hb.2, ft_end _ (Nat.le_refl n)] at H
          exact H
        · intro j t b ht hb ih
          obtain ⟨b1, b2⟩ := hb
          rw [ft_at _ ht] at b2
          have l9 := nq_lt48 (show i < 48 by omega) (show t < 48 by omega)
          refine ⟨fun q => absurd q (nI_ge ht (by omega)), fun _ => ⟨fun q => absurd q (nI_pos b1), fun _ => ?_⟩⟩
          rw [nq_ir, nq_cc, nI_clamp (show i * 48 + t < 2 ^ 31 by omega), gC i t hi ht]
          refine ⟨vp_in_nI l9 (by omega), ?_⟩
          by_cases c : s.2 i t = true
          · rw [if_pos c] at b2
            rw [if_pos c]
            refine ⟨fun q => absurd q (by decide), fun _ => ⟨fun q x hx y hy => ?_, fun q => ?_⟩⟩
            · have hne : b ≠ 0 := fun e => q (by rw [e, nI_0])
              rw [if_neg hne] at b2
              rw [hx, hy, nI_1, nq_mm (by omega)]
              exact ih (b - 1) ⟨by omega, b2⟩
            · have e : b = 0 := (nI_eq b1 (by omega)).mp (by rw [q, nI_0])
              rw [if_pos e] at b2
              have H := H fu fc frr fp fo
              rw [← b2] at H
              exact H
          · rw [if_neg c] at b2
            rw [if_neg c]
            refine ⟨fun _ y hy => ?_, fun q => absurd rfl q⟩
            rw [hy, nI_1]
            exact ih b ⟨b1, b2⟩
theorem sp_isLot0 {post : Int32 → Prop} {n : Nat} {lc p : Int32} {fk : Nat → Int32} (hn : n ≤ 48) (h : p < 0 ∨ nI n ≤ p) (H : post 0) : wp_X1_isLot post (nI n) lc fk p := by
  unfold wp_X1_isLot
  exact sp_has0 hn h ⟨fun _ => H, fun q => absurd rfl q⟩
theorem sp_RisLot0 {post : Int32 → Prop} {n : Nat} {c1 r1 t1 p : Int32} {l1 : Int64} {fk : Nat → Int32} (hn : n ≤ 48) (h : p < 0 ∨ nI n ≤ p) (H : post 0) : wp_X5_isLot post (nI n) c1 l1 r1 t1 fk p := by
  unfold wp_X5_isLot
  exact sp_isNode0 hn h ⟨fun _ => H, fun q => absurd rfl q⟩
theorem sp_RisLot1 {post : Int32 → Prop} {n i : Nat} {c1 r1 t1 : Int32} {l1 : Int64} {fk : Nat → Int32} (hn : n ≤ 48) (hi : i < n) (H1 : fk i = -1 → post 1) (H0 : ¬ fk i = -1 → post 0) : wp_X5_isLot post (nI n) c1 l1 r1 t1 fk (nI i) := by
  unfold wp_X5_isLot
  refine sp_isNode1 hn hi ⟨fun q => absurd q (by decide), fun _ => ⟨vp_in_nI (by omega) (by omega), ?_⟩⟩
  rw [nI_clamp (show i < 2 ^ 31 by omega)]
  exact ⟨H0, H1⟩
/-- a lot, or none, on both sides -/
theorem lot_2 (hN : iv_N n kd am0 dy0 fk fa fd fk' fa' fd') (p : Int32) : (∀ (post : Int32 → Prop) (lc : Int32), post 0 → wp_X1_isLot post (nI n) lc fk p) ∧ (∀ (post : Int32 → Prop) (c1 : Int32) (l1 : Int64) (r1 t1 : Int32), post 0 → wp_X5_isLot post (nI n) c1 l1 r1 t1 fk' p) ∨ ∃ i, i < n ∧ p = nI i ∧ kd i = 5 ∧ (∀ (post : Int32 → Prop) (lc : Int32), post 1 → wp_X1_isLot post (nI n) lc fk p) ∧ ∀ (post : Int32 → Prop) (c1 : Int32) (l1 : Int64) (r1 t1 : Int32), post 1 → wp_X5_isLot post (nI n) c1 l1 r1 t1 fk' p := by
  have hn := hN.1
  rcases ix_2 p hn with h | ⟨i, hi, rfl⟩
  · exact Or.inl ⟨fun post lc H => sp_isLot0 hn h H, fun post c1 l1 r1 t1 H => sp_RisLot0 hn h H⟩
  · obtain ⟨l1', l2', -⟩ := hN.lot hi
    by_cases c : kd i = 5
    · exact Or.inr ⟨i, hi, rfl, c, fun post lc H => sp_isLot1 hn hi (fun _ => H) (fun q => absurd (l1'.mpr c) q), fun post c1 l1 r1 t1 H => sp_RisLot1 hn hi (fun _ => H) (fun q => absurd (l2'.mpr c) q)⟩
    · exact Or.inl ⟨fun post lc H => sp_isLot1 hn hi (fun q => absurd (l1'.mp q) c) (fun _ => H), fun post c1 l1 r1 t1 H => sp_RisLot1 hn hi (fun q => absurd (l2'.mp q) c) (fun _ => H)⟩
theorem sp_canTake1 {post : Int32 → Prop} {n i : Nat} {lc : Int32} {fk : Nat → Int32} (hn : n ≤ 48) (hi : i < n) (H1 : ¬ fk i = 5 → post 1) (H0 : fk i = 5 → post 0) : wp_X1_canTake post (nI n) lc fk (nI i) := by
  unfold wp_X1_canTake
  refine sp_has1 hn hi ⟨fun q => absurd q (by decide), fun _ => ⟨vp_in_nI (by omega) (by omega), ?_⟩⟩
  rw [nI_clamp (show i < 2 ^ 31 by omega)]
  exact ⟨H0, H1⟩
theorem sp_canTake0 {post : Int32 → Prop} {n : Nat} {lc p : Int32} {fk : Nat → Int32} (hn : n ≤ 48) (h : p < 0 ∨ nI n ≤ p) (H : post 0) : wp_X1_canTake post (nI n) lc fk p := by
  unfold wp_X1_canTake
  exact sp_has0 hn h ⟨fun _ => H, fun q => absurd rfl q⟩
/-- forward -/
theorem op_forward {spc : Int32} {lt l1 : Int64} {lcn r1 t1 : Int32} {gf gt : Nat → Int32} {ga gd : Nat → Int64} {go gf' gt' : Nat → Int32} {ga' gd' : Nat → Int64} {su sc sw sd sr fu0 : Nat → Int64} {fc0 : Nat → Int32} {fr0 fp0 : Nat → Int64} {fo0 : Nat → Int32} {s : (Nat → Nat → Nat) × (Nat → Nat → Bool)} (hN : iv_N n kd am0 dy0 fk fa fd fk' fa' fd') (hF : iv_F n m kd dy0 fr to am dy gf gt ga gd go gf' gt' ga' gd') (hS : iv_S n m kd am0 fr to am dy s su sc sw sd sr) (p k : Int32) :
    ∃ v : Int32, (∀ post : Int32 → Prop, post v → wp_X4_forward post lt (nI n) lcn fk spc sr p k) ∧ ∀ post : Int32 → Int32 → (Nat → Int64) → (Nat → Int32) → (Nat → Int64) → (Nat → Int64) → (Nat → Int32) → Prop, (∀ a b c d e, post v 0 a b c d e) → wp_X5_forward post (nI n) (nI m) l1 r1 t1 fk' fa' fd' gf' gt' ga' gd' fu0 fc0 fr0 fp0 fo0 p k := by
  have hn := hN.1
  obtain ⟨hs, ca, we, w0, rU, rC, rW, rD, rB, rS⟩ := hS
  rcases lot_2 hN p with ⟨hX, hM⟩ | ⟨i, hi, rfl, h5, hX, hM⟩
  · exact ⟨-1, fun post H => hX _ _ ⟨fun _ => H, fun q => absurd rfl q⟩, fun post H => hM _ _ _ _ _ ⟨fun q => absurd rfl q, fun _ => H _ _ _ _ _⟩⟩
  · rcases neg_or k with hk | ⟨K, hK, rfl⟩
    · refine ⟨-1, fun post H => hX _ _ ⟨fun q => absurd q (by decide), fun _ => ⟨fun q => absurd hk (ge_0.mp q), fun _ => H⟩⟩, fun post H => hM _ _ _ _ _ ⟨fun _ => sp_Rok hN hF hs (fun fu fc fr fp fo gU gC => ⟨1, ?_, fun _ => ⟨fun _ => H _ _ _ _ _, fun q => absurd hk q⟩⟩), fun q => absurd q (by decide)⟩⟩
      exact fun _ => H _ _ _ _ _
    · refine ⟨ft_v (ft_f (fun t => decide (kd t ≠ 5) && s.2 t i) n 0 K), fun post H => hX _ _ ⟨fun q => absurd q (by decide), fun _ => ⟨fun _ => ?_, fun q => absurd (ge_0.mpr (nI_pos hK)) q⟩⟩, fun post H => hM _ _ _ _ _ ⟨fun _ => sp_Rok hN hF hs (fun fu fc frr fp fo gU gC => ?_), fun q => absurd q (by decide)⟩⟩
      · refine lo_u1 (fun j t b => wb_X4_forward_22 post lt (nI n) lcn fk spc sr j (nI i) (nI K) (nI b) (nI t)) (fun t b => b ≤ K ∧ ft_f (fun t => decide (kd t ≠ 5) && s.2 t i) (n - t) t (K - b) = ft_f (fun t => decide (kd t ≠ 5) && s.2 t i) n 0 K) n ?_ ?_ 0 0 (by omega) ⟨by omega, by simp⟩
        · intro j b hb
          refine ⟨fun _ => ?_, fun q => absurd (nI_le (Nat.le_refl n) (by omega)) q⟩
          rw [← hb.2, ft_end _ (Nat.le_refl n)] at H
          exact H
        · intro j t b ht hb ih
          obtain ⟨b1, b2⟩ := hb
          rw [ft_at _ ht] at b2
          obtain ⟨l1', l2', -⟩ := hN.lot ht
          have skip : ¬ (kd t ≠ 5 ∧ s.2 t i = true) → wb_X4_forward_70 post lt (nI n) lcn fk spc sr (wb_X4_forward_22 post lt (nI n) lcn fk spc sr j) (nI i) (nI K) (nI b) (nI t) := by
            intro q y hy
            rw [if_neg (by simpa using q)] at b2
            rw [hy, nI_1]
            exact ih b ⟨b1, b2⟩
          refine ⟨fun q => absurd q (nI_ge ht (by omega)), fun _ => ?_⟩
          refine sp_canTake1 hn ht (fun z => ⟨fun q => absurd q (by decide), fun _ => ?_⟩) (fun z => ⟨fun _ => skip (fun w => w.1 (l1'.mp z)), fun q => absurd rfl q⟩)
          have z5 : kd t ≠ 5 := fun w => z (l1'.mpr w)
          refine sp_reached (by omega) (by omega) rB ?_
          by_cases c : s.2 t i = true
          · rw [if_pos (by simpa using And.intro z5 c)] at b2
            rw [if_pos c]
            refine ⟨fun q => absurd q (by decide), fun _ => ⟨fun q x hx y hy => ?_, fun q => ?_⟩⟩
            · have hne : b ≠ K := fun e => q (by rw [e])
              rw [if_neg (by omega)] at b2
              rw [hx, hy, nI_1, nI_1]
              exact ih (b + 1) ⟨by omega, by rw [← b2]; congr 1⟩
            · have e : b = K := (nI_eq (by omega) (by omega)).mp q
              rw [if_pos (by omega)] at b2
              rw [← b2] at H
              exact H
          · rw [if_neg c]
            exact ⟨fun _ => skip (fun w => c w.2), fun q => absurd rfl q⟩
      · refine lo_u1 (fun j t b => wb_X5_forward_26 post (nI n) (nI m) l1 r1 fk' fa' fd' gf' gt' ga' gd' j (nI i) (nI b) (nI t) 0 fu fc frr fp fo) (fun t b => b < 2 ^ 31 ∧ ft_f (fun t => decide (kd t ≠ 5) && s.2 t i) (n - t) t b = ft_f (fun t => decide (kd t ≠ 5) && s.2 t i) n 0 K) n ?_ ?_ 0 K (by omega) ⟨hK, by simp⟩
        · intro j b hb
          refine ⟨fun _ => ?_, fun q => absurd (nI_le (Nat.le_refl n) (by omega)) q⟩
          have H := H fu fc frr fp fo
          rw [← hb.2, ft_end _ (Nat.le_refl n)] at H
          exact H
        · intro j t b ht hb ih
          obtain ⟨b1, b2⟩ := hb
          rw [ft_at _ ht] at b2
          obtain ⟨l1', l2', -⟩ := hN.lot ht
          have l9 := nq_lt48 (show t < 48 by omega) (show i < 48 by omega)
          have skip : ¬ (kd t ≠ 5 ∧ s.2 t i = true) → wb_X5_forward_77 post (nI n) (nI m) l1 r1 fk' fa' fd' gf' gt' ga' gd' (wb_X5_forward_26 post (nI n) (nI m) l1 r1 fk' fa' fd' gf' gt' ga' gd' j) (nI i) (nI b) (nI t) 0 fu fc frr fp fo := by
            intro q y hy
            rw [if_neg (by simpa using q)] at b2
            rw [hy, nI_1]
            exact ih b ⟨b1, b2⟩
          refine ⟨fun q => absurd q (nI_ge ht (by omega)), fun _ => ⟨fun q => absurd q (nI_pos b1), fun _ => ⟨vp_in_nI (by omega) (by omega), ?_⟩⟩⟩
          rw [nI_clamp (show t < 2 ^ 31 by omega), nq_ir, nq_cc, nI_clamp (show t * 48 + i < 2 ^ 31 by omega), gC t i ht hi]
          refine ⟨fun z => skip (fun w => w.1 (l2'.mp z)), fun z => ⟨vp_in_nI l9 (by omega), ?_⟩⟩
          have z5 : kd t ≠ 5 := fun w => z (l2'.mpr w)
          by_cases c : s.2 t i = true
          · rw [if_pos (by simpa using And.intro z5 c)] at b2
            rw [if_pos c]
            refine ⟨fun q => absurd q (by decide), fun _ => ⟨fun q x hx y hy => ?_, fun q => ?_⟩⟩
            · have hne : b ≠ 0 := fun e => q (by rw [e, nI_0])
              rw [if_neg hne] at b2
              rw [hx, hy, nI_1, nq_mm (by omega)]
              exact ih (b - 1) ⟨by omega, b2⟩
            · have e : b = 0 := (nI_eq b1 (by omega)).mp (by rw [q, nI_0])
              rw [if_pos e] at b2
              have H := H fu fc frr fp fo
              rw [← b2] at H
              exact H
          · rw [if_neg c]
            exact ⟨fun _ => skip (fun w => c w.2), fun q => absurd rfl q⟩
end OPS
/-! the greatest divisor -/
theorem gd_half {a b : Nat} (h : b ≤ a) (h0 : 0 < b) : 2 * (a % b) < a := by
  have h1 := Nat.mod_lt a h0
  have h2 := Nat.div_add_mod a b
  have h3 : 1 ≤ a / b := (Nat.le_div_iff_mul_le h0).mpr (by omega)
  have h4 : b * 1 ≤ b * (a / b) := Nat.mul_le_mul_left _ h3
  omega
theorem sp_gcd {post : Int64 → Prop} {x v : Nat} (hv : 0 < v) (hx2 : x ≤ 1000000000) (hv2 : v ≤ 1000000000) (H : post (lN (Nat.gcd x v))) : wp_X4_greatestDivisor post (lN x) (lN v) := by
  unfold wp_X4_greatestDivisor
  have e200 : (200 : Int32) = nI 200 := by decide +kernel
  refine lo_u2 (fun j t a b => wb_X4_greatestDivisor_9 post j (lN a) (lN b) (nI t)) (fun t a b => (0 < t → 0 < a) ∧ a ≤ 1000000000 ∧ b ≤ 1000000000 ∧ Nat.gcd a b = Nat.gcd x v ∧ (0 < t → b ≤ a ∧ a * b * 2 ^ (t - 1) ≤ 1000000000000000000)) 200 ?_ ?_ 0 x v (by omega) ⟨fun h => by omega, hx2, hv2, rfl, fun h => by omega⟩
  · intro j a b hb
    obtain ⟨b1, b2, b3, b4, b5⟩ := hb
    have hz : b = 0 := by
      obtain ⟨-, q⟩ := b5 (by omega)
      rcases Nat.eq_zero_or_pos b with h | h
      · exact h
      · exfalso
        have h1 : 1 ≤ a * b := Nat.mul_pos (b1 (by omega)) h
        have h2 : 1 * 2 ^ (200 - 1) ≤ a * b * 2 ^ (200 - 1) := Nat.mul_le_mul_right _ h1
        have h3 : 1000000000000000000 < 1 * 2 ^ (200 - 1) := by decide +kernel
        omega
    rw [hz, Nat.gcd_zero_right] at b4
    rw [← b4] at H
    exact ⟨fun _ => H, fun q => absurd (by rw [e200]; exact nI_le (Nat.le_refl 200) (by omega)) q⟩
  · intro j t a b ht hb ih
    obtain ⟨b1, b2, b3, b4, b5⟩ := hb
    refine ⟨fun q => absurd q (by rw [e200]; exact nI_ge ht (by omega)), fun _ => ⟨fun q => ?_, fun q => ⟨q, fun y hy z hz => ?_⟩⟩⟩
    · have hz : b = 0 := (pk_lEQ (by omega) (by omega)).mp (by rw [q, nq_0l])
      rw [hz, Nat.gcd_zero_right] at b4
      rw [← b4] at H
      exact H
    · have h0 : 0 < b := by
        rcases Nat.eq_zero_or_pos b with h | h
        · exact absurd (by rw [h, nq_0l]) q
        · exact h
      rw [hy, hz, nI_1, pk_lRem (by omega) h0 (by omega)]
      have hm := Nat.mod_lt a h0
      refine ih b (a % b) ⟨fun _ => h0, b3, by omega, ?_, fun _ => ⟨by omega, ?_⟩⟩
      · rw [← b4, Nat.gcd_comm a b, Nat.gcd_rec b a]
        exact Nat.gcd_comm _ _
      · rw [Nat.add_sub_cancel]
        by_cases t0 : t = 0
        · subst t0
          have : b * (a % b) ≤ 1000000000 * 1000000000 := Nat.mul_le_mul b3 (by omega)
          simp only [Nat.pow_zero, Nat.mul_one]
          omega
        · obtain ⟨c1, c2⟩ := b5 (by omega)
          have h9 := gd_half c1 h0
          have e1 : 2 ^ t = 2 * 2 ^ (t - 1) := by
            conv => lhs; rw [show t = (t - 1) + 1 by omega, Nat.pow_succ]
            exact Nat.mul_comm _ _
          rw [e1]
          have e2 : b * (a % b) * (2 * 2 ^ (t - 1)) = (2 * (a % b) * b) * 2 ^ (t - 1) := by
            rw [← Nat.mul_assoc, Nat.mul_comm b (a % b), Nat.mul_comm (a % b * b) 2, Nat.mul_assoc 2 (a % b) b]
          rw [e2]
          refine Nat.le_trans (Nat.mul_le_mul_right _ (Nat.mul_le_mul_right b (Nat.le_of_lt h9))) c2
section OPS2
variable {n m : Nat} {kd am0 dy0 fr to am dy : Nat → Nat} {fk : Nat → Int32} {fa fd : Nat → Int64} {fk' : Nat → Int32} {fa' fd' : Nat → Int64}
theorem in_all {n m : Nat} {kd am0 dy0 fr to am dy : Nat → Nat} {fk : Nat → Int32} {fa fd : Nat → Int64} {fk' : Nat → Int32} {fa' fd' : Nat → Int64} {s : (Nat → Nat → Nat) × (Nat → Nat → Bool)} (hN : iv_N n kd am0 dy0 fk fa fd fk' fa' fd') (hm : m ≤ 400) (hF : fl_all n m kd dy0 fr to am dy) (hs : rn_k n m kd am0 fr to am dy = some s) (i : Nat) : su_m (s.1 i) n ≤ 1000000000 := by
  have b := rn_bound hF.ok (od_lt dy m) (in_bound (fun i hi hl => (hN.2.2 i hi (lo_k5 hl)).2.2.1)) m s (Nat.le_refl m) hs i
  have : 1000000 * (m + 1) ≤ 1000000 * 401 := Nat.mul_le_mul_left _ (by omega)
  omega
/-- share -/
theorem op_share {spc : Int32} {lt l1 : Int64} {lcn r1 t1 : Int32} {gf gt : Nat → Int32} {ga gd : Nat → Int64} {go gf' gt' : Nat → Int32} {ga' gd' : Nat → Int64} {su sc sw sd sr fu0 : Nat → Int64} {fc0 : Nat → Int32} {fr0 fp0 : Nat → Int64} {fo0 : Nat → Int32} {s : (Nat → Nat → Nat) × (Nat → Nat → Bool)} (hN : iv_N n kd am0 dy0 fk fa fd fk' fa' fd') (hF : iv_F n m kd dy0 fr to am dy gf gt ga gd go gf' gt' ga' gd') (hS : iv_S n m kd am0 fr to am dy s su sc sw sd sr) (p q w : Int32) :
    ∃ v : Int64, (∀ post : Int64 → Prop, post v → wp_X4_share post lt (nI n) lcn fk spc su sc sw p q w) ∧ ∀ post : Int64 → Int32 → (Nat → Int64) → (Nat → Int32) → (Nat → Int64) → (Nat → Int64) → (Nat → Int32) → Prop, (∀ a b c d e, post v 0 a b c d e) → wp_X5_share post (nI n) (nI m) l1 r1 t1 fk' fa' fd' gf' gt' ga' gd' fu0 fc0 fr0 fp0 fo0 p q w := by
  have hn := hN.1
  obtain ⟨hs, ca, we, w0, rU, rC, rW, rD, rB, rS⟩ := hS
  have hall := in_all hN hF.1 hF.2.2.2.2.2.2.2.2.2.2 hs
  rcases ix_2 p hn with h | ⟨i, hi, rfl⟩
  · refine ⟨-1, fun post H => ?_, fun post H => ?_⟩
    · exact sp_has0 hn h ⟨fun _ => H, fun q => absurd rfl q⟩
    · exact sp_isNode0 hn h ⟨fun _ => H _ _ _ _ _, fun q => absurd rfl q⟩
  · rcases lot_2 hN q with ⟨hX, hM⟩ | ⟨l, hl, rfl, h5, hX, hM⟩
    · refine ⟨-1, fun post H => ?_, fun post H => ?_⟩
      · exact sp_has1 hn hi ⟨fun q => absurd q (by decide), fun _ => hX _ _ ⟨fun _ => H, fun q => absurd rfl q⟩⟩
      · exact sp_isNode1 hn hi ⟨fun q => absurd q (by decide), fun _ => hM _ _ _ _ _ ⟨fun _ => H _ _ _ _ _, fun q => absurd rfl q⟩⟩
    · by_cases w0 : w < 0
      · refine ⟨-1, fun post H => ?_, fun post H => ?_⟩
        · exact sp_has1 hn hi ⟨fun q => absurd q (by decide), fun _ => hX _ _ ⟨fun q => absurd q (by decide), fun _ => ⟨fun _ => H, fun q => absurd w0 q⟩⟩⟩
        · exact sp_isNode1 hn hi ⟨fun q => absurd q (by decide), fun _ => hM _ _ _ _ _ ⟨fun q => absurd q (by decide), fun _ => ⟨fun _ => H _ _ _ _ _, fun q => absurd w0 q⟩⟩⟩
      · by_cases w1 : w ≤ 1
        · have hw : w = 0 ∨ w = 1 := by
            obtain ⟨j, hj, rfl⟩ := nI_of w0
            rw [nq_1, nI_leI hj (by omega)] at w1
            rcases (show j = 0 ∨ j = 1 by omega) with rfl | rfl
            · exact Or.inl nI_0
            · exact Or.inr nq_1.symm
          have hv := hall i
          have hxv : s.1 i l ≤ su_m (s.1 i) n := su_at hl
          have l9 := nq_lt48 (show i < 48 by omega) (show l < 48 by omega)
          have eIn : sc i - sw i = lN (su_m (s.1 i) n) := by
            have e := rS i (by omega)
            rw [rC i (by omega), rW i (by omega), lN_sub (by omega)]
            congr 1; omega
          -- both, as far as the numbers
          have X : ∀ (v : Int64) (post : Int64 → Prop), ((0 < lN (su_m (s.1 i) n) → (wp_X4_greatestDivisor (fun r_11 => ((0 < r_11 → ((¬ w = 0 → (¬ r_11 = 0 ∧ (post (lN (su_m (s.1 i) n) / r_11)))) ∧ (w = 0 → (¬ r_11 = 0 ∧ (post (lN (s.1 i l) / r_11)))))) ∧ (¬ 0 < r_11 → post (-1)))) (lN (s.1 i l)) (lN (su_m (s.1 i) n)))) ∧ (¬ 0 < lN (su_m (s.1 i) n) → post w.toInt64)) → wp_X4_share post lt (nI n) lcn fk spc su sc sw (nI i) (nI l) w := by
            intro v post H
            refine sp_has1 hn hi ⟨fun q => absurd q (by decide), fun _ => hX _ _ ⟨fun q => absurd q (by decide), fun _ => ⟨fun q => absurd q w0, fun _ => ⟨fun _ => ?_, fun q => absurd w1 q⟩⟩⟩⟩
            refine sp_unitsOf (by omega) (by omega) (sp_unitsIn (by omega) ?_)
            rw [rU i l (by omega) (by omega), eIn]
            exact H
          have M : ∀ (post : Int64 → Int32 → (Nat → Int64) → (Nat → Int32) → (Nat → Int64) → (Nat → Int64) → (Nat → Int32) → Prop), (∀ fu fc frr fp fo, (¬ lN (su_m (s.1 i) n) = 0 → (∃ n_78 : Nat, wb_X5_share_78 post (nI n) (nI m) l1 r1 fk' fa' fd' gf' gt' ga' gd' n_78 w (lN (su_m (s.1 i) n)) (lN (s.1 i l)) (lN (su_m (s.1 i) n)) (lN (s.1 i l)) 0 fu fc frr fp fo)) ∧ (lN (su_m (s.1 i) n) = 0 → post w.toInt64 0 fu fc frr fp fo)) → wp_X5_share post (nI n) (nI m) l1 r1 t1 fk' fa' fd' gf' gt' ga' gd' fu0 fc0 fr0 fp0 fo0 (nI i) (nI l) w := by
            intro post H
            refine sp_isNode1 hn hi ⟨fun q => absurd q (by decide), fun _ => hM _ _ _ _ _ ⟨fun q => absurd q (by decide), fun _ => ⟨fun q => absurd q w0, fun _ => ⟨fun _ => ?_, fun q => absurd w1 q⟩⟩⟩⟩
            refine sp_Rok hN hF hs (fun fu fc frr fp fo gU gC => ?_)
            refine sp_Rsum hn (by omega) (x := s.1 i) (fun l hl => gU i l hi hl) ?_
            rw [nq_ir, nq_cc, nI_clamp (show i * 48 + l < 2 ^ 31 by omega), gU i l hi hl]
            refine ⟨vp_in_nI l9 (by omega), fun y hy => ?_⟩
            rw [hy]
            exact H fu fc frr fp fo
          by_cases v0 : su_m (s.1 i) n = 0
          · have x0 : s.1 i l = 0 := by omega
            refine ⟨w.toInt64, fun post H => X 0 post ⟨fun q => absurd ((nq_pos (by omega)).mp q) (by omega), fun _ => H⟩, fun post H => M post (fun fu fc frr fp fo => ⟨fun q => absurd (by rw [v0]; exact nq_0l.symm) q, fun _ => H _ _ _ _ _⟩)⟩
          · have nz : ¬ lN (su_m (s.1 i) n) = 0 := fun q => v0 ((pk_lEQ (by omega) (by omega)).mp (by rw [q, nq_0l]))
            have loop : ∀ (post : Int64 → Int32 → (Nat → Int64) → (Nat → Int32) → (Nat → Int64) → (Nat → Int64) → (Nat → Int32) → Prop) (fu : Nat → Int64) (fc : Nat → Int32) (frr fp : Nat → Int64) (fo : Nat → Int32) (x5 x7 : Int64) (G : Nat), ((¬ w = 0 → (¬ lN G = 0 ∧ (post (x5 / lN G) 0 fu fc frr fp fo))) ∧ (w = 0 → (¬ lN G = 0 ∧ (post (x7 / lN G) 0 fu fc frr fp fo)))) →
                ∀ N a b : Nat, b < N → a ≤ 1000000000 → b ≤ 1000000000 → Nat.gcd a b = G → ∃ j, wb_X5_share_78 post (nI n) (nI m) l1 r1 fk' fa' fd' gf' gt' ga' gd' j w x5 x7 (lN a) (lN b) 0 fu fc frr fp fo := by
              intro post fu fc frr fp fo x5 x7 G H N
              induction N with
              | zero => intro a b h; omega
              | succ N ihN =>
                intro a b hb ha hb2 hg
                by_cases b0 : b = 0
                · rw [b0, Nat.gcd_zero_right] at hg
                  subst hg
                  refine ⟨1, fun _ => H, fun q => absurd ((nq_pos (by omega)).mp q) (by omega)⟩
                · have hm := Nat.mod_lt a (show 0 < b by omega)
                  obtain ⟨j, hj⟩ := ihN b (a % b) (by omega) hb2 (by omega) (by rw [← hg, Nat.gcd_comm a b, Nat.gcd_rec b a]; exact Nat.gcd_comm _ _)
                  refine ⟨j + 1, fun q => absurd ((nq_pos (by omega)).mpr (by omega)) q, fun _ => ⟨fun q => b0 ((pk_lEQ (by omega) (by omega)).mp (by rw [q, nq_0l])), fun y hy => ?_⟩⟩
                  rw [hy, pk_lRem (by omega) (by omega) (by omega)]
                  exact hj
            have gp : 0 < Nat.gcd (s.1 i l) (su_m (s.1 i) n) := Nat.gcd_pos_of_pos_right _ (by omega)
            have gl : Nat.gcd (s.1 i l) (su_m (s.1 i) n) ≤ su_m (s.1 i) n := Nat.gcd_le_right _ (by omega)
            have gnz : ¬ lN (Nat.gcd (s.1 i l) (su_m (s.1 i) n)) = 0 := fun q => by
              have := (pk_lEQ (by omega) (by omega)).mp (show lN (Nat.gcd (s.1 i l) (su_m (s.1 i) n)) = lN 0 by rw [q, nq_0l])
              omega
            refine ⟨if w = 0 then lN (s.1 i l) / lN (Nat.gcd (s.1 i l) (su_m (s.1 i) n)) else lN (su_m (s.1 i) n) / lN (Nat.gcd (s.1 i l) (su_m (s.1 i) n)), fun post H => X 0 post ⟨fun _ => ?_, fun q => absurd ((nq_pos (by omega)).mpr (by omega)) q⟩, fun post H => M post (fun fu fc frr fp fo => ⟨fun _ => ?_, fun q => absurd q nz⟩)⟩
            · refine sp_gcd (by omega) (by omega) hv ⟨fun _ => ⟨fun q => ⟨gnz, ?_⟩, fun q => ⟨gnz, ?_⟩⟩, fun q => absurd ((nq_pos (by omega)).mpr gp) q⟩
              · rw [if_neg q] at H; exact H
              · rw [if_pos q] at H; exact H
            · have H := H fu fc frr fp fo
              refine loop post fu fc frr fp fo _ _ (Nat.gcd (s.1 i l) (su_m (s.1 i) n)) ⟨fun q => ⟨gnz, ?_⟩, fun q => ⟨gnz, ?_⟩⟩ (s.1 i l + 1) _ _ (by omega) hv (by omega) (Nat.gcd_comm _ _)
              · rw [if_neg q] at H; exact H
              · rw [if_pos q] at H; exact H
        · refine ⟨-1, fun post H => ?_, fun post H => ?_⟩
          · exact sp_has1 hn hi ⟨fun q => absurd q (by decide), fun _ => hX _ _ ⟨fun q => absurd q (by decide), fun _ => ⟨fun _ => H, fun _ => ⟨fun q => absurd q w1, fun _ => H⟩⟩⟩⟩
          · exact sp_isNode1 hn hi ⟨fun q => absurd q (by decide), fun _ => hM _ _ _ _ _ ⟨fun q => absurd q (by decide), fun _ => ⟨fun _ => H _ _ _ _ _, fun _ => ⟨fun q => absurd q w1, fun _ => H _ _ _ _ _⟩⟩⟩⟩
end OPS2
