/-! WHAT HOLDS BETWEEN THE CLASS AND THE REFERENCE, between two calls -/
def lo_k (kd : Nat → Nat) : Nat → Bool := fun i => decide (kd i = 5)
def dn_k (kd : Nat → Nat) : Nat → Bool := fun i => decide (kd i = 0)
def iv_N (n : Nat) (kd am0 dy0 : Nat → Nat) (fk : Nat → Int32) (fa fd : Nat → Int64) (fk' : Nat → Int32) (fa' fd' : Nat → Int64) : Prop :=
  n ≤ 48 ∧ (∀ i, i < n → kd i ≤ 5 ∧ fk i = nI (kd i) ∧ fk' i = (if kd i = 5 then -1 else nI (kd i))) ∧ ∀ i, i < n → kd i = 5 → fa i = lN (am0 i) ∧ fa' i = lN (am0 i) ∧ am0 i ≤ 1000000 ∧ fd i = lN (dy0 i) ∧ fd' i = lN (dy0 i) ∧ dy0 i ≤ 100000
def iv_H (n : Nat) (fh fh' : Nat → Int32) : Prop := (∀ i, i < n → fh' i = fh i ∧ (fh i = 0 ∨ fh i = 1)) ∧ ∀ i, n ≤ i → i < 48 → fh i = 0
def iv_P (n : Nat) (fs fp fc : Nat → Int32) : Prop := ∀ i, i < n → (fs i = -1 ∧ fp i = -1 ∧ fc i = -1) ∨ ∃ p c : Nat, p < 1000 ∧ c < 1000 ∧ fs i = nI (c * 1000 + p) ∧ fp i = nI p ∧ fc i = nI c
def iv_A (n : Nat) (kd dy0 : Nat → Nat) (lc : Nat) (la : Nat → Nat) (fl : Nat → Int32) : Prop :=
  lc ≤ n ∧ rw_I lc fl la ∧ (∀ i, i < lc → la i < n ∧ kd (la i) = 5) ∧ (∀ i j, i < j → j < lc → dy0 (la i) < dy0 (la j) ∨ (dy0 (la i) = dy0 (la j) ∧ la i < la j)) ∧ ∀ l, l < n → kd l = 5 → ∃ i, i < lc ∧ la i = l
def fl_all (n m : Nat) (kd dy0 fr to am dy : Nat → Nat) : Prop := ∀ k, k < m → fr k < n ∧ to k < n ∧ fr k ≠ to k ∧ am k ≤ 1000000 ∧ dy k ≤ 100000 ∧ kd (to k) ≠ 5 ∧ kd (fr k) ≠ 0 ∧ (kd (fr k) = 5 → dy0 (fr k) ≤ dy k)
def iv_F (n m : Nat) (kd dy0 fr to am dy : Nat → Nat) (gf gt : Nat → Int32) (ga gd : Nat → Int64) (go gf' gt' : Nat → Int32) (ga' gd' : Nat → Int64) : Prop :=
  m ≤ 400 ∧ rw_I m gf fr ∧ rw_I m gt to ∧ rw_J m ga am ∧ rw_J m gd dy ∧ rw_I m go (od_f dy m) ∧ rw_I m gf' fr ∧ rw_I m gt' to ∧ rw_J m ga' am ∧ rw_J m gd' dy ∧ fl_all n m kd dy0 fr to am dy
abbrev rn_k (n m : Nat) (kd am0 fr to am dy : Nat → Nat) : Option ((Nat → Nat → Nat) × (Nat → Nat → Bool)) := rn_f n fr to am (od_f dy m) (in_u n (lo_k kd) am0, in_c n (lo_k kd)) m
def iv_S (n m : Nat) (kd am0 fr to am dy : Nat → Nat) (s : (Nat → Nat → Nat) × (Nat → Nat → Bool)) (su sc sw sd sr : Nat → Int64) : Prop :=
  rn_k n m kd am0 fr to am dy = some s ∧ ∃ ca we : Nat → Nat, (∀ i, n ≤ i → we i = 0) ∧ sk_R n s.1 s.2 ca we (ds_f fr to am (od_f dy m) (dn_k kd) m) su sc sw sd sr
def iv_L (rc : Nat) (ls : Nat → Int32) (lu : Nat → Int64) (lh rp rcu : Nat → Int32) (ru : Nat → Int64) (rt : Nat → Int32) : Prop :=
  rc ≤ 48 ∧ ∀ k, k < rc → ∃ p c : Nat, p < 1000 ∧ c < 1000 ∧ ls k = nI (c * 1000 + p) ∧ rp k = nI p ∧ rcu k = nI c ∧ lu k = ru k ∧ lh k = rt k
theorem fl_all.lo {n m : Nat} {kd dy0 fr to am dy : Nat → Nat} (h : fl_all n m kd dy0 fr to am dy) : ∀ k, k < m → ¬ lo_k kd (to k) = true := fun k hk q => (h k hk).2.2.2.2.2.1 (by simpa [lo_k] using q)
theorem fl_all.ok {n m : Nat} {kd dy0 fr to am dy : Nat → Nat} (h : fl_all n m kd dy0 fr to am dy) : fl_ok n m fr to am := fun k hk => ⟨(h k hk).1, (h k hk).2.1, (h k hk).2.2.1, (h k hk).2.2.2.1⟩
section IVL
variable {n m : Nat} {kd am0 dy0 fr to am dy : Nat → Nat} {fk : Nat → Int32} {fa fd : Nat → Int64} {fk' : Nat → Int32} {fa' fd' : Nat → Int64}
theorem iv_N.lot (h : iv_N n kd am0 dy0 fk fa fd fk' fa' fd') {i : Nat} (hi : i < n) : (fk i = 5 ↔ kd i = 5) ∧ (fk' i = -1 ↔ kd i = 5) ∧ (fk i = 0 ↔ kd i = 0) ∧ (fk' i = 0 ↔ kd i = 0) ∧ (fk' i < 1 ↔ (kd i = 5 ∨ kd i = 0)) := by
  obtain ⟨h1, h2, h3⟩ := h.2.1 i hi
  rw [h2, h3]
  refine ⟨by rw [nq_5]; exact nI_eq (by omega) (by omega), ?_, by rw [← nI_0]; exact nI_eq (by omega) (by omega), ?_, ?_⟩
  · by_cases e : kd i = 5
    · simp [e]
    · rw [if_neg e]; exact ⟨fun q => absurd q (nq_neg1 _ (by omega)), fun q => absurd q e⟩
  · by_cases e : kd i = 5
    · rw [if_pos e]; exact ⟨fun q => absurd q (by decide), fun q => by omega⟩
    · rw [if_neg e, ← nI_0]; exact nI_eq (by omega) (by omega)
  · by_cases e : kd i = 5
    · rw [if_pos e]; exact ⟨fun _ => Or.inl e, fun _ => by decide⟩
    · rw [if_neg e, nq_1, nI_ltI (by omega) (by omega)]; omega
theorem iv_N.k5 (h : iv_N n kd am0 dy0 fk fa fd fk' fa' fd') (i : Nat) (hi : i < n) : fk i = 5 ↔ lo_k kd i = true := by rw [(h.lot hi).1]; simp [lo_k]
theorem iv_N.km (h : iv_N n kd am0 dy0 fk fa fd fk' fa' fd') (i : Nat) (hi : i < n) : fk' i = -1 ↔ lo_k kd i = true := by rw [(h.lot hi).2.1]; simp [lo_k]
theorem iv_N.k0 (h : iv_N n kd am0 dy0 fk fa fd fk' fa' fd') (i : Nat) (hi : i < n) : fk i = 0 ↔ dn_k kd i = true := by rw [(h.lot hi).2.2.1]; simp [dn_k]
theorem lo_k5 {i : Nat} (h : lo_k kd i = true) : kd i = 5 := by simpa [lo_k] using h
/-- the walk where all flows can happen -/
theorem sp_Rgo {post : Int32 → (Nat → Int64) → (Nat → Int32) → (Nat → Int64) → (Nat → Int64) → (Nat → Int32) → Prop} {l1 : Int64} {r1 t1 : Int32} {gf' gt' : Nat → Int32} {ga' gd' : Nat → Int64} {fu0 : Nat → Int64} {fc0 : Nat → Int32} {fr0 fp0 : Nat → Int64} {fo0 : Nat → Int32}
    (hN : iv_N n kd am0 dy0 fk fa fd fk' fa' fd') (hm : m ≤ 400) (rf : rw_I m gf' fr) (rt : rw_I m gt' to) (ra : rw_J m ga' am) (rd : rw_J m gd' dy) (hF : fl_all n m kd dy0 fr to am dy)
    (H0 : rn_k n m kd am0 fr to am dy = none → ∀ fu fc fr fp fo, post 0 fu fc fr fp fo)
    (H1 : ∀ s, rn_k n m kd am0 fr to am dy = some s → ∀ fu fc fr fp fo, rr_U n fu s.1 → rr_C n fc s.2 → post 1 fu fc fr fp fo) :
    wp_X5_walk post (nI n) (nI m) l1 r1 t1 fk' fa' fd' gf' gt' ga' gd' fu0 fc0 fr0 fp0 fo0 := by
  have hb : ∀ k, k < m → (decide (lo_k kd (fr k) = true ∧ dy k < dy0 (fr k)) = true ↔ (lo_k kd (fr k) = true ∧ dy k < dy0 (fr k))) := fun k _ => by simp
  have hg : ∀ k, k < m → (fun k => decide (lo_k kd (fr k) = true ∧ dy k < dy0 (fr k))) (od_f dy m k) = false := by
    intro k hk
    have := (hF _ (od_lt dy m k hk)).2.2.2.2.2.2.2
    refine decide_eq_false (fun q => ?_)
    have := this (lo_k5 q.1)
    omega
  have e := rx_rn (n := n) (fr := fr) (to := to) (am := am) (od := od_f dy m) (bd := fun k => decide (lo_k kd (fr k) = true ∧ dy k < dy0 (fr k))) (s0 := (in_u n (lo_k kd) am0, in_c n (lo_k kd))) hg m (Nat.le_refl m)
  refine sp_Rwalk (bd := fun k => decide (lo_k kd (fr k) = true ∧ dy k < dy0 (fr k))) hN.1 hm hN.km (fun i hi hl => (hN.2.2 i hi (lo_k5 hl)).2.1) (fun i hi hl => (hN.2.2 i hi (lo_k5 hl)).2.2.1) (fun i hi hl => ⟨(hN.2.2 i hi (lo_k5 hl)).2.2.2.2.1, (hN.2.2 i hi (lo_k5 hl)).2.2.2.2.2⟩) hF.ok rf rt ra rd (fun k hk => (hF k hk).2.2.2.2.1) hb (fun q => H0 (e.symm.trans q)) (fun s q => H1 s (e.symm.trans q))
theorem sp_Rok {post : Int32 → (Nat → Int64) → (Nat → Int32) → (Nat → Int64) → (Nat → Int64) → (Nat → Int32) → Prop} {l1 : Int64} {r1 t1 : Int32} {gf gt : Nat → Int32} {ga gd : Nat → Int64} {go gf' gt' : Nat → Int32} {ga' gd' : Nat → Int64} {fu0 : Nat → Int64} {fc0 : Nat → Int32} {fr0 fp0 : Nat → Int64} {fo0 : Nat → Int32} {s : (Nat → Nat → Nat) × (Nat → Nat → Bool)}
    (hN : iv_N n kd am0 dy0 fk fa fd fk' fa' fd') (hF : iv_F n m kd dy0 fr to am dy gf gt ga gd go gf' gt' ga' gd') (hs : rn_k n m kd am0 fr to am dy = some s)
    (H : ∀ fu fc fr fp fo, rr_U n fu s.1 → rr_C n fc s.2 → post 1 fu fc fr fp fo) :
    wp_X5_walk post (nI n) (nI m) l1 r1 t1 fk' fa' fd' gf' gt' ga' gd' fu0 fc0 fr0 fp0 fo0 := by
  obtain ⟨f1, f2, f3, f4, f5, f6, f7, f8, f9, f10, f11⟩ := hF
  refine sp_Rgo hN f1 f7 f8 f9 f10 f11 (fun q => ?_) (fun t q => ?_)
  · rw [hs] at q; cases q
  · rw [hs] at q; cases q; exact H
theorem sp_isNode {post : Int32 → Prop} {n : Nat} {c1 r1 t1 p : Int32} {l1 : Int64} (hn : n ≤ 48) (H1 : ∀ i, i < n → p = nI i → post 1) (H0 : (p < 0 ∨ nI n ≤ p) → post 0) : wp_X5_isNode post (nI n) c1 l1 r1 t1 p := by
  unfold wp_X5_isNode
  refine ⟨fun q => H0 (Or.inl q), fun q => ⟨fun q2 => H0 (Or.inr q2), fun q2 => ?_⟩⟩
  rcases pk_ix p (show n < 2 ^ 31 by omega) with h | h | ⟨j, hj, e⟩
  · exact absurd h q
  · exact absurd h q2
  · exact H1 j hj e
theorem no_node {p : Int32} {n i : Nat} (h : p < 0 ∨ nI n ≤ p) (hi : i < n) (hn : n ≤ 48) : ¬ p = nI i := by
  intro e
  rw [e] at h
  rcases h with h | h
  · exact absurd h (nI_pos (by omega))
  · exact absurd h (nI_ge hi (by omega))
theorem sp_isNode1 {post : Int32 → Prop} {n i : Nat} {c1 r1 t1 : Int32} {l1 : Int64} (hn : n ≤ 48) (hi : i < n) (H : post 1) : wp_X5_isNode post (nI n) c1 l1 r1 t1 (nI i) := sp_isNode hn (fun _ _ _ => H) (fun h => absurd rfl (no_node h hi hn))
theorem sp_isNode0 {post : Int32 → Prop} {n : Nat} {c1 r1 t1 p : Int32} {l1 : Int64} (hn : n ≤ 48) (h : p < 0 ∨ nI n ≤ p) (H : post 0) : wp_X5_isNode post (nI n) c1 l1 r1 t1 p := sp_isNode hn (fun i hi e => absurd e (no_node h hi hn)) (fun _ => H)
theorem sp_has0 {post : Int32 → Prop} {n : Nat} {lc p : Int32} (hn : n ≤ 48) (h : p < 0 ∨ nI n ≤ p) (H : post 0) : wp_X1_has post (nI n) lc p := sp_has hn (fun i hi e => absurd e (no_node h hi hn)) (fun _ => H)
theorem ix_2 (p : Int32) {n : Nat} (hn : n ≤ 48) : (p < 0 ∨ nI n ≤ p) ∨ ∃ i, i < n ∧ p = nI i := by
  rcases pk_ix p (show n < 2 ^ 31 by omega) with h | h | h
  · exact Or.inl (Or.inl h)
  · exact Or.inl (Or.inr h)
  · exact Or.inr h
/-- left -/
theorem op_left {spc : Int32} {lt l1 : Int64} {lcn r1 t1 : Int32} {gf gt : Nat → Int32} {ga gd : Nat → Int64} {go gf' gt' : Nat → Int32} {ga' gd' : Nat → Int64} {su sc sw sd sr fu0 : Nat → Int64} {fc0 : Nat → Int32} {fr0 fp0 : Nat → Int64} {fo0 : Nat → Int32} {s : (Nat → Nat → Nat) × (Nat → Nat → Bool)} (hN : iv_N n kd am0 dy0 fk fa fd fk' fa' fd') (hF : iv_F n m kd dy0 fr to am dy gf gt ga gd go gf' gt' ga' gd') (hS : iv_S n m kd am0 fr to am dy s su sc sw sd sr) (p : Int32) :
    ∃ v : Int64, (∀ post : Int64 → Prop, post v → wp_X4_left post lt (nI n) lcn spc sc sw p) ∧ ∀ post : Int64 → Int32 → (Nat → Int64) → (Nat → Int32) → (Nat → Int64) → (Nat → Int64) → (Nat → Int32) → Prop, (∀ a b c d e, post v 0 a b c d e) → wp_X5_left post (nI n) (nI m) l1 r1 t1 fk' fa' fd' gf' gt' ga' gd' fu0 fc0 fr0 fp0 fo0 p := by
  have hn := hN.1
  obtain ⟨hs, ca, we, w0, rU, rC, rW, rD, rB, rS⟩ := hS
  rcases ix_2 p hn with h | ⟨i, hi, rfl⟩
  · refine ⟨-1, fun post H => ?_, fun post H => ?_⟩
    · exact sp_has0 hn h ⟨fun _ => H, fun q => absurd rfl q⟩
    · exact sp_isNode0 hn h ⟨fun q => absurd rfl q, fun _ => H _ _ _ _ _⟩
  · refine ⟨lN (su_m (s.1 i) n), fun post H => ?_, fun post H => ?_⟩
    · refine sp_has1 hn hi ⟨fun q => absurd q (by decide), fun _ => sp_unitsIn (by omega) ?_⟩
      have e := rS i (by omega)
      rw [rC i (by omega), rW i (by omega), lN_sub (by omega)]
      have : ca i - we i = su_m (s.1 i) n := by omega
      rw [this]; exact H
    · refine sp_isNode1 hn hi ⟨fun _ => sp_Rok hN hF hs (fun fu fc fr fp fo gU gC => ?_), fun q => absurd q (by decide)⟩
      exact sp_Rsum hn (by omega) (x := s.1 i) (fun l hl => gU i l hi hl) (H _ _ _ _ _)
/-- loss -/
theorem op_loss {spc : Int32} {lt l1 : Int64} {lcn r1 t1 : Int32} {gf gt : Nat → Int32} {ga gd : Nat → Int64} {go gf' gt' : Nat → Int32} {ga' gd' : Nat → Int64} {su sc sw sd sr : Nat → Int64} {s : (Nat → Nat → Nat) × (Nat → Nat → Bool)} (hN : iv_N n kd am0 dy0 fk fa fd fk' fa' fd') (hF : iv_F n m kd dy0 fr to am dy gf gt ga gd go gf' gt' ga' gd') (hS : iv_S n m kd am0 fr to am dy s su sc sw sd sr) (p : Int32) :
    ∃ v : Int64, (∀ post : Int64 → Prop, post v → wp_X4_loss post lt (nI n) lcn spc sd p) ∧ ∀ post : Int64 → Int32 → Prop, post v 0 → wp_X5_loss post (nI n) (nI m) l1 r1 t1 fk' gf' gt' ga' p := by
  have hn := hN.1
  obtain ⟨hs, ca, we, w0, rU, rC, rW, rD, rB, rS⟩ := hS
  obtain ⟨f1, f2, f3, f4, f5, f6, f7, f8, f9, f10, f11⟩ := hF
  rcases ix_2 p hn with h | ⟨i, hi, rfl⟩
  · refine ⟨-1, fun post H => ?_, fun post H => ?_⟩
    · exact sp_has0 hn h ⟨fun _ => H, fun q => absurd rfl q⟩
    · exact sp_isNode0 hn h ⟨fun q => absurd rfl q, fun _ => H⟩
  · refine ⟨lN (su_m (fun k => if fr k = i ∧ dn_k kd (to k) = true then am k else 0) m), fun post H => ?_, fun post H => ?_⟩
    · refine sp_has1 hn hi ⟨fun q => absurd q (by decide), fun _ => ⟨vp_in_nI (by omega) (by omega), ?_⟩⟩
      rw [nI_clamp (show i < 2 ^ 31 by omega), rD i (by omega)]
      have : ds_f fr to am (od_f dy m) (dn_k kd) m i = su_m (fun k => if fr k = i ∧ dn_k kd (to k) = true then am k else 0) m := od_sum dy (fun k => if fr k = i ∧ dn_k kd (to k) = true then am k else 0) m
      rw [this]; exact H
    · refine sp_isNode1 hn hi ⟨fun _ => ?_, fun q => absurd q (by decide)⟩
      refine lo_u1 (A1 := Unit) (fun j t _ => wb_X5_loss_22 post (nI n) (nI m) l1 r1 fk' gf' gt' ga' j (nI i) (lN (su_m (fun k => if fr k = i ∧ dn_k kd (to k) = true then am k else 0) t)) (nI t) 0) (fun _ _ => True) m ?_ ?_ 0 () (by omega) trivial
      · intro j _ _
        exact ⟨fun _ => H, fun q => absurd (nI_le (Nat.le_refl m) (by omega)) q⟩
      · intro j t _ ht _ ih
        have hin : vp_in (nI t) 401 := vp_in_nI (by omega) (by omega)
        obtain ⟨g1, g2, -⟩ := f11 t ht
        have add : ∀ v : Nat, v = (if fr t = i ∧ dn_k kd (to t) = true then am t else 0) → wb_X5_loss_69 post (nI n) (nI m) l1 r1 fk' gf' gt' ga' (wb_X5_loss_22 post (nI n) (nI m) l1 r1 fk' gf' gt' ga' j) (nI i) (nI t) (lN v) (lN (su_m (fun k => if fr k = i ∧ dn_k kd (to k) = true then am k else 0) t)) 0 := by
          intro v ev
          unfold wb_X5_loss_69
          intro x hx y hy
          rw [hx, hy, nI_1, lN_add, ev]
          exact ih () trivial
        have zero : ¬ (fr t = i ∧ dn_k kd (to t) = true) → wb_X5_loss_68 post (nI n) (nI m) l1 r1 fk' gf' gt' ga' (wb_X5_loss_22 post (nI n) (nI m) l1 r1 fk' gf' gt' ga' j) (nI i) (nI t) (lN (su_m (fun k => if fr k = i ∧ dn_k kd (to k) = true then am k else 0) t)) 0 := by
          intro q
          unfold wb_X5_loss_68
          rw [nq_0l]
          exact add 0 (by rw [if_neg q])
        refine ⟨fun q => absurd q (nI_ge ht (by omega)), fun _ => ?_⟩
        rw [nI_clamp (show t < 2 ^ 31 by omega), f7 t ht, f8 t ht, nI_clamp (show to t < 2 ^ 31 by omega), f9 t ht]
        refine ⟨hin, fun q => zero (fun w => q (by rw [w.1])), fun q => ⟨hin, vp_in_nI (by omega) (by omega), fun q2 => zero (fun w => q2 ?_), fun q2 => ⟨hin, ?_⟩⟩⟩
        · have := (hN.lot g2).2.2.2.1
          exact this.mpr (by simpa [dn_k] using w.2)
        · have e1 : fr t = i := (nI_eq (by omega) (by omega)).mp q
          have e2 : dn_k kd (to t) = true := by simpa [dn_k] using (hN.lot g2).2.2.2.1.mp q2
          exact add (am t) (by rw [if_pos ⟨e1, e2⟩])
/-- whole -/
theorem op_whole {spc : Int32} {lt l1 : Int64} {lcn c1 r1 t1 : Int32} {su sc sw sd sr : Nat → Int64} {s : (Nat → Nat → Nat) × (Nat → Nat → Bool)} (hN : iv_N n kd am0 dy0 fk fa fd fk' fa' fd') (hS : iv_S n m kd am0 fr to am dy s su sc sw sd sr) (p : Int32) :
    ∃ v : Int32, (∀ post : Int32 → Prop, post v → wp_X4_whole post lt (nI n) lcn spc su sc sw p) ∧ ∀ post : Int32 → Int32 → Prop, post v 0 → wp_X5_whole post (nI n) c1 l1 r1 t1 p := by
  have hn := hN.1
  obtain ⟨hs, ca, we, w0, rU, rC, rW, rD, rB, rS⟩ := hS
  rcases ix_2 p hn with h | ⟨i, hi, rfl⟩
  · refine ⟨0, fun post H => ?_, fun post H => ?_⟩
    · exact sp_has0 hn h ⟨fun _ => H, fun q => absurd rfl q⟩
    · exact sp_isNode0 hn h ⟨vv_bo0, H⟩
  · refine ⟨1, fun post H => ?_, fun post H => ?_⟩
    · refine sp_has1 hn hi ⟨fun q => absurd q (by decide), fun _ => ?_⟩
      refine lo_u1 (A1 := Unit) (fun j t _ => wb_X3_sumOfLots_5 (fun r_3 => wp_X3_unitsIn (fun r_4 => ((¬ r_3 = r_4 → post 0) ∧ (r_3 = r_4 → post 1))) spc sc sw (nI i)) spc (nI n) lcn su j (nI i) (lN (su_m (s.1 i) t)) (nI t)) (fun _ _ => True) n ?_ ?_ 0 () (by omega) trivial
      · intro j _ _
        refine ⟨fun _ => ?_, fun q => absurd (nI_le (Nat.le_refl n) (by omega)) q⟩
        refine sp_unitsIn (by omega) ?_
        have e := rS i (by omega)
        rw [rC i (by omega), rW i (by omega), lN_sub (by omega)]
        have : ca i - we i = su_m (s.1 i) n := by omega
        rw [this]
        exact ⟨fun q => absurd rfl q, fun _ => H⟩
      · intro j t _ ht _ ih
        refine ⟨fun q => absurd q (nI_ge ht (by omega)), fun _ => sp_unitsOf (by omega) (by omega) ?_⟩
        rw [rU i t (by omega) (by omega)]
        intro x hx y hy
        rw [hx, hy, nI_1, lN_add]
        exact ih () trivial
    · exact sp_isNode1 hn hi ⟨vv_bo1, H⟩
/-- hold -/
theorem op_hold {lt l1 : Int64} {lcn c1 r1 t1 : Int32} {fh fh' : Nat → Int32} (hN : iv_N n kd am0 dy0 fk fa fd fk' fa' fd') (hH : iv_H n fh fh') (p on : Int32) (ho : on = 0 ∨ on = 1) :
    ∃ (v : Int32) (gh gh' : Nat → Int32), iv_H n gh gh' ∧ (∀ post : Int32 → (Nat → Int32) → Prop, post v gh → wp_X4_hold post lt (nI n) lcn fh p on) ∧ ∀ post : Int32 → Int32 → (Nat → Int32) → Prop, post v 0 gh' → wp_X5_hold post (nI n) c1 l1 r1 t1 fh' p on := by
  have hn := hN.1
  have hz : vp_nar .boolean on = on := by rcases ho with rfl | rfl; exact nar_0; exact nar_1
  rcases ix_2 p hn with h | ⟨i, hi, rfl⟩
  · refine ⟨0, fh, fh', hH, fun post H => ?_, fun post H => ?_⟩
    · exact sp_has0 hn h ⟨fun _ => H, fun q => absurd rfl q⟩
    · exact sp_isNode0 hn h ⟨fun _ => H, fun q => absurd rfl q⟩
  · have hin : vp_in (nI i) 48 := vp_in_nI (by omega) (by omega)
    have e := (hH.1 i hi).1
    by_cases c : fh i = on
    · refine ⟨0, fh, fh', hH, fun post H => ?_, fun post H => ?_⟩
      · refine sp_has1 hn hi ⟨fun q => absurd q (by decide), fun _ => ⟨hin, ?_⟩⟩
        rw [nI_clamp (show i < 2 ^ 31 by omega)]
        exact ⟨fun q => absurd c q, fun _ => H⟩
      · refine sp_isNode1 hn hi ⟨fun q => absurd q (by decide), fun _ => ⟨hin, ?_⟩⟩
        rw [nI_clamp (show i < 2 ^ 31 by omega), e]
        exact ⟨fun q => absurd c q, fun _ => H⟩
    · refine ⟨1, upd fh i on, upd fh' i on, ⟨fun j hj => ?_, fun j h1 h2 => ?_⟩, fun post H => ?_, fun post H => ?_⟩
      · by_cases ej : j = i
        · subst ej; rw [pk_us, pk_us]; exact ⟨rfl, ho⟩
        · rw [pk_un ej, pk_un ej]; exact hH.1 j hj
      · rw [pk_un (by omega)]; exact hH.2 j h1 h2
      · refine sp_has1 hn hi ⟨fun q => absurd q (by decide), fun _ => ⟨hin, ?_⟩⟩
        rw [nI_clamp (show i < 2 ^ 31 by omega)]
        refine ⟨fun _ => ⟨hin, fun g eg => ?_⟩, fun q => absurd q c⟩
        rw [eg, hz]; exact H
      · refine sp_isNode1 hn hi ⟨fun q => absurd q (by decide), fun _ => ⟨hin, ?_⟩⟩
        rw [nI_clamp (show i < 2 ^ 31 by omega), e]
        refine ⟨fun _ => ⟨hin, fun g eg => ?_⟩, fun q => absurd q c⟩
        rw [eg, hz]; exact H
/-- place -/
theorem op_place {lt l1 : Int64} {lcn c1 r1 t1 : Int32} {fs fp fc : Nat → Int32} (hN : iv_N n kd am0 dy0 fk fa fd fk' fa' fd') (hP : iv_P n fs fp fc) (p q c : Int32) :
    ∃ (v : Int32) (gs gp gc : Nat → Int32), iv_P n gs gp gc ∧ (∀ post : Int32 → (Nat → Int32) → Prop, post v gs → wp_X4_place post lt (nI n) lcn fk fs p q c) ∧ ∀ post : Int32 → Int32 → (Nat → Int32) → (Nat → Int32) → Prop, post v 0 gp gc → wp_X5_place post (nI n) c1 l1 r1 t1 fk' fp fc p q c := by
  have hn := hN.1
  have e9 : (999 : Int32) = nI 999 := by decide +kernel
  rcases ix_2 p hn with h | ⟨i, hi, rfl⟩
  · refine ⟨0, fs, fp, fc, hP, fun post H => ?_, fun post H => ?_⟩
    · unfold wp_X4_place wp_X1_canTake
      exact sp_has0 hn h ⟨fun _ => ⟨fun _ => H, fun q => absurd rfl q⟩, fun q => absurd rfl q⟩
    · exact sp_isNode0 hn h ⟨fun _ => H, fun q => absurd rfl q⟩
  · have hin : vp_in (nI i) 48 := vp_in_nI (by omega) (by omega)
    have ec : (nI i).toNatClampNeg = i := nI_clamp (by omega)
    obtain ⟨l1', l2', -⟩ := hN.lot hi
    by_cases c5 : kd i = 5
    · refine ⟨0, fs, fp, fc, hP, fun post H => ?_, fun post H => ?_⟩
      · unfold wp_X4_place wp_X1_canTake
        refine sp_has1 hn hi ⟨fun q => absurd q (by decide), fun _ => ⟨hin, ?_⟩⟩
        rw [ec]
        exact ⟨fun _ => ⟨fun _ => H, fun q => absurd rfl q⟩, fun q => absurd (l1'.mpr c5) q⟩
      · refine sp_isNode1 hn hi ⟨fun q => absurd q (by decide), fun _ => ⟨hin, ?_⟩⟩
        rw [ec]
        exact ⟨fun _ => H, fun q => absurd (l2'.mpr c5) q⟩
    · have k1 : ¬ fk i = 5 := fun q => c5 (l1'.mp q)
      have k2 : ¬ fk' i = -1 := fun q => c5 (l2'.mp q)
      have le9 : ∀ z : Int32, 1000 ≤ z ↔ 999 < z := fun z => by rw [Int32.le_iff_toInt_le, Int32.lt_iff_toInt_lt, show (1000 : Int32).toInt = 1000 by decide +kernel, show (999 : Int32).toInt = 999 by decide +kernel]; omega
      have lt9 : ∀ z : Int32, z < 1000 ↔ z ≤ 999 := fun z => by rw [Int32.le_iff_toInt_le, Int32.lt_iff_toInt_lt, show (1000 : Int32).toInt = 1000 by decide +kernel, show (999 : Int32).toInt = 999 by decide +kernel]; omega
      by_cases ok : ¬ q < 0 ∧ ¬ 1000 ≤ q ∧ ¬ c < 0 ∧ c < 1000
      · obtain ⟨o1, o2, o3, o4⟩ := ok
        obtain ⟨pn, hp, rfl⟩ : ∃ pn : Nat, pn < 1000 ∧ q = nI pn := by
          rcases pk_ix q (show 1000 < 2 ^ 31 by omega) with h | h | h
          · exact absurd h o1
          · rw [nq_1000] at o2; exact absurd h o2
          · exact h
        obtain ⟨cn, hc, rfl⟩ : ∃ cn : Nat, cn < 1000 ∧ c = nI cn := by
          rcases pk_ix c (show 1000 < 2 ^ 31 by omega) with h | h | h
          · exact absurd h o3
          · rw [nq_1000] at o4; exact absurd o4 (by rw [Int32.lt_iff_toInt_lt]; have := Int32.le_iff_toInt_le.mp h; omega)
          · exact h
        refine ⟨1, upd fs i (nI (cn * 1000 + pn)), upd fp i (nI pn), upd fc i (nI cn), fun j hj => ?_, fun post H => ?_, fun post H => ?_⟩
        · by_cases ej : j = i
          · subst ej; rw [pk_us, pk_us, pk_us]; exact Or.inr ⟨pn, cn, hp, hc, rfl, rfl, rfl⟩
          · rw [pk_un ej, pk_un ej, pk_un ej]; exact hP j hj
        · unfold wp_X4_place wp_X1_canTake
          refine sp_has1 hn hi ⟨fun q => absurd q (by decide), fun _ => ⟨hin, ?_⟩⟩
          rw [ec]
          refine ⟨fun q => absurd q k1, fun _ => ⟨fun q => absurd q (by decide), fun _ => ⟨fun q => absurd q o1, fun _ => ⟨fun q => absurd q o2, fun _ => ⟨fun q => absurd q o3, fun _ => ⟨fun _ => ⟨hin, fun g eg => ?_⟩, fun q => absurd o4 q⟩⟩⟩⟩⟩⟩
          rw [eg, nq_1000, pk_mul, nI_add]; exact H
        · refine sp_isNode1 hn hi ⟨fun q => absurd q (by decide), fun _ => ⟨hin, ?_⟩⟩
          rw [ec]
          refine ⟨fun q => absurd q k2, fun _ => ⟨fun q => absurd q o1, fun _ => ⟨fun q => absurd ((le9 _).mpr q) o2, fun _ => ⟨fun q => absurd q o3, fun _ => ⟨fun _ => ⟨hin, fun g eg => ⟨hin, fun g2 eg2 => ?_⟩⟩, fun q => absurd ((lt9 _).mp o4) q⟩⟩⟩⟩⟩
          rw [eg, eg2]; exact H
      · refine ⟨0, fs, fp, fc, hP, fun post H => ?_, fun post H => ?_⟩
        · unfold wp_X4_place wp_X1_canTake
          refine sp_has1 hn hi ⟨fun q => absurd q (by decide), fun _ => ⟨hin, ?_⟩⟩
          rw [ec]
          exact ⟨fun q => absurd q k1, fun _ => ⟨fun q => absurd q (by decide), fun _ => ⟨fun _ => H, fun o1 => ⟨fun _ => H, fun o2 => ⟨fun _ => H, fun o3 => ⟨fun o4 => absurd ⟨o1, o2, o3, o4⟩ ok, fun _ => H⟩⟩⟩⟩⟩⟩
        · refine sp_isNode1 hn hi ⟨fun q => absurd q (by decide), fun _ => ⟨hin, ?_⟩⟩
          rw [ec]
          exact ⟨fun q => absurd q k2, fun _ => ⟨fun _ => H, fun o1 => ⟨fun _ => H, fun o2 => ⟨fun _ => H, fun o3 => ⟨fun o4 => absurd ⟨o1, fun z => o2 ((le9 _).mp z), o3, (lt9 _).mpr o4⟩ ok, fun _ => H⟩⟩⟩⟩⟩
end IVL
