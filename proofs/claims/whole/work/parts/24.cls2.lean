/-! THE CLASS: clearing and replaying -/
def in_u (n : Nat) (lo : Nat → Bool) (am : Nat → Nat) : Nat → Nat → Nat := fun i l => if i = l ∧ i < n ∧ lo i = true then am i else 0
def in_c (n : Nat) (lo : Nat → Bool) : Nat → Nat → Bool := fun i l => decide (i = l ∧ i < n ∧ lo i = true)
def in_a (n : Nat) (lo : Nat → Bool) (am : Nat → Nat) : Nat → Nat := fun i => if i < n ∧ lo i = true then am i else 0
theorem in_sum (n : Nat) (lo : Nat → Bool) (am : Nat → Nat) (i : Nat) : su_m (in_u n lo am i) n = in_a n lo am i := by
  unfold in_a
  by_cases h : i < n ∧ lo i = true
  · rw [if_pos h, su_one (k := i) h.1 (fun j _ hj => by simp [in_u, Ne.symm hj])]
    simp [in_u, h]
  · rw [if_neg h]
    exact su_zero fun j _ => by
      unfold in_u
      rw [if_neg (fun q => h ⟨q.2.1, q.2.2⟩)]
theorem sp_admit {post : (Nat → Int64) → (Nat → Int64) → (Nat → Int64) → Prop} {i : Nat} {pc nc lc : Int32} {fa fu fc fr : Nat → Int64} (hi : i < 48)
    (H1 : post (vp_updL fu (i * 48 + i) (fa i)) (vp_updL fc i (fa i)) (vp_updL fr i (bt_l i))) : wp_X3_admit post pc nc lc fa fu fc fr (nI i) := by
  unfold wp_X3_admit
  have hin : vp_in (nI i) 48 := vp_in_nI (by omega) (by omega)
  have l1 := nq_lt48 hi hi
  rw [nq_ic, nI_clamp (show i < 2 ^ 31 by omega), nI_clamp (show i * 48 + i < 2 ^ 31 by omega)]
  refine ⟨hin, vp_in_nI l1 (by omega), fun f1 e1 => ⟨hin, hin, fun f2 e2 => ⟨hin, fun f3 e3 => ?_⟩⟩⟩
  rw [e1, e2, e3]
  exact H1
theorem sp_clear {post : (Nat → Int64) → (Nat → Int64) → (Nat → Int64) → (Nat → Int64) → (Nat → Int64) → Prop} {n : Nat} {pc lc : Int32} {fk : Nat → Int32} {fa fu0 fc0 fw0 fd0 fr0 : Nat → Int64} {lo : Nat → Bool} {am : Nat → Nat} (hn : n ≤ 48) (hk : ∀ i, i < n → (fk i = 5 ↔ lo i = true)) (ha : ∀ i, i < n → lo i = true → fa i = lN (am i))
    (H : ∀ fu fc fw fd fr : Nat → Int64, sk_R n (in_u n lo am) (in_c n lo) (in_a n lo am) (fun _ => 0) (fun _ => 0) fu fc fw fd fr → post fu fc fw fd fr) : wp_X3_clear post pc (nI n) lc fk fa fu0 fc0 fw0 fd0 fr0 := by
  unfold wp_X3_clear
  refine sp_fill (by omega) (fun fu hu => sp_fill (by omega) (fun fc hc => sp_fill (by omega) (fun fw hw => sp_fill (by omega) (fun fd hd => sp_fill (by omega) (fun fr hr => ?_)))))
  refine lo_u3 (fun k t fu fc fr => wb_X3_clear_42 post pc (nI n) lc fk fa k (nI t) fu fc fw fd fr)
    (fun t fu fc fr => rw_U fu (in_u t lo am) ∧ rw_J 48 fc (in_a t lo am) ∧ rw_B fr (in_c t lo)) n ?_ ?_ 0 fu fc fr (by omega) ⟨?_, ?_, ?_⟩
  · intro k fu fc fr hs
    obtain ⟨g1, g2, g3⟩ := hs
    refine ⟨fun _ => H fu fc fw fd fr ⟨g1, g2, fun j hj => (hw j hj).trans nq_0l, fun j hj => (hd j hj).trans nq_0l, g3, fun i hi => ?_⟩, fun q => absurd (nI_le (Nat.le_refl n) (by omega)) q⟩
    rw [in_sum]; exact (Nat.zero_add _).symm
  · intro k t fu fc fr ht hs ih
    obtain ⟨g1, g2, g3⟩ := hs
    refine ⟨fun q => absurd q (nI_ge ht (by omega)), fun _ => ?_⟩
    refine sp_isLot1 hn ht (fun z => ⟨fun q => absurd q (by decide), fun _ => sp_admit (by omega) (fun x hx => ?_)⟩) (fun z => ⟨fun _ x hx => ?_, fun q => absurd rfl q⟩)
    · have zl : lo t = true := (hk t ht).mp z
      rw [hx, nI_1, ha t ht zl]
      refine ih _ _ _ ⟨fun i l hi hl => ?_, fun j hj => ?_, fun i l hi hl => ?_⟩
      · rw [rw_U.up g1 (i := t) (l := t) (am t) (by omega) i l hi hl]
        congr 1
        by_cases e : i = t ∧ l = t
        · obtain ⟨rfl, rfl⟩ := e
          rw [u2_s]; simp [in_u, zl]
        · rw [u2_n e]
          unfold in_u
          by_cases e2 : i = l ∧ i < t ∧ lo i = true
          · rw [if_pos e2, if_pos ⟨e2.1, by omega, e2.2.2⟩]
          · rw [if_neg e2, if_neg]
            rintro ⟨q1, q2, q3⟩
            exact e2 ⟨q1, by omega, q3⟩
      · show (vp_updL fc t (lN (am t))) j = _
        rw [g2.up t (am t) j hj]
        congr 1
        by_cases e : j = t
        · subst e; rw [fu_s]; simp [in_a, zl]
        · rw [fu_n e]
          unfold in_a
          by_cases e2 : j < t ∧ lo j = true
          · rw [if_pos e2, if_pos ⟨by omega, e2.2⟩]
          · rw [if_neg e2, if_neg]
            rintro ⟨q1, q2⟩
            exact e2 ⟨by omega, q2⟩
      · show ((vp_updL fr t (bt_l t)) i &&& bt_l l = 0) ↔ _
        by_cases e : i = t
        · subst e
          rw [pk_uLs, bt_one (by omega) hl]
          simp only [in_c, decide_eq_false_iff_not]
          constructor
          · rintro h ⟨q, -⟩; exact h q
          · intro h q; exact h ⟨q, by omega, zl⟩
        · rw [pk_uLn e, g3 i l hi hl]
          simp only [in_c, decide_eq_false_iff_not]
          constructor
          · rintro h ⟨q1, q2, q3⟩; exact h ⟨q1, by omega, q3⟩
          · rintro h ⟨q1, q2, q3⟩; exact h ⟨q1, by omega, q3⟩
    · have zl : ¬ lo t = true := fun q => z ((hk t ht).mpr q)
      rw [hx, nI_1]
      refine ih fu fc fr ⟨fun i l hi hl => ?_, fun j hj => ?_, fun i l hi hl => ?_⟩
      · rw [g1 i l hi hl]
        congr 1
        unfold in_u
        by_cases e2 : i = l ∧ i < t ∧ lo i = true
        · rw [if_pos e2, if_pos ⟨e2.1, by omega, e2.2.2⟩]
        · rw [if_neg e2, if_neg]
          rintro ⟨q1, q2, q3⟩
          by_cases e : i = t
          · subst e; exact zl q3
          · exact e2 ⟨q1, by omega, q3⟩
      · rw [g2 j hj]
        congr 1
        unfold in_a
        by_cases e2 : j < t ∧ lo j = true
        · rw [if_pos e2, if_pos ⟨by omega, e2.2⟩]
        · rw [if_neg e2, if_neg]
          rintro ⟨q1, q2⟩
          by_cases e : j = t
          · subst e; exact zl q2
          · exact e2 ⟨by omega, q2⟩
      · rw [g3 i l hi hl]
        simp only [in_c, decide_eq_false_iff_not]
        constructor
        · rintro h ⟨q1, q2, q3⟩
          by_cases e : i = t
          · subst e; exact zl q3
          · exact h ⟨q1, by omega, q3⟩
        · rintro h ⟨q1, q2, q3⟩; exact h ⟨q1, by omega, q3⟩
  · intro i l hi hl
    show fu (i * 48 + l) = _
    rw [hu _ (nq_lt48 hi hl)]
    simp only [in_u]
    rw [if_neg (by omega)]
    exact nq_0l
  · intro j hj
    show fc j = _
    rw [hc j hj]
    simp only [in_a]
    rw [if_neg (by omega)]
    exact nq_0l
  · intro i l hi hl
    show (fr i &&& bt_l l = 0) ↔ _
    rw [hr i hi]
    simp only [in_c, decide_eq_false_iff_not]
    exact ⟨fun _ => by omega, fun _ => bt_0 hl⟩
/-- the flows in their order, from a start: the units and who has reached whom, or none where one can't happen -/
def rn_f (n : Nat) (fr to am od : Nat → Nat) (s0 : (Nat → Nat → Nat) × (Nat → Nat → Bool)) : Nat → Option ((Nat → Nat → Nat) × (Nat → Nat → Bool))
  | 0 => some s0
  | k + 1 => match rn_f n fr to am od s0 k with
    | none => none
    | some s => if am (od k) = 0 then some s else if su_m (s.1 (fr (od k))) n < am (od k) then none else some (mv_u n (fr (od k)) (to (od k)) (am (od k)) s.1, mv_c n (fr (od k)) (to (od k)) (am (od k)) s.1 s.2)
/-- what has gone from i into drains by the first k flows of an order -/
def ds_f (fr to am od : Nat → Nat) (dn : Nat → Bool) (k i : Nat) : Nat := su_m (fun j => if fr (od j) = i ∧ dn (to (od j)) = true then am (od j) else 0) k
def fl_ok (n m : Nat) (fr to am : Nat → Nat) : Prop := ∀ k, k < m → fr k < n ∧ to k < n ∧ fr k ≠ to k ∧ am k ≤ 1000000
theorem rn_bound {n m : Nat} {fr to am od : Nat → Nat} {s0 : (Nat → Nat → Nat) × (Nat → Nat → Bool)} (hf : fl_ok n m fr to am) (ho : ∀ k, k < m → od k < m) (h0 : ∀ i, su_m (s0.1 i) n ≤ 1000000) : ∀ k s, k ≤ m → rn_f n fr to am od s0 k = some s → ∀ i, su_m (s.1 i) n ≤ 1000000 * (k + 1) := by
  intro k
  induction k with
  | zero => intro s _ h i; rw [rn_f] at h; cases h; have := h0 i; omega
  | succ k ih =>
    intro s hk h i
    rw [rn_f] at h
    cases e : rn_f n fr to am od s0 k with
    | none => rw [e] at h; cases h
    | some t =>
      rw [e] at h
      have b := ih t (by omega) e
      obtain ⟨g1, g2, g3, g4⟩ := hf (od k) (ho k (by omega))
      dsimp only at h
      by_cases c1 : am (od k) = 0
      · rw [if_pos c1] at h; cases h; have := b i; omega
      · rw [if_neg c1] at h
        by_cases c2 : su_m (t.1 (fr (od k))) n < am (od k)
        · rw [if_pos c2] at h; cases h
        · rw [if_neg c2] at h
          cases h
          have r := mv_row (u := t.1) g3 (by omega) (show am (od k) ≤ su_m (t.1 (fr (od k))) n by omega) i
          have b1 := b i
          dsimp only
          split at r <;> split at r <;> omega
/-- in a lot there is nothing but its own -/
theorem rn_lot {n m : Nat} {fr to am od : Nat → Nat} {lo : Nat → Bool} {am0 : Nat → Nat} (ho : ∀ k, k < m → od k < m) (hto : ∀ k, k < m → ¬ lo (to k) = true) : ∀ k s, k ≤ m → rn_f n fr to am od (in_u n lo am0, in_c n lo) k = some s → ∀ i l, lo i = true → l ≠ i → s.1 i l = 0 := by
  intro k
  induction k with
  | zero => intro s _ h i l _ hl; rw [rn_f] at h; cases h; simp [in_u, Ne.symm hl]
  | succ k ih =>
    intro s hk h i l h1 h2
    rw [rn_f] at h
    cases e : rn_f n fr to am od (in_u n lo am0, in_c n lo) k with
    | none => rw [e] at h; cases h
    | some t =>
      rw [e] at h
      have b := ih t (by omega) e i l h1 h2
      have g := hto (od k) (ho k (by omega))
      dsimp only at h
      by_cases c1 : am (od k) = 0
      · rw [if_pos c1] at h; cases h; exact b
      · rw [if_neg c1] at h
        by_cases c2 : su_m (t.1 (fr (od k))) n < am (od k)
        · rw [if_pos c2] at h; cases h
        · rw [if_neg c2] at h
          cases h
          have e3 : i ≠ to (od k) := fun w => g (by rw [← w]; exact h1)
          show mv_u n (fr (od k)) (to (od k)) (am (od k)) t.1 i l = 0
          unfold mv_u
          by_cases c3 : l < n
          · rw [if_pos c3]
            by_cases c4 : i = fr (od k)
            · rw [if_pos c4, b]; exact Nat.zero_sub _
            · rw [if_neg c4, if_neg e3]; exact b
          · rw [if_neg c3]; exact b
theorem in_bound {n : Nat} {lo : Nat → Bool} {am : Nat → Nat} (h : ∀ i, i < n → lo i = true → am i ≤ 1000000) (i : Nat) : su_m (in_u n lo am i) n ≤ 1000000 := by
  rw [in_sum]
  unfold in_a
  split
  · rename_i q; exact h i q.1 q.2
  · omega
theorem sp_replay {post : Int32 → Int32 → (Nat → Int64) → (Nat → Int64) → (Nat → Int64) → (Nat → Int64) → (Nat → Int64) → (Nat → Int32) → (Nat → Int64) → (Nat → Int64) → Prop} {n m : Nat} {pc0 lc : Int32} {fk : Nat → Int32} {fa fu0 fc0 fw0 fd0 fr0 : Nat → Int64} {fe0 : Nat → Int32} {fp0 fq0 : Nat → Int64} {lo : Nat → Bool} {am0 : Nat → Nat} {gf gt go : Nat → Int32} {ga : Nat → Int64} {fr to am od : Nat → Nat} {dn : Nat → Bool}
    (hn : n ≤ 48) (hm : m ≤ 400) (hk : ∀ i, i < n → (fk i = 5 ↔ lo i = true)) (hd : ∀ i, i < n → (fk i = 0 ↔ dn i = true)) (ha : ∀ i, i < n → lo i = true → fa i = lN (am0 i)) (ha2 : ∀ i, i < n → lo i = true → am0 i ≤ 1000000)
    (hf : fl_ok n m fr to am) (hto : ∀ k, k < m → ¬ lo (to k) = true) (ho : ∀ k, k < m → od k < m) (rf : rw_I m gf fr) (rt : rw_I m gt to) (ra : rw_J m ga am) (ro : rw_I m go od)
    (H0 : rn_f n fr to am od (in_u n lo am0, in_c n lo) m = none → ∀ (pc : Int32) (fu fc fw fd fr : Nat → Int64) (fe : Nat → Int32) (fp fq : Nat → Int64), post 0 pc fu fc fw fd fr fe fp fq)
    (H1 : ∀ s, rn_f n fr to am od (in_u n lo am0, in_c n lo) m = some s → ∀ (ca we : Nat → Nat) (pc : Int32) (fu fc fw fd frr : Nat → Int64) (fe : Nat → Int32) (fp fq : Nat → Int64), (∀ i, n ≤ i → we i = 0) → sk_R n s.1 s.2 ca we (ds_f fr to am od dn m) fu fc fw fd frr → post 1 pc fu fc fw fd frr fe fp fq) :
    wp_X3_replay post pc0 (nI n) lc fk fa fu0 fc0 fw0 fd0 fr0 fe0 fp0 fq0 (nI m) gf gt ga go := by
  unfold wp_X3_replay
  refine sp_clear hn hk ha (fun fu fc fw fd frr hR => ?_)
  have none_up : ∀ k, k ≤ m → rn_f n fr to am od (in_u n lo am0, in_c n lo) k = none → rn_f n fr to am od (in_u n lo am0, in_c n lo) m = none := by
    intro k hk
    have : ∀ d, rn_f n fr to am od (in_u n lo am0, in_c n lo) k = none → rn_f n fr to am od (in_u n lo am0, in_c n lo) (k + d) = none := by
      intro d h
      induction d with
      | zero => exact h
      | succ d ih => show rn_f n fr to am od _ (k + d + 1) = none; rw [rn_f, ih]
    intro h
    have := this (m - k) h
    rwa [show k + (m - k) = m by omega] at this
  refine lo_u12 (fun k t pc fu fc fw fd frr fe fp fq (_ : (Nat → Nat → Nat) × (Nat → Nat → Bool)) (_ _ : Nat → Nat) => wb_X3_replay_6 post (nI n) lc fk fa (nI m) gf gt ga go k (nI t) pc fu fc fw fd frr fe fp fq)
    (fun t _ fu fc fw fd frr _ _ _ st ca we => (∀ i, n ≤ i → we i = 0) ∧ rn_f n fr to am od (in_u n lo am0, in_c n lo) t = some st ∧ sk_R n st.1 st.2 ca we (ds_f fr to am od dn t) fu fc fw fd frr) m ?_ ?_ 0
    pc0 fu fc fw fd frr fe0 fp0 fq0 (in_u n lo am0, in_c n lo) (in_a n lo am0) (fun _ => 0) (by omega) ⟨fun _ _ => rfl, rfl, hR⟩
  · intro k pc fu fc fw fd frr fe fp fq st ca we hs
    obtain ⟨g0, g1, g2⟩ := hs
    exact ⟨fun _ => H1 st g1 ca we pc fu fc fw fd frr fe fp fq g0 g2, fun q => absurd (nI_le (Nat.le_refl m) (by omega)) q⟩
  · intro k t pc fu fc fw fd frr fe fp fq st ca we ht hs ih
    obtain ⟨g0, g1, g2⟩ := hs
    have hot := ho t ht
    obtain ⟨f1, f2, f3, f4⟩ := hf (od t) hot
    have hin : vp_in (nI (od t)) 400 := vp_in_nI (by omega) (by omega)
    refine ⟨fun q => absurd q (nI_ge ht (by omega)), fun _ => ⟨vp_in_nI (by omega) (by omega), fun x hx => ?_⟩⟩
    rw [nI_clamp (show t < 2 ^ 31 by omega), ro t ht] at hx
    subst hx
    rw [nI_clamp (show od t < 2 ^ 31 by omega), ra _ hot, rf _ hot, rt _ hot]
    have hds : ∀ i, ds_f fr to am od dn (t + 1) i = ds_f fr to am od dn t i + (if fr (od t) = i ∧ dn (to (od t)) = true then am (od t) else 0) := fun i => rfl
    have hrn : rn_f n fr to am od (in_u n lo am0, in_c n lo) (t + 1) = if am (od t) = 0 then some st else if su_m (st.1 (fr (od t))) n < am (od t) then none else some (mv_u n (fr (od t)) (to (od t)) (am (od t)) st.1, mv_c n (fr (od t)) (to (od t)) (am (od t)) st.1 st.2) := by
      rw [rn_f, g1]
    refine ⟨hin, fun q => ?_, fun q => ⟨hin, hin, hin, ?_⟩⟩
    · have z : am (od t) = 0 := by
        rcases Nat.eq_zero_or_pos (am (od t)) with h | h
        · exact h
        · exact absurd ((nq_pos (by omega)).mpr h) q
      intro x hx
      rw [hx, nI_1]
      refine ih pc fu fc fw fd frr fe fp fq st ca we ⟨g0, by rw [hrn, if_pos z], ?_⟩
      have e : ds_f fr to am od dn (t + 1) = ds_f fr to am od dn t := by
        funext i
        rw [hds i, z]; simp
      rw [e]
      exact g2
    · have z : 0 < am (od t) := (nq_pos (by omega)).mp q
      have bd := rn_bound hf ho (in_bound ha2) t st (by omega) g1 (fr (od t))
      have bd2 : su_m (st.1 (fr (od t))) n ≤ 1000000000 := by
        have : 1000000 * (t + 1) ≤ 1000000 * 401 := Nat.mul_le_mul_left _ (by omega)
        omega
      refine sp_move hn g2 f1 f2 f3 (fun z l _ e => rn_lot ho hto t st (by omega) g1 (fr (od t)) l ((hk _ f1).mp z) e) f4 bd2 (fun w => ⟨fun q => absurd rfl q, fun _ => ?_⟩) (fun w1 w2 pc' fu' fc' fw' fd' fr' fe' fp' fq' hR' => ⟨fun _ x hx => ?_, fun q => absurd q (by decide)⟩)
      · refine H0 (none_up (t + 1) (by omega) ?_) pc fu fc fw fd frr fe fp fq
        rw [hrn, if_neg (by omega), if_pos (by omega)]
      · rw [hx, nI_1]
        refine ih pc' fu' fc' fw' fd' fr' fe' fp' fq' (mv_u n (fr (od t)) (to (od t)) (am (od t)) st.1, mv_c n (fr (od t)) (to (od t)) (am (od t)) st.1 st.2) (fu_up ca (to (od t)) (ca (to (od t)) + am (od t))) (fu_up we (fr (od t)) (we (fr (od t)) + am (od t))) ⟨fun i hi => by rw [fu_n (by omega)]; exact g0 i hi, by rw [hrn, if_neg (by omega), if_neg (by omega)], ?_⟩
        have e : ds_f fr to am od dn (t + 1) = if fk (to (od t)) = 0 then fu_up (ds_f fr to am od dn t) (fr (od t)) (ds_f fr to am od dn t (fr (od t)) + am (od t)) else ds_f fr to am od dn t := by
          funext i
          rw [hds i]
          by_cases c : fk (to (od t)) = 0
          · rw [if_pos c]
            have c2 := (hd _ f2).mp c
            by_cases e : fr (od t) = i
            · subst e; rw [fu_s, if_pos ⟨rfl, c2⟩]
            · rw [fu_n (Ne.symm e), if_neg (fun w => e w.1)]; omega
          · rw [if_neg c, if_neg (fun w => c ((hd _ f2).mpr w.2))]; omega
        rw [e]
        exact hR'
