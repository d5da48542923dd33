/-! THE CLASS: parting and moving -/
theorem pt_fl_le {n : Nat} {x : Nat → Nat} {a v k : Nat} (hk : k ≤ n) : su_m (pt_fl x a v) k ≤ su_m (pt_fl x a v) n := by
  induction n with
  | zero =>
    rw [show k = 0 by omega]
    exact Nat.le_refl _
  | succ n ih =>
    by_cases e : k = n + 1
    · subst e; exact Nat.le_refl _
    · have := ih (by omega)
      simp only [su_m]; omega
theorem su_c_mono {p q : Nat → Bool} {n : Nat} (h : ∀ j, j < n → p j = true → q j = true) : su_c p n ≤ su_c q n := by
  induction n with
  | zero => exact Nat.le_refl _
  | succ n ih =>
    have a := ih (fun j hj => h j (by omega))
    rw [su_c, su_c]
    by_cases e : p n = true
    · rw [if_pos e, if_pos (h n (by omega) e)]; omega
    · rw [if_neg e]; split <;> omega
theorem su_c_has {p : Nat → Bool} {n j : Nat} (hj : j < n) (h : p j = true) : 0 < su_c p n := by
  induction n with
  | zero => omega
  | succ n ih =>
    rw [su_c]
    by_cases e : j = n
    · subst e; rw [if_pos h]; omega
    · have := ih (by omega)
      split <;> omega
/-- which lots are there, in their order -/
def pr_q (x : Nat → Nat) (a : Nat) : Nat → Bool := fun l => decide (0 < x l * a)
def pr_ok (n m : Nat) (q : Nat → Bool) (pr : Nat → Nat) : Prop := (∀ j, j < m → pr j < n ∧ q (pr j) = true) ∧ (∀ i j, i < j → j < m → pr i < pr j) ∧ ∀ l, l < n → q l = true → ∃ j, j < m ∧ pr j = l
theorem pr_ok.no {n m : Nat} {q : Nat → Bool} {pr : Nat → Nat} (h : pr_ok n m q pr) (hq : q n = false) : pr_ok (n + 1) m q pr := by
  obtain ⟨h1, h2, h3⟩ := h
  refine ⟨fun j hj => ⟨by have := (h1 j hj).1; omega, (h1 j hj).2⟩, h2, fun l hl e => ?_⟩
  by_cases c : l = n
  · rw [c, hq] at e; cases e
  · exact h3 l (by omega) e
theorem pr_ok.yes {n m : Nat} {q : Nat → Bool} {pr : Nat → Nat} (h : pr_ok n m q pr) (hq : q n = true) : pr_ok (n + 1) (m + 1) q (fu_up pr m n) := by
  obtain ⟨h1, h2, h3⟩ := h
  refine ⟨fun j hj => ?_, fun i j hij hj => ?_, fun l hl e => ?_⟩
  · by_cases c : j = m
    · rw [c, fu_s]; exact ⟨by omega, hq⟩
    · rw [fu_n c]; exact ⟨by have := (h1 j (by omega)).1; omega, (h1 j (by omega)).2⟩
  · by_cases c : j = m
    · rw [c, fu_s, fu_n (by omega)]; exact (h1 i (by omega)).1
    · rw [fu_n c, fu_n (by omega)]; exact h2 i j hij (by omega)
  · by_cases c : l = n
    · exact ⟨m, by omega, by rw [fu_s]; exact c.symm⟩
    · obtain ⟨j, hj, ej⟩ := h3 l (by omega) e
      exact ⟨j, by omega, by rw [fu_n (by omega)]; exact ej⟩
theorem pr_ok.inj {n m : Nat} {q : Nat → Bool} {pr : Nat → Nat} (h : pr_ok n m q pr) {i j : Nat} (hi : i < m) (hj : j < m) (e : pr i = pr j) : i = j := by
  rcases Nat.lt_trichotomy i j with w | w | w
  · have := h.2.1 i j w hj; omega
  · exact w
  · have := h.2.1 j i w hi; omega
theorem be_pr {n m : Nat} {r : Nat → Int} {q : Nat → Bool} {pr : Nat → Nat} (h : pr_ok n m q pr) (hr : ∀ l, l < n → 0 < r l → q l = true) (hp : 0 < ps_n r n) : 0 < m ∧ 0 < ps_n (fun j => r (pr j)) m ∧ be_f (fun j => r (pr j)) m < m ∧ pr (be_f (fun j => r (pr j)) m) = be_f r n := by
  obtain ⟨h1, h2, h3⟩ := h
  obtain ⟨l0, k1, k2⟩ := su_c_pos hp
  have k2 : 0 < r l0 := by simpa using k2
  obtain ⟨j0, g1, g2⟩ := h3 l0 k1 (hr l0 k1 k2)
  have m0 : 0 < m := by omega
  obtain ⟨b1, b2, b3⟩ := be_spec (fun j => r (pr j)) m0
  have p0 : 0 < ps_n (fun j => r (pr j)) m := su_c_has g1 (decide_eq_true (show 0 < r (pr j0) by rw [g2]; exact k2))
  generalize be_f (fun j => r (pr j)) m = B at b1 b2 b3 ⊢
  have c0 : r (pr j0) ≤ r (pr B) := b2 j0 g1
  rw [g2] at c0
  refine ⟨m0, p0, b1, (be_uniq r (h1 _ b1).1 (fun l hl => ?_) (fun l hl => ?_)).symm⟩
  · by_cases c : q l = true
    · obtain ⟨j, e1, e2⟩ := h3 l hl c
      have w : r (pr j) ≤ r (pr B) := b2 j e1
      rw [e2] at w
      exact w
    · have : ¬ 0 < r l := fun w => c (hr l hl w)
      omega
  · have hl2 : l < n := by have := (h1 _ b1).1; omega
    by_cases c : q l = true
    · obtain ⟨j, e1, e2⟩ := h3 l hl2 c
      rcases Nat.lt_trichotomy j B with w | w | w
      · have w2 : r (pr j) < r (pr B) := b3 j w
        rw [e2] at w2
        exact w2
      · rw [w] at e2; omega
      · have := h2 _ _ w e1
        omega
    · have : ¬ 0 < r l := fun w => c (hr l hl2 w)
      omega
theorem sp_part {post : Int32 → (Nat → Int32) → (Nat → Int64) → (Nat → Int64) → Prop} {n : Nat} {pc lc : Int32} {fu : Nat → Int64} {fe0 : Nat → Int32} {fp0 fr0 : Nat → Int64} {i : Nat} {x : Nat → Nat} {a v : Nat} (hn : n ≤ 48) (hi : i < 48) (hx : ∀ l, l < n → fu (i * 48 + l) = lN (x l)) (hv : v = su_m x n) (h0 : 0 < v) (ha : a ≤ v) (ha2 : a ≤ 1000000) (hv2 : v ≤ 1000000000)
    (H : ∀ (m : Nat) (pr : Nat → Nat) (fe : Nat → Int32) (fp fr : Nat → Int64), m ≤ n → pr_ok n m (pr_q x a) pr → (∀ j, j < m → fe j = nI (pr j)) → (∀ j, j < m → fp j = lN (pt_f n x a v (pr j))) → post (nI m) fe fp fr) : wp_X3_part post pc (nI n) lc fu fe0 fp0 fr0 (nI i) (lN v) (lN a) := by
  obtain ⟨hs1, hs2⟩ := pt_sums hv h0 ha
  have hpn : ps_n (pt_rs x a v) n ≤ n := su_c_le _ _
  have hxv : ∀ l, l < n → x l ≤ v := fun l hl => by rw [hv]; exact su_at hl
  unfold wp_X3_part
  refine ⟨fun _ => ?_, fun q => absurd ((nq_pos (by omega)).mpr h0) q⟩
  refine lo_u4 (fun k t fe fp fr (_ : Nat → Nat) => wb_X3_part_19 post (nI n) lc fu k (nI i) (lN v) (lN a) (lN (a - su_m (pt_fl x a v) t)) (nI t) (nI (su_c (pr_q x a) t)) fe fp fr)
    (fun t fe fp fr pr => pr_ok t (su_c (pr_q x a) t) (pr_q x a) pr ∧ (∀ j, j < su_c (pr_q x a) t → fe j = nI (pr j)) ∧ (∀ j, j < su_c (pr_q x a) t → fp j = lN (pt_fl x a v (pr j))) ∧ ∀ j, j < su_c (pr_q x a) t → fr j = lN (x (pr j) * a % v)) n ?_ ?_ 0 fe0 fp0 fr0 (fun _ => 0) (by omega)
    ⟨⟨fun j hj => absurd hj (Nat.not_lt_zero j), fun i j _ hj => absurd hj (Nat.not_lt_zero j), fun l hl => absurd hl (Nat.not_lt_zero l)⟩, fun j hj => absurd hj (Nat.not_lt_zero j), fun j hj => absurd hj (Nat.not_lt_zero j), fun j hj => absurd hj (Nat.not_lt_zero j)⟩
  · -- the units left over
    intro k fe fp fr pr hs
    obtain ⟨g0, gE, g1, g2⟩ := hs
    refine ⟨fun _ => ?_, fun q => absurd (nI_le (Nat.le_refl n) (by omega)) q⟩
    have hm : su_c (pr_q x a) n ≤ n := su_c_le _ _
    have hmp : ps_n (pt_rs x a v) n ≤ su_c (pr_q x a) n := su_c_mono (fun j _ hp => by
      have hp : 0 < pt_rs x a v j := by simpa using hp
      have hp2 : 0 < x j * a % v := Int.natCast_pos.mp (show (0 : Int) < ((x j * a % v : Nat) : Int) from hp)
      refine decide_eq_true ?_
      rcases Nat.eq_zero_or_pos (x j * a) with e | e
      · rw [e, Nat.zero_mod] at hp2; omega
      · exact e)
    generalize su_c (pr_q x a) n = m at g0 gE g1 g2 hm hmp ⊢
    have ho : pt_ov n x a v ≤ m := by omega
    refine lo_u4 (fun k t fp fr (_ : Nat → Nat) (_ : Nat → Int) => wb_X3_part_120 post (nI n) lc fu k (lN (pt_ov n x a v - t)) (nI t) (nI m) fe fp fr)
      (fun t fp fr p r => (∀ j, j < m → fp j = lN (p (pr j))) ∧ rs_R m fr (fun j => r (pr j)) ∧ (∀ l, l < n → 0 < r l → pr_q x a l = true) ∧ pt_ov n x a v - t ≤ ps_n r n ∧ sv_f n (pt_ov n x a v - t) p r = pt_f n x a v) (pt_ov n x a v) ?_ ?_ 0 fp fr (pt_fl x a v) (pt_rs x a v) (by omega) ⟨g1, fun j hj => ⟨x (pr j) * a % v, ?_, g2 j hj, Or.inl rfl⟩, fun l _ hp => ?_, hs2, rfl⟩
    · intro k fp fr p r hs
      obtain ⟨q1, q2, q0, q3, q4⟩ := hs
      rw [Nat.sub_self] at q4
      have e : p = pt_f n x a v := q4
      have fin : post (nI m) fe fp fr := H m pr fe fp fr hm g0 gE (by rw [← e]; exact q1)
      refine ⟨fun _ => fin, fun _ => ⟨fun _ => fin, fun q => absurd ((nq_pos (by omega)).mp q) (by omega)⟩⟩
    · intro k t fp fr p r ht hs ih
      obtain ⟨q1, q2, q0, q3, q4⟩ := hs
      refine ⟨fun q => absurd q (nI_ge (by omega) (by omega)), fun _ => ⟨fun q => absurd ((nq_pos (by omega)).mpr (by omega)) q, fun _ => ?_⟩⟩
      have hp : 0 < ps_n r n := by omega
      obtain ⟨b1, b2⟩ := ps_best hp
      obtain ⟨m0, p0, c1, c2⟩ := be_pr g0 q0 hp
      refine sp_rest m0 (by omega) q2 p0 ?_
      generalize be_f (fun j => r (pr j)) m = B at c1 c2 ⊢
      have hin : vp_in (nI B) 48 := vp_in_nI (by omega) (by omega)
      rw [nI_clamp (show B < 2 ^ 31 by omega)]
      refine ⟨hin, hin, fun f1 e1 => ⟨hin, fun f2 e2 x1 ex1 x2 ex2 => ?_⟩⟩
      have es : pt_ov n x a v - t = (pt_ov n x a v - (t + 1)) + 1 := by omega
      rw [ex1, ex2, nI_1, es, nq_lm1 (by omega), Nat.add_sub_cancel]
      have ne : ∀ j, j < m → j ≠ B → pr j ≠ be_f r n := fun j hj w z => w (g0.inj hj c1 (z.trans c2.symm))
      refine ih f1 f2 (fu_up p (be_f r n) (p (be_f r n) + 1)) (sv_r r (be_f r n)) ⟨fun j hj => ?_, fun j hj => ?_, fun l hl w => ?_, ?_, ?_⟩
      · by_cases e : j = B
        · rw [e1, e, pk_uLs, q1 B c1, lN_1, c2, fu_s]
        · rw [e1, pk_uLn e, fu_n (ne j hj e)]; exact q1 j hj
      · by_cases e : j = B
        · refine ⟨0, by omega, ?_, Or.inr ⟨?_, rfl⟩⟩
          · rw [e2, e, pk_uLs]; exact nq_0l
          · show sv_r r (be_f r n) (pr j) = -1
            rw [e, c2]; simp [sv_r]
        · obtain ⟨w, w1, w2, w3⟩ := q2 j hj
          refine ⟨w, w1, ?_, ?_⟩
          · rw [e2, pk_uLn e]; exact w2
          · have z : sv_r r (be_f r n) (pr j) = r (pr j) := by simp [sv_r, ne j hj e]
            show sv_r r (be_f r n) (pr j) = _ ∨ (sv_r r (be_f r n) (pr j) = -1 ∧ w = 0)
            rw [z]; exact w3
      · refine q0 l hl ?_
        by_cases e : l = be_f r n
        · rw [e] at w
          have z : sv_r r (be_f r n) (be_f r n) = -1 := by simp [sv_r]
          rw [z] at w; omega
        · have z : sv_r r (be_f r n) l = r l := by simp [sv_r, e]
          rw [z] at w; exact w
      · have := ps_drop b1 b2
        show _ ≤ ps_n (sv_r r (be_f r n)) n
        omega
      · rw [← q4, es, sv_f]
    · have := Nat.mod_lt (x (pr j) * a) h0
      omega
    · have hp2 : 0 < x l * a % v := Int.natCast_pos.mp (show (0 : Int) < ((x l * a % v : Nat) : Int) from hp)
      refine decide_eq_true ?_
      rcases Nat.eq_zero_or_pos (x l * a) with e | e
      · rw [e, Nat.zero_mod] at hp2; omega
      · exact e
  · -- one lot's portion and rest
    intro k t fe fp fr pr ht hs ih
    obtain ⟨g0, gE, g1, g2⟩ := hs
    have hM : su_c (pr_q x a) t ≤ t := su_c_le _ _
    refine ⟨fun q => absurd q (nI_ge ht (by omega)), fun _ => ?_⟩
    refine sp_unitsOf hi (by omega) ?_
    rw [hx t ht]
    intro z ez
    have hz : ¬ lN v = 0 := by
      intro q
      rw [nq_0l, pk_lEQ (by omega) (by omega)] at q
      omega
    have hb : x t * a < 2 ^ 63 := by
      have h1 : x t * a ≤ 1000000000 * 1000000 := Nat.mul_le_mul (by have := hxv t ht; omega) ha2
      omega
    have ezz : z = lN (x t * a) := by rw [ez, lN_mul]
    rw [ezz]
    refine ⟨fun w => ?_, fun w => ?_⟩
    · have z0 : x t * a = 0 := by
        rcases Nat.eq_zero_or_pos (x t * a) with h | h
        · exact h
        · exact absurd ((nq_pos hb).mpr h) w
      have q0 : pr_q x a t = false := decide_eq_false (by omega)
      have e1 : su_c (pr_q x a) (t + 1) = su_c (pr_q x a) t := by rw [su_c, q0]; rfl
      have e2 : su_m (pt_fl x a v) (t + 1) = su_m (pt_fl x a v) t := by
        have e3 : pt_fl x a v t = 0 := by
          show x t * a / v = 0
          rw [z0, Nat.zero_div]
        rw [su_m, e3]; rfl
      unfold wb_X3_part_111
      intro y hy
      rw [hy, nI_1]
      have this := ih fe fp fr pr (by rw [e1]; exact ⟨g0.no q0, gE, g1, g2⟩)
      rw [e1, e2] at this
      exact this
    · have w0 : 0 < x t * a := (nq_pos hb).mp w
      have q1 : pr_q x a t = true := decide_eq_true w0
      have e1 : su_c (pr_q x a) (t + 1) = su_c (pr_q x a) t + 1 := by rw [su_c, if_pos q1]
      have hin : vp_in (nI (su_c (pr_q x a) t)) 48 := vp_in_nI (by omega) (by omega)
      refine ⟨hin, fun f0 e0 => ⟨hz, hin, fun f1 e3 => ⟨hz, hin, fun f2 e4 => ⟨hin, fun x1 ex1 v1 ev1 => ?_⟩⟩⟩⟩
      rw [nI_clamp (show su_c (pr_q x a) t < 2 ^ 31 by omega)] at e0 e3 e4 ex1
      rw [pk_lDiv hb h0 (by omega)] at e3
      rw [pk_lRem hb h0 (by omega)] at e4
      rw [e3, pk_uLs] at ex1
      have hle : su_m (pt_fl x a v) (t + 1) ≤ a := Nat.le_trans (pt_fl_le (by omega)) hs1
      have hle2 : su_m (pt_fl x a v) t + pt_fl x a v t ≤ a := hle
      have e5 : lN (a - su_m (pt_fl x a v) t) - lN (x t * a / v) = lN (a - su_m (pt_fl x a v) (t + 1)) := by
        have : x t * a / v = pt_fl x a v t := rfl
        rw [this, lN_sub (by omega)]
        congr 1
        simp only [su_m]; omega
      unfold wb_X3_part_111
      intro y hy
      rw [hy, nI_1, ev1, nI_1, ex1, e5, ← e1]
      refine ih f0 f1 f2 (fu_up pr (su_c (pr_q x a) t) t) ?_
      rw [e1]
      refine ⟨g0.yes q1, fun j hj => ?_, fun j hj => ?_, fun j hj => ?_⟩
      · by_cases e : j = su_c (pr_q x a) t
        · rw [e, e0, pk_us, fu_s]
        · rw [e0, pk_un e, fu_n e]; exact gE j (by omega)
      · by_cases e : j = su_c (pr_q x a) t
        · rw [e, e3, pk_uLs, fu_s]; rfl
        · rw [e3, pk_uLn e, fu_n e]; exact g1 j (by omega)
      · by_cases e : j = su_c (pr_q x a) t
        · rw [e, e4, pk_uLs, fu_s]
        · rw [e4, pk_uLn e, fu_n e]; exact g2 j (by omega)
/-- a unit or more of a lot is carried -/
def cy_u (fr to l q : Nat) (u : Nat → Nat → Nat) : Nat → Nat → Nat := fun i b => if b = l then (if i = fr then u i b - q else if i = to then u i b + q else u i b) else u i b
def cy_c (to l q : Nat) (c : Nat → Nat → Bool) : Nat → Nat → Bool := fun i b => c i b || (decide (i = to) && (decide (b = l) && decide (0 < q)))
theorem sp_carry {post : (Nat → Int64) → (Nat → Int64) → Prop} {pc : Int32} {fu fb : Nat → Int64} {u : Nat → Nat → Nat} {c : Nat → Nat → Bool} {fr to l q : Nat} (hf : fr < 48) (ht : to < 48) (hl : l < 48) (hft : fr ≠ to) (rU : rw_U fu u) (rB : rw_B fb c) (hq : q ≤ u fr l) (hq2 : q < 2 ^ 62) (H : ∀ fu' fb' : Nat → Int64, rw_U fu' (cy_u fr to l q u) → rw_B fb' (cy_c to l q c) → post fu' fb') : wp_X3_carry post pc fu fb (nI fr) (nI to) (nI l) (lN q) := by
  unfold wp_X3_carry
  have l1 := nq_lt48 hf hl
  have l2 := nq_lt48 ht hl
  rw [nq_ic, nq_ic, nI_clamp (show fr * 48 + l < 2 ^ 31 by omega), nI_clamp (show to * 48 + l < 2 ^ 31 by omega), nI_clamp (show to < 2 ^ 31 by omega)]
  refine ⟨fun w => H _ _ (fun i b hi hb => ?_) (fun i b hi hb => ?_), fun w => ?_⟩
  · have z : q = 0 := by
      rcases Nat.eq_zero_or_pos q with h | h
      · exact h
      · exact absurd ((nq_pos (by omega)).mpr h) w
    rw [rU i b hi hb]
    congr 1
    simp [cy_u, z]
  · have z : q = 0 := by
      rcases Nat.eq_zero_or_pos q with h | h
      · exact h
      · exact absurd ((nq_pos (by omega)).mpr h) w
    rw [rB i b hi hb]
    simp [cy_c, z]
  · have z : 0 < q := (nq_pos (by omega)).mp w
    have i1 : vp_in (nI (fr * 48 + l)) 2304 := vp_in_nI l1 (by omega)
    have i2 : vp_in (nI (to * 48 + l)) 2304 := vp_in_nI l2 (by omega)
    have i4 : vp_in (nI to) 48 := vp_in_nI (by omega) (by omega)
    refine ⟨i1, i1, fun f1 e1 => ⟨i2, i2, fun f2 e2 => ⟨i4, i4, fun f3 e3 => ?_⟩⟩⟩
    rw [rU fr l hf hl, lN_sub hq] at e1
    have a2 : f1 (to * 48 + l) = lN (u to l) := by rw [e1, pk_uLn (by omega)]; exact rU to l ht hl
    rw [a2, lN_add, e1] at e2
    have w1 := rw_U.up rU (i := fr) (l := l) (u fr l - q) hl
    have w2 := rw_U.up w1 (i := to) (l := l) (u to l + q) hl
    have w3 := rw_B.up rB (i := to) (l := l) ht hl
    refine H f2 f3 (fun i b hi hb => ?_) (fun i b hi hb => ?_)
    · have hh := w2 i b hi hb
      rw [e2, hh]
      congr 1
      by_cases e : b = l
      · subst e
        by_cases e4 : i = to
        · subst e4; rw [u2_s]; simp [cy_u, Ne.symm hft]
        · rw [u2_n (fun y => e4 y.1)]
          by_cases e5 : i = fr
          · subst e5; rw [u2_s]; simp [cy_u]
          · rw [u2_n (fun y => e5 y.1)]; simp [cy_u, e4, e5]
      · rw [u2_n (fun y => e y.2), u2_n (fun y => e y.2)]; simp [cy_u, e]
    · have hh := w3 i b hi hb
      rw [e3, hh]
      have : c2_up c to l i b = cy_c to l q c i b := by
        unfold c2_up cy_c
        by_cases e : i = to ∧ b = l
        · rw [if_pos e]; simp [e.1, e.2, z]
        · rw [if_neg e]
          by_cases e6 : i = to
          · have e7 : b ≠ l := fun y => e ⟨e6, y⟩
            simp [e7]
          · simp [e6]
      rw [this]
/-- a node's kind is asked -/
theorem sp_has {post : Int32 → Prop} {n : Nat} {lc p : Int32} (hn : n ≤ 48) (H1 : ∀ i, i < n → p = nI i → post 1) (H0 : (p < 0 ∨ nI n ≤ p) → post 0) : wp_X1_has post (nI n) lc p := by
  unfold wp_X1_has
  refine ⟨fun q => H0 (Or.inl q), fun q => ⟨fun q2 => H0 (Or.inr q2), fun q2 => ?_⟩⟩
  rcases pk_ix p (show n < 2 ^ 31 by omega) with h | h | ⟨j, hj, e⟩
  · exact absurd h q
  · exact absurd h q2
  · exact H1 j hj e
theorem sp_has1 {post : Int32 → Prop} {n i : Nat} {lc : Int32} (hn : n ≤ 48) (hi : i < n) (H : post 1) : wp_X1_has post (nI n) lc (nI i) :=
  sp_has hn (fun _ _ _ => H) (fun h => by
    rcases h with h | h
    · exact absurd h (nI_pos (by omega))
    · exact absurd h (nI_ge hi (by omega)))
theorem sp_isDrain1 {post : Int32 → Prop} {n i : Nat} {lc : Int32} {fk : Nat → Int32} (hn : n ≤ 48) (hi : i < n) (H1 : fk i = 0 → post 1) (H0 : ¬ fk i = 0 → post 0) : wp_X1_isDrain post (nI n) lc fk (nI i) := by
  unfold wp_X1_isDrain
  refine sp_has1 hn hi ⟨fun q => absurd q (by decide), fun _ => ⟨vp_in_nI (by omega) (by omega), ?_⟩⟩
  rw [nI_clamp (show i < 2 ^ 31 by omega)]
  exact ⟨H0, H1⟩
theorem sp_isLot1 {post : Int32 → Prop} {n i : Nat} {lc : Int32} {fk : Nat → Int32} (hn : n ≤ 48) (hi : i < n) (H1 : fk i = 5 → post 1) (H0 : ¬ fk i = 5 → post 0) : wp_X1_isLot post (nI n) lc fk (nI i) := by
  unfold wp_X1_isLot
  refine sp_has1 hn hi ⟨fun q => absurd q (by decide), fun _ => ⟨vp_in_nI (by omega) (by omega), ?_⟩⟩
  rw [nI_clamp (show i < 2 ^ 31 by omega)]
  exact ⟨H0, H1⟩
/-- the class's stock: what its rows hold -/
def sk_R (n : Nat) (u : Nat → Nat → Nat) (c : Nat → Nat → Bool) (ca we dr : Nat → Nat) (fu fc fw fd fr : Nat → Int64) : Prop :=
  rw_U fu u ∧ rw_J 48 fc ca ∧ rw_J 48 fw we ∧ rw_J 48 fd dr ∧ rw_B fr c ∧ ∀ i, i < 48 → ca i = we i + su_m (u i) n
theorem mv_row {n fr to a : Nat} {u : Nat → Nat → Nat} (hft : fr ≠ to) (h0 : 0 < su_m (u fr) n) (ha : a ≤ su_m (u fr) n) (i : Nat) : su_m (mv_u n fr to a u i) n + (if i = fr then a else 0) = su_m (u i) n + (if i = to then a else 0) := by
  have hs : su_m (mv_p n fr a u) n = a := pt_sum rfl h0 ha
  have hl : ∀ l, l < n → mv_p n fr a u l ≤ u fr l := fun l hl => pt_le rfl h0 ha hl
  by_cases e : i = fr
  · subst e
    rw [if_pos rfl, if_neg hft]
    have e1 : su_m (mv_u n i to a u i) n = su_m (fun l => u i l - mv_p n i a u l) n := su_congr fun j hj => by simp [mv_u, hj]
    have e2 := su_sub (f := u i) (g := mv_p n i a u) (n := n) hl
    rw [e1]; omega
  · rw [if_neg e]
    by_cases e3 : i = to
    · subst e3
      rw [if_pos rfl]
      have e1 : su_m (mv_u n fr i a u i) n = su_m (fun l => u i l + mv_p n fr a u l) n := su_congr fun j hj => by simp [mv_u, hj, e]
      rw [e1, su_add]; omega
    · rw [if_neg e3]
      have e1 : su_m (mv_u n fr to a u i) n = su_m (u i) n := su_congr fun j hj => by simp [mv_u, hj, e, e3]
      rw [e1]
def mx_u (n fr to a : Nat) (u : Nat → Nat → Nat) (t : Nat) : Nat → Nat → Nat := fun i l => if l < t then mv_u n fr to a u i l else u i l
def mx_c (n fr to a : Nat) (u : Nat → Nat → Nat) (c : Nat → Nat → Bool) (t : Nat) : Nat → Nat → Bool := fun i l => if l < t then mv_c n fr to a u c i l else c i l
theorem su_one {f : Nat → Nat} {n k : Nat} (hk : k < n) (h : ∀ j, j < n → j ≠ k → f j = 0) : su_m f n = f k := by
  induction n with
  | zero => omega
  | succ n ih =>
    rw [su_m]
    by_cases e : k = n
    · subst e; rw [su_zero fun j hj => h j (by omega) (by omega)]; omega
    · rw [ih (by omega) (fun j hj => h j (by omega)), h n (by omega) (by omega)]; omega
/-- a lot gives of itself alone -/
theorem mv_lot {n fr a : Nat} {u : Nat → Nat → Nat} (hf : fr < n) (h : ∀ l, l < n → l ≠ fr → u fr l = 0) (h0 : 0 < su_m (u fr) n) (ha : a ≤ su_m (u fr) n) {l : Nat} (hl : l < n) : mv_p n fr a u l = if l = fr then a else 0 := by
  have hle : ∀ l, l < n → mv_p n fr a u l ≤ u fr l := fun l hl => pt_le rfl h0 ha hl
  have hs : su_m (mv_p n fr a u) n = a := pt_sum rfl h0 ha
  have z : ∀ j, j < n → j ≠ fr → mv_p n fr a u j = 0 := fun j hj e => by
    have := hle j hj
    rw [h j hj e] at this
    omega
  have o := su_one hf z
  by_cases e : l = fr
  · rw [if_pos e, e]; exact o.symm.trans hs
  · rw [if_neg e]; exact z l hl e
theorem mx_shu {n fr to a s s' : Nat} {u : Nat → Nat → Nat} (hs : s ≤ s') (h : ∀ l, s ≤ l → l < s' → l < n → mv_p n fr a u l = 0) (i l : Nat) : mx_u n fr to a u s i l = mx_u n fr to a u s' i l := by
  unfold mx_u
  by_cases e : l < s
  · rw [if_pos e, if_pos (by omega)]
  · rw [if_neg e]
    by_cases e2 : l < s'
    · rw [if_pos e2]
      by_cases e3 : l < n
      · simp [mv_u, e3, h l (by omega) e2 e3]
      · simp [mv_u, e3]
    · rw [if_neg e2]
theorem mx_shc {n fr to a s s' : Nat} {u : Nat → Nat → Nat} {c : Nat → Nat → Bool} (hs : s ≤ s') (h : ∀ l, s ≤ l → l < s' → l < n → mv_p n fr a u l = 0) (i l : Nat) : mx_c n fr to a u c s i l = mx_c n fr to a u c s' i l := by
  unfold mx_c
  by_cases e : l < s
  · rw [if_pos e, if_pos (by omega)]
  · rw [if_neg e]
    by_cases e2 : l < s'
    · rw [if_pos e2]
      by_cases e3 : l < n
      · simp [mv_c, h l (by omega) e2 e3]
      · simp [mv_c, e3]
    · rw [if_neg e2]
theorem cy_mxu {n fr to a p : Nat} {u : Nat → Nat → Nat} (hp : p < n) (i b : Nat) : cy_u fr to p (mv_p n fr a u p) (mx_u n fr to a u p) i b = mx_u n fr to a u (p + 1) i b := by
  by_cases e : b = p
  · subst e; simp [cy_u, mx_u, mv_u, hp]
  · have e6 : b < p + 1 ↔ b < p := by omega
    simp [cy_u, mx_u, e, e6]
theorem cy_mxc {n fr to a p : Nat} {u : Nat → Nat → Nat} {c : Nat → Nat → Bool} (hp : p < n) (i b : Nat) : cy_c to p (mv_p n fr a u p) (mx_c n fr to a u c p) i b = mx_c n fr to a u c (p + 1) i b := by
  by_cases e : b = p
  · subst e; simp [cy_c, mx_c, mv_c, hp]
  · have e6 : b < p + 1 ↔ b < p := by omega
    simp [cy_c, mx_c, e, e6]
theorem sp_move {post : Int32 → Int32 → (Nat → Int64) → (Nat → Int64) → (Nat → Int64) → (Nat → Int64) → (Nat → Int64) → (Nat → Int32) → (Nat → Int64) → (Nat → Int64) → Prop} {n : Nat} {pc lc : Int32} {fk : Nat → Int32} {fu fc fw fd frr : Nat → Int64} {fe0 : Nat → Int32} {fp0 fr0 : Nat → Int64} {u : Nat → Nat → Nat} {c : Nat → Nat → Bool} {ca we dr : Nat → Nat} {fr to a : Nat}
    (hn : n ≤ 48) (hR : sk_R n u c ca we dr fu fc fw fd frr) (hf : fr < n) (ht : to < n) (hft : fr ≠ to) (hlot : fk fr = 5 → ∀ l, l < n → l ≠ fr → u fr l = 0) (ha2 : a ≤ 1000000) (hv2 : su_m (u fr) n ≤ 1000000000)
    (H0 : (su_m (u fr) n = 0 ∨ su_m (u fr) n < a) → post 0 pc fu fc fw fd frr fe0 fp0 fr0)
    (H1 : 0 < su_m (u fr) n → a ≤ su_m (u fr) n → ∀ (pc' : Int32) (fu' fc' fw' fd' fr' : Nat → Int64) (fe' : Nat → Int32) (fp' fq' : Nat → Int64), sk_R n (mv_u n fr to a u) (mv_c n fr to a u c) (fu_up ca to (ca to + a)) (fu_up we fr (we fr + a)) (if fk to = 0 then fu_up dr fr (dr fr + a) else dr) fu' fc' fw' fd' fr' → post 1 pc' fu' fc' fw' fd' fr' fe' fp' fq') :
    wp_X3_move post pc (nI n) lc fk fu fc fw fd frr fe0 fp0 fr0 (nI fr) (nI to) (lN a) := by
  obtain ⟨rU, rC, rW, rD, rB, rS⟩ := hR
  unfold wp_X3_move
  refine sp_unitsIn (by omega) ?_
  have e0 : fc fr - fw fr = lN (su_m (u fr) n) := by
    rw [rC fr (by omega), rW fr (by omega), lN_sub (by have := rS fr (by omega); omega)]
    congr 1
    have := rS fr (by omega)
    omega
  rw [e0]
  have zz : ¬ (0 : Int64) < lN (su_m (u fr) n) → su_m (u fr) n = 0 := fun q => by
    rcases Nat.eq_zero_or_pos (su_m (u fr) n) with h | h
    · exact h
    · exact absurd ((nq_pos (by omega)).mpr h) q
  refine ⟨fun q => H0 (Or.inl (zz q)), fun q => ⟨fun q2 => ?_, fun q2 => H0 (Or.inr ((pk_lLT (by omega) (by omega)).mp q2))⟩⟩
  have h0 : 0 < su_m (u fr) n := (nq_pos (by omega)).mp q
  have hav : a ≤ su_m (u fr) n := by
    rcases Nat.lt_or_ge (su_m (u fr) n) a with h | h
    · exact absurd ((pk_lLT (by omega) (by omega)).mpr h) q2
    · exact h
  have hpl : ∀ l, l < n → mv_p n fr a u l ≤ u fr l := fun l hl => pt_le rfl h0 hav hl
  have hul : ∀ l, l < n → u fr l ≤ 1000000000 := fun l hl => Nat.le_trans (su_at hl) hv2
  have hin1 : vp_in (nI fr) 48 := vp_in_nI (by omega) (by omega)
  have hin2 : vp_in (nI to) 48 := vp_in_nI (by omega) (by omega)
  -- behind the lots
  have fin : ∀ (pc' : Int32) (fu' fr' : Nat → Int64) (fe' : Nat → Int32) (fp' fq' : Nat → Int64), rw_U fu' (mv_u n fr to a u) → rw_B fr' (mv_c n fr to a u c) → wb_X3_move_91 post (nI n) lc fk (nI fr) (nI to) (lN a) pc' fu' fc fw fd fr' fe' fp' fq' := by
    intro pc' fu' fr' fe' fp' fq' gU gB
    unfold wb_X3_move_91
    rw [nI_clamp (show fr < 2 ^ 31 by omega), nI_clamp (show to < 2 ^ 31 by omega)]
    refine ⟨hin1, hin1, fun f1 e1 => ⟨hin2, hin2, fun f2 e2 => ?_⟩⟩
    have gC : rw_J 48 f2 (fu_up ca to (ca to + a)) := by rw [e2, rC to (by omega), lN_add]; exact rC.up _ _
    have gW : rw_J 48 f1 (fu_up we fr (we fr + a)) := by rw [e1, rW fr (by omega), lN_add]; exact rW.up _ _
    have gS : ∀ i, i < 48 → fu_up ca to (ca to + a) i = fu_up we fr (we fr + a) i + su_m (mv_u n fr to a u i) n := by
      intro i hi
      have r := mv_row hft h0 hav i
      have s := rS i hi
      by_cases e : i = fr
      · subst e
        rw [fu_n hft, fu_s]
        rw [if_pos rfl, if_neg hft] at r
        omega
      · rw [fu_n e]
        rw [if_neg e] at r
        by_cases e3 : i = to
        · subst e3; rw [fu_s]; rw [if_pos rfl] at r; omega
        · rw [fu_n e3]; rw [if_neg e3] at r; omega
    refine sp_isDrain1 hn ht (fun z => ⟨fun q => absurd q (by decide), fun _ => ⟨hin1, hin1, fun f3 e3 => ?_⟩⟩) (fun z => ⟨fun _ => ?_, fun q => absurd rfl q⟩)
    · refine H1 h0 hav pc' fu' f2 f1 f3 fr' fe' fp' fq' ⟨gU, gC, gW, ?_, gB, gS⟩
      rw [if_pos z, e3, rD fr (by omega), lN_add]
      exact rD.up _ _
    · refine H1 h0 hav pc' fu' f2 f1 fd fr' fe' fp' fq' ⟨gU, gC, gW, ?_, gB, gS⟩
      rw [if_neg z]; exact rD
  refine sp_isLot1 hn hf (fun z5 => ⟨fun q => absurd q (by decide), fun _ => ?_⟩) (fun z5 => ⟨fun _ => ?_, fun q => absurd rfl q⟩)
  · -- from a lot
    have hl0 := hlot z5
    have hml : ∀ l, l < n → mv_p n fr a u l = if l = fr then a else 0 := fun l hl => mv_lot hf hl0 h0 hav hl
    have hsf : su_m (u fr) n = u fr fr := su_one hf hl0
    refine sp_carry (by omega) (by omega) (by omega) hft rU rB (by omega) (by omega) (fun fu' fb' gU gB => fin _ _ _ _ _ _ (fun i l hi hl => ?_) (fun i l hi hl => ?_))
    · rw [gU i l hi hl]
      congr 1
      by_cases e : l < n
      · by_cases e2 : l = fr
        · simp [cy_u, mv_u, hf, e2, hml fr hf]
        · simp [cy_u, mv_u, e, e2, hml l e]
      · have e2 : l ≠ fr := by omega
        simp [cy_u, mv_u, e, e2]
    · rw [gB i l hi hl]
      have : cy_c to fr a c i l = mv_c n fr to a u c i l := by
        by_cases e : l < n
        · by_cases e2 : l = fr
          · simp [cy_c, mv_c, hf, e2, hml fr hf]
          · simp [cy_c, mv_c, e2, hml l e]
        · have e2 : l ≠ fr := by omega
          simp [cy_c, mv_c, e, e2]
      rw [this]
  · -- from a thing
    refine sp_part hn (by omega) (x := u fr) (fun l hl => rU fr l (by omega) (by omega)) rfl h0 hav ha2 hv2 (fun m pr fe fp fq hm hpr hfe hfp => ?_)
    have zp : ∀ l, l < n → (∀ j, j < m → pr j ≠ l) → mv_p n fr a u l = 0 := fun l hl hj => by
      have z : ¬ 0 < u fr l * a := fun w => by
        obtain ⟨j, j1, j2⟩ := hpr.2.2 l hl (decide_eq_true w)
        exact hj j j1 j2
      have z2 : u fr l * a = 0 := by omega
      rcases Nat.mul_eq_zero.mp z2 with w | w
      · have := hpl l hl; omega
      · have hs : su_m (mv_p n fr a u) n = a := pt_sum rfl h0 hav
        have := su_at (f := mv_p n fr a u) hl
        omega
    have nx : ∀ t, t ≤ m → ∀ l, (∀ j, j < t → pr j < l) → l < (if t < m then pr t else n) → l < n → mv_p n fr a u l = 0 := by
      intro t ht2 l h1 h2 hl
      refine zp l hl (fun j hj e => ?_)
      rcases Nat.lt_trichotomy j t with w | w | w
      · have := h1 j w; omega
      · rw [w] at hj e; rw [if_pos hj] at h2; omega
      · rw [if_pos (by omega)] at h2
        have := hpr.2.1 t j w hj; omega
    refine lo_u2 (fun k t fu' fr' => wb_X3_move_56 post (nI n) lc fk k (nI fr) (nI to) (lN a) (nI t) (nI m) fu' fc fw fd fr' fe fp fq)
      (fun t fu' fr' => rw_U fu' (mx_u n fr to a u (if t < m then pr t else n)) ∧ rw_B fr' (mx_c n fr to a u c (if t < m then pr t else n))) m ?_ ?_ 0 fu frr (by omega) ⟨fun i l hi hl => ?_, fun i l hi hl => ?_⟩
    · intro k fu' fr' hs
      obtain ⟨g1, g2⟩ := hs
      rw [if_neg (Nat.lt_irrefl m)] at g1 g2
      refine ⟨fun _ => fin _ _ _ _ _ _ (fun i l hi hl => ?_) (fun i l hi hl => ?_), fun q => absurd (nI_le (Nat.le_refl m) (by omega)) q⟩
      · rw [g1 i l hi hl]
        congr 1
        by_cases e : l < n
        · simp [mx_u, e]
        · simp [mx_u, mv_u, e]
      · rw [g2 i l hi hl]
        have : mx_c n fr to a u c n i l = mv_c n fr to a u c i l := by
          by_cases e : l < n
          · simp [mx_c, e]
          · simp [mx_c, mv_c, e]
        rw [this]
    · intro k t fu' fr' ht2 hs ih
      obtain ⟨g1, g2⟩ := hs
      rw [if_pos ht2] at g1 g2
      obtain ⟨p1, p2⟩ := hpr.1 t ht2
      have ep : fp t = lN (mv_p n fr a u (pr t)) := hfp t ht2
      have b1 := hpl _ p1
      have b2 := hul _ p1
      have hin : vp_in (nI t) 48 := vp_in_nI (by omega) (by omega)
      refine ⟨fun q => absurd q (nI_ge ht2 (by omega)), fun _ => ⟨hin, hin, ?_⟩⟩
      rw [nI_clamp (show t < 2 ^ 31 by omega), ep, hfe t ht2]
      have u0 : mx_u n fr to a u (pr t) fr (pr t) = u fr (pr t) := by simp [mx_u]
      refine sp_carry (by omega) (by omega) (by omega) hft g1 g2 (by rw [u0]; exact b1) (by omega) (fun fu2 fb2 gU gB x hx => ?_)
      rw [hx, nI_1]
      have lo1 : pr t + 1 ≤ (if t + 1 < m then pr (t + 1) else n) := by
        by_cases e : t + 1 < m
        · rw [if_pos e]; exact hpr.2.1 t (t + 1) (by omega) e
        · rw [if_neg e]; exact p1
      have sh : ∀ l, pr t + 1 ≤ l → l < (if t + 1 < m then pr (t + 1) else n) → l < n → mv_p n fr a u l = 0 := fun l h1 h2 h3 => nx (t + 1) ht2 l (fun j hj => by
        by_cases e : j = t
        · rw [e]; omega
        · have := hpr.2.1 j t (by omega) ht2; omega) h2 h3
      refine ih fu2 fb2 ⟨fun i l hi hl => ?_, fun i l hi hl => ?_⟩
      · rw [gU i l hi hl, cy_mxu p1, mx_shu lo1 sh]
      · rw [gB i l hi hl, cy_mxc p1, mx_shc lo1 sh]
    · have e := mx_shu (n := n) (fr := fr) (to := to) (a := a) (u := u) (s := 0) (s' := if 0 < m then pr 0 else n) (Nat.zero_le _) (fun l _ h2 h3 => nx 0 (Nat.zero_le _) l (fun j hj => absurd hj (Nat.not_lt_zero j)) h2 h3) i l
      rw [← e]
      simpa [mx_u] using rU i l hi hl
    · have e := mx_shc (n := n) (fr := fr) (to := to) (a := a) (u := u) (c := c) (s := 0) (s' := if 0 < m then pr 0 else n) (Nat.zero_le _) (fun l _ h2 h3 => nx 0 (Nat.zero_le _) l (fun j hj => absurd hj (Nat.not_lt_zero j)) h2 h3) i l
      rw [← e]
      simpa [mx_c] using rB i l hi hl
