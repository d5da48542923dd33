/-! THE REFERENCE: sums and parting -/
theorem sp_Rsum {post : Int64 → Prop} {n i : Nat} {c1 r1 t1 : Int32} {l1 : Int64} {fu : Nat → Int64} {x : Nat → Nat} (hn : n ≤ 48) (hi : i < 48) (hx : ∀ l, l < n → fu (i * 48 + l) = lN (x l)) (H : post (lN (su_m x n))) : wp_X5_sum post (nI n) c1 l1 r1 t1 fu (nI i) := by
  unfold wp_X5_sum
  refine lo_up (σ := Unit) (fun k t _ => wb_X5_sum_5 post (nI n) c1 l1 r1 t1 fu k (nI i) (lN (su_m x t)) (nI t)) (fun _ _ => True) n ?_ ?_ 0 () (by omega) trivial
  · intro k _ _
    exact ⟨fun _ => H, fun q => absurd (nI_le (Nat.le_refl n) (by omega)) q⟩
  · intro k t _ ht _ ih
    refine ⟨fun q => absurd q (nI_ge ht (by omega)), fun _ => ?_⟩
    have l1 := nq_lt48 hi (show t < 48 by omega)
    rw [nq_ir, nq_cc, nI_clamp (show i * 48 + t < 2 ^ 31 by omega), hx t ht, lN_add]
    refine ⟨vp_in_nI l1 (by omega), fun y hy z hz => ?_⟩
    rw [hy, hz, nI_1]
    exact ih () trivial
theorem sp_Rpart {post : (Nat → Int64) → (Nat → Int64) → Prop} {n : Nat} {c1 r1 t1 : Int32} {l1 : Int64} {fu fr0 fp0 : Nat → Int64} {i : Nat} {x : Nat → Nat} {a v : Nat} (hn : n ≤ 48) (hi : i < 48) (hx : ∀ l, l < n → fu (i * 48 + l) = lN (x l)) (hv : v = su_m x n) (h0 : 0 < v) (ha : a ≤ v) (ha2 : a ≤ 1000000) (hv2 : v ≤ 1000000000)
    (H : ∀ fr fp : Nat → Int64, rw_J n fp (pt_f n x a v) → post fr fp) : wp_X5_part post (nI n) c1 l1 r1 t1 fu fr0 fp0 (nI i) (lN a) (lN v) := by
  obtain ⟨hs1, hs2⟩ := pt_sums hv h0 ha
  have hpn : ps_n (pt_rs x a v) n ≤ n := su_c_le _ _
  have hxv : ∀ l, l < n → x l ≤ v := fun l hl => by rw [hv]; exact su_at hl
  have n0 : 0 < n := by
    rcases Nat.eq_zero_or_pos n with e | e
    · subst e; simp [su_m] at hv; omega
    · exact e
  unfold wp_X5_part
  refine lo_u2 (fun k t fr fp => wb_X5_part_6 post (nI n) c1 l1 r1 t1 fu k (nI i) (lN a) (lN v) (lN (a - su_m (pt_fl x a v) t)) (nI t) fr fp) (fun t fr fp => (∀ j, j < t → fp j = lN (pt_fl x a v j)) ∧ ∀ j, j < t → fr j = lN (x j * a % v)) n ?_ ?_ 0 fr0 fp0 (by omega) ⟨fun j hj => by omega, fun j hj => by omega⟩
  · intro k fr fp hs
    obtain ⟨g1, g2⟩ := hs
    refine ⟨fun _ => ?_, fun q => absurd (nI_le (Nat.le_refl n) (by omega)) q⟩
    refine lo_u4 (fun k t fr fp (_ : Nat → Nat) (_ : Nat → Int) => wb_X5_part_75 post (nI n) c1 l1 r1 t1 fu k (lN (pt_ov n x a v - t)) fr fp)
      (fun t fr fp p r => rw_J n fp p ∧ (∀ j, j < n → (fr j).toInt = r j) ∧ pt_ov n x a v - t ≤ ps_n r n ∧ sv_f n (pt_ov n x a v - t) p r = pt_f n x a v) (pt_ov n x a v) ?_ ?_ 0 fr fp (pt_fl x a v) (pt_rs x a v) (by omega) ⟨g1, fun j hj => ?_, hs2, rfl⟩
    · intro k fr fp p r hs
      obtain ⟨q1, q2, q3, q4⟩ := hs
      rw [Nat.sub_self] at q4
      have e : p = pt_f n x a v := q4
      exact ⟨fun _ => H fr fp (by rw [← e]; exact q1), fun q => absurd ((nq_pos (by omega)).mp q) (by omega)⟩
    · intro k t fr fp p r ht hs ih
      obtain ⟨q1, q2, q3, q4⟩ := hs
      refine ⟨fun q => absurd ((nq_pos (by omega)).mpr (by omega)) q, fun _ => ?_⟩
      have hp : 0 < ps_n r n := by omega
      obtain ⟨b1, b2⟩ := ps_best hp
      have es : pt_ov n x a v - t = (pt_ov n x a v - (t + 1)) + 1 := by omega
      refine lo_up (σ := Nat) (fun k2 i2 b => wb_X5_part_88 post (nI n) c1 l1 r1 t1 fu (wb_X5_part_75 post (nI n) c1 l1 r1 t1 fu k) k2 (lN (pt_ov n x a v - t)) (nI b) (nI i2) fr fp) (fun i2 b => b = be_f r i2) n ?_ ?_ 1 0 (by omega) (be_one r).symm
      · intro k2 b hb
        subst hb
        refine ⟨fun _ => ?_, fun q => absurd (nI_le (Nat.le_refl n) (by omega)) q⟩
        have hin : vp_in (nI (be_f r n)) 48 := vp_in_nI (by omega) (by omega)
        rw [nI_clamp (show be_f r n < 2 ^ 31 by omega)]
        refine ⟨hin, hin, fun f1 e1 => ⟨hin, fun f2 e2 y hy => ?_⟩⟩
        rw [hy, es, nq_lm1 (by omega), Nat.add_sub_cancel]
        refine ih f2 f1 (fu_up p (be_f r n) (p (be_f r n) + 1)) (sv_r r (be_f r n)) ⟨?_, ?_, ?_, ?_⟩
        · show rw_J n f1 _
          rw [e1, q1 _ b1, lN_1]
          exact rw_J.up q1 _ _
        · intro j hj
          show (f2 j).toInt = sv_r r (be_f r n) j
          by_cases e : j = be_f r n
          · rw [e2, e, pk_uLs]; simp [sv_r]
          · rw [e2, pk_uLn e]; simp only [sv_r, e, if_false]; exact q2 j hj
        · have := ps_drop b1 b2
          show _ ≤ ps_n (sv_r r (be_f r n)) n
          omega
        · rw [← q4, es, sv_f]
      · intro k2 i2 b hi2 hb ih2
        subst hb
        by_cases i0 : i2 = 0
        · -- the loop begins at 1: place 0 isn't reached from 0
          subst i0
          have e0 : be_f r 0 = 0 := rfl
          rw [e0]
          refine ⟨fun q => absurd q (nI_ge hi2 (by omega)), fun _ => ⟨vp_in_nI (by omega) (by omega), vp_in_nI (by omega) (by omega), ?_⟩⟩
          refine ⟨fun q y hy => ?_, fun q y hy => ?_⟩
          · rw [hy, nI_1]; exact ih2 _ (be_one r).symm
          · rw [hy, nI_1]; exact ih2 _ (be_one r).symm
        · obtain ⟨c1', c2', c3'⟩ := be_spec r (n := i2) (by omega)
          refine ⟨fun q => absurd q (nI_ge hi2 (by omega)), fun _ => ⟨vp_in_nI (by omega) (by omega), vp_in_nI (by omega) (by omega), ?_⟩⟩
          rw [nI_clamp (show be_f r i2 < 2 ^ 31 by omega), nI_clamp (show i2 < 2 ^ 31 by omega)]
          refine ⟨fun q y hy => ?_, fun q y hy => ?_⟩
          · rw [hy, nI_1]
            refine ih2 _ ?_
            rw [be_step r (by omega), if_neg]
            intro z
            exact q (Int64.lt_iff_toInt_lt.mpr (by rw [q2 _ (by omega), q2 _ (by omega)]; exact z))
          · rw [hy, nI_1]
            refine ih2 _ ?_
            rw [be_step r (by omega), if_pos]
            have := Int64.lt_iff_toInt_lt.mp q
            rw [q2 _ (by omega), q2 _ (by omega)] at this
            exact this
    · have hm := Nat.mod_lt (x j * a) h0
      show (fr j).toInt = _
      rw [g2 j hj, pk_lT (by omega)]
      rfl
  · intro k t fr fp ht hs ih
    obtain ⟨g1, g2⟩ := hs
    refine ⟨fun q => absurd q (nI_ge ht (by omega)), fun _ => ?_⟩
    have l1 := nq_lt48 hi (show t < 48 by omega)
    rw [nq_ir, nq_cc, nI_clamp (show i * 48 + t < 2 ^ 31 by omega), hx t ht, nI_clamp (show t < 2 ^ 31 by omega)]
    refine ⟨vp_in_nI l1 (by omega), fun z ez => ?_⟩
    have hz : ¬ lN v = 0 := by
      intro q
      rw [nq_0l, pk_lEQ (by omega) (by omega)] at q
      omega
    have hin : vp_in (nI t) 48 := vp_in_nI (by omega) (by omega)
    have hb : x t * a < 2 ^ 63 := by
      have h1 : x t * a ≤ 1000000000 * 1000000 := Nat.mul_le_mul (by have := hxv t ht; omega) ha2
      omega
    refine ⟨hz, hin, fun f1 e1 => ⟨hz, hin, fun f2 e2 => ⟨hin, fun y1 ey1 y2 ey2 => ?_⟩⟩⟩
    rw [ez, lN_mul, pk_lDiv hb h0 (by omega)] at e1
    rw [ez, lN_mul, pk_lRem hb h0 (by omega)] at e2
    rw [e1, pk_uLs] at ey1
    have hle : su_m (pt_fl x a v) (t + 1) ≤ a := Nat.le_trans (pt_fl_le (by omega)) hs1
    have hle2 : su_m (pt_fl x a v) t + pt_fl x a v t ≤ a := hle
    have e3 : lN (a - su_m (pt_fl x a v) t) - lN (x t * a / v) = lN (a - su_m (pt_fl x a v) (t + 1)) := by
      have : x t * a / v = pt_fl x a v t := rfl
      rw [this, lN_sub (by omega)]
      congr 1
      simp only [su_m]; omega
    rw [ey1, ey2, nI_1, e3]
    refine ih f2 f1 ⟨fun j hj => ?_, fun j hj => ?_⟩
    · show f1 j = _
      by_cases e : j = t
      · rw [e, e1, pk_uLs]; rfl
      · rw [e1, pk_uLn e]; exact g1 j (by omega)
    · show f2 j = _
      by_cases e : j = t
      · rw [e, e2, pk_uLs]
      · rw [e2, pk_uLn e]; exact g2 j (by omega)
