/-! THE CLASS: parting and moving -/
theorem pt_fl_le {n : Nat} {x : Nat → Nat} {a v k : Nat} (hk : k ≤ n) : su_m (pt_fl x a v) k ≤ su_m (pt_fl x a v) n := by
  induction n with
  | zero =>
    rw [show k = 0 by omega]
    exact Nat.le_refl _
  | succ n ih =>
    by_cases e : k = n + 1
    · subst e; exact Nat.le_refl _
    · have := ih (by omega)
      simp only [su_m]; omega
theorem sp_part {post : (Nat → Int64) → (Nat → Int64) → Prop} {n : Nat} {lc : Int32} {fu fp0 fr0 : Nat → Int64} {i : Nat} {x : Nat → Nat} {a v : Nat} (hn : n ≤ 48) (hi : i < 48) (hx : ∀ l, l < n → fu (i * 48 + l) = lN (x l)) (hv : v = su_m x n) (h0 : 0 < v) (ha : a ≤ v) (ha2 : a ≤ 1000000) (hv2 : v ≤ 1000000000)
    (H : ∀ fp fr : Nat → Int64, rw_J n fp (pt_f n x a v) → post fp fr) : wp_X3_part post (nI n) lc fu fp0 fr0 (nI i) (lN v) (lN a) := by
  obtain ⟨hs1, hs2⟩ := pt_sums hv h0 ha
  have hpn : ps_n (pt_rs x a v) n ≤ n := su_c_le _ _
  have hxv : ∀ l, l < n → x l ≤ v := fun l hl => by rw [hv]; exact su_at hl
  have n0 : 0 < n := by
    rcases Nat.eq_zero_or_pos n with e | e
    · subst e; simp [su_m] at hv; omega
    · exact e
  unfold wp_X3_part
  refine ⟨fun _ => ?_, fun q => absurd ((nq_pos (by omega)).mpr h0) q⟩
  refine lo_u2 (fun k t fp fr => wb_X3_part_14 post (nI n) lc fu k (nI i) (lN v) (lN a) (lN (a - su_m (pt_fl x a v) t)) (nI t) fp fr) (fun t fp fr => (∀ j, j < t → fp j = lN (pt_fl x a v j)) ∧ ∀ j, j < t → fr j = lN (x j * a % v)) n ?_ ?_ 0 fp0 fr0 (by omega) ⟨fun j hj => by omega, fun j hj => by omega⟩
  · -- the units left over
    intro k fp fr hs
    obtain ⟨g1, g2⟩ := hs
    refine ⟨fun _ => ?_, fun q => absurd (nI_le (Nat.le_refl n) (by omega)) q⟩
    have ho : pt_ov n x a v ≤ n := by omega
    refine lo_u4 (fun k t fp fr (_ : Nat → Nat) (_ : Nat → Int) => wb_X3_part_81 post (nI n) lc fu k (lN (pt_ov n x a v - t)) (nI t) fp fr)
      (fun t fp fr p r => rw_J n fp p ∧ rs_R n fr r ∧ pt_ov n x a v - t ≤ ps_n r n ∧ sv_f n (pt_ov n x a v - t) p r = pt_f n x a v) (pt_ov n x a v) ?_ ?_ 0 fp fr (pt_fl x a v) (pt_rs x a v) (by omega) ⟨g1, fun j hj => ⟨x j * a % v, ?_, g2 j hj, Or.inl rfl⟩, hs2, rfl⟩
    · intro k fp fr p r hs
      obtain ⟨q1, q2, q3, q4⟩ := hs
      rw [Nat.sub_self] at q4
      have e : p = pt_f n x a v := q4
      have fin : post fp fr := H fp fr (by rw [← e]; exact q1)
      refine ⟨fun _ => fin, fun _ => ⟨fun _ => fin, fun q => absurd ((nq_pos (by omega)).mp q) (by omega)⟩⟩
    · intro k t fp fr p r ht hs ih
      obtain ⟨q1, q2, q3, q4⟩ := hs
      refine ⟨fun q => absurd q (nI_ge (by omega) (by omega)), fun _ => ⟨fun q => absurd ((nq_pos (by omega)).mpr (by omega)) q, fun _ => ?_⟩⟩
      have hp : 0 < ps_n r n := by omega
      obtain ⟨b1, b2⟩ := ps_best hp
      refine sp_rest n0 hn q2 hp ?_
      have hin : vp_in (nI (be_f r n)) 48 := vp_in_nI (by omega) (by omega)
      rw [nI_clamp (show be_f r n < 2 ^ 31 by omega)]
      refine ⟨hin, hin, fun f1 e1 => ⟨hin, fun f2 e2 x1 ex1 x2 ex2 => ?_⟩⟩
      have es : pt_ov n x a v - t = (pt_ov n x a v - (t + 1)) + 1 := by omega
      rw [ex1, ex2, nI_1, es, nq_lm1 (by omega), Nat.add_sub_cancel]
      refine ih f1 f2 (fu_up p (be_f r n) (p (be_f r n) + 1)) (sv_r r (be_f r n)) ⟨?_, ?_, ?_, ?_⟩
      · rw [e1, q1 _ b1, lN_1]
        exact rw_J.up q1 _ _
      · intro j hj
        by_cases e : j = be_f r n
        · refine ⟨0, by omega, ?_, Or.inr ⟨?_, rfl⟩⟩
          · rw [e2, e, pk_uLs]; exact nq_0l
          · simp [sv_r, e]
        · obtain ⟨w, w1, w2, w3⟩ := q2 j hj
          refine ⟨w, w1, ?_, ?_⟩
          · rw [e2, pk_uLn e]; exact w2
          · simp only [sv_r, e, if_false]; exact w3
      · have := ps_drop b1 b2
        show _ ≤ ps_n (sv_r r (be_f r n)) n
        omega
      · rw [← q4, es, sv_f]
    · have := Nat.mod_lt (x j * a) h0
      omega
  · -- one lot's portion and rest
    intro k t fp fr ht hs ih
    obtain ⟨g1, g2⟩ := hs
    refine ⟨fun q => absurd q (nI_ge ht (by omega)), fun _ => ?_⟩
    refine sp_unitsOf hi (by omega) ?_
    rw [hx t ht]
    intro z ez
    have hz : ¬ lN v = 0 := by
      intro q
      rw [nq_0l, pk_lEQ (by omega) (by omega)] at q
      omega
    have hin : vp_in (nI t) 48 := vp_in_nI (by omega) (by omega)
    have hb : x t * a < 2 ^ 63 := by
      have h1 : x t * a ≤ 1000000000 * 1000000 := Nat.mul_le_mul (by have := hxv t ht; omega) ha2
      omega
    refine ⟨hz, hin, fun f1 e1 => ⟨hz, hin, fun f2 e2 => ⟨hin, fun x1 ex1 x2 ex2 => ?_⟩⟩⟩
    have ezz : z = lN (x t * a) := by rw [ez, lN_mul]
    rw [nI_clamp (show t < 2 ^ 31 by omega)] at e1 e2 ex1
    rw [ezz, pk_lDiv hb h0 (by omega)] at e1
    rw [ezz, pk_lRem hb h0 (by omega)] at e2
    rw [e1, pk_uLs] at ex1
    have hle : su_m (pt_fl x a v) (t + 1) ≤ a := Nat.le_trans (pt_fl_le (by omega)) hs1
    have hle2 : su_m (pt_fl x a v) t + pt_fl x a v t ≤ a := hle
    have e3 : lN (a - su_m (pt_fl x a v) t) - lN (x t * a / v) = lN (a - su_m (pt_fl x a v) (t + 1)) := by
      have : x t * a / v = pt_fl x a v t := rfl
      rw [this, lN_sub (by omega)]
      congr 1
      simp only [su_m]; omega
    rw [ex1, ex2, nI_1, e3]
    refine ih f1 f2 ⟨fun j hj => ?_, fun j hj => ?_⟩
    · by_cases e : j = t
      · rw [e, e1, pk_uLs]; rfl
      · rw [e1, pk_uLn e]; exact g1 j (by omega)
    · by_cases e : j = t
      · rw [e, e2, pk_uLs]
      · rw [e2, pk_uLn e]; exact g2 j (by omega)
/-- a node's kind is asked -/
theorem sp_has {post : Int32 → Prop} {n : Nat} {lc p : Int32} (hn : n ≤ 48) (H1 : ∀ i, i < n → p = nI i → post 1) (H0 : (p < 0 ∨ nI n ≤ p) → post 0) : wp_X1_has post (nI n) lc p := by
  unfold wp_X1_has
  refine ⟨fun q => H0 (Or.inl q), fun q => ⟨fun q2 => H0 (Or.inr q2), fun q2 => ?_⟩⟩
  rcases pk_ix p (show n < 2 ^ 31 by omega) with h | h | ⟨j, hj, e⟩
  · exact absurd h q
  · exact absurd h q2
  · exact H1 j hj e
theorem sp_has1 {post : Int32 → Prop} {n i : Nat} {lc : Int32} (hn : n ≤ 48) (hi : i < n) (H : post 1) : wp_X1_has post (nI n) lc (nI i) :=
  sp_has hn (fun _ _ _ => H) (fun h => by
    rcases h with h | h
    · exact absurd h (nI_pos (by omega))
    · exact absurd h (nI_ge hi (by omega)))
theorem sp_isDrain1 {post : Int32 → Prop} {n i : Nat} {lc : Int32} {fk : Nat → Int32} (hn : n ≤ 48) (hi : i < n) (H1 : fk i = 0 → post 1) (H0 : ¬ fk i = 0 → post 0) : wp_X1_isDrain post (nI n) lc fk (nI i) := by
  unfold wp_X1_isDrain
  refine sp_has1 hn hi ⟨fun q => absurd q (by decide), fun _ => ⟨vp_in_nI (by omega) (by omega), ?_⟩⟩
  rw [nI_clamp (show i < 2 ^ 31 by omega)]
  exact ⟨H0, H1⟩
theorem sp_isLot1 {post : Int32 → Prop} {n i : Nat} {lc : Int32} {fk : Nat → Int32} (hn : n ≤ 48) (hi : i < n) (H1 : fk i = 5 → post 1) (H0 : ¬ fk i = 5 → post 0) : wp_X1_isLot post (nI n) lc fk (nI i) := by
  unfold wp_X1_isLot
  refine sp_has1 hn hi ⟨fun q => absurd q (by decide), fun _ => ⟨vp_in_nI (by omega) (by omega), ?_⟩⟩
  rw [nI_clamp (show i < 2 ^ 31 by omega)]
  exact ⟨H0, H1⟩
/-- the class's stock: what its rows hold -/
def sk_R (n : Nat) (u : Nat → Nat → Nat) (c : Nat → Nat → Bool) (ca we dr : Nat → Nat) (fu fc fw fd fr : Nat → Int64) : Prop :=
  rw_U fu u ∧ rw_J 48 fc ca ∧ rw_J 48 fw we ∧ rw_J 48 fd dr ∧ rw_B fr c ∧ ∀ i, i < 48 → ca i = we i + su_m (u i) n
theorem mv_row {n fr to a : Nat} {u : Nat → Nat → Nat} (hft : fr ≠ to) (h0 : 0 < su_m (u fr) n) (ha : a ≤ su_m (u fr) n) (i : Nat) : su_m (mv_u n fr to a u i) n + (if i = fr then a else 0) = su_m (u i) n + (if i = to then a else 0) := by
  have hs : su_m (mv_p n fr a u) n = a := pt_sum rfl h0 ha
  have hl : ∀ l, l < n → mv_p n fr a u l ≤ u fr l := fun l hl => pt_le rfl h0 ha hl
  by_cases e : i = fr
  · subst e
    rw [if_pos rfl, if_neg hft]
    have e1 : su_m (mv_u n i to a u i) n = su_m (fun l => u i l - mv_p n i a u l) n := su_congr fun j hj => by simp [mv_u, hj]
    have e2 := su_sub (f := u i) (g := mv_p n i a u) (n := n) hl
    rw [e1]; omega
  · rw [if_neg e]
    by_cases e3 : i = to
    · subst e3
      rw [if_pos rfl]
      have e1 : su_m (mv_u n fr i a u i) n = su_m (fun l => u i l + mv_p n fr a u l) n := su_congr fun j hj => by simp [mv_u, hj, e]
      rw [e1, su_add]; omega
    · rw [if_neg e3]
      have e1 : su_m (mv_u n fr to a u i) n = su_m (u i) n := su_congr fun j hj => by simp [mv_u, hj, e, e3]
      rw [e1]
def mx_u (n fr to a : Nat) (u : Nat → Nat → Nat) (t : Nat) : Nat → Nat → Nat := fun i l => if l < t then mv_u n fr to a u i l else u i l
def mx_c (n fr to a : Nat) (u : Nat → Nat → Nat) (c : Nat → Nat → Bool) (t : Nat) : Nat → Nat → Bool := fun i l => if l < t then mv_c n fr to a u c i l else c i l
theorem sp_move {post : Int32 → (Nat → Int64) → (Nat → Int64) → (Nat → Int64) → (Nat → Int64) → (Nat → Int64) → (Nat → Int64) → (Nat → Int64) → Prop} {n : Nat} {lc : Int32} {fk : Nat → Int32} {fu fc fw fd frr fp0 fr0 : Nat → Int64} {u : Nat → Nat → Nat} {c : Nat → Nat → Bool} {ca we dr : Nat → Nat} {fr to a : Nat}
    (hn : n ≤ 48) (hR : sk_R n u c ca we dr fu fc fw fd frr) (hf : fr < n) (ht : to < n) (hft : fr ≠ to) (ha2 : a ≤ 1000000) (hv2 : su_m (u fr) n ≤ 1000000000)
    (H0 : (su_m (u fr) n = 0 ∨ su_m (u fr) n < a) → post 0 fu fc fw fd frr fp0 fr0)
    (H1 : 0 < su_m (u fr) n → a ≤ su_m (u fr) n → ∀ fu' fc' fw' fd' fr' fp' fq' : Nat → Int64, sk_R n (mv_u n fr to a u) (mv_c n fr to a u c) (fu_up ca to (ca to + a)) (fu_up we fr (we fr + a)) (if fk to = 0 then fu_up dr fr (dr fr + a) else dr) fu' fc' fw' fd' fr' → post 1 fu' fc' fw' fd' fr' fp' fq') :
    wp_X3_move post (nI n) lc fk fu fc fw fd frr fp0 fr0 (nI fr) (nI to) (lN a) := by
  obtain ⟨rU, rC, rW, rD, rB, rS⟩ := hR
  unfold wp_X3_move
  refine sp_unitsIn (by omega) ?_
  have e0 : fc fr - fw fr = lN (su_m (u fr) n) := by
    rw [rC fr (by omega), rW fr (by omega), lN_sub (by have := rS fr (by omega); omega)]
    congr 1
    have := rS fr (by omega)
    omega
  rw [e0]
  have zz : ¬ (0 : Int64) < lN (su_m (u fr) n) → su_m (u fr) n = 0 := fun q => by
    rcases Nat.eq_zero_or_pos (su_m (u fr) n) with h | h
    · exact h
    · exact absurd ((nq_pos (by omega)).mpr h) q
  refine ⟨fun q => H0 (Or.inl (zz q)), fun q => ⟨fun q2 => ?_, fun q2 => H0 (Or.inr ((pk_lLT (by omega) (by omega)).mp q2))⟩⟩
  have h0 : 0 < su_m (u fr) n := (nq_pos (by omega)).mp q
  have hav : a ≤ su_m (u fr) n := by
    rcases Nat.lt_or_ge (su_m (u fr) n) a with h | h
    · exact absurd ((pk_lLT (by omega) (by omega)).mpr h) q2
    · exact h
  refine sp_part hn (by omega) (x := u fr) (fun l hl => rU fr l (by omega) (by omega)) rfl h0 hav ha2 hv2 (fun fp fq hfp => ?_)
  have hpl : ∀ l, l < n → mv_p n fr a u l ≤ u fr l := fun l hl => pt_le rfl h0 hav hl
  have hul : ∀ l, l < n → u fr l ≤ 1000000000 := fun l hl => Nat.le_trans (su_at hl) hv2
  refine lo_u2 (fun k t fu' fr' => wb_X3_move_34 post (nI n) lc fk k (nI fr) (nI to) (lN a) (nI t) fu' fc fw fd fr' fp fq)
    (fun t fu' fr' => rw_U fu' (mx_u n fr to a u t) ∧ rw_B fr' (mx_c n fr to a u c t)) n ?_ ?_ 0 fu frr (by omega) ⟨fun i l hi hl => by simpa [mx_u] using rU i l hi hl, fun i l hi hl => by simpa [mx_c] using rB i l hi hl⟩
  · intro k fu' fr' hs
    obtain ⟨g1, g2⟩ := hs
    refine ⟨fun _ => ?_, fun q => absurd (nI_le (Nat.le_refl n) (by omega)) q⟩
    have hin1 : vp_in (nI fr) 48 := vp_in_nI (by omega) (by omega)
    have hin2 : vp_in (nI to) 48 := vp_in_nI (by omega) (by omega)
    rw [nI_clamp (show fr < 2 ^ 31 by omega), nI_clamp (show to < 2 ^ 31 by omega)]
    refine ⟨hin1, hin1, fun f1 e1 => ⟨hin2, hin2, fun f2 e2 => ?_⟩⟩
    have gU : rw_U fu' (mv_u n fr to a u) := fun i l hi hl => by
      rw [g1 i l hi hl]
      congr 1
      by_cases e : l < n
      · simp [mx_u, e]
      · simp [mx_u, mv_u, e]
    have gB : rw_B fr' (mv_c n fr to a u c) := fun i l hi hl => by
      rw [g2 i l hi hl]
      have : mx_c n fr to a u c n i l = mv_c n fr to a u c i l := by
        by_cases e : l < n
        · simp [mx_c, e]
        · simp [mx_c, mv_c, e]
      rw [this]
    have gC : rw_J 48 f2 (fu_up ca to (ca to + a)) := by rw [e2, rC to (by omega), lN_add]; exact rC.up _ _
    have gW : rw_J 48 f1 (fu_up we fr (we fr + a)) := by rw [e1, rW fr (by omega), lN_add]; exact rW.up _ _
    have gS : ∀ i, i < 48 → fu_up ca to (ca to + a) i = fu_up we fr (we fr + a) i + su_m (mv_u n fr to a u i) n := by
      intro i hi
      have r := mv_row hft h0 hav i
      have s := rS i hi
      by_cases e : i = fr
      · subst e
        rw [fu_n hft, fu_s]
        rw [if_pos rfl, if_neg hft] at r
        omega
      · rw [fu_n e]
        rw [if_neg e] at r
        by_cases e3 : i = to
        · subst e3; rw [fu_s]; rw [if_pos rfl] at r; omega
        · rw [fu_n e3]; rw [if_neg e3] at r; omega
    refine sp_isDrain1 hn ht (fun z => ⟨fun q => absurd q (by decide), fun _ => ⟨hin1, hin1, fun f3 e3 => ?_⟩⟩) (fun z => ⟨fun _ => ?_, fun q => absurd rfl q⟩)
    · refine H1 h0 hav fu' f2 f1 f3 fr' fp fq ⟨gU, gC, gW, ?_, gB, gS⟩
      rw [if_pos z, e3, rD fr (by omega), lN_add]
      exact rD.up _ _
    · refine H1 h0 hav fu' f2 f1 fd fr' fp fq ⟨gU, gC, gW, ?_, gB, gS⟩
      rw [if_neg z]; exact rD
  · intro k t fu' fr' ht2 hs ih
    obtain ⟨g1, g2⟩ := hs
    have ep : fp t = lN (mv_p n fr a u t) := hfp t ht2
    have hpt : mv_p n fr a u t ≤ 1000000000 := Nat.le_trans (hpl t ht2) (hul t ht2)
    refine ⟨fun q => absurd q (nI_ge ht2 (by omega)), fun _ => ⟨vp_in_nI (by omega) (by omega), ?_⟩⟩
    rw [nI_clamp (show t < 2 ^ 31 by omega), ep, nq_ic, nq_ic, nI_clamp (show fr * 48 + t < 2 ^ 31 by omega), nI_clamp (show to * 48 + t < 2 ^ 31 by omega), nI_clamp (show to < 2 ^ 31 by omega)]
    refine ⟨fun q x hx => ?_, fun q => ?_⟩
    · have z : mv_p n fr a u t = 0 := by
        rcases Nat.eq_zero_or_pos (mv_p n fr a u t) with h | h
        · exact h
        · exact absurd ((nq_pos (by omega)).mpr h) q
      rw [hx, nI_1]
      refine ih fu' fr' ⟨fun i l hi hl => ?_, fun i l hi hl => ?_⟩
      · rw [g1 i l hi hl]
        congr 1
        unfold mx_u
        by_cases e : l = t
        · subst e
          rw [if_neg (by omega), if_pos (by omega)]
          simp [mv_u, ht2, z]
        · by_cases e2 : l < t
          · rw [if_pos e2, if_pos (by omega)]
          · rw [if_neg e2, if_neg (by omega)]
      · rw [g2 i l hi hl]
        have : mx_c n fr to a u c t i l = mx_c n fr to a u c (t + 1) i l := by
          unfold mx_c
          by_cases e : l = t
          · subst e
            rw [if_neg (by omega), if_pos (by omega)]
            simp [mv_c, z]
          · by_cases e2 : l < t
            · rw [if_pos e2, if_pos (by omega)]
            · rw [if_neg e2, if_neg (by omega)]
        rw [this]
    · have z : 0 < mv_p n fr a u t := (nq_pos (by omega)).mp q
      have l1 := nq_lt48 (show fr < 48 by omega) (show t < 48 by omega)
      have l2 := nq_lt48 (show to < 48 by omega) (show t < 48 by omega)
      have i1 : vp_in (nI (fr * 48 + t)) 2304 := vp_in_nI l1 (by omega)
      have i2 : vp_in (nI (to * 48 + t)) 2304 := vp_in_nI l2 (by omega)
      have i3 : vp_in (nI t) 48 := vp_in_nI (by omega) (by omega)
      have i4 : vp_in (nI to) 48 := vp_in_nI (by omega) (by omega)
      refine ⟨i1, i3, i1, fun f1 e1 => ⟨i2, i3, i2, fun f2 e2 => ⟨i4, i4, fun f3 e3 x hx => ?_⟩⟩⟩
      rw [hx, nI_1]
      have a1 : fu' (fr * 48 + t) = lN (u fr t) := by rw [g1 fr t (by omega) (by omega)]; simp [mx_u]
      have a2 : f1 (to * 48 + t) = lN (u to t) := by rw [e1, pk_uLn (by omega), g1 to t (by omega) (by omega)]; simp [mx_u]
      have w1 := rw_U.up g1 (i := fr) (l := t) (u fr t - mv_p n fr a u t) (by omega)
      have w2 := rw_U.up w1 (i := to) (l := t) (u to t + mv_p n fr a u t) (by omega)
      have w3 := rw_B.up g2 (i := to) (l := t) (by omega) (by omega)
      refine ih f2 f3 ⟨fun i l hi hl => ?_, fun i l hi hl => ?_⟩
      · have hh := w2 i l hi hl
        rw [e2, a2, lN_add, e1, a1, lN_sub (hpl t ht2), hh]
        congr 1
        by_cases e : l = t
        · subst e
          have e9 : mx_u n fr to a u (l + 1) i l = mv_u n fr to a u i l := by simp [mx_u]
          rw [e9]
          by_cases e4 : i = to
          · subst e4
            rw [u2_s]
            simp [mv_u, ht2, Ne.symm hft]
          · rw [u2_n (by omega)]
            by_cases e5 : i = fr
            · subst e5; rw [u2_s]; simp [mv_u, ht2]
            · rw [u2_n (by omega)]
              simp [mx_u, mv_u, ht2, e4, e5]
        · rw [u2_n (by omega), u2_n (by omega)]
          unfold mx_u
          by_cases e6 : l < t
          · rw [if_pos e6, if_pos (by omega)]
          · rw [if_neg e6, if_neg (by omega)]
      · have hh := w3 i l hi hl
        rw [e3, hh]
        have : c2_up (mx_c n fr to a u c t) to t i l = mx_c n fr to a u c (t + 1) i l := by
          by_cases e : l = t
          · subst e
            by_cases e4 : i = to
            · subst e4; simp [c2_up, mx_c, mv_c, ht2, z]
            · simp [c2_up, mx_c, mv_c, e4]
          · have e6 : l < t + 1 ↔ l < t := by omega
            simp [c2_up, mx_c, e, e6]
        rw [this]
