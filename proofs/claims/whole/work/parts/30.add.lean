/-! ONE NODE MORE: lot and thing -/
section ADD
variable {n m : Nat} {kd am0 dy0 fr to am dy : Nat → Nat} {fk : Nat → Int32} {fa fd : Nat → Int64} {fk' : Nat → Int32} {fa' fd' : Nat → Int64}
theorem iv_N.ext (h : iv_N n kd am0 dy0 fk fa fd fk' fa' fd') (hn : n < 48) {k a d : Nat} (hk : k ≤ 5) {gk gk' : Nat → Int32} {ga gd ga' gd' : Nat → Int64} (e : ∀ i, i < n → gk i = fk i ∧ ga i = fa i ∧ gd i = fd i ∧ gk' i = fk' i ∧ ga' i = fa' i ∧ gd' i = fd' i) (e1 : gk n = nI k) (e2 : gk' n = if k = 5 then -1 else nI k) (e3 : k = 5 → ga n = lN a ∧ ga' n = lN a ∧ a ≤ 1000000 ∧ gd n = lN d ∧ gd' n = lN d ∧ d ≤ 100000) :
    iv_N (n + 1) (fu_up kd n k) (fu_up am0 n a) (fu_up dy0 n d) gk ga gd gk' ga' gd' := by
  obtain ⟨h0, h1, h2⟩ := h
  refine ⟨by omega, fun i hi => ?_, fun i hi => ?_⟩
  · by_cases c : i = n
    · subst c; rw [fu_s]; exact ⟨hk, e1, e2⟩
    · obtain ⟨e1, e2, e3, e4, e5, e6⟩ := e i (by omega)
      rw [fu_n c, e1, e4]; exact h1 i (by omega)
  · by_cases c : i = n
    · subst c; rw [fu_s, fu_s, fu_s]; exact e3
    · obtain ⟨e1, e2, e3, e4, e5, e6⟩ := e i (by omega)
      rw [fu_n c, fu_n c, fu_n c, e2, e3, e5, e6]; exact h2 i (by omega)
theorem iv_H.ext {fh fh' : Nat → Int32} (h : iv_H n fh fh') (hn : n < 48) : iv_H (n + 1) fh (upd fh' n 0) := by
  refine ⟨fun i hi => ?_, fun i h1 h2 => h.2 i (by omega) h2⟩
  by_cases c : i = n
  · subst c; rw [pk_us, h.2 i (Nat.le_refl i) hn]; exact ⟨rfl, Or.inl rfl⟩
  · rw [pk_un c]; exact h.1 i (by omega)
theorem iv_P.ext {fs fp fc : Nat → Int32} (h : iv_P n fs fp fc) : iv_P (n + 1) (upd fs n (-1)) (upd fp n (-1)) (upd fc n (-1)) := by
  intro i hi
  by_cases c : i = n
  · subst c; rw [pk_us, pk_us, pk_us]; exact Or.inl ⟨rfl, rfl, rfl⟩
  · rw [pk_un c, pk_un c, pk_un c]; exact h i (by omega)
theorem fl_all.ext (h : fl_all n m kd dy0 fr to am dy) (k d : Nat) : fl_all (n + 1) m (fu_up kd n k) (fu_up dy0 n d) fr to am dy := by
  intro j hj
  obtain ⟨h1, h2, h3, h4, h5, h6, h7, h8⟩ := h j hj
  rw [fu_n (show fr j ≠ n by omega), fu_n (show to j ≠ n by omega), fu_n (show fr j ≠ n by omega)]
  exact ⟨by omega, by omega, h3, h4, h5, h6, h7, h8⟩
theorem iv_F.ext {gf gt : Nat → Int32} {ga gd : Nat → Int64} {go gf' gt' : Nat → Int32} {ga' gd' : Nat → Int64} (h : iv_F n m kd dy0 fr to am dy gf gt ga gd go gf' gt' ga' gd') (k d : Nat) : iv_F (n + 1) m (fu_up kd n k) (fu_up dy0 n d) fr to am dy gf gt ga gd go gf' gt' ga' gd' := by
  obtain ⟨f1, f2, f3, f4, f5, f6, f7, f8, f9, f10, f11⟩ := h
  exact ⟨f1, f2, f3, f4, f5, f6, f7, f8, f9, f10, f11.ext k d⟩
theorem in_ext (n k a : Nat) (kd am0 : Nat → Nat) : (in_u (n + 1) (lo_k (fu_up kd n k)) (fu_up am0 n a), in_c (n + 1) (lo_k (fu_up kd n k))) = ex_s n (if k = 5 then a else 0) (decide (k = 5)) (in_u n (lo_k kd) am0, in_c n (lo_k kd)) := by
  refine Prod.ext ?_ ?_
  · funext i l
    show in_u (n + 1) (lo_k (fu_up kd n k)) (fu_up am0 n a) i l = if i = n ∧ l = n then (if k = 5 then a else 0) else in_u n (lo_k kd) am0 i l
    unfold in_u lo_k
    by_cases c : i = n
    · subst c
      rw [fu_s, fu_s]
      by_cases c2 : l = i
      · subst c2; simp
      · simp [c2, Ne.symm c2]
    · rw [fu_n c, fu_n c]
      simp only [c, false_and, if_false]
      by_cases c3 : i < n
      · simp [c3, show i < n + 1 by omega]
      · simp [c3, show ¬ i < n + 1 by omega]
  · funext i l
    show in_c (n + 1) (lo_k (fu_up kd n k)) i l = if i = n ∧ l = n then decide (k = 5) else in_c n (lo_k kd) i l
    unfold in_c lo_k
    by_cases c : i = n
    · subst c
      rw [fu_s]
      by_cases c2 : l = i
      · subst c2; simp
      · simp [c2, Ne.symm c2]
    · rw [fu_n c]
      simp only [c, false_and, if_false]
      by_cases c3 : i < n
      · simp [c3, show i < n + 1 by omega]
      · simp [c3, show ¬ i < n + 1 by omega]
theorem rn_kext {s : (Nat → Nat → Nat) × (Nat → Nat → Bool)} (hF : fl_all n m kd dy0 fr to am dy) (hs : rn_k n m kd am0 fr to am dy = some s) (k a : Nat) : rn_k (n + 1) m (fu_up kd n k) (fu_up am0 n a) fr to am dy = some (ex_s n (if k = 5 then a else 0) (decide (k = 5)) s) ∧ ze_R n s := by
  refine ⟨?_, rn_ze hF.ok (od_lt dy m) (ze_in n (lo_k kd) am0) m s (Nat.le_refl m) hs⟩
  show rn_f (n + 1) fr to am (od_f dy m) (in_u (n + 1) (lo_k (fu_up kd n k)) (fu_up am0 n a), in_c (n + 1) (lo_k (fu_up kd n k))) m = _
  rw [in_ext]
  exact rn_ext hF.ok (od_lt dy m) (ze_in n (lo_k kd) am0) m s (Nat.le_refl m) hs
theorem ds_ext (hF : fl_all n m kd dy0 fr to am dy) (k : Nat) : ds_f fr to am (od_f dy m) (dn_k (fu_up kd n k)) m = ds_f fr to am (od_f dy m) (dn_k kd) m := by
  funext i
  unfold ds_f
  refine su_congr (fun j hj => ?_)
  have h := (hF _ (od_lt dy m j hj)).2.1
  have e : dn_k (fu_up kd n k) (to (od_f dy m j)) = dn_k kd (to (od_f dy m j)) := by unfold dn_k; rw [fu_n (by omega)]
  rw [e]
theorem iv_S.thing {s : (Nat → Nat → Nat) × (Nat → Nat → Bool)} {su sc sw sd sr : Nat → Int64} (hF : fl_all n m kd dy0 fr to am dy) (h : iv_S n m kd am0 fr to am dy s su sc sw sd sr) {k : Nat} (hk : k ≠ 5) (a : Nat) : iv_S (n + 1) m (fu_up kd n k) (fu_up am0 n a) fr to am dy s su sc sw sd sr := by
  obtain ⟨hs, ca, we, w0, rU, rC, rW, rD, rB, rS⟩ := h
  obtain ⟨h1, h2⟩ := rn_kext hF hs k a
  have e : ex_s n (if k = 5 then a else 0) (decide (k = 5)) s = s := by
    refine Prod.ext ?_ ?_
    · funext i l
      show (if i = n ∧ l = n then (if k = 5 then a else 0) else s.1 i l) = s.1 i l
      by_cases c : i = n ∧ l = n
      · rw [if_pos c, if_neg hk, h2.1 i l (by omega)]
      · rw [if_neg c]
    · funext i l
      show (if i = n ∧ l = n then decide (k = 5) else s.2 i l) = s.2 i l
      by_cases c : i = n ∧ l = n
      · rw [if_pos c, h2.2 i l (by omega)]; exact decide_eq_false hk
      · rw [if_neg c]
  rw [e] at h1
  refine ⟨h1, ca, we, fun i hi => w0 i (by omega), rU, rC, rW, ?_, rB, fun i hi => ?_⟩
  · rw [ds_ext hF]; exact rD
  · rw [su_ext (h2.1 i n (Or.inr (Nat.le_refl n)))]; exact rS i hi
theorem iv_S.lot {s : (Nat → Nat → Nat) × (Nat → Nat → Bool)} {su sc sw sd sr : Nat → Int64} (hn : n < 48) (hF : fl_all n m kd dy0 fr to am dy) (h : iv_S n m kd am0 fr to am dy s su sc sw sd sr) (a : Nat) : iv_S (n + 1) m (fu_up kd n 5) (fu_up am0 n a) fr to am dy (ex_s n a true s) (vp_updL su (n * 48 + n) (lN a)) (vp_updL sc n (lN a)) sw sd (vp_updL sr n (bt_l n)) := by
  obtain ⟨hs, ca, we, w0, rU, rC, rW, rD, rB, rS⟩ := h
  obtain ⟨h1, h2⟩ := rn_kext hF hs 5 a
  refine ⟨h1, fu_up ca n a, we, fun i hi => w0 i (by omega), ?_, rC.up n a, rW, ?_, ?_, fun i hi => ?_⟩
  · have := rU.up (i := n) (l := n) a hn
    exact this
  · rw [ds_ext hF]; exact rD
  · intro i l hi hl
    show _ ↔ (if i = n ∧ l = n then true else s.2 i l) = false
    by_cases c : i = n
    · subst c
      rw [pk_uLs, bt_one hi hl]
      by_cases c2 : l = i
      · subst c2; simp
      · rw [if_neg (fun q => c2 q.2), h2.2 i l (Or.inl (Nat.le_refl i))]
        exact ⟨fun _ => rfl, fun _ => Ne.symm c2⟩
    · rw [pk_uLn c, if_neg (fun q => c q.1)]; exact rB i l hi hl
  · show fu_up ca n a i = we i + su_m (fun l => if i = n ∧ l = n then a else s.1 i l) (n + 1)
    by_cases c : i = n
    · subst c
      rw [fu_s, w0 i (Nat.le_refl i), su_m, su_zero (fun j hj => by rw [if_neg (by omega)]; exact h2.1 i j (Or.inl (Nat.le_refl i)))]
      simp
    · have e2 : su_m (fun l => if i = n ∧ l = n then a else s.1 i l) (n + 1) = su_m (s.1 i) (n + 1) := su_congr (fun j _ => by rw [if_neg (fun q => c q.1)])
      rw [fu_n c, rS i hi, e2, su_ext (h2.1 i n (Or.inr (Nat.le_refl n)))]
theorem iv_A.thing {lc : Nat} {la : Nat → Nat} {fl : Nat → Int32} (h : iv_A n kd dy0 lc la fl) {k : Nat} (hk : k ≠ 5) (d : Nat) : iv_A (n + 1) (fu_up kd n k) (fu_up dy0 n d) lc la fl := by
  obtain ⟨h1, h2, h3, h4, h5⟩ := h
  refine ⟨by omega, h2, fun i hi => ?_, fun i j hi hj => ?_, fun l hl hk2 => ?_⟩
  · have := h3 i hi
    rw [fu_n (by omega)]; exact ⟨by omega, this.2⟩
  · have a := h3 i (by omega)
    have b := h3 j hj
    rw [fu_n (by omega), fu_n (by omega)]; exact h4 i j hi hj
  · by_cases c : l = n
    · subst c; rw [fu_s] at hk2; exact absurd hk2 hk
    · rw [fu_n c] at hk2; exact h5 l (by omega) hk2
theorem iv_A.lot {lc : Nat} {la : Nat → Nat} {fl gl : Nat → Int32} (h : iv_A n kd dy0 lc la fl) (d : Nat) (hg : rw_I (lc + 1) gl (in_f la (tn_f dy0 la d lc) n)) : iv_A (n + 1) (fu_up kd n 5) (fu_up dy0 n d) (lc + 1) (in_f la (tn_f dy0 la d lc) n) gl := by
  obtain ⟨h1, h2, h3, h4, h5⟩ := h
  have hp := tn_le dy0 la d lc
  have hs : ∀ i i', i ≤ i' → i' < lc → dy0 (la i) ≤ dy0 (la i') := fun i i' a b => by
    by_cases e : i = i'
    · rw [e]; exact Nat.le_refl _
    · have := h4 i i' (by omega) b; omega
  obtain ⟨t1, t2⟩ := tn_spec (dy := dy0) (o := la) (d := d) lc hs
  generalize tn_f dy0 la d lc = pos at hp t1 t2 hg ⊢
  have val : ∀ i, i < lc + 1 → (i = pos ∧ in_f la pos n i = n) ∨ (i < pos ∧ in_f la pos n i = la i) ∨ (pos < i ∧ in_f la pos n i = la (i - 1)) := fun i hi => by
    unfold in_f
    by_cases c : i < pos
    · rw [if_pos c]; exact Or.inr (Or.inl ⟨c, rfl⟩)
    · rw [if_neg c]
      by_cases c2 : i = pos
      · rw [if_pos c2]; exact Or.inl ⟨c2, rfl⟩
      · rw [if_neg c2]; exact Or.inr (Or.inr ⟨by omega, rfl⟩)
  refine ⟨by omega, hg, fun i hi => ?_, fun i j hi hj => ?_, fun l hl hk2 => ?_⟩
  · rcases val i hi with ⟨c, e⟩ | ⟨c, e⟩ | ⟨c, e⟩ <;> rw [e]
    · rw [fu_s]; omega
    · have := h3 i (by omega); rw [fu_n (by omega)]; omega
    · have := h3 (i - 1) (by omega); rw [fu_n (by omega)]; omega
  · rcases val i (by omega) with ⟨c, e⟩ | ⟨c, e⟩ | ⟨c, e⟩ <;> rcases val j hj with ⟨c', e'⟩ | ⟨c', e'⟩ | ⟨c', e'⟩ <;> rw [e, e']
    · omega
    · omega
    · have := h3 (j - 1) (by omega)
      rw [fu_s, fu_n (by omega)]; exact Or.inl (t2 (j - 1) (by omega) (by omega))
    · have := h3 i (by omega)
      have := t1 i c
      rw [fu_n (by omega), fu_s]; omega
    · have := h3 i (by omega)
      have := h3 j (by omega)
      rw [fu_n (by omega), fu_n (by omega)]; exact h4 i j hi (by omega)
    · have := h3 i (by omega)
      have := h3 (j - 1) (by omega)
      rw [fu_n (by omega), fu_n (by omega)]; exact h4 i (j - 1) (by omega) (by omega)
    · omega
    · omega
    · have := h3 (i - 1) (by omega)
      have := h3 (j - 1) (by omega)
      rw [fu_n (by omega), fu_n (by omega)]; exact h4 (i - 1) (j - 1) (by omega) (by omega)
  · by_cases c : l = n
    · subst c
      exact ⟨pos, by omega, by unfold in_f; rw [if_neg (by omega), if_pos rfl]⟩
    · rw [fu_n c] at hk2
      obtain ⟨i, hi, e⟩ := h5 l (by omega) hk2
      by_cases c2 : i < pos
      · exact ⟨i, by omega, by unfold in_f; rw [if_pos c2]; exact e⟩
      · exact ⟨i + 1, by omega, by unfold in_f; rw [if_neg (by omega), if_neg (by omega), Nat.add_sub_cancel]; exact e⟩
/-- the class's insertion by age -/
theorem sp_byAge {post : Int32 → Int32 → Int32 → (Nat → Int32) → (Nat → Int64) → (Nat → Int64) → (Nat → Int32) → (Nat → Int32) → Prop} {lc d : Nat} {la : Nat → Nat} {fl fk fs : Nat → Int32} {fa gd : Nat → Int64} {cn : Int32} (hn : n < 48) (hA : iv_A n kd dy0 lc la fl) (hd : d ≤ 100000) (hdy : ∀ i, i < n → kd i = 5 → gd i = lN (dy0 i) ∧ dy0 i ≤ 100000)
    (H : ∀ gl, rw_I (lc + 1) gl (in_f la (tn_f dy0 la d lc) n) → post (nI n) cn (nI (lc + 1)) fk fa gd fs gl) : ∃ k, wb_X1_addLot_37 post k (lN d) (nI n) (nI lc) cn (nI lc) fk fa gd fs fl := by
  obtain ⟨h1, h2, h3, h4, h5⟩ := hA
  refine lo_d1 (fun k j fo => wb_X1_addLot_37 post k (lN d) (nI n) (nI j) cn (nI lc) fk fa gd fs fo)
      (fun j fo => j ≤ lc ∧ (∀ a, a < j → fo a = nI (la a)) ∧ (∀ a, j < a → a ≤ lc → fo a = nI (la (a - 1))) ∧ tn_f dy0 la d lc = tn_f dy0 la d j) ?_ lc fl ⟨Nat.le_refl _, fun a h => h2 a h, fun a q1 q2 => by omega, rfl⟩
  intro k2 j fo hj ih2
  obtain ⟨j1, j2, j3, j4⟩ := hj
  have fin : tn_f dy0 la d lc = j → wb_X1_addLot_83 post (nI n) (nI j) cn (nI lc) fk fa gd fs fo := by
    intro et
    unfold wb_X1_addLot_83
    refine ⟨vp_in_nI (by omega) (by omega), fun f1 e1 x hx => ?_⟩
    rw [hx, nI_1]
    refine H f1 (fun a ha => ?_)
    rw [e1, nI_clamp (show j < 2 ^ 31 by omega), et]
    unfold in_f
    by_cases e : a = j
    · subst e; rw [pk_us, if_neg (by omega), if_pos rfl]
    · rw [pk_un e]
      by_cases e2 : a < j
      · rw [if_pos e2]; exact j2 a e2
      · rw [if_neg e2, if_neg e]; exact j3 a (by omega) (by omega)
  by_cases j0 : j = 0
  · subst j0
    exact ⟨fun _ => fin (by rw [j4]; rfl), fun q => absurd (by rw [nI_0]; exact Int32.le_refl 0) q⟩
  · obtain ⟨g1, g2⟩ := h3 (j - 1) (by omega)
    obtain ⟨d1, d2⟩ := hdy _ g1 g2
    refine ⟨fun q => absurd q (nI_nle (by omega) (by omega)), fun _ => ?_⟩
    rw [nq_m1 (by omega), nI_clamp (show j - 1 < 2 ^ 31 by omega), j2 (j - 1) (by omega), nI_clamp (show la (j - 1) < 2 ^ 31 by omega), nI_clamp (show j < 2 ^ 31 by omega), d1]
    have hjj : j = (j - 1) + 1 := by omega
    refine ⟨vp_in_nI (by omega) (by omega), vp_in_nI (by omega) (by omega), fun q => fin ?_, fun q => ⟨vp_in_nI (by omega) (by omega), vp_in_nI (by omega) (by omega), fun f1 e1 x hx => ?_⟩⟩
    · rw [j4, hjj, tn_f, if_neg]
      intro z
      exact q ((pk_lLT (by omega) (by omega)).mpr z)
    · have z := (pk_lLT (by omega) (by omega)).mp q
      rw [hx, nq_mm (by omega)]
      refine ih2 f1 (by omega) ⟨by omega, fun a h => ?_, fun a q1 q2 => ?_, ?_⟩
      · rw [e1, pk_un (by omega)]; exact j2 a (by omega)
      · rw [e1]
        by_cases e : a = j
        · subst e; rw [pk_us]
        · rw [pk_un e]; exact j3 a (by omega) q2
      · rw [j4]
        conv => lhs; rw [hjj, tn_f, if_pos z]
theorem amt_2 (a : Int64) : (a < 1 ∨ (¬ a < 1 ∧ 1000000 < a)) ∨ ∃ k : Nat, 1 ≤ k ∧ k ≤ 1000000 ∧ a = lN k ∧ ¬ a < 1 ∧ ¬ 1000000 < a := by
  by_cases h1 : a < 1
  · exact Or.inl (Or.inl h1)
  · by_cases h2 : 1000000 < a
    · exact Or.inl (Or.inr ⟨h1, h2⟩)
    · have e1 : (1 : Int64).toInt = 1 := by decide +kernel
      have e2 : (1000000 : Int64).toInt = 1000000 := by decide +kernel
      have t1 : ¬ a.toInt < 1 := fun q => h1 (Int64.lt_iff_toInt_lt.mpr (by rw [e1]; exact q))
      have t2 : ¬ 1000000 < a.toInt := fun q => h2 (Int64.lt_iff_toInt_lt.mpr (by rw [e2]; exact q))
      refine Or.inr ⟨a.toInt.toNat, by omega, by omega, ?_, h1, h2⟩
      apply Int64.toInt_inj.mp
      rw [pk_lT (by omega)]; omega
theorem day_2 (a : Int64) : (a < 0 ∨ (¬ a < 0 ∧ 100000 < a)) ∨ ∃ k : Nat, k ≤ 100000 ∧ a = lN k ∧ ¬ a < 0 ∧ ¬ 100000 < a := by
  by_cases h1 : a < 0
  · exact Or.inl (Or.inl h1)
  · by_cases h2 : 100000 < a
    · exact Or.inl (Or.inr ⟨h1, h2⟩)
    · have e1 : (0 : Int64).toInt = 0 := by decide +kernel
      have e2 : (100000 : Int64).toInt = 100000 := by decide +kernel
      have t1 : ¬ a.toInt < 0 := fun q => h1 (Int64.lt_iff_toInt_lt.mpr (by rw [e1]; exact q))
      have t2 : ¬ 100000 < a.toInt := fun q => h2 (Int64.lt_iff_toInt_lt.mpr (by rw [e2]; exact q))
      refine Or.inr ⟨a.toInt.toNat, by omega, ?_, h1, h2⟩
      apply Int64.toInt_inj.mp
      rw [pk_lT (by omega)]; omega
theorem sp_amt1 {post : Int32 → Prop} {a : Int64} (h1 : ¬ a < 1) (h2 : ¬ 1000000 < a) (H : post 1) : wp_X4_isAmount post a := ⟨fun q => absurd q h1, fun _ => ⟨fun q => absurd q h2, fun _ => H⟩⟩
theorem sp_amt0 {post : Int32 → Prop} {a : Int64} (h : a < 1 ∨ (¬ a < 1 ∧ 1000000 < a)) (H : post 0) : wp_X4_isAmount post a := by
  rcases h with h | ⟨h1, h2⟩
  · exact ⟨fun _ => H, fun q => absurd h q⟩
  · exact ⟨fun q => absurd q h1, fun _ => ⟨fun _ => H, fun q => absurd h2 q⟩⟩
theorem sp_day1 {post : Int32 → Prop} {a : Int64} (h1 : ¬ a < 0) (h2 : ¬ 100000 < a) (H : post 1) : wp_X4_isDay post a := ⟨fun q => absurd q h1, fun _ => ⟨fun q => absurd q h2, fun _ => H⟩⟩
theorem sp_day0 {post : Int32 → Prop} {a : Int64} (h : a < 0 ∨ (¬ a < 0 ∧ 100000 < a)) (H : post 0) : wp_X4_isDay post a := by
  rcases h with h | ⟨h1, h2⟩
  · exact ⟨fun _ => H, fun q => absurd h q⟩
  · exact ⟨fun q => absurd q h1, fun _ => ⟨fun _ => H, fun q => absurd h2 q⟩⟩
theorem sp_add {post : Int32 → Int32 → (Nat → Int32) → (Nat → Int32) → Prop} {lcn p : Int32} {fs : Nat → Int32} (hn : n ≤ 48) (H0 : n = 48 → post (-2) (nI n) fk fs) (H1 : n < 48 → post (nI n) (nI (n + 1)) (upd fk n p) (upd fs n (-1))) : wp_X1_add post (nI n) lcn fk fs p := by
  unfold wp_X1_add
  refine ⟨fun q => ?_, fun q => H0 ?_⟩
  · rw [nq_48, nI_ltI (by omega) (by omega)] at q
    rw [nI_clamp (show n < 2 ^ 31 by omega)]
    refine ⟨vp_in_nI q (by omega), fun f1 e1 => ⟨vp_in_nI q (by omega), fun f2 e2 v ev => ?_⟩⟩
    rw [ev, e1, e2, nI_1, nq_m1 (by omega), Nat.add_sub_cancel]
    exact H1 q
  · rw [nq_48, nI_ltI (by omega) (by omega)] at q; omega
theorem sp_make {post : Int32 → Int32 → (Nat → Int32) → (Nat → Int64) → (Nat → Int64) → (Nat → Int32) → (Nat → Int32) → (Nat → Int32) → Prop} {c1 r1 t1 p : Int32} {l1 a d : Int64} {fp fc fh : Nat → Int32} (hn : n ≤ 48) (H0 : n = 48 → post (-2) (nI n) fk' fa' fd' fp fc fh) (H1 : n < 48 → post (nI n) (nI (n + 1)) (upd fk' n p) (vp_updL fa' n a) (vp_updL fd' n d) (upd fp n (-1)) (upd fc n (-1)) (upd fh n 0)) : wp_X5_make post (nI n) c1 l1 r1 t1 fk' fa' fd' fp fc fh p a d := by
  unfold wp_X5_make
  refine ⟨fun q => ?_, fun q => H0 ?_⟩
  · rw [nq_48, nI_eq (by omega) (by omega)] at q
    have q : n < 48 := by omega
    rw [nI_clamp (show n < 2 ^ 31 by omega)]
    have hin : vp_in (nI n) 48 := vp_in_nI q (by omega)
    refine ⟨hin, fun f1 e1 => ⟨hin, fun f2 e2 => ⟨hin, fun f3 e3 => ⟨hin, fun f4 e4 => ⟨hin, fun f5 e5 => ⟨hin, fun f6 e6 v ev => ?_⟩⟩⟩⟩⟩⟩
    rw [ev, e1, e2, e3, e4, e5, e6, nI_1, nq_m1 (by omega), Nat.add_sub_cancel, nar_0]
    exact H1 q
  · rw [nq_48, nI_eq (by omega) (by omega)] at q; exact q
/-- thing -/
theorem op_thing {lt l1 : Int64} {lcn c1 r1 t1 : Int32} {lc : Nat} {la : Nat → Nat} {fl fh fh' fs fp fc : Nat → Int32} {gf gt : Nat → Int32} {ga gd : Nat → Int64} {go gf' gt' : Nat → Int32} {ga' gd' : Nat → Int64} {su sc sw sd sr : Nat → Int64} {s : (Nat → Nat → Nat) × (Nat → Nat → Bool)} (hN : iv_N n kd am0 dy0 fk fa fd fk' fa' fd') (hH : iv_H n fh fh') (hP : iv_P n fs fp fc) (hA : iv_A n kd dy0 lc la fl) (hF : iv_F n m kd dy0 fr to am dy gf gt ga gd go gf' gt' ga' gd') (hS : iv_S n m kd am0 fr to am dy s su sc sw sd sr) (p : Int32) :
    ∃ (v : Int32) (n' : Nat) (kd' am0' dy0' : Nat → Nat) (hk gs hk' : Nat → Int32) (ha' hd' : Nat → Int64) (gp gc gh' : Nat → Int32), iv_N n' kd' am0' dy0' hk fa fd hk' ha' hd' ∧ iv_H n' fh gh' ∧ iv_P n' gs gp gc ∧ iv_A n' kd' dy0' lc la fl ∧ iv_F n' m kd' dy0' fr to am dy gf gt ga gd go gf' gt' ga' gd' ∧ iv_S n' m kd' am0' fr to am dy s su sc sw sd sr ∧
      (∀ post : Int32 → Int32 → (Nat → Int32) → (Nat → Int32) → Prop, post v (nI n') hk gs → wp_X4_thing post lt (nI n) lcn fk fs p) ∧ ∀ post : Int32 → Int32 → Int32 → (Nat → Int32) → (Nat → Int64) → (Nat → Int64) → (Nat → Int32) → (Nat → Int32) → (Nat → Int32) → Prop, post v (nI n') 0 hk' ha' hd' gp gc gh' → wp_X5_thing post (nI n) c1 l1 r1 t1 fk' fa' fd' fp fc fh' p := by
  have hn := hN.1
  by_cases h1 : p < 0
  · exact ⟨(-1), n, kd, am0, dy0, fk, fs, fk', fa', fd', fp, fc, fh', hN, hH, hP, hA, hF, hS, fun post H => ⟨fun _ => H, fun q => absurd h1 q⟩, fun post H => ⟨fun _ => H, fun q => absurd h1 q⟩⟩
  · by_cases h2 : p ≤ 4
    · obtain ⟨k, hk, rfl⟩ : ∃ k : Nat, k < 5 ∧ p = nI k := by
        rcases pk_ix p (show 5 < 2 ^ 31 by omega) with h | h | h
        · exact absurd h h1
        · exfalso
          rw [Int32.le_iff_toInt_le] at h h2
          have e5 : (nI 5).toInt = 5 := by decide +kernel
          have e4 : (4 : Int32).toInt = 4 := by decide +kernel
          omega
        · exact h
      by_cases hf : n = 48
      · exact ⟨(-2), n, kd, am0, dy0, fk, fs, fk', fa', fd', fp, fc, fh', hN, hH, hP, hA, hF, hS, fun post H => ⟨fun q => absurd q h1, fun _ => ⟨fun _ => sp_add hn (fun _ => H) (fun q => by omega), fun q => absurd h2 q⟩⟩, fun post H => ⟨fun q => absurd q h1, fun _ => ⟨fun _ => sp_make hn (fun _ => H) (fun q => by omega), fun q => absurd h2 q⟩⟩⟩
      · have hn2 : n < 48 := by omega
        refine ⟨nI n, n + 1, fu_up kd n k, fu_up am0 n 0, fu_up dy0 n 0, upd fk n (nI k), upd fs n (-1), upd fk' n (nI k), vp_updL fa' n 0, vp_updL fd' n 0, upd fp n (-1), upd fc n (-1), upd fh' n 0, ?_, hH.ext hn2, hP.ext, hA.thing (by omega) 0, hF.ext k 0, iv_S.thing hF.2.2.2.2.2.2.2.2.2.2 hS (by omega) 0, fun post H => ?_, fun post H => ?_⟩
        · refine hN.ext hn2 (by omega) (fun i hi => ?_) pk_us (by rw [pk_us, if_neg (by omega)]) (fun q => by omega)
          rw [pk_un (by omega), pk_un (by omega), pk_uLn (by omega), pk_uLn (by omega)]
          exact ⟨rfl, rfl, rfl, rfl, rfl, rfl⟩
        · exact ⟨fun q => absurd q h1, fun _ => ⟨fun _ => sp_add hn (fun q => by omega) (fun _ => H), fun q => absurd h2 q⟩⟩
        · exact ⟨fun q => absurd q h1, fun _ => ⟨fun _ => sp_make hn (fun q => by omega) (fun _ => H), fun q => absurd h2 q⟩⟩
    · exact ⟨(-1), n, kd, am0, dy0, fk, fs, fk', fa', fd', fp, fc, fh', hN, hH, hP, hA, hF, hS, fun post H => ⟨fun q => absurd q h1, fun _ => ⟨fun q => absurd q h2, fun _ => H⟩⟩, fun post H => ⟨fun q => absurd q h1, fun _ => ⟨fun q => absurd q h2, fun _ => H⟩⟩⟩
/-- lot -/
theorem op_lot {spc : Int32} {lt l1 : Int64} {lcn c1 r1 t1 : Int32} {lc : Nat} {la : Nat → Nat} {fl fh fh' fs fp fc : Nat → Int32} {gf gt : Nat → Int32} {ga gd : Nat → Int64} {go gf' gt' : Nat → Int32} {ga' gd' : Nat → Int64} {su sc sw sd sr : Nat → Int64} {s : (Nat → Nat → Nat) × (Nat → Nat → Bool)} (hN : iv_N n kd am0 dy0 fk fa fd fk' fa' fd') (hH : iv_H n fh fh') (hP : iv_P n fs fp fc) (hA : iv_A n kd dy0 lc la fl) (hF : iv_F n m kd dy0 fr to am dy gf gt ga gd go gf' gt' ga' gd') (hS : iv_S n m kd am0 fr to am dy s su sc sw sd sr) (a d : Int64) :
    ∃ (v : Int32) (n' lc' : Nat) (kd' am0' dy0' la' : Nat → Nat) (s' : (Nat → Nat → Nat) × (Nat → Nat → Bool)) (hk : Nat → Int32) (ha hd : Nat → Int64) (gs : Nat → Int32) (tu tc tr : Nat → Int64) (hk' : Nat → Int32) (ha' hd' : Nat → Int64) (gp gc gh' : Nat → Int32), iv_N n' kd' am0' dy0' hk ha hd hk' ha' hd' ∧ iv_H n' fh gh' ∧ iv_P n' gs gp gc ∧ iv_F n' m kd' dy0' fr to am dy gf gt ga gd go gf' gt' ga' gd' ∧ iv_S n' m kd' am0' fr to am dy s' tu tc sw sd tr ∧
      (∀ post : Int32 → Int32 → Int32 → (Nat → Int32) → (Nat → Int64) → (Nat → Int64) → (Nat → Int32) → (Nat → Int32) → (Nat → Int64) → (Nat → Int64) → (Nat → Int64) → Prop, (∀ gl, iv_A n' kd' dy0' lc' la' gl → post v (nI n') (nI lc') hk ha hd gs gl tu tc tr) → wp_X4_lot post lt (nI n) (nI lc) fk fa fd fs fl spc su sc sr a d) ∧ ∀ post : Int32 → Int32 → Int32 → (Nat → Int32) → (Nat → Int64) → (Nat → Int64) → (Nat → Int32) → (Nat → Int32) → (Nat → Int32) → Prop, post v (nI n') 0 hk' ha' hd' gp gc gh' → wp_X5_lot post (nI n) c1 l1 r1 t1 fk' fa' fd' fp fc fh' a d := by
  have hn := hN.1
  rcases amt_2 a with h | ⟨ka, a1, a2, rfl, a3, a4⟩
  · refine ⟨(-1), n, lc, kd, am0, dy0, la, s, fk, fa, fd, fs, su, sc, sr, fk', fa', fd', fp, fc, fh', hN, hH, hP, hF, hS, fun post H => sp_amt0 h ⟨fun _ => H fl hA, fun q => absurd rfl q⟩, fun post H => ?_⟩
    rcases h with h | ⟨g1, g2⟩
    · exact ⟨fun _ => H, fun q => absurd h q⟩
    · exact ⟨fun q => absurd q g1, fun _ => ⟨fun _ => H, fun q => absurd g2 q⟩⟩
  · rcases day_2 d with h | ⟨kt, d2, rfl, d3, d4⟩
    · refine ⟨(-1), n, lc, kd, am0, dy0, la, s, fk, fa, fd, fs, su, sc, sr, fk', fa', fd', fp, fc, fh', hN, hH, hP, hF, hS, fun post H => sp_amt1 a3 a4 ⟨fun q => absurd q (by decide), fun _ => sp_day0 h ⟨fun q => absurd rfl q, fun _ => H fl hA⟩⟩, fun post H => ⟨fun q => absurd q a3, fun _ => ⟨fun q => absurd q a4, fun _ => ?_⟩⟩⟩
      rcases h with h | ⟨g1, g2⟩
      · exact ⟨fun _ => H, fun q => absurd h q⟩
      · exact ⟨fun q => absurd q g1, fun _ => ⟨fun q => absurd g2 q, fun _ => H⟩⟩
    · by_cases hf : n = 48
      · refine ⟨(-2), n, lc, kd, am0, dy0, la, s, fk, fa, fd, fs, su, sc, sr, fk', fa', fd', fp, fc, fh', hN, hH, hP, hF, hS, fun post H => sp_amt1 a3 a4 ⟨fun q => absurd q (by decide), fun _ => sp_day1 d3 d4 ⟨fun _ => ?_, fun q => absurd q (by decide)⟩⟩, fun post H => ⟨fun q => absurd q a3, fun _ => ⟨fun q => absurd q a4, fun _ => ⟨fun q => absurd q d3, fun _ => ⟨fun _ => sp_make hn (fun _ => H) (fun q => by omega), fun q => absurd q d4⟩⟩⟩⟩⟩
        unfold wp_X1_addLot
        refine sp_add hn (fun _ => ⟨fun q => absurd q (by decide), fun _ => ?_⟩) (fun q => by omega)
        exact sp_isLot0 hn (Or.inl (by decide)) ⟨fun _ => H fl hA, fun q => absurd rfl q⟩
      · have hn2 : n < 48 := by omega
        have hF2 := hF.2.2.2.2.2.2.2.2.2.2
        refine ⟨nI n, n + 1, lc + 1, fu_up kd n 5, fu_up am0 n ka, fu_up dy0 n kt, in_f la (tn_f dy0 la kt lc) n, ex_s n ka true s, upd fk n 5, vp_updL fa n (lN ka), vp_updL fd n (lN kt), upd fs n (-1), vp_updL su (n * 48 + n) (lN ka), vp_updL sc n (lN ka), vp_updL sr n (bt_l n), upd fk' n (-1), vp_updL fa' n (lN ka), vp_updL fd' n (lN kt), upd fp n (-1), upd fc n (-1), upd fh' n 0, ?_, hH.ext hn2, hP.ext, hF.ext 5 kt, iv_S.lot hn2 hF2 hS ka, fun post H => ?_, fun post H => ?_⟩
        · refine hN.ext hn2 (by omega) (fun i hi => ?_) pk_us (by rw [pk_us, if_pos rfl]) (fun q => ?_)
          · rw [pk_un (by omega), pk_un (by omega), pk_uLn (by omega), pk_uLn (by omega), pk_uLn (by omega), pk_uLn (by omega)]
            exact ⟨rfl, rfl, rfl, rfl, rfl, rfl⟩
          · rw [pk_uLs, pk_uLs, pk_uLs, pk_uLs]; exact ⟨rfl, rfl, a2, rfl, rfl, d2⟩
        · refine sp_amt1 a3 a4 ⟨fun q => absurd q (by decide), fun _ => sp_day1 d3 d4 ⟨fun _ => ?_, fun q => absurd q (by decide)⟩⟩
          unfold wp_X1_addLot
          have hin : vp_in (nI n) 48 := vp_in_nI hn2 (by omega)
          refine sp_add hn (fun q => by omega) (fun _ => ⟨fun _ => ⟨hin, fun f1 e1 => ⟨hin, fun f2 e2 => ?_⟩⟩, fun q => absurd (ge_0.mpr (nI_pos (by omega))) q⟩)
          rw [nI_clamp (show n < 2 ^ 31 by omega)] at e1 e2
          subst e1 e2
          refine sp_byAge hn2 hA d2 (fun i hi hk5 => ?_) (fun gl hgl => sp_isLot1 hn2 (by omega) (fun _ => ⟨fun q => absurd q (by decide), fun _ => sp_admit (by omega) ?_⟩) (fun q => absurd pk_us q))
          · obtain ⟨z1, z2, z3, z4, z5, z6⟩ := hN.2.2 i hi hk5
            rw [pk_uLn (by omega)]; exact ⟨z4, z6⟩
          · rw [pk_uLs]; exact H gl (hA.lot kt hgl)
        · exact ⟨fun q => absurd q a3, fun _ => ⟨fun q => absurd q a4, fun _ => ⟨fun q => absurd q d3, fun _ => ⟨fun _ => sp_make hn (fun q => by omega) (fun _ => H), fun q => absurd q d4⟩⟩⟩⟩
end ADD
