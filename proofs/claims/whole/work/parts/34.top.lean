/-! TOP: what the lots give, in the order of their age -/
def tp_m (gv la : Nat → Nat) (a : Nat) : Nat → Nat
  | 0 => a
  | i + 1 => tp_m gv la a i - min (tp_m gv la a i) (gv (la i))
def tp_g (gv la : Nat → Nat) (a i : Nat) : Nat := min (tp_m gv la a i) (gv (la i))
def tp_k (gv la : Nat → Nat) (a : Nat) : Nat → Nat
  | 0 => 0
  | i + 1 => tp_k gv la a i + (if 0 < tp_g gv la a i then 1 else 0)
def tp_u (gv la : Nat → Nat) (a m : Nat) (v f : Nat → Nat) : Nat → Nat → Nat
  | 0 => f
  | i + 1 => if 0 < tp_g gv la a i then fu_up (tp_u gv la a m v f i) (m + tp_k gv la a i) (v i) else tp_u gv la a m v f i
theorem tp_ms (gv la : Nat → Nat) (a i : Nat) : tp_m gv la a (i + 1) = tp_m gv la a i - tp_g gv la a i := rfl
theorem tp_ks (gv la : Nat → Nat) (a i : Nat) : tp_k gv la a (i + 1) = tp_k gv la a i + (if 0 < tp_g gv la a i then 1 else 0) := rfl
theorem tp_us (gv la : Nat → Nat) (a m : Nat) (v f : Nat → Nat) (i : Nat) : tp_u gv la a m v f (i + 1) = if 0 < tp_g gv la a i then fu_up (tp_u gv la a m v f i) (m + tp_k gv la a i) (v i) else tp_u gv la a m v f i := rfl
theorem tp_same {gv la : Nat → Nat} {a p q : Nat} (h : p ≤ q) (hz : ∀ j, p ≤ j → j < q → gv (la j) = 0) : tp_m gv la a q = tp_m gv la a p ∧ tp_k gv la a q = tp_k gv la a p ∧ ∀ m v f, tp_u gv la a m v f q = tp_u gv la a m v f p := by
  induction q with
  | zero => rw [show p = 0 by omega]; exact ⟨rfl, rfl, fun _ _ _ => rfl⟩
  | succ q ih =>
    by_cases c : p = q + 1
    · subst c; exact ⟨rfl, rfl, fun _ _ _ => rfl⟩
    · obtain ⟨i1, i2, i3⟩ := ih (by omega) (fun j a b => hz j a (by omega))
      have e : tp_g gv la a q = 0 := by unfold tp_g; rw [hz q (by omega) (by omega)]; exact Nat.min_zero _
      refine ⟨by rw [tp_ms, e, i1]; rfl, by rw [tp_ks, e, i2, if_neg (by omega)]; rfl, fun m v f => by rw [tp_us, e, if_neg (by omega)]; exact i3 m v f⟩
theorem tp_zero {gv la : Nat → Nat} {a p q : Nat} (h : p ≤ q) (hz : tp_m gv la a p = 0) : tp_m gv la a q = 0 ∧ tp_k gv la a q = tp_k gv la a p ∧ ∀ m v f, tp_u gv la a m v f q = tp_u gv la a m v f p := by
  induction q with
  | zero => rw [show p = 0 by omega] at hz ⊢; exact ⟨hz, rfl, fun _ _ _ => rfl⟩
  | succ q ih =>
    by_cases c : p = q + 1
    · subst c; exact ⟨hz, rfl, fun _ _ _ => rfl⟩
    · obtain ⟨i1, i2, i3⟩ := ih (by omega)
      have e : tp_g gv la a q = 0 := by unfold tp_g; rw [i1]; exact Nat.zero_min _
      refine ⟨by rw [tp_ms, e, i1], by rw [tp_ks, e, i2, if_neg (by omega)]; rfl, fun m v f => by rw [tp_us, e, if_neg (by omega)]; exact i3 m v f⟩
theorem tp_kmono {gv la : Nat → Nat} {a p q : Nat} (h : p ≤ q) : tp_k gv la a p ≤ tp_k gv la a q := by
  induction q with
  | zero => rw [show p = 0 by omega]; exact Nat.le_refl _
  | succ q ih =>
    by_cases c : p = q + 1
    · subst c; exact Nat.le_refl _
    · have := ih (by omega)
      rw [tp_ks]; omega
theorem tp_kle (gv la : Nat → Nat) (a p : Nat) : tp_k gv la a p ≤ p := by
  induction p with
  | zero => exact Nat.le_refl _
  | succ q ih => rw [tp_ks]; split <;> omega
theorem tp_mle (gv la : Nat → Nat) (a p : Nat) : tp_m gv la a p ≤ a := by
  induction p with
  | zero => exact Nat.le_refl _
  | succ q ih => rw [tp_ms]; omega
theorem tp_ulo {gv la : Nat → Nat} {a m : Nat} {v f : Nat → Nat} {k : Nat} (hk : k < m) (p : Nat) : tp_u gv la a m v f p k = f k := by
  induction p with
  | zero => rfl
  | succ q ih =>
    rw [tp_us]
    split
    · rw [fu_n (by omega)]; exact ih
    · exact ih
theorem tn_all {dy o : Nat → Nat} {d m : Nat} (h : ∀ k, k < m → dy (o k) ≤ d) : tn_f dy o d m = m := by
  cases m with
  | zero => rfl
  | succ j => rw [tn_f, if_neg (by have := h j (by omega); omega)]
section TOP
variable {n m : Nat} {kd am0 dy0 fr to am dy : Nat → Nat} {fk : Nat → Int32} {fa fd : Nat → Int64} {fk' : Nat → Int32} {fa' fd' : Nat → Int64}
/-- in a lot there is nothing but itself -/
theorem rn_diag {s : (Nat → Nat → Nat) × (Nat → Nat → Bool)} (hF : fl_all n m kd dy0 fr to am dy) : ∀ k s, k ≤ m → rn_f n fr to am (od_f dy m) (in_u n (lo_k kd) am0, in_c n (lo_k kd)) k = some s → ∀ i l, kd i = 5 → l ≠ i → s.1 i l = 0 := by
  intro k
  induction k with
  | zero =>
    intro s _ h i l h5 hl
    rw [rn_f] at h; cases h
    show in_u n (lo_k kd) am0 i l = 0
    unfold in_u
    rw [if_neg (fun q => hl q.1.symm)]
  | succ k ih =>
    intro s hk h i l h5 hl
    rw [rn_f] at h
    cases e : rn_f n fr to am (od_f dy m) (in_u n (lo_k kd) am0, in_c n (lo_k kd)) k with
    | none => rw [e] at h; cases h
    | some t =>
      rw [e] at h
      have b := ih t (by omega) e i l h5 hl
      obtain ⟨g1, g2, g3, g4, g5, g6, g7, g8⟩ := hF (od_f dy m k) (od_lt dy m k (by omega))
      dsimp only at h
      by_cases c1 : am (od_f dy m k) = 0
      · rw [if_pos c1] at h; cases h; exact b
      · rw [if_neg c1] at h
        by_cases c2 : su_m (t.1 (fr (od_f dy m k))) n < am (od_f dy m k)
        · rw [if_pos c2] at h; cases h
        · rw [if_neg c2] at h; cases h
          show mv_u n _ _ _ t.1 i l = 0
          unfold mv_u
          have ne : ¬ i = to (od_f dy m k) := fun q => g6 (by rw [← q]; exact h5)
          rw [if_neg ne, b]
          split
          · split
            · omega
            · rfl
          · rfl
theorem lot_own {s : (Nat → Nat → Nat) × (Nat → Nat → Bool)} (hF : fl_all n m kd dy0 fr to am dy) (hs : rn_k n m kd am0 fr to am dy = some s) {i : Nat} (hi : i < n) (h5 : kd i = 5) : su_m (s.1 i) n = s.1 i i := su_one hi (fun j _ hj => rn_diag (s := s) hF m s (Nat.le_refl m) hs i j h5 hj)
/-- all told flows of a top can happen -/
def tp_F (gv la : Nat → Nat) (a m D t : Nat) (fr to am dy : Nat → Nat) (p : Nat) : (Nat → Nat) × (Nat → Nat) × (Nat → Nat) × (Nat → Nat) := (tp_u gv la a m la fr p, tp_u gv la a m (fun _ => t) to p, tp_u gv la a m (tp_g gv la a) am p, tp_u gv la a m (fun _ => D) dy p)
theorem tp_run {s : (Nat → Nat → Nat) × (Nat → Nat → Bool)} {gv la : Nat → Nat} {a D t lc : Nat} (hF : fl_all n m kd dy0 fr to am dy) (hs : rn_k n m kd am0 fr to am dy = some s) (hD : ∀ k, k < m → dy k ≤ D) (hD2 : D ≤ 100000) (ha : a ≤ 1000000) (ht : t < n) (kt : kd t ≠ 5) (hl : ∀ j, j < lc → la j < n ∧ kd (la j) = 5 ∧ (0 < gv (la j) → dy0 (la j) ≤ D ∧ gv (la j) ≤ su_m (s.1 (la j)) n)) (hi : ∀ i j, i < j → j < lc → la i ≠ la j) :
    ∀ p, p ≤ lc → ∃ sp, rn_k n (m + tp_k gv la a p) kd am0 (tp_u gv la a m la fr p) (tp_u gv la a m (fun _ => t) to p) (tp_u gv la a m (tp_g gv la a) am p) (tp_u gv la a m (fun _ => D) dy p) = some sp ∧ fl_all n (m + tp_k gv la a p) kd dy0 (tp_u gv la a m la fr p) (tp_u gv la a m (fun _ => t) to p) (tp_u gv la a m (tp_g gv la a) am p) (tp_u gv la a m (fun _ => D) dy p) ∧ (∀ k, k < m + tp_k gv la a p → tp_u gv la a m (fun _ => D) dy p k ≤ D) ∧ ∀ j, p ≤ j → j < lc → su_m (sp.1 (la j)) n = su_m (s.1 (la j)) n := by
  intro p
  induction p with
  | zero => intro _; exact ⟨s, hs, hF, hD, fun _ _ _ => rfl⟩
  | succ p ih =>
    intro hp
    obtain ⟨sp, i1, i2, i3, i4⟩ := ih (by omega)
    obtain ⟨l1, l2, l3⟩ := hl p (by omega)
    rw [tp_ks]
    simp only [tp_us]
    by_cases c : 0 < tp_g gv la a p
    · simp only [if_pos c]
      have gpos : 0 < gv (la p) := by unfold tp_g at c; omega
      obtain ⟨l4, l5⟩ := l3 gpos
      have gle : tp_g gv la a p ≤ su_m (sp.1 (la p)) n := by rw [i4 p (Nat.le_refl p) (by omega)]; unfold tp_g; omega
      have ga : tp_g gv la a p ≤ 1000000 := by have := tp_mle gv la a p; unfold tp_g; omega
      have tn : tn_f (tp_u gv la a m (fun _ => D) dy p) (od_f (tp_u gv la a m (fun _ => D) dy p) (m + tp_k gv la a p)) D (m + tp_k gv la a p) = m + tp_k gv la a p := tn_all (fun k hk => i3 _ (od_lt _ _ k hk))
      have ap := rn_app (f := la p) (t := t) (a := tp_g gv la a p) i1 tn c
      rw [if_neg (by omega)] at ap
      have nt : la p ≠ t := fun q => kt (by rw [← q]; exact l2)
      refine ⟨_, ap, fl_app i2 l1 ht nt ga hD2 kt (by omega) (fun _ => l4), fun k hk => ?_, fun j h1 h2 => ?_⟩
      · by_cases e : k = m + tp_k gv la a p
        · subst e; rw [fu_s]; exact Nat.le_refl _
        · rw [fu_n e]; exact i3 k (by omega)
      · rw [← i4 j (by omega) h2]
        refine su_congr (fun l hl2 => ?_)
        show mv_u n (la p) t (tp_g gv la a p) sp.1 (la j) l = sp.1 (la j) l
        unfold mv_u
        have ne1 : ¬ la j = la p := fun q => hi p j (by omega) h2 q.symm
        have ne2 : ¬ la j = t := fun q => kt (by rw [← q]; exact (hl j h2).2.1)
        rw [if_neg ne1, if_neg ne2]
        split <;> rfl
    · simp only [if_neg c]
      exact ⟨sp, i1, i2, i3, fun j h1 h2 => i4 j (by omega) h2⟩
/-- what a lot gives -/
def gv_f (n : Nat) (s : (Nat → Nat → Nat) × (Nat → Nat → Bool)) (dy0 : Nat → Nat) (fh : Nat → Int32) (q : Int32) (D : Nat) : Nat → Nat := fun l => if (q = -1 ∨ q = nI l) ∧ fh l = 0 ∧ dy0 l ≤ D then su_m (s.1 l) n else 0
theorem sp_canGive {spc : Int32} {post : Int64 → Prop} {lt : Int64} {lcn q : Int32} {fh : Nat → Int32} {sc sw : Nat → Int64} {s : (Nat → Nat → Nat) × (Nat → Nat → Bool)} {D l : Nat} (hN : iv_N n kd am0 dy0 fk fa fd fk' fa' fd') (hl : l < n) (h5 : kd l = 5) (hD : D ≤ 100000) (hc : sc l - sw l = lN (su_m (s.1 l) n)) (H : post (lN (gv_f n s dy0 fh q D l))) : wp_X4_canGive post lt (nI n) lcn fd fh spc sc sw (nI l) q (lN D) := by
  have hn := hN.1
  obtain ⟨y1, y2, y3, y4, y5, y6⟩ := hN.2.2 l hl h5
  have hin : vp_in (nI l) 48 := vp_in_nI (by omega) (by omega)
  have go12 : (q = -1 ∨ q = nI l) → wb_X4_canGive_12 post lt (nI n) lcn fd fh spc sc sw (nI l) (lN D) := by
    intro hq
    unfold wb_X4_canGive_12 wb_X4_canGive_38
    rw [nI_clamp (show l < 2 ^ 31 by omega), y4]
    have z : ∀ {A : Prop}, ¬ ((q = -1 ∨ q = nI l) ∧ fh l = 0 ∧ dy0 l ≤ D) → post 0 := fun w => by
      unfold gv_f at H
      rw [if_neg w] at H; exact H
    refine ⟨hin, fun w => z (A := True) (fun v => w v.2.1), fun w1 => ⟨hin, fun w2 => sp_unitsIn (by omega) ?_, fun w2 => z (A := True) (fun v => ?_)⟩⟩
    · rw [hc]
      unfold gv_f at H
      have w3 : dy0 l ≤ D := by rw [pk_lLT (by omega) (by omega)] at w2; omega
      rw [if_pos ⟨hq, w1, w3⟩] at H
      exact H
    · rw [pk_lLT (by omega) (by omega)] at w2; omega
  unfold wp_X4_canGive
  refine ⟨fun w => go12 (Or.inl w), fun w => ⟨fun w2 => go12 (Or.inr w2), fun w2 => ?_⟩⟩
  unfold gv_f at H
  rw [if_neg (fun v => by rcases v.1 with v | v; exact w v; exact w2 v)] at H; exact H
theorem min_lN {x y : Nat} (hx : x < 2 ^ 62) (hy : y < 2 ^ 62) : (if lN x < lN y then lN x else lN y) = lN (min y x) := by
  by_cases c : x < y
  · rw [if_pos ((pk_lLT (by omega) (by omega)).mpr c), Nat.min_eq_right (by omega)]
  · rw [if_neg (fun q => c ((pk_lLT (by omega) (by omega)).mp q)), Nat.min_eq_left (by omega)]
theorem sp_countTop {spc : Int32} {post : Int32 → Prop} {lt : Int64} {q : Int32} {fh fl : Nat → Int32} {sc sw : Nat → Int64} {s : (Nat → Nat → Nat) × (Nat → Nat → Bool)} {D a lc : Nat} {la : Nat → Nat} (hN : iv_N n kd am0 dy0 fk fa fd fk' fa' fd') (hA : iv_A n kd dy0 lc la fl) (hD : D ≤ 100000) (ha : a ≤ 1000000) (hb : ∀ i, su_m (s.1 i) n ≤ 1000000000) (hc : ∀ l, l < n → sc l - sw l = lN (su_m (s.1 l) n)) (H : post (if 0 < tp_m (gv_f n s dy0 fh q D) la a lc then -1 else nI (tp_k (gv_f n s dy0 fh q D) la a lc))) : wp_X4_countTopFlows post lt (nI n) (nI lc) fd fh fl spc sc sw q (lN a) (lN D) := by
  have hn := hN.1
  obtain ⟨a1, a2, a3, a4, a5⟩ := hA
  have gb : ∀ l, gv_f n s dy0 fh q D l ≤ 1000000000 := fun l => by
    unfold gv_f; split
    · exact hb l
    · omega
  generalize hgv : gv_f n s dy0 fh q D = gv at H gb
  unfold wp_X4_countTopFlows
  refine lo_u1 (A1 := Unit) (fun k i _ => wb_X4_countTopFlows_9 post lt (nI n) (nI lc) fd fh fl spc sc sw k q (lN D) (lN (tp_m gv la a i)) (nI (tp_k gv la a i)) (nI i)) (fun _ _ => True) lc ?_ ?_ 0 () (by omega) trivial
  · intro k _ _
    have mb := tp_mle gv la a lc
    refine ⟨fun _ => ⟨fun w => ?_, fun w => ?_⟩, fun w => absurd (nI_le (Nat.le_refl lc) (by omega)) w⟩
    · rw [nq_pos (by omega)] at w; rw [if_neg w] at H; exact H
    · rw [nq_pos (by omega)] at w; rw [if_pos w] at H; exact H
  · intro k i _ hi _ ih
    have ih := ih () trivial
    have mb := tp_mle gv la a i
    obtain ⟨b1, b2⟩ := a3 i hi
    refine ⟨fun w => absurd w (nI_ge hi (by omega)), fun _ => ⟨fun w => ⟨fun _ => ?_, fun w2 => absurd w2 w⟩, fun w => ⟨vp_in_nI (by omega) (by omega), ?_⟩⟩⟩
    · rw [nq_pos (by omega)] at w
      obtain ⟨z1, z2, z3⟩ := tp_zero (gv := gv) (la := la) (a := a) (p := i) (q := lc) (by omega) (by omega)
      rw [if_neg (by omega), z2] at H; exact H
    · rw [nI_clamp (show i < 2 ^ 31 by omega), a2 i hi]
      refine sp_canGive hN b1 b2 hD (hc _ b1) (fun x hx => ?_)
      rw [hgv] at hx
      have gb2 := gb (la i)
      rw [min_lN (by omega) (by omega)] at hx
      have hx : x = lN (tp_g gv la a i) := hx
      have gle : tp_g gv la a i ≤ tp_m gv la a i := Nat.min_le_left _ _
      rw [hx, nq_pos (by omega)]
      rw [tp_ms, tp_ks] at ih
      refine ⟨fun w y hy => ?_, fun w y hy z hz u hu => ?_⟩
      · rw [hy, nI_1]
        rw [if_neg w, show tp_g gv la a i = 0 by omega] at ih; exact ih
      · rw [hy, hz, hu, lN_sub gle, nI_1, nI_1]
        rw [if_pos w] at ih; exact ih
theorem sp_greatest {post : Int64 → Prop} {gd : Nat → Int64} {go : Nat → Int32} (hm : m ≤ 400) (rd : rw_J m gd dy) (ro : rw_I m go (od_f dy m)) (H : post (lN (if m = 0 then 0 else dy (od_f dy m (m - 1))))) : wp_X0_greatestDay post (nI m) gd go := by
  unfold wp_X0_greatestDay
  by_cases c : m = 0
  · subst c
    refine ⟨fun w => absurd nI_0 w, fun _ => ?_⟩
    rw [if_pos rfl] at H; exact H
  · refine ⟨fun _ => ?_, fun w => absurd w (nI_ne0 (by omega) (by omega))⟩
    have h1 := od_lt dy m (m - 1) (by omega)
    rw [nq_m1 (by omega), nI_clamp (show m - 1 < 2 ^ 31 by omega), ro _ (by omega), nI_clamp (show od_f dy m (m - 1) < 2 ^ 31 by omega), rd _ h1]
    rw [if_neg c] at H
    exact ⟨vp_in_nI (by omega) (by omega), vp_in_nI (by omega) (by omega), H⟩
theorem sp_tellTop {post : Int32 → (Nat → Int32) → (Nat → Int32) → (Nat → Int64) → (Nat → Int64) → (Nat → Int32) → Int32 → (Nat → Int64) → (Nat → Int64) → (Nat → Int64) → (Nat → Int64) → (Nat → Int64) → (Nat → Int32) → (Nat → Int64) → (Nat → Int64) → Int32 → (Nat → Int64) → (Nat → Int64) → (Nat → Int64) → (Nat → Int64) → (Nat → Int64) → (Nat → Int32) → (Nat → Int64) → (Nat → Int64) → Prop} {lt : Int64} {q : Int32} {fh fl : Nat → Int32} {gf gt go : Nat → Int32} {ga gd su sc sw sd sr sp sq tu tc tw td tr tp tq : Nat → Int64} {spc tpc : Int32} {se te : Nat → Int32} {s : (Nat → Nat → Nat) × (Nat → Nat → Bool)} {D a lc t : Nat} {la : Nat → Nat} (hN : iv_N n kd am0 dy0 fk fa fd fk' fa' fd') (hA : iv_A n kd dy0 lc la fl) (hm : m + tp_k (gv_f n s dy0 fh q D) la a lc ≤ 400) (hC : fc_R m fr to am dy gf gt ga gd go) (hF : fl_all n m kd dy0 fr to am dy) (hS : iv_S n m kd am0 fr to am dy s su sc sw sd sr) (hD : ∀ k, k < m → dy k ≤ D) (hD2 : D ≤ 100000) (ha : a ≤ 1000000) (ht : t < n) (kt : kd t ≠ 5)
    (H : ∀ s' gf gt ga gd go spc su sc sw sd sr se sp sq tpc tu tc tw td tr te tp tq, fc_R (m + tp_k (gv_f n s dy0 fh q D) la a lc) (tp_u (gv_f n s dy0 fh q D) la a m la fr lc) (tp_u (gv_f n s dy0 fh q D) la a m (fun _ => t) to lc) (tp_u (gv_f n s dy0 fh q D) la a m (tp_g (gv_f n s dy0 fh q D) la a) am lc) (tp_u (gv_f n s dy0 fh q D) la a m (fun _ => D) dy lc) gf gt ga gd go → iv_S n (m + tp_k (gv_f n s dy0 fh q D) la a lc) kd am0 (tp_u (gv_f n s dy0 fh q D) la a m la fr lc) (tp_u (gv_f n s dy0 fh q D) la a m (fun _ => t) to lc) (tp_u (gv_f n s dy0 fh q D) la a m (tp_g (gv_f n s dy0 fh q D) la a) am lc) (tp_u (gv_f n s dy0 fh q D) la a m (fun _ => D) dy lc) s' su sc sw sd sr → post (nI (m + tp_k (gv_f n s dy0 fh q D) la a lc)) gf gt ga gd go spc su sc sw sd sr se sp sq tpc tu tc tw td tr te tp tq) :
    wp_X4_tellTopFlows post lt (nI n) (nI lc) fk fa fd fh fl (nI m) gf gt ga gd go spc su sc sw sd sr se sp sq tpc tu tc tw td tr te tp tq (nI t) q (lN a) (lN D) := by
  have hn := hN.1
  obtain ⟨a1, a2, a3, a4, a5⟩ := hA
  have hs := hS.1
  have hb := in_all hN (by omega) hF hs
  have gb : ∀ l, gv_f n s dy0 fh q D l ≤ su_m (s.1 l) n ∧ (0 < gv_f n s dy0 fh q D l → dy0 l ≤ D) := fun l => by
    unfold gv_f
    split
    · rename_i w; exact ⟨Nat.le_refl _, fun _ => w.2.2⟩
    · exact ⟨by omega, fun w => by omega⟩
  have run := tp_run (gv := gv_f n s dy0 fh q D) (la := la) (a := a) (lc := lc) hF hs hD hD2 ha ht kt (fun j hj => ⟨(a3 j hj).1, (a3 j hj).2, fun w => ⟨(gb _).2 w, (gb _).1⟩⟩) (fun i j h1 h2 e => by have := a4 i j h1 h2; rw [e] at this; omega)
  unfold wp_X4_tellTopFlows
  have gvc : ∀ (s2 : (Nat → Nat → Nat) × (Nat → Nat → Bool)) l, su_m (s2.1 l) n = su_m (s.1 l) n → gv_f n s2 dy0 fh q D l = gv_f n s dy0 fh q D l := fun s2 l e => by unfold gv_f; rw [e]
  generalize hgv : gv_f n s dy0 fh q D = gv at *
  let I : Nat → (Nat → Int32) → (Nat → Int32) → (Nat → Int64) → (Nat → Int64) → (Nat → Int32) → (Nat → Int64) → (Nat → Int64) → (Nat → Int64) → (Nat → Int64) → (Nat → Int64) → Prop := fun i gf gt ga gd go su sc sw sd sr => fc_R (m + tp_k gv la a i) (tp_u gv la a m la fr i) (tp_u gv la a m (fun _ => t) to i) (tp_u gv la a m (tp_g gv la a) am i) (tp_u gv la a m (fun _ => D) dy i) gf gt ga gd go ∧ ∃ s', iv_S n (m + tp_k gv la a i) kd am0 (tp_u gv la a m la fr i) (tp_u gv la a m (fun _ => t) to i) (tp_u gv la a m (tp_g gv la a) am i) (tp_u gv la a m (fun _ => D) dy i) s' su sc sw sd sr
  have key : ∀ dd i gf gt ga gd go spc su sc sw sd sr se sp sq tpc tu tc tw td tr te tp tq, i ≤ lc → lc - i ≤ dd → I i gf gt ga gd go su sc sw sd sr → wb_X4_tellTopFlows_6 post lt (nI n) (nI lc) fk fa fd fh fl (dd + 1) (nI t) q (lN D) (lN (tp_m gv la a i)) (nI i) (nI (m + tp_k gv la a i)) gf gt ga gd go spc su sc sw sd sr se sp sq tpc tu tc tw td tr te tp tq := by
    intro dd
    induction dd with
    | zero =>
      intro i gf gt ga gd go spc su sc sw sd sr se sp sq tpc tu tc tw td tr te tp tq hi hd hI
      have e : i = lc := by omega
      subst e
      obtain ⟨h1, s', h2⟩ := hI
      exact ⟨fun _ => H s' _ _ _ _ _ _ _ _ _ _ _ _ _ _ _ _ _ _ _ _ _ _ _ h1 h2, fun w => absurd (nI_le (Nat.le_refl i) (by omega)) w⟩
    | succ dd ih =>
      intro i gf gt ga gd go spc su sc sw sd sr se sp sq tpc tu tc tw td tr te tp tq hi hd hI
      obtain ⟨h1, s', h2⟩ := hI
      by_cases e : i = lc
      · subst e
        exact ⟨fun _ => H s' _ _ _ _ _ _ _ _ _ _ _ _ _ _ _ _ _ _ _ _ _ _ _ h1 h2, fun w => absurd (nI_le (Nat.le_refl i) (by omega)) w⟩
      · have hi : i < lc := by omega
        have mb := tp_mle gv la a i
        obtain ⟨b1, b2⟩ := a3 i hi
        refine ⟨fun w => absurd w (nI_ge hi (by omega)), fun _ => ⟨fun w => ?_, fun w => ⟨vp_in_nI (by omega) (by omega), fun x hx => ?_⟩⟩⟩
        · rw [nq_pos (by omega)] at w
          obtain ⟨z1, z2, z3⟩ := tp_zero (gv := gv) (la := la) (a := a) (p := i) (q := lc) (by omega) (by omega)
          simp only [z2, z3] at H
          exact H s' _ _ _ _ _ _ _ _ _ _ _ _ _ _ _ _ _ _ _ _ _ _ _ h1 h2
        · rw [nI_clamp (show i < 2 ^ 31 by omega), a2 i hi] at hx
          rw [hx]
          obtain ⟨sp', r1, r2, r3, r4⟩ := run i (by omega)
          have e2 : s' = sp' := by
            have := h2.1
            rw [r1] at this; cases this; rfl
          subst e2
          obtain ⟨_, ca, we, w0, rU, rC, rW, rD, rB, rS⟩ := h2
          have hc : sc (la i) - sw (la i) = lN (su_m (s'.1 (la i)) n) := by
            have z := rS (la i) (by omega)
            rw [rC _ (by omega), rW _ (by omega), lN_sub (by omega)]
            congr 1; omega
          refine sp_canGive hN b1 b2 hD2 hc (fun y hy => ?_)
          rw [gvc s' (la i) (r4 i (Nat.le_refl i) hi)] at hy
          have gb2 := (gb (la i)).1
          have hb2 := hb (la i)
          rw [min_lN (by omega) (by omega)] at hy
          have hy : y = lN (tp_g gv la a i) := hy
          have gle : tp_g gv la a i ≤ tp_m gv la a i := Nat.min_le_left _ _
          rw [hy, nq_pos (by omega)]
          refine ⟨fun w z hz => ?_, fun w => ?_⟩
          · rw [hz, nI_1]
            have g0 : tp_g gv la a i = 0 := by omega
            have := ih (i + 1) gf gt ga gd go spc su sc sw sd sr se sp sq tpc tu tc tw td tr te tp tq (by omega) (by omega) (by
              show fc_R _ _ _ _ _ _ _ _ _ _ ∧ _
              rw [tp_ks]
              simp only [tp_us, if_neg w]
              exact ⟨h1, s', r1, ca, we, w0, rU, rC, rW, rD, rB, rS⟩)
            rw [tp_ms, tp_ks, if_neg w, g0] at this
            exact this
          · have kk : tp_k gv la a (i + 1) = tp_k gv la a i + 1 := by rw [tp_ks, if_pos w]
            have km := tp_kmono (gv := gv) (la := la) (a := a) (p := i + 1) (q := lc) (by omega)
            have gpos : 0 < gv (la i) := by unfold tp_g at w; omega
            have nt : la i ≠ t := fun e => kt (by rw [← e]; exact b2)
            obtain ⟨sp2, q1, q2, q3, q4⟩ := run (i + 1) (by omega)
            rw [kk] at q1 q2
            simp only [tp_us, if_pos w] at q1 q2
            have te : te_R n (m + tp_k gv la a i) kd am0 dy0 (tp_u gv la a m la fr i) (tp_u gv la a m (fun _ => t) to i) (tp_u gv la a m (tp_g gv la a) am i) (tp_u gv la a m (fun _ => D) dy i) (la i) t (tp_g gv la a i) D = some sp2 := by
              unfold te_R
              rw [if_neg (fun v => by have := (gb (la i)).2 gpos; omega)]
              exact q1
            refine sp_tell hN (by omega) h1 r2 ⟨r1, ca, we, w0, rU, rC, rW, rD, rB, rS⟩ b1 ht nt w (by omega) hD2 kt (by omega) (fun v => ?_) (fun s2 v _ gf2 gt2 ga2 gd2 go2 v1 u1 u2 u3 u4 u5 v2 u6 u7 v3 u8 u9 u10 u11 u12 v4 u13 u14 hC2 hS2 => ⟨fun v => absurd v (by decide), fun _ z hz z2 hz2 => ?_⟩)
            · rw [te] at v; cases v
            · rw [hz, hz2, nI_1, lN_sub gle]
              have := ih (i + 1) gf2 gt2 ga2 gd2 go2 v1 u1 u2 u3 u4 u5 v2 u6 u7 v3 u8 u9 u10 u11 u12 v4 u13 u14 (by omega) (by omega) (by
                show fc_R _ _ _ _ _ _ _ _ _ _ ∧ _
                rw [kk]
                simp only [tp_us, if_pos w]
                exact ⟨hC2, s2, hS2⟩)
              rw [tp_ms, kk] at this
              exact this
  exact ⟨lc + 1, key lc 0 gf gt ga gd go spc su sc sw sd sr se sp sq tpc tu tc tw td tr te tp tq (by omega) (by omega) ⟨hC, s, hS⟩⟩
end TOP
