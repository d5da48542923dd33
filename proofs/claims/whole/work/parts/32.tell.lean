/-! ONE FLOW MORE -/
def fc_R (m : Nat) (fr to am dy : Nat → Nat) (gf gt : Nat → Int32) (ga gd : Nat → Int64) (go : Nat → Int32) : Prop := rw_I m gf fr ∧ rw_I m gt to ∧ rw_J m ga am ∧ rw_J m gd dy ∧ rw_I m go (od_f dy m)
def fr_R (m : Nat) (fr to am dy : Nat → Nat) (gf gt : Nat → Int32) (ga gd : Nat → Int64) : Prop := rw_I m gf fr ∧ rw_I m gt to ∧ rw_J m ga am ∧ rw_J m gd dy
theorem od_app (dy : Nat → Nat) (m d : Nat) : od_f (fu_up dy m d) (m + 1) = in_f (od_f dy m) (tn_f dy (od_f dy m) d m) m := by
  have e : od_f (fu_up dy m d) m = od_f dy m := od_congr m (fun k hk => fu_n (by omega))
  rw [od_f, e, fu_s, tn_congr (dy' := dy) (fun i hi => fu_n (by have := od_lt dy m i hi; omega))]
theorem sp_turnFor {post : Int32 → Prop} {m d : Nat} {dy od : Nat → Nat} {gd : Nat → Int64} {go : Nat → Int32} (hm : m ≤ 400) (ho : ∀ k, k < m → od k < m) (rd : rw_J m gd dy) (ro : rw_I m go od) (hdy : ∀ k, k < m → dy k ≤ 100000) (hd : d ≤ 100000) (H : post (nI (tn_f dy od d m))) : wp_X0_turnFor post (nI m) gd go (lN d) := by
  unfold wp_X0_turnFor
  refine lo_d1 (A1 := Unit) (fun k j _ => wb_X0_turnFor_5 post (nI m) gd go k (lN d) (nI j)) (fun j _ => j ≤ m ∧ tn_f dy od d m = tn_f dy od d j) ?_ m () ⟨Nat.le_refl m, rfl⟩
  intro k j _ hj ih
  obtain ⟨j1, j2⟩ := hj
  by_cases j0 : j = 0
  · subst j0
    refine ⟨fun _ => ?_, fun q => absurd (by rw [nI_0]; exact Int32.le_refl 0) q⟩
    rw [j2] at H; exact H
  · have h1 := ho (j - 1) (by omega)
    have d1 := hdy _ h1
    have hjj : j = (j - 1) + 1 := by omega
    refine ⟨fun q => absurd q (nI_nle (by omega) (by omega)), fun _ => ?_⟩
    rw [nq_m1 (by omega), nI_clamp (show j - 1 < 2 ^ 31 by omega), ro (j - 1) (by omega), nI_clamp (show od (j - 1) < 2 ^ 31 by omega), rd _ h1]
    refine ⟨vp_in_nI (by omega) (by omega), vp_in_nI (by omega) (by omega), fun q => ?_, fun q x hx => ?_⟩
    · have : tn_f dy od d m = j := by
        rw [j2, hjj, tn_f, if_neg]
        intro z
        exact q ((pk_lLT (by omega) (by omega)).mpr z)
      rw [this] at H; exact H
    · have z := (pk_lLT (by omega) (by omega)).mp q
      rw [hx, nq_mm (by omega)]
      refine ih () (by omega) ⟨by omega, ?_⟩
      rw [j2]
      conv => lhs; rw [hjj, tn_f, if_pos z]
theorem sp_insertF {post : Int32 → (Nat → Int32) → (Nat → Int32) → (Nat → Int64) → (Nat → Int64) → (Nat → Int32) → Prop} {m turn : Nat} {p2 p3 : Int32} {p4 p5 : Int64} {gf gt go : Nat → Int32} {ga gd : Nat → Int64} (hm : m < 400) (ht : turn ≤ m) (H : ∀ go', (∀ k, k < m + 1 → go' k = ii_f go turn (nI m) k) → post (nI (m + 1)) (upd gf m p2) (upd gt m p3) (vp_updL ga m p4) (vp_updL gd m p5) go') : wp_X0_insert post (nI m) gf gt ga gd go (nI turn) p2 p3 p4 p5 := by
  unfold wp_X0_insert
  have hin : vp_in (nI m) 400 := vp_in_nI hm (by omega)
  refine ⟨fun q => absurd q (by rw [nq_400]; exact nI_ge hm (by omega)), fun _ => ⟨fun q => absurd q (nI_pos (by omega)), fun _ => ⟨fun _ => ⟨hin, fun f1 e1 => ⟨hin, fun f2 e2 => ⟨hin, fun f3 e3 => ⟨hin, fun f4 e4 => ?_⟩⟩⟩⟩, fun q => absurd (nI_le ht (by omega)) q⟩⟩⟩
  rw [nI_clamp (show m < 2 ^ 31 by omega)] at e1 e2 e3 e4
  rw [e1, e2, e3, e4]
  have key : ∀ dd (a : Nat → Int32), turn + dd ≤ m → (∀ k, (k < turn + dd → a k = go k) ∧ (turn + dd < k → k < m + 1 → a k = go (k - 1))) → wb_X0_insert_71 post (dd + 1) (nI turn) (nI (turn + dd)) (nI m) (upd gf m p2) (upd gt m p3) (vp_updL ga m p4) (vp_updL gd m p5) a := by
    intro dd
    induction dd with
    | zero =>
      intro a hd h
      refine ⟨fun _ => ⟨vp_in_nI (by omega) (by omega), fun f1 e1 v ev => ?_⟩, fun q => absurd (nI_le (by omega) (by omega)) q⟩
      rw [ev, nI_1]
      rw [nI_clamp (show turn < 2 ^ 31 by omega)] at e1
      refine H _ (fun k hk => ?_)
      obtain ⟨h1, h2⟩ := h k
      rw [e1]
      unfold ii_f
      by_cases c1 : k < turn
      · rw [pk_un (by omega), if_pos c1]; exact h1 (by omega)
      · rw [if_neg c1]
        by_cases c2 : k = turn
        · subst c2; rw [pk_us, if_pos rfl]
        · rw [pk_un c2, if_neg c2]; exact h2 (by omega) hk
    | succ dd ih =>
      intro a hd h
      have hin : vp_in (nI (turn + (dd + 1))) 400 := vp_in_nI (by omega) (by omega)
      have hin2 : vp_in (nI (turn + dd)) 400 := vp_in_nI (by omega) (by omega)
      have em : nI (turn + (dd + 1)) - 1 = nI (turn + dd) := by rw [nq_m1 (by omega)]; rfl
      refine ⟨fun q => absurd q (nI_ge (by omega) (by omega)), fun _ => ?_⟩
      rw [em, nI_clamp (show turn + dd < 2 ^ 31 by omega), nI_clamp (show turn + (dd + 1) < 2 ^ 31 by omega)]
      refine ⟨hin2, hin, fun f1 e1 x hx => ?_⟩
      have ex : x = nI (turn + dd) := by rw [hx, nq_mm (by omega)]; rfl
      rw [ex]
      refine ih f1 (by omega) (fun k => ⟨fun q => ?_, fun q1 q2 => ?_⟩)
      · rw [e1, pk_un (by omega)]; exact (h k).1 (by omega)
      · rw [e1]
        by_cases c2 : k = turn + (dd + 1)
        · subst c2
          rw [pk_us]; exact (h (turn + dd)).1 (by omega)
        · rw [pk_un c2]; exact (h k).2 (by omega) q2
  refine ⟨m - turn + 1, ?_⟩
  have := key (m - turn) go (by omega) (fun k => ⟨fun _ => rfl, fun q1 q2 => by omega⟩)
  rwa [show turn + (m - turn) = m by omega] at this
theorem sp_removeF {post : Int32 → (Nat → Int32) → Prop} {m turn : Nat} {go : Nat → Int32} (hm : m < 400) (ht : turn ≤ m) (H : ∀ go', (∀ k, k < m → go' k = if k < turn then go k else go (k + 1)) → post (nI m) go') : wp_X0_removeNewest post (nI (m + 1)) go (nI turn) := by
  unfold wp_X0_removeNewest
  refine ⟨fun q => absurd q (nI_nle (by omega) (by omega)), fun _ => ⟨fun _ v ev => ?_, fun q => absurd (ge_0.mpr (nI_pos (by omega))) q⟩⟩
  rw [ev, nI_pred]
  refine lo_u1 (fun k t go => wb_X0_removeNewest_24 post k (nI t) (nI m) go) (fun t a => turn ≤ t ∧ ∀ k, (k < t → a k = if k < turn then go k else go (k + 1)) ∧ (t ≤ k → a k = go k)) m ?_ ?_ turn go ht ⟨Nat.le_refl _, fun k => ⟨fun q => by rw [if_pos q], fun _ => rfl⟩⟩
  · intro k a h
    exact ⟨fun _ => H a (fun k hk => (h.2 k).1 hk), fun q => absurd (nI_le (Nat.le_refl m) (by omega)) q⟩
  · intro k t a htm h ih
    refine ⟨fun q => absurd q (nI_ge htm (by omega)), fun _ => ?_⟩
    rw [nI_1, nI_clamp (show t + 1 < 2 ^ 31 by omega), nI_clamp (show t < 2 ^ 31 by omega)]
    refine ⟨vp_in_nI (by omega) (by omega), vp_in_nI (by omega) (by omega), fun f1 e1 x hx => ?_⟩
    rw [hx]
    refine ih f1 ⟨by omega, fun k => ⟨fun q => ?_, fun q => ?_⟩⟩
    · rw [e1]
      by_cases c : k = t
      · subst c; rw [pk_us, if_neg (by omega)]; exact (h.2 (k + 1)).2 (by omega)
      · rw [pk_un c]; exact (h.2 k).1 (by omega)
    · rw [e1, pk_un (by omega)]; exact (h.2 k).2 (by omega)
section TELL
variable {n m : Nat} {kd am0 dy0 fr to am dy : Nat → Nat} {fk : Nat → Int32} {fa fd : Nat → Int64} {fk' : Nat → Int32} {fa' fd' : Nat → Int64}
theorem fl_app (hF : fl_all n m kd dy0 fr to am dy) {f t a d : Nat} (hf : f < n) (ht : t < n) (hft : f ≠ t) (ha : a ≤ 1000000) (hd : d ≤ 100000) (kt : kd t ≠ 5) (kf : kd f ≠ 0) (kd5 : kd f = 5 → dy0 f ≤ d) : fl_all n (m + 1) kd dy0 (fu_up fr m f) (fu_up to m t) (fu_up am m a) (fu_up dy m d) := by
  intro k hk
  by_cases c : k = m
  · subst c; rw [fu_s, fu_s, fu_s, fu_s]; exact ⟨hf, ht, hft, ha, hd, kt, kf, kd5⟩
  · rw [fu_n c, fu_n c, fu_n c, fu_n c]; exact hF k (by omega)
theorem fc_app {f t a d : Nat} {gf gt go go' : Nat → Int32} {ga gd : Nat → Int64} (h : fc_R m fr to am dy gf gt ga gd go) (hg : ∀ k, k < m + 1 → go' k = ii_f go (tn_f dy (od_f dy m) d m) (nI m) k) : fc_R (m + 1) (fu_up fr m f) (fu_up to m t) (fu_up am m a) (fu_up dy m d) (upd gf m (nI f)) (upd gt m (nI t)) (vp_updL ga m (lN a)) (vp_updL gd m (lN d)) go' := by
  obtain ⟨h1, h2, h3, h4, h5⟩ := h
  have tl := tn_le dy (od_f dy m) d m
  refine ⟨fun j hj => ?_, fun j hj => ?_, fun j hj => ?_, fun j hj => ?_, fun j hj => ?_⟩
  · by_cases c : j = m
    · subst c; rw [pk_us, fu_s]
    · rw [pk_un c, fu_n c]; exact h1 j (by omega)
  · by_cases c : j = m
    · subst c; rw [pk_us, fu_s]
    · rw [pk_un c, fu_n c]; exact h2 j (by omega)
  · by_cases c : j = m
    · subst c; rw [pk_uLs, fu_s]
    · rw [pk_uLn c, fu_n c]; exact h3 j (by omega)
  · by_cases c : j = m
    · subst c; rw [pk_uLs, fu_s]
    · rw [pk_uLn c, fu_n c]; exact h4 j (by omega)
  · rw [hg j hj, od_app]
    unfold ii_f in_f
    by_cases c1 : j < tn_f dy (od_f dy m) d m
    · rw [if_pos c1, if_pos c1]; exact h5 j (by omega)
    · rw [if_neg c1, if_neg c1]
      by_cases c2 : j = tn_f dy (od_f dy m) d m
      · rw [if_pos c2, if_pos c2]
      · rw [if_neg c2, if_neg c2]; exact h5 (j - 1) (by omega)
/-- the run with one flow more, where it comes last -/
theorem rn_app {f t a d : Nat} {s : (Nat → Nat → Nat) × (Nat → Nat → Bool)} (hs : rn_k n m kd am0 fr to am dy = some s) (ht : tn_f dy (od_f dy m) d m = m) (ha : 1 ≤ a) : rn_k n (m + 1) kd am0 (fu_up fr m f) (fu_up to m t) (fu_up am m a) (fu_up dy m d) = if su_m (s.1 f) n < a then none else some (mv_u n f t a s.1, mv_c n f t a s.1 s.2) := by
  have e0 : ∀ i, i < m → od_f (fu_up dy m d) (m + 1) i = od_f dy m i := fun i hi => by
    rw [od_app, ht]; unfold in_f; rw [if_pos hi]
  have e1 : od_f (fu_up dy m d) (m + 1) m = m := by
    rw [od_app, ht]; unfold in_f; rw [if_neg (by omega), if_pos rfl]
  have e2 : rn_f n (fu_up fr m f) (fu_up to m t) (fu_up am m a) (od_f (fu_up dy m d) (m + 1)) (in_u n (lo_k kd) am0, in_c n (lo_k kd)) m = some s := by
    rw [← hs]
    refine rn_congr m (fun i hi => ?_)
    have := od_lt dy m i hi
    rw [e0 i hi, fu_n (by omega), fu_n (by omega), fu_n (by omega)]
    exact ⟨rfl, rfl, rfl, rfl⟩
  show rn_f n _ _ _ _ _ (m + 1) = _
  rw [rn_f, e2]
  simp only [e1, fu_s]
  rw [if_neg (by omega)]
theorem ds_app {f t a d : Nat} (dn : Nat → Bool) (ht : tn_f dy (od_f dy m) d m = m) (i : Nat) : ds_f (fu_up fr m f) (fu_up to m t) (fu_up am m a) (od_f (fu_up dy m d) (m + 1)) dn (m + 1) i = ds_f fr to am (od_f dy m) dn m i + (if f = i ∧ dn t = true then a else 0) := by
  have e0 : ∀ i, i < m → od_f (fu_up dy m d) (m + 1) i = od_f dy m i := fun i hi => by
    rw [od_app, ht]; unfold in_f; rw [if_pos hi]
  have e1 : od_f (fu_up dy m d) (m + 1) m = m := by
    rw [od_app, ht]; unfold in_f; rw [if_neg (by omega), if_pos rfl]
  unfold ds_f
  rw [su_m]
  simp only [e1, fu_s]
  congr 1
  refine su_congr (fun j hj => ?_)
  have := od_lt dy m j hj
  rw [e0 j hj, fu_n (by omega), fu_n (by omega), fu_n (by omega)]
/-- what a flow told now would give -/
def te_R (n m : Nat) (kd am0 dy0 fr to am dy : Nat → Nat) (f t a d : Nat) : Option ((Nat → Nat → Nat) × (Nat → Nat → Bool)) := if kd f = 5 ∧ d < dy0 f then none else rn_k n (m + 1) kd am0 (fu_up fr m f) (fu_up to m t) (fu_up am m a) (fu_up dy m d)
theorem sp_tell {post : Int32 → Int32 → (Nat → Int32) → (Nat → Int32) → (Nat → Int64) → (Nat → Int64) → (Nat → Int32) → Int32 → (Nat → Int64) → (Nat → Int64) → (Nat → Int64) → (Nat → Int64) → (Nat → Int64) → (Nat → Int32) → (Nat → Int64) → (Nat → Int64) → Int32 → (Nat → Int64) → (Nat → Int64) → (Nat → Int64) → (Nat → Int64) → (Nat → Int64) → (Nat → Int32) → (Nat → Int64) → (Nat → Int64) → Prop} {lt : Int64} {lcn : Int32} {gf gt go : Nat → Int32} {ga gd su sc sw sd sr sp sq tu tc tw td tr tp tq : Nat → Int64} {spc tpc : Int32} {se te : Nat → Int32} {s : (Nat → Nat → Nat) × (Nat → Nat → Bool)} {f t a d : Nat} (hN : iv_N n kd am0 dy0 fk fa fd fk' fa' fd') (hm : m < 400) (hC : fc_R m fr to am dy gf gt ga gd go) (hF : fl_all n m kd dy0 fr to am dy) (hS : iv_S n m kd am0 fr to am dy s su sc sw sd sr) (hf : f < n) (ht : t < n) (hft : f ≠ t) (ha1 : 1 ≤ a) (ha : a ≤ 1000000) (hd : d ≤ 100000) (kt : kd t ≠ 5) (kf : kd f ≠ 0)
    (H0 : te_R n m kd am0 dy0 fr to am dy f t a d = none → ∀ gf gt ga gd go spc se sp sq tpc tu tc tw td tr te tp tq, fc_R m fr to am dy gf gt ga gd go → post 0 (nI m) gf gt ga gd go spc su sc sw sd sr se sp sq tpc tu tc tw td tr te tp tq)
    (H1 : ∀ s', te_R n m kd am0 dy0 fr to am dy f t a d = some s' → fl_all n (m + 1) kd dy0 (fu_up fr m f) (fu_up to m t) (fu_up am m a) (fu_up dy m d) → ∀ gf gt ga gd go spc su sc sw sd sr se sp sq tpc tu tc tw td tr te tp tq, fc_R (m + 1) (fu_up fr m f) (fu_up to m t) (fu_up am m a) (fu_up dy m d) gf gt ga gd go → iv_S n (m + 1) kd am0 (fu_up fr m f) (fu_up to m t) (fu_up am m a) (fu_up dy m d) s' su sc sw sd sr → post 1 (nI (m + 1)) gf gt ga gd go spc su sc sw sd sr se sp sq tpc tu tc tw td tr te tp tq) :
    wp_X4_tell post lt (nI n) lcn fk fa fd (nI m) gf gt ga gd go spc su sc sw sd sr se sp sq tpc tu tc tw td tr te tp tq (nI f) (nI t) (lN a) (lN d) := by
  have hn := hN.1
  have tl := tn_le dy (od_f dy m) d m
  obtain ⟨c1, c2, c3, c4, c5⟩ := hC
  obtain ⟨hs, ca, we, w0, hR⟩ := hS
  have go28 : ¬ (kd f = 5 ∧ d < dy0 f) → wb_X4_tell_28 post lt (nI n) lcn fk fa fd (nI f) (nI t) (lN a) (lN d) (nI m) gf gt ga gd go spc su sc sw sd sr se sp sq tpc tu tc tw td tr te tp tq := by
    intro nd
    have eR : te_R n m kd am0 dy0 fr to am dy f t a d = rn_k n (m + 1) kd am0 (fu_up fr m f) (fu_up to m t) (fu_up am m a) (fu_up dy m d) := by unfold te_R; rw [if_neg nd]
    have hF2 := fl_app hF (f := f) (t := t) (a := a) (d := d) hf ht hft ha hd kt kf (fun q => by
      rcases Nat.lt_or_ge d (dy0 f) with w | w
      · exact absurd ⟨q, w⟩ nd
      · exact w)
    unfold wb_X4_tell_28
    refine sp_turnFor (by omega) (od_lt dy m) c4 c5 (fun k hk => (hF k hk).2.2.2.2.1) hd ⟨fun q => ?_, fun q => ?_⟩
    · refine sp_insertF hm tl (fun go' hgo => ?_)
      have hC2 := fc_app (f := f) (t := t) (a := a) (d := d) ⟨c1, c2, c3, c4, c5⟩ hgo
      refine sp_replay (lo := lo_k kd) (am0 := am0) (dn := dn_k kd) hn (by omega) hN.k5 hN.k0 (fun i hi hl => (hN.2.2 i hi (lo_k5 hl)).1) (fun i hi hl => (hN.2.2 i hi (lo_k5 hl)).2.2.1) hF2.ok hF2.lo (od_lt _ _) hC2.1 hC2.2.1 hC2.2.2.1 hC2.2.2.2.2 (fun z v1 u1 u2 u3 u4 u5 v2 u6 u7 => ⟨fun q => absurd rfl q, fun _ => ?_⟩) (fun s' z ca' we' v1 u1 u2 u3 u4 u5 v2 u6 u7 z2 z3 => ⟨fun _ => ?_, fun q => absurd q (by decide)⟩)
      · refine sp_removeF hm tl (fun go2 hgo2 => ?_)
        refine H0 (by rw [eR]; exact z) _ _ _ _ _ _ _ _ _ _ _ _ _ _ _ _ _ _ ⟨fun j hj => ?_, fun j hj => ?_, fun j hj => ?_, fun j hj => ?_, fun j hj => ?_⟩
        · rw [pk_un (by omega)]; exact c1 j hj
        · rw [pk_un (by omega)]; exact c2 j hj
        · rw [pk_uLn (by omega)]; exact c3 j hj
        · rw [pk_uLn (by omega)]; exact c4 j hj
        · rw [hgo2 j hj]
          by_cases c : j < tn_f dy (od_f dy m) d m
          · rw [if_pos c, hgo j (by omega)]; unfold ii_f; rw [if_pos c]; exact c5 j hj
          · rw [if_neg c, hgo (j + 1) (by omega)]; unfold ii_f; rw [if_neg (by omega), if_neg (by omega), Nat.add_sub_cancel]; exact c5 j hj
      · unfold wp_X4_takeTrial
        exact H1 s' (by rw [eR]; exact z) hF2 _ _ _ _ _ _ _ _ _ _ _ _ _ _ _ _ _ _ _ _ _ _ _ hC2 ⟨z, ca', we', z2, z3⟩
    · rw [nI_eq (by omega) (by omega)] at q
      have ap := rn_app (n := n) (kd := kd) (am0 := am0) (f := f) (t := t) (a := a) hs q ha1
      have bd := in_all hN (by omega) hF hs f
      refine sp_move hn hR hf ht hft (fun z l _ e => rn_lot (od_lt _ _) hF.lo m s (Nat.le_refl m) hs f l ((hN.k5 f hf).mp z) e) ha bd (fun w => ⟨fun q => absurd rfl q, fun _ => ?_⟩) (fun w1 w2 v1 u1 u2 u3 u4 u5 v2 u6 u7 hR2 => ⟨fun _ => ?_, fun q => absurd q (by decide)⟩)
      · refine H0 ?_ _ _ _ _ _ _ _ _ _ _ _ _ _ _ _ _ _ _ ⟨c1, c2, c3, c4, c5⟩
        rw [eR, ap, if_pos (by omega)]
      · refine sp_insertF hm tl (fun go' hgo => ?_)
        have hC2 := fc_app (f := f) (t := t) (a := a) (d := d) ⟨c1, c2, c3, c4, c5⟩ hgo
        have ap2 : rn_k n (m + 1) kd am0 (fu_up fr m f) (fu_up to m t) (fu_up am m a) (fu_up dy m d) = some (mv_u n f t a s.1, mv_c n f t a s.1 s.2) := by rw [ap, if_neg (by omega)]
        refine H1 (mv_u n f t a s.1, mv_c n f t a s.1 s.2) (by rw [eR]; exact ap2) hF2 _ _ _ _ _ _ _ _ _ _ _ _ _ _ _ _ _ _ _ _ _ _ _ hC2 ⟨ap2, fu_up ca t (ca t + a), fu_up we f (we f + a), fun i hi => by rw [fu_n (by omega)]; exact w0 i hi, ?_⟩
        have e : ds_f (fu_up fr m f) (fu_up to m t) (fu_up am m a) (od_f (fu_up dy m d) (m + 1)) (dn_k kd) (m + 1) = if fk t = 0 then fu_up (ds_f fr to am (od_f dy m) (dn_k kd) m) f (ds_f fr to am (od_f dy m) (dn_k kd) m f + a) else ds_f fr to am (od_f dy m) (dn_k kd) m := by
          funext i
          rw [ds_app (dn_k kd) q i]
          by_cases c : fk t = 0
          · rw [if_pos c]
            have c2 := (hN.k0 t ht).mp c
            by_cases e : f = i
            · subst e; rw [fu_s, if_pos ⟨rfl, c2⟩]
            · rw [fu_n (Ne.symm e), if_neg (fun w => e w.1)]; omega
          · rw [if_neg c, if_neg (fun w => c ((hN.k0 t ht).mpr w.2))]; omega
        rw [e]
        exact hR2
  unfold wp_X4_tell
  obtain ⟨l1, -⟩ := hN.lot hf
  refine sp_isLot1 hn hf (fun z => ⟨fun q => absurd q (by decide), fun _ => ⟨vp_in_nI (by omega) (by omega), ?_⟩⟩) (fun z => ⟨fun _ => go28 (fun q => z (l1.mpr q.1)), fun q => absurd rfl q⟩)
  have k5 := l1.mp z
  obtain ⟨y1, y2, y3, y4, y5, y6⟩ := hN.2.2 f hf k5
  rw [nI_clamp (show f < 2 ^ 31 by omega), y4]
  refine ⟨fun q => go28 (fun w => q ((pk_lLT (by omega) (by omega)).mpr w.2)), fun q => ?_⟩
  refine H0 ?_ _ _ _ _ _ _ _ _ _ _ _ _ _ _ _ _ _ _ ⟨c1, c2, c3, c4, c5⟩
  unfold te_R
  rw [if_pos ⟨k5, (pk_lLT (by omega) (by omega)).mp q⟩]
/-- the reference: putting and walking -/
theorem sp_put {post : Int32 → (Nat → Int32) → (Nat → Int32) → (Nat → Int64) → (Nat → Int64) → Prop} {v0 r1 t1 : Int32} {l1 : Int64} {gf gt : Nat → Int32} {ga gd : Nat → Int64} {f t a d : Nat} (hm : m ≤ 400) (h : fr_R m fr to am dy gf gt ga gd) (H : ∀ gf gt ga gd, fr_R (m + 1) (fu_up fr m f) (fu_up to m t) (fu_up am m a) (fu_up dy m d) gf gt ga gd → post (nI (m + 1)) gf gt ga gd) : wp_X5_put post v0 (nI m) l1 r1 t1 gf gt ga gd (nI f) (nI t) (lN a) (lN d) := by
  unfold wp_X5_put
  have hin : vp_in (nI m) 401 := vp_in_nI (by omega) (by omega)
  obtain ⟨h1, h2, h3, h4⟩ := h
  refine ⟨hin, fun f1 e1 => ⟨hin, fun f2 e2 => ⟨hin, fun f3 e3 => ⟨hin, fun f4 e4 v ev => ?_⟩⟩⟩⟩
  rw [nI_clamp (show m < 2 ^ 31 by omega)] at e1 e2 e3 e4
  rw [ev, nI_1]
  refine H f1 f2 f3 f4 ⟨fun j hj => ?_, fun j hj => ?_, fun j hj => ?_, fun j hj => ?_⟩
  · rw [e1]
    by_cases c : j = m
    · subst c; rw [pk_us, fu_s]
    · rw [pk_un c, fu_n c]; exact h1 j (by omega)
  · rw [e2]
    by_cases c : j = m
    · subst c; rw [pk_us, fu_s]
    · rw [pk_un c, fu_n c]; exact h2 j (by omega)
  · rw [e3]
    by_cases c : j = m
    · subst c; rw [pk_uLs, fu_s]
    · rw [pk_uLn c, fu_n c]; exact h3 j (by omega)
  · rw [e4]
    by_cases c : j = m
    · subst c; rw [pk_uLs, fu_s]
    · rw [pk_uLn c, fu_n c]; exact h4 j (by omega)
theorem sp_Rtell {post : Int32 → (Nat → Int64) → (Nat → Int32) → (Nat → Int64) → (Nat → Int64) → (Nat → Int32) → Prop} {l1 : Int64} {r1 t1 : Int32} {gf' gt' : Nat → Int32} {ga' gd' : Nat → Int64} {fu0 : Nat → Int64} {fc0 : Nat → Int32} {fr0 fp0 : Nat → Int64} {fo0 : Nat → Int32} {f t a d : Nat}
    (hN : iv_N n kd am0 dy0 fk fa fd fk' fa' fd') (hm : m < 400) (hr : fr_R (m + 1) (fu_up fr m f) (fu_up to m t) (fu_up am m a) (fu_up dy m d) gf' gt' ga' gd') (hF : fl_all n m kd dy0 fr to am dy) (hf : f < n) (ht : t < n) (hft : f ≠ t) (ha : a ≤ 1000000) (hd : d ≤ 100000) (kt : kd t ≠ 5) (kf : kd f ≠ 0)
    (H0 : te_R n m kd am0 dy0 fr to am dy f t a d = none → ∀ fu fc fr fp fo, post 0 fu fc fr fp fo)
    (H1 : ∀ s', te_R n m kd am0 dy0 fr to am dy f t a d = some s' → ∀ fu fc fr fp fo, post 1 fu fc fr fp fo) :
    wp_X5_walk post (nI n) (nI (m + 1)) l1 r1 t1 fk' fa' fd' gf' gt' ga' gd' fu0 fc0 fr0 fp0 fo0 := by
  obtain ⟨h1, h2, h3, h4⟩ := hr
  by_cases nd : kd f = 5 ∧ d < dy0 f
  · have eR : te_R n m kd am0 dy0 fr to am dy f t a d = none := by unfold te_R; rw [if_pos nd]
    have ok : fl_ok n (m + 1) (fu_up fr m f) (fu_up to m t) (fu_up am m a) := fun k hk => by
      by_cases c : k = m
      · subst c; rw [fu_s, fu_s, fu_s]; exact ⟨hf, ht, hft, ha⟩
      · rw [fu_n c, fu_n c, fu_n c]; exact hF.ok k (by omega)
    have hb : ∀ k, k < m + 1 → (decide (lo_k kd ((fu_up fr m f) k) = true ∧ (fu_up dy m d) k < dy0 ((fu_up fr m f) k)) = true ↔ (lo_k kd ((fu_up fr m f) k) = true ∧ (fu_up dy m d) k < dy0 ((fu_up fr m f) k))) := fun k _ => by simp
    obtain ⟨i, hi, ei⟩ := od_has (fu_up dy m d) (m + 1) m (by omega)
    have nn := rx_bad (n := n) (fr := fu_up fr m f) (to := fu_up to m t) (am := fu_up am m a) (od := od_f (fu_up dy m d) (m + 1)) (bd := fun k => decide (lo_k kd ((fu_up fr m f) k) = true ∧ (fu_up dy m d) k < dy0 ((fu_up fr m f) k))) (s0 := (in_u n (lo_k kd) am0, in_c n (lo_k kd))) hi (by
      show decide _ = true
      rw [decide_eq_true_iff, ei, fu_s, fu_s]
      exact ⟨by simp [lo_k, nd.1], nd.2⟩)
    refine sp_Rwalk (bd := fun k => decide (lo_k kd ((fu_up fr m f) k) = true ∧ (fu_up dy m d) k < dy0 ((fu_up fr m f) k))) hN.1 (by omega) hN.km (fun i hi hl => (hN.2.2 i hi (lo_k5 hl)).2.1) (fun i hi hl => (hN.2.2 i hi (lo_k5 hl)).2.2.1) (fun i hi hl => ⟨(hN.2.2 i hi (lo_k5 hl)).2.2.2.2.1, (hN.2.2 i hi (lo_k5 hl)).2.2.2.2.2⟩) ok h1 h2 h3 h4 (fun k hk => ?_) hb (fun q => H0 eR) (fun s q => ?_)
    · by_cases c : k = m
      · subst c; rw [fu_s]; exact hd
      · rw [fu_n c]; exact (hF k (by omega)).2.2.2.2.1
    · rw [nn] at q; cases q
  · have eR : te_R n m kd am0 dy0 fr to am dy f t a d = rn_k n (m + 1) kd am0 (fu_up fr m f) (fu_up to m t) (fu_up am m a) (fu_up dy m d) := by unfold te_R; rw [if_neg nd]
    have hF2 := fl_app hF (f := f) (t := t) (a := a) (d := d) hf ht hft ha hd kt kf (fun q => by
      rcases Nat.lt_or_ge d (dy0 f) with w | w
      · exact absurd ⟨q, w⟩ nd
      · exact w)
    exact sp_Rgo hN (by omega) h1 h2 h3 h4 hF2 (fun q => H0 (eR.trans q)) (fun s q u1 u2 u3 u4 u5 _ _ => H1 s (eR.trans q) u1 u2 u3 u4 u5)
end TELL
