/-! TOP, the reference -/
section TOR
variable {n m : Nat} {kd am0 dy0 fr to am dy : Nat → Nat} {fk : Nat → Int32} {fa fd : Nat → Int64} {fk' : Nat → Int32} {fa' fd' : Nat → Int64}
theorem gv_pos {s : (Nat → Nat → Nat) × (Nat → Nat → Bool)} {fh : Nat → Int32} {q : Int32} {D l : Nat} : 0 < gv_f n s dy0 fh q D l ↔ ((q = -1 ∨ q = nI l) ∧ fh l = 0 ∧ dy0 l ≤ D ∧ 0 < su_m (s.1 l) n) := by
  unfold gv_f
  by_cases c : (q = -1 ∨ q = nI l) ∧ fh l = 0 ∧ dy0 l ≤ D
  · rw [if_pos c]; exact ⟨fun w => ⟨c.1, c.2.1, c.2.2, w⟩, fun w => w.2.2.2⟩
  · rw [if_neg c]; exact ⟨fun w => by omega, fun w => absurd ⟨w.1, w.2.1, w.2.2.1⟩ c⟩
def cd_R (kd dy0 gv : Nat → Nat) (x11 : Int64) (x13 : Int32) (l : Nat) : Prop := kd l = 5 ∧ (x11 < lN (dy0 l) ∨ (lN (dy0 l) = x11 ∧ ¬ nI l ≤ x13)) ∧ 0 < gv l
theorem sp_Rsel {post : Int32 → Int32 → Int32 → (Nat → Int32) → (Nat → Int32) → (Nat → Int64) → (Nat → Int64) → (Nat → Int64) → (Nat → Int32) → (Nat → Int64) → (Nat → Int64) → (Nat → Int32) → Prop} {lt : Int64} {r1 t1 cn q : Int32} {fh fh' gf gt : Nat → Int32} {ga gd fu f1 f2 : Nat → Int64} {fcm f3 : Nat → Int32} {s : (Nat → Nat → Nat) × (Nat → Nat → Bool)} {K : Int32 → Int32 → Int64 → Int32 → Int64 → Int64 → Int32 → Int32 → Int32 → Int32 → (Nat → Int32) → (Nat → Int32) → (Nat → Int64) → (Nat → Int64) → (Nat → Int64) → (Nat → Int32) → (Nat → Int64) → (Nat → Int64) → (Nat → Int32) → Prop} {D t : Nat} {x9 x11 : Int64} {x13 : Int32} (hN : iv_N n kd am0 dy0 fk fa fd fk' fa' fd') (hH : iv_H n fh fh') (hm : m ≤ 400) (hF : fl_all n m kd dy0 fr to am dy) (hs : rn_k n m kd am0 fr to am dy = some s) (gU : rr_U n fu s.1) (hD2 : D ≤ 100000)
    (HN : (∀ l, l < n → ¬ cd_R kd dy0 (gv_f n s dy0 fh q D) x11 x13 l) → wb_X5_top_330 post (nI n) lt r1 fk' fa' fd' fh' K (nI t) q (lN D) (nI m) x9 x11 x13 (-1) cn t1 gf gt ga gd fu fcm f1 f2 f3)
    (HB : ∀ b, b < n → cd_R kd dy0 (gv_f n s dy0 fh q D) x11 x13 b → (∀ l, l < n → cd_R kd dy0 (gv_f n s dy0 fh q D) x11 x13 l → dy0 b < dy0 l ∨ (dy0 b = dy0 l ∧ b ≤ l)) → (400 ≤ cn → wb_X5_top_330 post (nI n) lt r1 fk' fa' fd' fh' K (nI t) q (lN D) (nI m) x9 x11 x13 (nI b) cn t1 gf gt ga gd fu fcm f1 f2 f3) ∧ (¬ 400 ≤ cn → wb_X5_top_331 post (nI n) lt r1 fk' fa' fd' fh' K (nI t) q (lN D) (nI m) x9 x11 x13 (nI b) 1 cn t1 gf gt ga gd fu fcm f1 f2 f3)) :
    ∃ k, wb_X5_top_144 post (nI n) lt r1 fk' fa' fd' fh' K k (nI t) q (lN D) (nI m) x9 x11 x13 (-1) 0 cn t1 gf gt ga gd fu fcm f1 f2 f3 := by
  have hn := hN.1
  have m1 : (-1 : Int32) < 0 := by decide
  refine lo_u1 (A1 := Int32) (fun k i x15 => wb_X5_top_144 post (nI n) lt r1 fk' fa' fd' fh' K k (nI t) q (lN D) (nI m) x9 x11 x13 x15 (nI i) cn t1 gf gt ga gd fu fcm f1 f2 f3)
    (fun i x15 => (x15 = -1 ∧ ∀ l, l < i → ¬ cd_R kd dy0 (gv_f n s dy0 fh q D) x11 x13 l) ∨ ∃ b, x15 = nI b ∧ b < i ∧ cd_R kd dy0 (gv_f n s dy0 fh q D) x11 x13 b ∧ ∀ l, l < i → cd_R kd dy0 (gv_f n s dy0 fh q D) x11 x13 l → dy0 b < dy0 l ∨ (dy0 b = dy0 l ∧ b ≤ l)) n ?_ ?_ 0 (-1) (by omega) (Or.inl ⟨rfl, fun l h => by omega⟩)
  · intro k x15 h
    refine ⟨fun _ => ?_, fun w => absurd (nI_le (Nat.le_refl n) (by omega)) w⟩
    rcases h with ⟨e, h⟩ | ⟨b, e, hb, h1, h2⟩
    · rw [e]
      exact ⟨fun _ => HN h, fun w => absurd m1 w⟩
    · rw [e]
      obtain ⟨q1, q2⟩ := HB b hb h1 h2
      exact ⟨fun w => absurd w (nI_pos (by omega)), fun _ => ⟨q1, q2⟩⟩
  · intro k i x15 hi h ih
    have hin : vp_in (nI i) 48 := vp_in_nI (by omega) (by omega)
    have ci : (nI i).toNatClampNeg = i := nI_clamp (by omega)
    have i2 := nq_lt48 (show i < 48 by omega) (show i < 48 by omega)
    obtain ⟨hh1, -⟩ := hH.1 i hi
    have lot := (hN.lot hi).2.1
    -- not chosen
    have keep : ¬ cd_R kd dy0 (gv_f n s dy0 fh q D) x11 x13 i → wb_X5_top_301 post (nI n) lt r1 fk' fa' fd' fh' K (wb_X5_top_144 post (nI n) lt r1 fk' fa' fd' fh' K k) (nI t) q (lN D) (nI m) x9 x11 x13 x15 (nI i) cn t1 gf gt ga gd fu fcm f1 f2 f3 := by
      intro w
      unfold wb_X5_top_301 wb_X5_top_303
      intro y hy
      rw [hy, nI_1]
      refine ih x15 ?_
      rcases h with ⟨e, h⟩ | ⟨b, e, hb, h1, h2⟩
      · refine Or.inl ⟨e, fun l hl => ?_⟩
        by_cases c : l = i
        · subst c; exact w
        · exact h l (by omega)
      · refine Or.inr ⟨b, e, by omega, h1, fun l hl hc => ?_⟩
        by_cases c : l = i
        · subst c; exact absurd hc w
        · exact h2 l (by omega) hc
    have no : ¬ cd_R kd dy0 (gv_f n s dy0 fh q D) x11 x13 i → wb_X5_top_265 post (nI n) lt r1 fk' fa' fd' fh' K (wb_X5_top_144 post (nI n) lt r1 fk' fa' fd' fh' K k) (nI t) q (lN D) (nI m) x9 x11 x13 x15 (nI i) cn t1 gf gt ga gd fu fcm f1 f2 f3 := fun w => ⟨fun _ => keep w, fun z => absurd rfl z⟩
    have no0 : ¬ cd_R kd dy0 (gv_f n s dy0 fh q D) x11 x13 i → wb_X5_top_201 post (nI n) lt r1 fk' fa' fd' fh' K (wb_X5_top_144 post (nI n) lt r1 fk' fa' fd' fh' K k) (nI t) q (lN D) (nI m) x9 x11 x13 x15 (nI i) cn t1 gf gt ga gd fu fcm f1 f2 f3 := fun w => ⟨fun _ => no w, fun z => absurd rfl z⟩
    refine ⟨fun w => absurd w (nI_ge hi (by omega)), fun _ => ⟨hin, ?_⟩⟩
    rw [ci]
    by_cases h5 : kd i = 5
    · obtain ⟨y1, y2, y3, y4, y5, y6⟩ := hN.2.2 i hi h5
      have own := lot_own hF hs hi h5
      have hb := in_all hN hm hF hs i
      have gp : 0 < gv_f n s dy0 fh q D i ↔ ((q = -1 ∨ q = nI i) ∧ fh i = 0 ∧ dy0 i ≤ D ∧ 0 < s.1 i i) := by rw [gv_pos, own]
      -- chosen where it comes before the best so far
      have yes : cd_R kd dy0 (gv_f n s dy0 fh q D) x11 x13 i → wb_X5_top_261 post (nI n) lt r1 fk' fa' fd' fh' K (wb_X5_top_144 post (nI n) lt r1 fk' fa' fd' fh' K k) (nI t) q (lN D) (nI m) x9 x11 x13 x15 (nI i) cn t1 gf gt ga gd fu fcm f1 f2 f3 := by
        intro w
        have take : (∀ l, l < i → cd_R kd dy0 (gv_f n s dy0 fh q D) x11 x13 l → dy0 i < dy0 l) → wb_X5_top_296 post (nI n) lt r1 fk' fa' fd' fh' K (wb_X5_top_144 post (nI n) lt r1 fk' fa' fd' fh' K k) (nI t) q (lN D) (nI m) x9 x11 x13 (nI i) cn t1 gf gt ga gd fu fcm f1 f2 f3 := by
          intro v
          unfold wb_X5_top_296 wb_X5_top_303
          intro y hy
          rw [hy, nI_1]
          refine ih (nI i) (Or.inr ⟨i, rfl, by omega, w, fun l hl hc => ?_⟩)
          by_cases c : l = i
          · subst c; exact Or.inr ⟨rfl, Nat.le_refl _⟩
          · exact Or.inl (v l (by omega) hc)
        refine ⟨fun z => absurd z (by decide), fun _ => ?_⟩
        rcases h with ⟨e, h⟩ | ⟨b, e, hb, h1, h2⟩
        · rw [e]
          exact ⟨fun _ => take (fun l hl hc => absurd hc (h l hl)), fun z => absurd m1 z⟩
        · have hb2 : b < n := by omega
          obtain ⟨z1, z2, z3, z4, z5, z6⟩ := hN.2.2 b hb2 h1.1
          have kp : wb_X5_top_303 post (nI n) lt r1 fk' fa' fd' fh' K (wb_X5_top_144 post (nI n) lt r1 fk' fa' fd' fh' K k) (nI t) q (lN D) (nI m) x9 x11 x13 (nI i) x15 cn t1 gf gt ga gd fu fcm f1 f2 f3 ∨ dy0 i < dy0 b := by
            by_cases c : dy0 i < dy0 b
            · exact Or.inr c
            · left
              unfold wb_X5_top_303
              intro y hy
              rw [hy, nI_1]
              refine ih x15 (Or.inr ⟨b, e, by omega, h1, fun l hl hc => ?_⟩)
              by_cases c2 : l = i
              · subst c2; omega
              · exact h2 l (by omega) hc
          rw [e] at kp ⊢
          refine ⟨fun z => absurd z (nI_pos (by omega)), fun _ => ⟨hin, vp_in_nI (by omega) (by omega), ?_⟩⟩
          rw [ci, nI_clamp (show b < 2 ^ 31 by omega), y5, z5, pk_lLT (by omega) (by omega)]
          refine ⟨fun c => ?_, fun c => take (fun l hl hc => ?_)⟩
          · rcases kp with kp | kp
            · exact kp
            · exact absurd kp c
          · have := h2 l hl hc; omega
      have beh : (x11 < lN (dy0 i) ∨ (lN (dy0 i) = x11 ∧ ¬ nI i ≤ x13)) → wb_X5_top_197 post (nI n) lt r1 fk' fa' fd' fh' K (wb_X5_top_144 post (nI n) lt r1 fk' fa' fd' fh' K k) (nI t) q (lN D) (nI m) x9 x11 x13 x15 (nI i) cn t1 gf gt ga gd fu fcm f1 f2 f3 := by
        intro w
        refine ⟨fun z => absurd z (by decide), fun _ => ⟨hin, ?_⟩⟩
        rw [nq_ir, nq_cc, ci, nI_clamp (show i * 48 + i < 2 ^ 31 by omega), gU i i hi hi, y5, hh1]
        refine ⟨fun z => no (fun v => z (gp.mp v.2.2).2.1), fun z1 => ⟨vp_in_nI i2 (by omega), fun z => no (fun v => z ((nq_pos (by omega)).mpr (gp.mp v.2.2).2.2.2)), fun z2 => ⟨hin, fun z => no (fun v => ?_), fun z3 => ?_⟩⟩⟩
        · rw [pk_lLT (by omega) (by omega)] at z
          have := (gp.mp v.2.2).2.2.1
          omega
        · rw [pk_lLT (by omega) (by omega)] at z3
          have z2 := (nq_pos (by omega)).mp z2
          refine ⟨fun z4 => yes ⟨h5, w, gp.mpr ⟨Or.inl z4, z1, by omega, z2⟩⟩, fun z4 => ⟨fun z5 => no (fun v => ?_), fun z5 => yes ⟨h5, w, gp.mpr ⟨Or.inr z5, z1, by omega, z2⟩⟩⟩⟩
          rcases (gp.mp v.2.2).1 with v | v
          · exact z4 v
          · exact z5 v
      refine ⟨fun z => absurd (lot.mpr h5) z, fun _ => ⟨hin, ?_⟩⟩
      rw [y5]
      refine ⟨fun z => beh (Or.inl z), fun z1 => ⟨hin, fun z => no0 (fun v => ?_), fun z2 => ⟨fun z => no0 (fun v => ?_), fun z3 => beh (Or.inr ⟨z2, z3⟩)⟩⟩⟩
      · rcases v.2.1 with v | v
        · exact z1 v
        · exact z v.1
      · rcases v.2.1 with v | v
        · exact z1 v
        · exact v.2 z
    · refine ⟨fun _ => no0 (fun v => h5 v.1), fun z => absurd (lot.mp z) h5⟩
theorem sp_Rtop {post : Int32 → Int32 → Int32 → (Nat → Int32) → (Nat → Int32) → (Nat → Int64) → (Nat → Int64) → (Nat → Int64) → (Nat → Int32) → (Nat → Int64) → (Nat → Int64) → (Nat → Int32) → Prop} {lt : Int64} {r1 t1 q : Int32} {fh fh' fl gf gt : Nat → Int32} {ga gd fu f1 f2 : Nat → Int64} {fcm f3 : Nat → Int32} {s : (Nat → Nat → Nat) × (Nat → Nat → Bool)} {D t a lc : Nat} {la : Nat → Nat} (hN : iv_N n kd am0 dy0 fk fa fd fk' fa' fd') (hH : iv_H n fh fh') (hA : iv_A n kd dy0 lc la fl) (hm : m ≤ 400) (hF : fl_all n m kd dy0 fr to am dy) (hs : rn_k n m kd am0 fr to am dy = some s) (gU : rr_U n fu s.1) (hD : ∀ k, k < m → dy k ≤ D) (hD2 : D ≤ 100000) (ha : a ≤ 1000000) (ht : t < n) (kt : kd t ≠ 5) (hR : fr_R m fr to am dy gf gt ga gd)
    (H0 : (0 < tp_m (gv_f n s dy0 fh q D) la a lc ∨ 400 < m + tp_k (gv_f n s dy0 fh q D) la a lc) → ∀ gf gt ga gd fu fcm f1 f2 f3, fr_R m fr to am dy gf gt ga gd → post (-1) (nI m) t1 gf gt ga gd fu fcm f1 f2 f3)
    (H1 : tp_m (gv_f n s dy0 fh q D) la a lc = 0 → m + tp_k (gv_f n s dy0 fh q D) la a lc ≤ 400 → ∀ gf gt ga gd fu fcm f1 f2 f3, fr_R (m + tp_k (gv_f n s dy0 fh q D) la a lc) (tp_u (gv_f n s dy0 fh q D) la a m la fr lc) (tp_u (gv_f n s dy0 fh q D) la a m (fun _ => t) to lc) (tp_u (gv_f n s dy0 fh q D) la a m (tp_g (gv_f n s dy0 fh q D) la a) am lc) (tp_u (gv_f n s dy0 fh q D) la a m (fun _ => D) dy lc) gf gt ga gd → post (nI (tp_k (gv_f n s dy0 fh q D) la a lc)) (nI (m + tp_k (gv_f n s dy0 fh q D) la a lc)) t1 gf gt ga gd fu fcm f1 f2 f3) :
    ∃ k, wb_X5_top_126 post (nI n) lt r1 fk' fa' fd' fh' k (nI t) q (lN D) (nI m) (lN a) (-1) (-1) 1 (nI m) t1 gf gt ga gd fu fcm f1 f2 f3 := by
  have hn := hN.1
  obtain ⟨a1, a2, a3, a4, a5⟩ := hA
  have hb := in_all hN hm hF hs
  have gb : ∀ l, gv_f n s dy0 fh q D l ≤ su_m (s.1 l) n ∧ (0 < gv_f n s dy0 fh q D l → dy0 l ≤ D) := fun l => by
    unfold gv_f
    split
    · rename_i w; exact ⟨Nat.le_refl _, fun _ => w.2.2⟩
    · exact ⟨by omega, fun w => by omega⟩
  have run := tp_run (gv := gv_f n s dy0 fh q D) (la := la) (a := a) (lc := lc) hF hs hD hD2 ha ht kt (fun j hj => ⟨(a3 j hj).1, (a3 j hj).2, fun w => ⟨(gb _).2 w, (gb _).1⟩⟩) (fun i j h1 h2 e => by have := a4 i j h1 h2; rw [e] at this; omega)
  have sel := fun {K : Int32 → Int32 → Int64 → Int32 → Int64 → Int64 → Int32 → Int32 → Int32 → Int32 → (Nat → Int32) → (Nat → Int32) → (Nat → Int64) → (Nat → Int64) → (Nat → Int64) → (Nat → Int32) → (Nat → Int64) → (Nat → Int64) → (Nat → Int32) → Prop} {x9 x11 : Int64} {x13 cn : Int32} {gf gt : Nat → Int32} {ga gd : Nat → Int64} => sp_Rsel (post := post) (lt := lt) (r1 := r1) (t1 := t1) (K := K) (x9 := x9) (x11 := x11) (x13 := x13) (cn := cn) (q := q) (t := t) (gf := gf) (gt := gt) (ga := ga) (gd := gd) (f1 := f1) (f2 := f2) (fcm := fcm) (f3 := f3) hN hH hm hF hs gU hD2
  have gvv : ∀ l, l < n → kd l = 5 → fu (l * 48 + l) = lN (su_m (s.1 l) n) := fun l hl h5 => by rw [gU l l hl hl, lot_own hF hs hl h5]
  have gveq : ∀ l, 0 < gv_f n s dy0 fh q D l → gv_f n s dy0 fh q D l = su_m (s.1 l) n := fun l w => by
    have := gv_pos.mp w
    unfold gv_f; rw [if_pos ⟨this.1, this.2.1, this.2.2.1⟩]
  generalize hgv : gv_f n s dy0 fh q D = gv at *
  -- the reference's rows after p lots hold m flows as before
  have low : ∀ p gf gt ga gd, fr_R (m + tp_k gv la a p) (tp_u gv la a m la fr p) (tp_u gv la a m (fun _ => t) to p) (tp_u gv la a m (tp_g gv la a) am p) (tp_u gv la a m (fun _ => D) dy p) gf gt ga gd → fr_R m fr to am dy gf gt ga gd := by
    intro p gf gt ga gd h
    obtain ⟨h1, h2, h3, h4⟩ := h
    refine ⟨fun j hj => ?_, fun j hj => ?_, fun j hj => ?_, fun j hj => ?_⟩
    · rw [h1 j (by omega), tp_ulo hj]
    · rw [h2 j (by omega), tp_ulo hj]
    · rw [h3 j (by omega), tp_ulo hj]
    · rw [h4 j (by omega), tp_ulo hj]
  have bad : ∀ p gf gt ga gd fu fcm f1 f2 f3, (0 < tp_m gv la a lc ∨ 400 < m + tp_k gv la a lc) → fr_R (m + tp_k gv la a p) (tp_u gv la a m la fr p) (tp_u gv la a m (fun _ => t) to p) (tp_u gv la a m (tp_g gv la a) am p) (tp_u gv la a m (fun _ => D) dy p) gf gt ga gd → wb_X5_top_425 post (nI n) lt r1 fk' fa' fd' fh' (nI m) (nI (m + tp_k gv la a p)) t1 gf gt ga gd fu fcm f1 f2 f3 := fun p gf gt ga gd fu fcm f1 f2 f3 w h => H0 w _ _ _ _ _ _ _ _ _ (low p _ _ _ _ h)
  have key : ∀ dd p x11 x13 gf gt ga gd, p ≤ lc → lc - p ≤ dd → m + tp_k gv la a p ≤ 400 → fr_R (m + tp_k gv la a p) (tp_u gv la a m la fr p) (tp_u gv la a m (fun _ => t) to p) (tp_u gv la a m (tp_g gv la a) am p) (tp_u gv la a m (fun _ => D) dy p) gf gt ga gd → (∀ j, j < lc → 0 < gv (la j) → ((x11 < lN (dy0 (la j)) ∨ (lN (dy0 (la j)) = x11 ∧ ¬ nI (la j) ≤ x13)) ↔ p ≤ j)) → wb_X5_top_126 post (nI n) lt r1 fk' fa' fd' fh' (dd + 2) (nI t) q (lN D) (nI m) (lN (tp_m gv la a p)) x11 x13 1 (nI (m + tp_k gv la a p)) t1 gf gt ga gd fu fcm f1 f2 f3 := by
    intro dd
    induction dd with
    | zero =>
      intro p x11 x13 gf gt ga gd hp hd hk hR hx
      have e : p = lc := by omega
      subst e
      have mb := tp_mle gv la a p
      refine ⟨fun z => absurd z (by decide), fun _ => ⟨fun w => ?_, fun w => ?_⟩⟩
      · rw [nq_pos (by omega)] at w
        refine ⟨fun z => absurd ((nq_pos (by omega)).mp z) w, fun _ => ?_⟩
        obtain ⟨sp, r1, r2, r3, r4⟩ := run p (Nat.le_refl p)
        refine sp_Rgo hN hk hR.1 hR.2.1 hR.2.2.1 hR.2.2.2 r2 (fun z => by rw [r1] at z; cases z) (fun s2 z u1 u2 u3 u4 u5 _ _ => ⟨fun _ => ?_, fun z => absurd z (by decide)⟩)
        rw [pk_sub (by omega), show m + tp_k gv la a p - m = tp_k gv la a p by omega]
        exact H1 (by omega) hk _ _ _ _ _ _ _ _ _ hR
      · have w := (nq_pos (by omega)).mp w
        refine sel (fun _ => ⟨fun _ => ?_, fun z => absurd rfl z⟩) (fun b hb1 hb2 hb3 => ?_)
        · unfold wb_X5_top_408
          refine ⟨fun _ => ⟨fun _ => bad p _ _ _ _ _ _ _ _ _ (Or.inl w) hR, fun z => absurd ((nq_pos (by omega)).mpr w) z⟩, fun z => absurd rfl z⟩
        · obtain ⟨j, hj, ej⟩ := a5 b hb1 hb2.1
          have := (hx j hj (by rw [ej]; exact hb2.2.2)).mp (by rw [ej]; exact hb2.2.1)
          omega
    | succ dd ih =>
      intro p x11 x13 gf gt ga gd hp hd hk hR hx
      have mb := tp_mle gv la a p
      refine ⟨fun z => absurd z (by decide), fun _ => ⟨fun w => ?_, fun w => ?_⟩⟩
      · rw [nq_pos (by omega)] at w
        refine ⟨fun z => absurd ((nq_pos (by omega)).mp z) w, fun _ => ?_⟩
        obtain ⟨sp, r1, r2, r3, r4⟩ := run p hp
        obtain ⟨y1, y2, y3⟩ := tp_zero (gv := gv) (la := la) (a := a) (p := p) (q := lc) hp (by omega)
        refine sp_Rgo hN hk hR.1 hR.2.1 hR.2.2.1 hR.2.2.2 r2 (fun z => by rw [r1] at z; cases z) (fun s2 z u1 u2 u3 u4 u5 _ _ => ⟨fun _ => ?_, fun z => absurd z (by decide)⟩)
        rw [pk_sub (by omega), show m + tp_k gv la a p - m = tp_k gv la a p by omega]
        simp only [y2, y3] at H1
        exact H1 y1 hk _ _ _ _ _ _ _ _ _ hR
      · have w := (nq_pos (by omega)).mp w
        have out : ∀ x15, (0 < tp_m gv la a lc ∨ 400 < m + tp_k gv la a lc) → wb_X5_top_330 post (nI n) lt r1 fk' fa' fd' fh' (wb_X5_top_126 post (nI n) lt r1 fk' fa' fd' fh' (dd + 2)) (nI t) q (lN D) (nI m) (lN (tp_m gv la a p)) x11 x13 x15 (nI (m + tp_k gv la a p)) t1 gf gt ga gd fu fcm f1 f2 f3 := by
          intro x15 v
          refine ⟨fun _ => ?_, fun z => absurd rfl z⟩
          unfold wb_X5_top_408
          exact ⟨fun _ => ⟨fun _ => bad p _ _ _ _ _ _ _ _ _ v hR, fun z => absurd ((nq_pos (by omega)).mpr w) z⟩, fun z => absurd rfl z⟩
        refine sel (fun no => out _ (Or.inl ?_)) (fun b hb1 hb2 hb3 => ?_)
        · obtain ⟨y1, y2, y3⟩ := tp_same (gv := gv) (la := la) (a := a) (p := p) (q := lc) hp (fun j h1 h2 => by
            rcases Nat.eq_zero_or_pos (gv (la j)) with v | v
            · exact v
            · exact absurd ⟨(a3 j h2).2, (hx j h2 v).mpr h1, v⟩ (no (la j) (a3 j h2).1))
          rw [y1]; exact w
        · obtain ⟨j, hj, ej⟩ := a5 b hb1 hb2.1
          subst ej
          have gpos := hb2.2.2
          have pj := (hx j hj gpos).mp hb2.2.1
          obtain ⟨y1, y2, y3⟩ := tp_same (gv := gv) (la := la) (a := a) (p := p) (q := j) pj (fun j' h1 h2 => by
            rcases Nat.eq_zero_or_pos (gv (la j')) with v | v
            · exact v
            · have c1 := hb3 (la j') (a3 j' (by omega)).1 ⟨(a3 j' (by omega)).2, (hx j' (by omega) v).mpr h1, v⟩
              have c2 := a4 j' j h2 hj
              omega)
          have gle : tp_g gv la a j ≤ tp_m gv la a j := Nat.min_le_left _ _
          have g0 : 0 < tp_g gv la a j := by unfold tp_g; rw [y1]; omega
          have kk : tp_k gv la a (j + 1) = tp_k gv la a p + 1 := by rw [tp_ks, if_pos g0, y2]
          refine ⟨fun v => out _ (Or.inr ?_), fun v => ⟨fun z => absurd z (by decide), fun _ => ?_⟩⟩
          · rw [nq_400, nI_leI (by omega) (by omega)] at v
            have := tp_kmono (gv := gv) (la := la) (a := a) (p := j + 1) (q := lc) (by omega)
            omega
          · rw [nq_400, nI_leI (by omega) (by omega)] at v
            have lj := (a3 j hj).1
            have i2 := nq_lt48 (show la j < 48 by omega) (show la j < 48 by omega)
            have sb := hb (la j)
            obtain ⟨z1, z2, z3, z4, z5, z6⟩ := hN.2.2 (la j) lj (a3 j hj).2
            have put : wb_X5_top_375 post (nI n) lt r1 fk' fa' fd' fh' (wb_X5_top_126 post (nI n) lt r1 fk' fa' fd' fh' (dd + 2)) (nI t) q (lN D) (nI m) (lN (tp_m gv la a p)) 1 (nI (la j)) (lN (tp_g gv la a j)) (nI (m + tp_k gv la a p)) t1 gf gt ga gd fu fcm f1 f2 f3 := by
              unfold wb_X5_top_375
              refine sp_put (by omega) hR (fun gf2 gt2 ga2 gd2 hR2 x hx2 => ⟨vp_in_nI (by omega) (by omega), fun y hy => ?_⟩)
              rw [nI_clamp (show la j < 2 ^ 31 by omega), z5] at hy
              rw [hx2, hy, ← y1, lN_sub gle]
              unfold wb_X5_top_408
              have := ih (j + 1) (lN (dy0 (la j))) (nI (la j)) gf2 gt2 ga2 gd2 (by omega) (by omega) (by rw [kk]; omega) (by
                rw [kk]
                simp only [tp_us, if_pos g0, y2, y3]
                exact hR2) (fun i hi hg => by
                  have li := (a3 i hi).1
                  obtain ⟨q1, q2, q3, q4, q5, q6⟩ := hN.2.2 (la i) li (a3 i hi).2
                  rw [pk_lLT (by omega) (by omega), pk_lEQ (by omega) (by omega), nI_leI (by omega) (by omega)]
                  rcases Nat.lt_trichotomy i j with c | c | c
                  · have := a4 i j c hj; omega
                  · subst c; omega
                  · have := a4 j i c hi; omega)
              rw [kk, tp_ms] at this
              exact this
            rw [nq_ir, nq_cc, nI_clamp (show la j * 48 + la j < 2 ^ 31 by omega), gvv (la j) lj (a3 j hj).2, pk_lLT (by omega) (by omega)]
            refine ⟨vp_in_nI i2 (by omega), fun c => ?_, fun c => ⟨vp_in_nI i2 (by omega), ?_⟩⟩
            · have e : tp_g gv la a j = tp_m gv la a p := by unfold tp_g; rw [gveq _ gpos, y1]; exact Nat.min_eq_left (by omega)
              rw [e] at put; exact put
            · have e : tp_g gv la a j = su_m (s.1 (la j)) n := by unfold tp_g; rw [gveq _ gpos, y1]; exact Nat.min_eq_right (by omega)
              rw [e] at put; exact put
  refine ⟨lc + 2, key lc 0 (-1) (-1) gf gt ga gd (by omega) (by omega) (by show m + 0 ≤ 400; omega) hR (fun j hj hg => ⟨fun _ => by omega, fun _ => Or.inl ?_⟩)⟩
  have := (hN.2.2 (la j) (a3 j hj).1 (a3 j hj).2).2.2.2.2.2
  rw [Int64.lt_iff_toInt_lt, pk_lT (by omega)]
  have e : (-1 : Int64).toInt = -1 := by decide +kernel
  omega
end TOR
