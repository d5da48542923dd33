/-! ORDERS AND RUNS: what changes nothing, what comes last, one node more -/
theorem tn_congr {dy dy' o : Nat → Nat} {d j : Nat} (h : ∀ i, i < j → dy (o i) = dy' (o i)) : tn_f dy o d j = tn_f dy' o d j := by
  induction j with
  | zero => rfl
  | succ j ih => rw [tn_f, tn_f, h j (by omega), ih (fun i hi => h i (by omega))]
theorem od_congr {dy dy' : Nat → Nat} (m : Nat) (h : ∀ k, k < m → dy k = dy' k) : od_f dy m = od_f dy' m := by
  induction m with
  | zero => rfl
  | succ k ih =>
    have e := ih (fun i hi => h i (by omega))
    rw [od_f, od_f, e, h k (by omega), tn_congr (dy' := dy') (fun i hi => ?_)]
    exact h _ (by have := od_lt dy' k i hi; omega)
theorem rn_congr {n : Nat} {fr fr' to to' am am' od od' : Nat → Nat} {s0 : (Nat → Nat → Nat) × (Nat → Nat → Bool)} (k : Nat) (h : ∀ i, i < k → od i = od' i ∧ fr (od i) = fr' (od i) ∧ to (od i) = to' (od i) ∧ am (od i) = am' (od i)) : rn_f n fr to am od s0 k = rn_f n fr' to' am' od' s0 k := by
  induction k with
  | zero => rfl
  | succ k ih =>
    obtain ⟨h1, h2, h3, h4⟩ := h k (by omega)
    rw [rn_f, rn_f, ih (fun i hi => h i (by omega)), ← h1, h2, h3, h4]
/-- nothing outside the nodes -/
def ze_R (n : Nat) (s : (Nat → Nat → Nat) × (Nat → Nat → Bool)) : Prop := (∀ i l, n ≤ i ∨ n ≤ l → s.1 i l = 0) ∧ ∀ i l, n ≤ i ∨ n ≤ l → s.2 i l = false
theorem ze_in (n : Nat) (lo : Nat → Bool) (am : Nat → Nat) : ze_R n (in_u n lo am, in_c n lo) :=
  ⟨fun i l h => by show in_u n lo am i l = 0; unfold in_u; rw [if_neg (by omega)], fun i l h => by show in_c n lo i l = false; unfold in_c; exact decide_eq_false (by omega)⟩
theorem ze_mv {n fr to a : Nat} {s : (Nat → Nat → Nat) × (Nat → Nat → Bool)} (h : ze_R n s) (hf : fr < n) (ht : to < n) : ze_R n (mv_u n fr to a s.1, mv_c n fr to a s.1 s.2) := by
  refine ⟨fun i l q => ?_, fun i l q => ?_⟩
  · show mv_u n fr to a s.1 i l = 0
    unfold mv_u
    by_cases e : l < n
    · rw [if_pos e, if_neg (by omega), if_neg (by omega)]; exact h.1 i l q
    · rw [if_neg e]; exact h.1 i l q
  · show mv_c n fr to a s.1 s.2 i l = false
    unfold mv_c
    rw [h.2 i l q]
    by_cases e : l < n
    · have : ¬ i = to := by omega
      simp [this]
    · simp [e]
theorem rn_ze {n m : Nat} {fr to am od : Nat → Nat} {s0 : (Nat → Nat → Nat) × (Nat → Nat → Bool)} (hf : fl_ok n m fr to am) (ho : ∀ k, k < m → od k < m) (h0 : ze_R n s0) : ∀ k s, k ≤ m → rn_f n fr to am od s0 k = some s → ze_R n s := by
  intro k
  induction k with
  | zero => intro s _ h; rw [rn_f] at h; cases h; exact h0
  | succ k ih =>
    intro s hk h
    rw [rn_f] at h
    cases e : rn_f n fr to am od s0 k with
    | none => rw [e] at h; cases h
    | some t =>
      rw [e] at h
      have b := ih t (by omega) e
      obtain ⟨g1, g2, g3, g4⟩ := hf (od k) (ho k (by omega))
      dsimp only at h
      by_cases c1 : am (od k) = 0
      · rw [if_pos c1] at h; cases h; exact b
      · rw [if_neg c1] at h
        by_cases c2 : su_m (t.1 (fr (od k))) n < am (od k)
        · rw [if_pos c2] at h; cases h
        · rw [if_neg c2] at h; cases h; exact ze_mv b g1 g2
/-- one node more, of which nothing is there: the parting is the same -/
theorem be_ext {r : Nat → Int} {n : Nat} (h0 : 0 < n) (hp : 0 < r (be_f r n)) (hn : r n ≤ 0) : be_f r (n + 1) = be_f r n := by
  rw [be_step r h0, if_neg (by omega)]
theorem sv_ext {n : Nat} : ∀ (k : Nat) (p : Nat → Nat) (r : Nat → Int), k ≤ ps_n r n → r n ≤ 0 → sv_f (n + 1) k p r = sv_f n k p r := by
  intro k
  induction k with
  | zero => intro p r _ _; rfl
  | succ k ih =>
    intro p r h hr
    obtain ⟨b1, b2⟩ := ps_best (r := r) (n := n) (by omega)
    have d := ps_drop b1 b2
    have e := be_ext (r := r) (n := n) (by omega) b2 hr
    rw [sv_f, sv_f, e]
    refine ih _ _ (by omega) ?_
    show (if n = be_f r n then (-1 : Int) else r n) ≤ 0
    rw [if_neg (by omega)]; exact hr
theorem pt_ext {n : Nat} {x : Nat → Nat} {a v : Nat} (hv : v = su_m x n) (h0 : 0 < v) (ha : a ≤ v) (hx : x n = 0) : pt_f (n + 1) x a v = pt_f n x a v := by
  obtain ⟨h1, h2⟩ := pt_sums hv h0 ha
  have e0 : pt_fl x a v n = 0 := by show x n * a / v = 0; rw [hx]; simp
  have e1 : pt_ov (n + 1) x a v = pt_ov n x a v := by
    unfold pt_ov
    rw [su_m, e0]; rfl
  unfold pt_f
  rw [e1]
  refine sv_ext _ _ _ h2 ?_
  show ((x n * a % v : Nat) : Int) ≤ 0
  rw [hx]; simp
theorem su_ext {x : Nat → Nat} {n : Nat} (h : x n = 0) : su_m x (n + 1) = su_m x n := by rw [su_m, h]; rfl
def ex_s (n v : Nat) (b : Bool) (s : (Nat → Nat → Nat) × (Nat → Nat → Bool)) : (Nat → Nat → Nat) × (Nat → Nat → Bool) := (fun i l => if i = n ∧ l = n then v else s.1 i l, fun i l => if i = n ∧ l = n then b else s.2 i l)
theorem rn_ext {n m v : Nat} {b : Bool} {fr to am od : Nat → Nat} {s0 : (Nat → Nat → Nat) × (Nat → Nat → Bool)} (hf : fl_ok n m fr to am) (ho : ∀ k, k < m → od k < m) (h0 : ze_R n s0) : ∀ k s, k ≤ m → rn_f n fr to am od s0 k = some s → rn_f (n + 1) fr to am od (ex_s n v b s0) k = some (ex_s n v b s) := by
  intro k
  induction k with
  | zero => intro s _ h; rw [rn_f] at h; cases h; rfl
  | succ k ih =>
    intro s hk h
    have hz := rn_ze hf ho h0
    rw [rn_f] at h ⊢
    cases e : rn_f n fr to am od s0 k with
    | none => rw [e] at h; cases h
    | some t =>
      rw [e] at h
      have zt := hz k t (by omega) e
      rw [ih t (by omega) e]
      obtain ⟨g1, g2, g3, g4⟩ := hf (od k) (ho k (by omega))
      dsimp only at h ⊢
      by_cases c1 : am (od k) = 0
      · rw [if_pos c1] at h; cases h; rw [if_pos c1]
      · rw [if_neg c1] at h
        rw [if_neg c1]
        have er : (ex_s n v b t).1 (fr (od k)) = t.1 (fr (od k)) := by
          funext l
          show (if fr (od k) = n ∧ l = n then v else t.1 (fr (od k)) l) = _
          rw [if_neg (by omega)]
        have es : su_m ((ex_s n v b t).1 (fr (od k))) (n + 1) = su_m (t.1 (fr (od k))) n := by
          rw [er]; exact su_ext (zt.1 _ _ (Or.inr (Nat.le_refl n)))
        by_cases c2 : su_m (t.1 (fr (od k))) n < am (od k)
        · rw [if_pos c2] at h; cases h
        · rw [if_neg c2] at h
          cases h
          rw [es, if_neg c2]
          have ep : mv_p (n + 1) (fr (od k)) (am (od k)) (ex_s n v b t).1 = mv_p n (fr (od k)) (am (od k)) t.1 := by
            unfold mv_p
            rw [es, er]
            exact pt_ext rfl (by omega) (by omega) (zt.1 _ _ (Or.inr (Nat.le_refl n)))
          have p0 : mv_p n (fr (od k)) (am (od k)) t.1 n = 0 := by
            rw [← ep]
            have := pt_le (n := n + 1) (x := (ex_s n v b t).1 (fr (od k))) (a := am (od k)) (v := su_m ((ex_s n v b t).1 (fr (od k))) (n + 1)) rfl (by rw [es]; omega) (by rw [es]; omega) (l := n) (by omega)
            rw [er, zt.1 _ _ (Or.inr (Nat.le_refl n))] at this
            unfold mv_p
            rw [er]
            omega
          congr 1
          refine Prod.ext ?_ ?_
          · funext i l
            show mv_u (n + 1) (fr (od k)) (to (od k)) (am (od k)) (ex_s n v b t).1 i l = if i = n ∧ l = n then v else mv_u n (fr (od k)) (to (od k)) (am (od k)) t.1 i l
            unfold mv_u
            rw [ep]
            by_cases q : i = n ∧ l = n
            · rw [if_pos (by omega), if_neg (by omega), if_neg (by omega), if_pos q]
              show (if i = n ∧ l = n then v else t.1 i l) = v
              rw [if_pos q]
            · rw [if_neg q]
              have ei : (ex_s n v b t).1 i l = t.1 i l := by
                show (if i = n ∧ l = n then v else t.1 i l) = _
                rw [if_neg q]
              rw [ei]
              by_cases ql : l < n
              · rw [if_pos (by omega), if_pos ql]
              · rw [if_neg ql]
                by_cases ql2 : l < n + 1
                · have : l = n := by omega
                  subst this
                  rw [if_pos ql2, p0]
                  split
                  · rfl
                  · split <;> rfl
                · rw [if_neg ql2]
          · funext i l
            show mv_c (n + 1) (fr (od k)) (to (od k)) (am (od k)) (ex_s n v b t).1 (ex_s n v b t).2 i l = if i = n ∧ l = n then b else mv_c n (fr (od k)) (to (od k)) (am (od k)) t.1 t.2 i l
            unfold mv_c
            rw [ep]
            by_cases q : i = n ∧ l = n
            · rw [if_pos q]
              have : ¬ i = to (od k) := by omega
              have e2 : (ex_s n v b t).2 i l = b := by
                show (if i = n ∧ l = n then b else t.2 i l) = b
                rw [if_pos q]
              simp [this, e2]
            · rw [if_neg q]
              have ei : (ex_s n v b t).2 i l = t.2 i l := by
                show (if i = n ∧ l = n then b else t.2 i l) = _
                rw [if_neg q]
              rw [ei]
              by_cases ql : l < n
              · have : l < n + 1 := by omega
                simp [ql, this]
              · by_cases ql2 : l = n
                · subst ql2; simp [p0]
                · have : ¬ l < n + 1 := by omega
                  simp [ql, this]
/-- sums along an order -/
theorem su_in (g o : Nat → Nat) (pos k : Nat) : ∀ t, su_m (fun j => g (in_f o pos k j)) t = if t ≤ pos then su_m (fun j => g (o j)) t else su_m (fun j => g (o j)) (t - 1) + g k := by
  intro t
  induction t with
  | zero => simp [su_m]
  | succ t ih =>
    rw [su_m, ih]
    by_cases c : t + 1 ≤ pos
    · rw [if_pos (by omega), if_pos c, su_m]
      have : in_f o pos k t = o t := by unfold in_f; rw [if_pos (by omega)]
      rw [this]
    · rw [if_neg c]
      by_cases c2 : t = pos
      · subst c2
        rw [if_pos (by omega)]
        have : in_f o t k t = k := by unfold in_f; rw [if_neg (by omega), if_pos rfl]
        rw [this]; rfl
      · rw [if_neg (by omega)]
        have : in_f o pos k t = o (t - 1) := by unfold in_f; rw [if_neg (by omega), if_neg c2]
        rw [this]
        obtain ⟨w, rfl⟩ : ∃ w, t = w + 1 := ⟨t - 1, by omega⟩
        simp only [Nat.add_sub_cancel, su_m]
        omega
theorem od_sum (dy g : Nat → Nat) (m : Nat) : su_m (fun j => g (od_f dy m j)) m = su_m g m := by
  induction m with
  | zero => rfl
  | succ k ih =>
    have hp := tn_le dy (od_f dy k) (dy k) k
    rw [od_f, su_in, if_neg (by omega), Nat.add_sub_cancel, ih, su_m]
/-- every flow has its place; the order goes by days -/
theorem od_has (dy : Nat → Nat) (m : Nat) : ∀ k, k < m → ∃ i, i < m ∧ od_f dy m i = k := by
  induction m with
  | zero => intro k h; omega
  | succ j ih =>
    intro k hk
    have hp := tn_le dy (od_f dy j) (dy j) j
    rw [od_f]
    by_cases e : k = j
    · subst e
      exact ⟨tn_f dy (od_f dy k) (dy k) k, by omega, by unfold in_f; rw [if_neg (by omega), if_pos rfl]⟩
    · obtain ⟨i, hi, h⟩ := ih k (by omega)
      by_cases c : i < tn_f dy (od_f dy j) (dy j) j
      · exact ⟨i, by omega, by unfold in_f; rw [if_pos c]; exact h⟩
      · exact ⟨i + 1, by omega, by unfold in_f; rw [if_neg (by omega), if_neg (by omega), Nat.add_sub_cancel]; exact h⟩
theorem tn_spec {dy o : Nat → Nat} {d : Nat} : ∀ j, (∀ i i', i ≤ i' → i' < j → dy (o i) ≤ dy (o i')) → (∀ i, i < tn_f dy o d j → dy (o i) ≤ d) ∧ ∀ i, tn_f dy o d j ≤ i → i < j → d < dy (o i) := by
  intro j
  induction j with
  | zero => intro _; exact ⟨fun i h => by simp [tn_f] at h, fun i _ h => by omega⟩
  | succ j ih =>
    intro hs
    obtain ⟨a, b⟩ := ih (fun i i' h1 h2 => hs i i' h1 (by omega))
    rw [tn_f]
    by_cases c : d < dy (o j)
    · rw [if_pos c]
      refine ⟨a, fun i h1 h2 => ?_⟩
      by_cases e : i = j
      · subst e; exact c
      · exact b i h1 (by omega)
    · rw [if_neg c]
      exact ⟨fun i hi => Nat.le_trans (hs i j (by omega) (by omega)) (by omega), fun i h1 h2 => by omega⟩
theorem od_sorted (dy : Nat → Nat) (m : Nat) : ∀ i i', i ≤ i' → i' < m → dy (od_f dy m i) ≤ dy (od_f dy m i') := by
  induction m with
  | zero => intro i i' _ h; omega
  | succ j ih =>
    intro i i' h1 h2
    have hp := tn_le dy (od_f dy j) (dy j) j
    obtain ⟨a, b⟩ := tn_spec (dy := dy) (o := od_f dy j) (d := dy j) j ih
    rw [od_f]
    unfold in_f
    by_cases c1 : i < tn_f dy (od_f dy j) (dy j) j
    · rw [if_pos c1]
      by_cases c2 : i' < tn_f dy (od_f dy j) (dy j) j
      · rw [if_pos c2]; exact ih i i' h1 (by omega)
      · rw [if_neg c2]
        by_cases c3 : i' = tn_f dy (od_f dy j) (dy j) j
        · rw [if_pos c3]; exact a i c1
        · rw [if_neg c3]; exact ih i (i' - 1) (by omega) (by omega)
    · rw [if_neg c1]
      have c2 : ¬ i' < tn_f dy (od_f dy j) (dy j) j := by omega
      rw [if_neg c2]
      by_cases c3 : i = tn_f dy (od_f dy j) (dy j) j
      · rw [if_pos c3]
        by_cases c4 : i' = tn_f dy (od_f dy j) (dy j) j
        · rw [if_pos c4]; exact Nat.le_refl _
        · rw [if_neg c4]
          exact Nat.le_of_lt (b (i' - 1) (by omega) (by omega))
      · rw [if_neg c3, if_neg (by omega)]
        exact ih (i - 1) (i' - 1) (by omega) (by omega)
theorem od_last (dy : Nat → Nat) {m : Nat} (h : 0 < m) : ∀ k, k < m → dy k ≤ dy (od_f dy m (m - 1)) := by
  intro k hk
  obtain ⟨i, hi, e⟩ := od_has dy m k hk
  rw [← e]
  exact od_sorted dy m i (m - 1) (by omega) (by omega)
