/-! RECALL: rows by keys, each once, in order -/
def re_R (g : Nat → Bool) (pr : Nat → Nat) (t rc : Nat) (ky : Nat → Nat) : Prop :=
  (∀ i j, i < j → j < rc → ky i < ky j) ∧ (∀ k, k < rc → ∃ i, i < t ∧ g i = true ∧ pr i = ky k) ∧ ∀ i, i < t → g i = true → ∃ k, k < rc ∧ ky k = pr i
theorem re_uniq1 {g : Nat → Bool} {pr : Nat → Nat} {t rc rc' : Nat} {ky ky' : Nat → Nat} (h : re_R g pr t rc ky) (h' : re_R g pr t rc' ky') : ∀ k, k < rc → k < rc' → ky k = ky' k := by
  intro k
  induction k using Nat.strongRecOn with
  | ind k ih =>
    intro k1 k2
    have side : ∀ {r1 r2 : Nat} {y1 y2 : Nat → Nat}, re_R g pr t r1 y1 → re_R g pr t r2 y2 → k < r1 → k < r2 → (∀ j, j < k → y1 j = y2 j) → y2 k ≤ y1 k := by
      intro r1 r2 y1 y2 a b a1 b1 q
      obtain ⟨i, hi, hg, hp⟩ := a.2.1 k a1
      obtain ⟨j, hj, e⟩ := b.2.2 i hi hg
      by_cases c : j < k
      · have := q j c
        have := a.1 j k c a1
        omega
      · by_cases c2 : j = k
        · subst c2; omega
        · have := b.1 k j (by omega) hj; omega
    have a := side h h' k1 k2 (fun j hj => ih j hj (by omega) (by omega))
    have b := side h' h k2 k1 (fun j hj => (ih j hj (by omega) (by omega)).symm)
    omega
theorem re_uniq2 {g : Nat → Bool} {pr : Nat → Nat} {t rc rc' : Nat} {ky ky' : Nat → Nat} (h : re_R g pr t rc ky) (h' : re_R g pr t rc' ky') : rc' ≤ rc := by
  rcases Nat.lt_or_ge rc rc' with c | c
  · obtain ⟨i, hi, hg, hp⟩ := h'.2.1 rc c
    obtain ⟨j, hj, e⟩ := h.2.2 i hi hg
    have := re_uniq1 h h' j hj (by omega)
    have := h'.1 j rc hj c
    omega
  · exact c
theorem re_uniq {g : Nat → Bool} {pr : Nat → Nat} {t rc rc' : Nat} {ky ky' : Nat → Nat} (h : re_R g pr t rc ky) (h' : re_R g pr t rc' ky') : rc' = rc ∧ ∀ k, k < rc → ky k = ky' k := by
  have a := re_uniq2 h h'
  have b := re_uniq2 h' h
  have e : rc' = rc := by omega
  subst e
  exact ⟨rfl, fun k hk => re_uniq1 h h' k hk hk⟩
theorem re_skip {g : Nat → Bool} {pr : Nat → Nat} {t rc : Nat} {ky : Nat → Nat} (h : re_R g pr t rc ky) (hg : g t = false) : re_R g pr (t + 1) rc ky := by
  refine ⟨h.1, fun k hk => ?_, fun i hi gi => ?_⟩
  · obtain ⟨i, hi, q⟩ := h.2.1 k hk
    exact ⟨i, by omega, q⟩
  · by_cases c : i = t
    · subst c; rw [hg] at gi; cases gi
    · exact h.2.2 i (by omega) gi
theorem re_same {g : Nat → Bool} {pr : Nat → Nat} {t rc row : Nat} {ky : Nat → Nat} (h : re_R g pr t rc ky) (hr : row < rc) (e : ky row = pr t) : re_R g pr (t + 1) rc ky := by
  refine ⟨h.1, fun k hk => ?_, fun i hi gi => ?_⟩
  · obtain ⟨i, hi, q⟩ := h.2.1 k hk
    exact ⟨i, by omega, q⟩
  · by_cases c : i = t
    · subst c; exact ⟨row, hr, e⟩
    · exact h.2.2 i (by omega) gi
theorem in_cases (o : Nat → Nat) (pos v i : Nat) : (i = pos ∧ in_f o pos v i = v) ∨ (i < pos ∧ in_f o pos v i = o i) ∨ (pos < i ∧ in_f o pos v i = o (i - 1)) := by
  unfold in_f
  by_cases c : i < pos
  · rw [if_pos c]; exact Or.inr (Or.inl ⟨c, rfl⟩)
  · rw [if_neg c]
    by_cases c2 : i = pos
    · rw [if_pos c2]; exact Or.inl ⟨c2, rfl⟩
    · rw [if_neg c2]; exact Or.inr (Or.inr ⟨by omega, rfl⟩)
theorem re_in {g : Nat → Bool} {pr : Nat → Nat} {t rc row : Nat} {ky : Nat → Nat} (h : re_R g pr t rc ky) (hg : g t = true) (hr : row ≤ rc) (h1 : ∀ k, k < row → ky k < pr t) (h2 : ∀ k, row ≤ k → k < rc → pr t < ky k) : re_R g pr (t + 1) (rc + 1) (in_f ky row (pr t)) := by
  refine ⟨fun i j hi hj => ?_, fun k hk => ?_, fun i hi gi => ?_⟩
  · rcases in_cases ky row (pr t) i with ⟨c, e⟩ | ⟨c, e⟩ | ⟨c, e⟩ <;> rcases in_cases ky row (pr t) j with ⟨c', e'⟩ | ⟨c', e'⟩ | ⟨c', e'⟩ <;> rw [e, e']
    · omega
    · omega
    · exact h2 (j - 1) (by omega) (by omega)
    · exact h1 i c
    · exact h.1 i j hi (by omega)
    · exact h.1 i (j - 1) (by omega) (by omega)
    · omega
    · omega
    · exact h.1 (i - 1) (j - 1) (by omega) (by omega)
  · rcases in_cases ky row (pr t) k with ⟨c, e⟩ | ⟨c, e⟩ | ⟨c, e⟩ <;> rw [e]
    · exact ⟨t, by omega, hg, rfl⟩
    · obtain ⟨i, hi, q⟩ := h.2.1 k (by omega)
      exact ⟨i, by omega, q⟩
    · obtain ⟨i, hi, q⟩ := h.2.1 (k - 1) (by omega)
      exact ⟨i, by omega, q⟩
  · by_cases c : i = t
    · subst c
      exact ⟨row, by omega, by unfold in_f; rw [if_neg (by omega), if_pos rfl]⟩
    · obtain ⟨k, hk, e⟩ := h.2.2 i (by omega) gi
      by_cases c2 : k < row
      · exact ⟨k, by omega, by unfold in_f; rw [if_pos c2]; exact e⟩
      · exact ⟨k + 1, by omega, by unfold in_f; rw [if_neg (by omega), if_neg (by omega), Nat.add_sub_cancel]; exact e⟩
theorem re_find {ky : Nat → Nat} {rc p : Nat} (hs : ∀ i j, i < j → j < rc → ky i < ky j) : ∃ row, row ≤ rc ∧ (∀ k, k < row → ky k < p) ∧ ∀ k, row ≤ k → k < rc → p ≤ ky k := by
  induction rc with
  | zero => exact ⟨0, by omega, fun k h => by omega, fun k _ h => by omega⟩
  | succ r ih =>
    obtain ⟨row, h1, h2, h3⟩ := ih (fun i j a b => hs i j a (by omega))
    by_cases c : row = r
    · subst c
      by_cases c2 : ky row < p
      · refine ⟨row + 1, by omega, fun k hk => ?_, fun k a b => by omega⟩
        by_cases c3 : k = row
        · subst c3; exact c2
        · exact h2 k (by omega)
      · refine ⟨row, by omega, h2, fun k a b => ?_⟩
        have : k = row := by omega
        subst this; omega
    · refine ⟨row, by omega, h2, fun k a b => ?_⟩
      by_cases c3 : k = r
      · subst c3
        have := h3 row (by omega) (by omega)
        have := hs row k (by omega) (by omega)
        omega
      · exact h3 k a (by omega)
theorem re_ex (g : Nat → Bool) (pr : Nat → Nat) : ∀ t, ∃ rc ky, rc ≤ t ∧ re_R g pr t rc ky := by
  intro t
  induction t with
  | zero => exact ⟨0, fun _ => 0, by omega, fun i j _ h => by omega, fun k h => by omega, fun i h => by omega⟩
  | succ t ih =>
    obtain ⟨rc, ky, h1, h2⟩ := ih
    cases e : g t with
    | false => exact ⟨rc, ky, by omega, re_skip h2 e⟩
    | true =>
      obtain ⟨row, r1, r2, r3⟩ := re_find (p := pr t) h2.1
      by_cases c : row < rc ∧ ky row = pr t
      · exact ⟨rc, ky, by omega, re_same h2 c.1 c.2⟩
      · refine ⟨rc + 1, in_f ky row (pr t), by omega, re_in h2 e r1 r2 (fun k a b => ?_)⟩
        have := r3 k a b
        by_cases c2 : k = row
        · subst c2
          have : ¬ ky k = pr t := fun q => c ⟨b, q⟩
          omega
        · have := h2.1 row k (by omega) b
          have := r3 row (Nat.le_refl _) (by omega)
          omega
/-- entering a row of the class's list -/
def ii_f {α : Type} (f : Nat → α) (pos : Nat) (v : α) : Nat → α := fun i => if i < pos then f i else if i = pos then v else f (i - 1)
theorem sp_insert {post : Int32 → (Nat → Int32) → (Nat → Int64) → (Nat → Int32) → Prop} {rc row : Nat} {p : Int32} {u : Int64} {ls lh : Nat → Int32} {lu : Nat → Int64} (hc : rc < 48) (hr : row ≤ rc)
    (H : ∀ ls' lu' lh', (∀ k, k < rc + 1 → ls' k = ii_f ls row p k ∧ lu' k = ii_f lu row u k ∧ lh' k = ii_f lh row 1 k) → post (nI (rc + 1)) ls' lu' lh') : wp_X2_insert post (nI rc) ls lu lh (nI row) p u := by
  unfold wp_X2_insert
  refine ⟨fun _ => ?_, fun q => absurd (by rw [nq_48]; exact nI_lt hc (by omega)) q⟩
  have key : ∀ d (a : Nat → Int32) (b : Nat → Int64) (c : Nat → Int32), row + d ≤ rc → (∀ k, (k < row + d → a k = ls k ∧ b k = lu k ∧ c k = lh k) ∧ (row + d < k → k < rc + 1 → a k = ls (k - 1) ∧ b k = lu (k - 1) ∧ c k = lh (k - 1))) → wb_X2_insert_16 post (d + 1) (nI row) p u (nI (row + d)) (nI rc) a b c := by
    intro d
    induction d with
    | zero =>
      intro a b c hd h
      have hin : vp_in (nI row) 48 := vp_in_nI (by omega) (by omega)
      refine ⟨fun _ => ⟨hin, fun f1 e1 => ⟨hin, fun f2 e2 => ⟨hin, fun f3 e3 v ev => ?_⟩⟩⟩, fun q => absurd (nI_le (by omega) (by omega)) q⟩
      rw [ev, nI_1]
      rw [nI_clamp (show row < 2 ^ 31 by omega)] at e1 e2 e3
      refine H _ _ _ (fun k hk => ?_)
      obtain ⟨h1, h2⟩ := h k
      rw [e1, e2, e3]
      unfold ii_f
      by_cases c1 : k < row
      · rw [pk_un (by omega), pk_uLn (by omega), pk_un (by omega), if_pos c1, if_pos c1, if_pos c1]; exact h1 (by omega)
      · rw [if_neg c1, if_neg c1, if_neg c1]
        by_cases c2 : k = row
        · subst c2; rw [pk_us, pk_uLs, pk_us, if_pos rfl, if_pos rfl, if_pos rfl]; exact ⟨rfl, rfl, rfl⟩
        · rw [pk_un c2, pk_uLn c2, pk_un c2, if_neg c2, if_neg c2, if_neg c2]; exact h2 (by omega) hk
    | succ d ih =>
      intro a b c hd h
      have hin : vp_in (nI (row + (d + 1))) 48 := vp_in_nI (by omega) (by omega)
      have hin2 : vp_in (nI (row + d)) 48 := vp_in_nI (by omega) (by omega)
      have em : nI (row + (d + 1)) - 1 = nI (row + d) := by rw [nq_m1 (by omega)]; rfl
      refine ⟨fun q => absurd q (nI_ge (by omega) (by omega)), fun _ => ?_⟩
      rw [em, nI_clamp (show row + d < 2 ^ 31 by omega), nI_clamp (show row + (d + 1) < 2 ^ 31 by omega)]
      refine ⟨hin2, hin, fun f1 e1 => ⟨hin2, hin, fun f2 e2 => ⟨hin2, hin, fun f3 e3 x hx => ?_⟩⟩⟩
      have ex : x = nI (row + d) := by rw [hx, nq_mm (by omega)]; rfl
      rw [ex]
      refine ih f1 f2 f3 (by omega) (fun k => ⟨fun q => ?_, fun q1 q2 => ?_⟩)
      · rw [e1, e2, e3, pk_un (by omega), pk_uLn (by omega), pk_un (by omega)]; exact (h k).1 (by omega)
      · rw [e1, e2, e3]
        by_cases c2 : k = row + (d + 1)
        · subst c2
          rw [pk_us, pk_uLs, pk_us]; exact (h (row + d)).1 (by omega)
        · rw [pk_un c2, pk_uLn c2, pk_un c2]; exact (h k).2 (by omega) q2
  refine ⟨rc - row + 1, ?_⟩
  have := key (rc - row) ls lu lh (by omega) (fun k => ⟨fun _ => ⟨rfl, rfl, rfl⟩, fun q1 q2 => by omega⟩)
  rwa [show row + (rc - row) = rc by omega] at this
theorem sp_enter {post : Int32 → (Nat → Int32) → (Nat → Int64) → (Nat → Int32) → Prop} {rc p : Nat} {ky : Nat → Nat} {u : Int64} {ls lh : Nat → Int32} {lu : Nat → Int64} (hc : rc < 48) (hp : p < 1000000) (hs : ∀ i j, i < j → j < rc → ky i < ky j) (hl : ∀ k, k < rc → ls k = nI (ky k) ∧ ky k < 1000000)
    (HA : ∀ row, row < rc → ky row = p → post (nI rc) ls (vp_updL lu row (lu row + u)) (upd lh row (lh row + 1)))
    (HB : ∀ row, row ≤ rc → (∀ k, k < row → ky k < p) → (∀ k, row ≤ k → k < rc → p < ky k) → ∀ ls' lu' lh', (∀ k, k < rc + 1 → ls' k = ii_f ls row (nI p) k ∧ lu' k = ii_f lu row u k ∧ lh' k = ii_f lh row 1 k) → post (nI (rc + 1)) ls' lu' lh') : wp_X2_enter post (nI rc) ls lu lh (nI p) u := by
  unfold wp_X2_enter
  have done : ∀ row, row ≤ rc → (∀ k, k < row → ky k < p) → (row < rc → p ≤ ky row) → wb_X2_enter_29 post (nI p) u (nI row) (nI rc) ls lu lh := by
    intro row r1 r2 r3
    have ins : (∀ k, row ≤ k → k < rc → p < ky k) → wb_X2_enter_74 post (nI p) u (nI row) (nI rc) ls lu lh := fun r4 => by
      unfold wb_X2_enter_74
      exact sp_insert hc r1 (fun a b c h => HB row r1 r2 r4 a b c h)
    refine ⟨fun q => ins (fun k a b => ?_), fun q => ?_⟩
    · rw [nI_leI (by omega) (by omega)] at q; omega
    · rw [nI_leI (by omega) (by omega)] at q
      have hr : row < rc := by omega
      obtain ⟨e1, e2⟩ := hl row hr
      have hin : vp_in (nI row) 48 := vp_in_nI (by omega) (by omega)
      rw [nI_clamp (show row < 2 ^ 31 by omega), e1]
      refine ⟨hin, fun q2 => ins (fun k a b => ?_), fun q2 => ⟨hin, hin, fun f1 h1 => ⟨hin, hin, fun f2 h2 => ?_⟩⟩⟩
      · have : ky row ≠ p := fun z => q2 (by rw [z])
        have := r3 hr
        by_cases c : k = row
        · subst c; omega
        · have := hs row k (by omega) b; omega
      · rw [nI_eq (by omega) (by omega)] at q2
        rw [h1, h2]; exact HA row hr q2
  refine lo_u1 (A1 := Unit) (fun k row _ => wb_X2_enter_3 post k (nI p) u (nI row) (nI rc) ls lu lh) (fun row _ => ∀ k, k < row → ky k < p) rc ?_ ?_ 0 () (by omega) (fun k hk => by omega)
  · intro k _ h
    exact ⟨fun _ => done rc (Nat.le_refl rc) h (fun q => by omega), fun q => absurd (nI_le (Nat.le_refl rc) (by omega)) q⟩
  · intro k row _ hr h ih
    obtain ⟨e1, e2⟩ := hl row hr
    refine ⟨fun q => absurd q (nI_ge hr (by omega)), fun _ => ?_⟩
    rw [nI_clamp (show row < 2 ^ 31 by omega), e1]
    refine ⟨vp_in_nI (by omega) (by omega), fun q => ?_, fun q x hx => ?_⟩
    · rw [nI_leI (by omega) (by omega)] at q
      exact done row (by omega) h (fun _ => q)
    · rw [nI_leI (by omega) (by omega)] at q
      rw [hx, nI_1]
      refine ih () (fun k hk => ?_)
      by_cases c : k = row
      · subst c; omega
      · exact h k (by omega)
/-- what a row holds after t nodes -/
def sm_u (g : Nat → Bool) (pr un : Nat → Nat) (key t : Nat) : Nat := su_m (fun i => if g i = true ∧ pr i = key then un i else 0) t
theorem sm_new {g : Nat → Bool} {pr un : Nat → Nat} {t rc : Nat} {ky : Nat → Nat} {key : Nat} (h : re_R g pr t rc ky) (hk : ∀ k, k < rc → ky k ≠ key) : sm_u g pr un key t = 0 := by
  refine su_zero (fun i hi => ?_)
  rw [if_neg]
  rintro ⟨q1, q2⟩
  obtain ⟨k, h1, h2⟩ := h.2.2 i hi q1
  exact hk k h1 (by omega)
def li_R (g : Nat → Bool) (pr un : Nat → Nat) (t rc : Nat) (ky : Nat → Nat) (ls : Nat → Int32) (lu : Nat → Int64) (lh : Nat → Int32) : Prop :=
  ∀ k, k < rc → ls k = nI (ky k) ∧ lu k = lN (sm_u g pr un (ky k) t) ∧ lh k = nI (sm_u g pr (fun _ => 1) (ky k) t)
theorem sm_succ (g : Nat → Bool) (pr un : Nat → Nat) (key t : Nat) : sm_u g pr un key (t + 1) = sm_u g pr un key t + (if g t = true ∧ pr t = key then un t else 0) := rfl
section RCL
variable {n m : Nat} {kd am0 dy0 fr to am dy : Nat → Nat} {fk : Nat → Int32} {fa fd : Nat → Int64} {fk' : Nat → Int32} {fa' fd' : Nat → Int64}
theorem sp_Crecall {spc : Int32} {post : Int32 → Int32 → (Nat → Int32) → (Nat → Int64) → (Nat → Int32) → Prop} {lt : Int64} {lcn : Int32} {fs ls0 lh0 : Nat → Int32} {lu0 su sr : Nat → Int64} {u : Nat → Nat → Nat} {c : Nat → Nat → Bool} {g : Nat → Bool} {pr : Nat → Nat} {l : Nat} (hN : iv_N n kd am0 dy0 fk fa fd fk' fa' fd') (hl : l < n) (rU : rw_U su u) (rB : rw_B sr c) (hg : ∀ i, i < n → (g i = true ↔ (¬ kd i = 5 ∧ ¬ fs i = -1 ∧ c i l = true))) (hp : ∀ i, i < n → g i = true → pr i < 1000000 ∧ fs i = nI (pr i))
    (H : ∀ rc ky ls lu lh, rc ≤ 48 → re_R g pr n rc ky → li_R g pr (fun i => u i l) n rc ky ls lu lh → post (nI rc) (nI rc) ls lu lh) :
    ∃ k, wb_X4_recall_23 post lt (nI n) lcn fk fs spc su sr k (nI l) 0 0 ls0 lu0 lh0 := by
  have hn := hN.1
  refine lo_u5 (fun k t (rc : Nat) (_ : Nat → Nat) ls lu lh => wb_X4_recall_23 post lt (nI n) lcn fk fs spc su sr k (nI l) (nI t) (nI rc) ls lu lh)
    (fun t rc ky ls lu lh => rc ≤ t ∧ re_R g pr t rc ky ∧ li_R g pr (fun i => u i l) t rc ky ls lu lh) n ?_ ?_ 0 0 (fun _ => 0) ls0 lu0 lh0 (by omega) ⟨by omega, ⟨fun i j _ h => by omega, fun k h => by omega, fun i h => by omega⟩, fun k h => by omega⟩
  · intro k rc ky ls lu lh h
    exact ⟨fun _ => H rc ky ls lu lh (by omega) h.2.1 h.2.2, fun q => absurd (nI_le (Nat.le_refl n) (by omega)) q⟩
  · intro k t rc ky ls lu lh ht h ih
    obtain ⟨h1, h2, h3⟩ := h
    have hin : vp_in (nI t) 48 := vp_in_nI (by omega) (by omega)
    have skip : g t = false → wb_X4_recall_95 post lt (nI n) lcn fk fs spc su sr (wb_X4_recall_23 post lt (nI n) lcn fk fs spc su sr k) (nI l) (nI t) (nI rc) ls lu lh := by
      intro e
      unfold wb_X4_recall_95
      intro x hx
      rw [hx, nI_1]
      refine ih rc ky ls lu lh ⟨by omega, re_skip h2 e, fun k hk => ?_⟩
      rw [sm_succ, sm_succ, if_neg (fun q => by rw [e] at q; exact absurd q.1 (by decide)), if_neg (fun q => by rw [e] at q; exact absurd q.1 (by decide))]
      exact h3 k hk
    have ng : ∀ {A : Prop}, (g t = true → A) → ¬ A → g t = false := fun q w => by
      cases e : g t with
      | false => rfl
      | true => exact absurd (q e) w
    have gt := hg t ht
    refine ⟨fun q => absurd q (nI_ge ht (by omega)), fun _ => ?_⟩
    refine sp_canTake1 hn ht (fun z1 => ⟨fun q => absurd q (by decide), fun _ => ⟨hin, ?_⟩⟩) (fun z1 => ⟨fun _ => skip (ng (fun e => (gt.mp e).1) (fun w => w ((hN.lot ht).1.mp z1))), fun q => absurd rfl q⟩)
    rw [nI_clamp (show t < 2 ^ 31 by omega)]
    refine ⟨fun q => skip (ng (fun e => (gt.mp e).2.1) (fun w => w q)), fun z2 => sp_reached (by omega) (by omega) rB ⟨fun q => skip (ng (fun e => (gt.mp e).2.2) (fun w => ?_)), fun z3 => ⟨hin, sp_unitsOf (by omega) (by omega) ?_⟩⟩⟩
    · rw [w, if_pos rfl] at q; exact absurd q (by decide)
    · have z3 : c t l = true := by
        cases e : c t l with
        | true => rfl
        | false => rw [e] at z3; exact absurd rfl z3
      have gg : g t = true := gt.mpr ⟨fun q => z1 ((hN.lot ht).1.mpr q), z2, z3⟩
      obtain ⟨p1, p2⟩ := hp t ht gg
      have kb : ∀ k, k < rc → ls k = nI (ky k) ∧ ky k < 1000000 := fun k hk => by
        obtain ⟨i, i1, i2, i3⟩ := h2.2.1 k hk
        have := (hp i (by omega) i2).1
        exact ⟨(h3 k hk).1, by omega⟩
      rw [p2, rU t l (by omega) (by omega)]
      refine sp_enter (by omega) p1 h2.1 kb (fun row r1 r2 => ?_) (fun row r1 r2 r3 ls' lu' lh' hh => ?_)
      · unfold wb_X4_recall_95
        intro x hx
        rw [hx, nI_1]
        refine ih rc ky _ _ _ ⟨by omega, re_same h2 r1 r2, fun k hk => ?_⟩
        obtain ⟨a1, a2, a3⟩ := h3 k hk
        rw [sm_succ, sm_succ]
        by_cases e : k = row
        · subst e
          rw [pk_uLs, pk_us, if_pos ⟨gg, r2.symm⟩, if_pos ⟨gg, r2.symm⟩, a2, a3, lN_add, nI_1]
          exact ⟨a1, rfl, rfl⟩
        · have ne : ¬ (g t = true ∧ pr t = ky k) := by
            rintro ⟨-, q⟩
            rcases Nat.lt_or_ge k row with w | w
            · have := h2.1 k row w r1; omega
            · have := h2.1 row k (by omega) hk; omega
          rw [pk_uLn e, pk_un e, if_neg ne, if_neg ne]
          exact ⟨a1, a2, a3⟩
      · unfold wb_X4_recall_95
        intro x hx
        rw [hx, nI_1]
        have nk : ∀ k, k < rc → ky k ≠ pr t := fun k hk => by
          rcases Nat.lt_or_ge k row with w | w
          · have := r2 k w; omega
          · have := r3 k w hk; omega
        refine ih (rc + 1) (in_f ky row (pr t)) ls' lu' lh' ⟨by omega, re_in h2 gg r1 r2 r3, fun k hk => ?_⟩
        obtain ⟨b1, b2, b3⟩ := hh k hk
        rw [b1, b2, b3, sm_succ, sm_succ]
        unfold ii_f
        rcases in_cases ky row (pr t) k with ⟨q, e⟩ | ⟨q, e⟩ | ⟨q, e⟩ <;> rw [e]
        · have w1 : ¬ k < row := by omega
          simp only [if_neg w1, if_pos q, gg, and_self, if_true, sm_new h2 nk, Nat.zero_add]
          exact ⟨trivial, trivial, nq_1⟩
        · have w1 : ¬ (g t = true ∧ pr t = ky k) := fun w => nk k (by omega) w.2.symm
          simp only [if_pos q, if_neg w1]
          exact h3 k (by omega)
        · have w1 : ¬ (g t = true ∧ pr t = ky (k - 1)) := fun w => nk (k - 1) (by omega) w.2.symm
          have w2 : ¬ k < row := by omega
          have w3 : ¬ k = row := by omega
          simp only [if_neg w1, if_neg w2, if_neg w3]
          exact h3 (k - 1) (by omega)
def lr_R (g : Nat → Bool) (pr un : Nat → Nat) (n r : Nat) (ky : Nat → Nat) (a b : Nat → Int32) (c : Nat → Int64) (d : Nat → Int32) : Prop :=
  ∀ k, k < r → a k = nI (ky k % 1000) ∧ b k = nI (ky k / 1000) ∧ c k = lN (sm_u g pr un (ky k) n) ∧ d k = nI (sm_u g pr (fun _ => 1) (ky k) n)
theorem sp_Rrecall {post : Int32 → Int32 → Int32 → (Nat → Int64) → (Nat → Int32) → (Nat → Int64) → (Nat → Int64) → (Nat → Int32) → (Nat → Int32) → (Nat → Int32) → (Nat → Int64) → (Nat → Int32) → Prop} {l1 : Int64} {t1 : Int32} {gf' gt' : Nat → Int32} {ga' gd' : Nat → Int64} {fp fc : Nat → Int32} {fu : Nat → Int64} {fcm : Nat → Int32} {fr0 fp0 : Nat → Int64} {fo : Nat → Int32} {a0 b0 : Nat → Int32} {c0 : Nat → Int64} {d0 : Nat → Int32} {u : Nat → Nat → Nat} {c : Nat → Nat → Bool} {g : Nat → Bool} {pr : Nat → Nat} {l rc : Nat} {ky : Nat → Nat} (hn : n ≤ 48) (hrc : rc ≤ 48) (hl : l < n) (gU : rr_U n fu u) (gC : rr_C n fcm c) (hg : ∀ i, i < n → (g i = true ↔ (¬ fk' i = -1 ∧ ¬ fp i < 0 ∧ c i l = true))) (hp : ∀ i, i < n → g i = true → pr i < 1000000 ∧ 1000 * fc i + fp i = nI (pr i)) (hR : re_R g pr n rc ky)
    (H : ∀ a b x d, lr_R g pr (fun i => u i l) n rc ky a b x d → post (nI rc) (nI rc) t1 fu fcm fr0 fp0 fo a b x d) :
    ∃ k, wb_X5_recall_30 post (nI n) (nI m) l1 fk' fa' fd' fp fc gf' gt' ga' gd' k (nI l) (-1) 1 0 t1 fu fcm fr0 fp0 fo a0 b0 c0 d0 := by
  have kb : ∀ k, k < rc → ky k < 1000000 := fun k hk => by
    obtain ⟨i, i1, i2, i3⟩ := hR.2.1 k hk
    have := (hp i i1 i2).1
    omega
  have nm : (1000000 : Int32) = nI 1000000 := by decide +kernel
  have start : wb_X5_recall_30 post (nI n) (nI m) l1 fk' fa' fd' fp fc gf' gt' ga' gd' = wb_X5_recall_30 post (nI n) (nI m) l1 fk' fa' fd' fp fc gf' gt' ga' gd' := rfl
  have key := lo_u5 (fun k i x3 a b x d => wb_X5_recall_30 post (nI n) (nI m) l1 fk' fa' fd' fp fc gf' gt' ga' gd' k (nI l) x3 (if i = rc + 1 then 0 else 1) (nI (min i rc)) t1 fu fcm fr0 fp0 fo a b x d)
    (fun i x3 a b x d => (i ≤ rc → ∀ k, k < rc → (nI (ky k) ≤ x3 ↔ k < i)) ∧ lr_R g pr (fun i => u i l) n (min i rc) ky a b x d) (rc + 1) ?_ ?_ 0 (-1) a0 b0 c0 d0 (by omega) ⟨fun _ k hk => ⟨fun q => ?_, fun q => by omega⟩, fun k hk => by omega⟩
  · rw [if_neg (by omega), Nat.zero_min] at key
    exact key
  · intro kk x3 a b x d h
    have e : min (rc + 1) rc = rc := by omega
    rw [e] at h ⊢
    rw [if_pos rfl]
    exact ⟨fun _ => H a b x d h.2, fun q => absurd rfl q⟩
  · intro kk i x3 a b x d hi h ih
    obtain ⟨h1, h2⟩ := h
    have hi2 : i ≤ rc := by omega
    have h1 := h1 hi2
    have e : min i rc = i := by omega
    rw [e] at h2 ⊢
    rw [if_neg (by omega)]
    refine ⟨fun q => absurd q (by decide), fun _ => ?_⟩
    refine lo_u1 (A1 := Nat) (fun k2 t bs => wb_X5_recall_42 post (nI n) (nI m) l1 fk' fa' fd' fp fc gf' gt' ga' gd' (wb_X5_recall_30 post (nI n) (nI m) l1 fk' fa' fd' fp fc gf' gt' ga' gd' kk) k2 (nI l) x3 (nI bs) (nI t) (nI i) t1 fu fcm fr0 fp0 fo a b x d)
      (fun t bs => (bs = 1000000 ∨ ∃ j, j < t ∧ g j = true ∧ pr j = bs ∧ ¬ nI (pr j) ≤ x3) ∧ bs ≤ 1000000 ∧ ∀ j, j < t → g j = true → ¬ nI (pr j) ≤ x3 → bs ≤ pr j) n ?_ ?_ 0 1000000 (by omega) ⟨Or.inl rfl, Nat.le_refl _, fun j h => by omega⟩
    · intro k2 bs hb
      obtain ⟨b1, b2, b3⟩ := hb
      refine ⟨fun _ => ?_, fun q => absurd (nI_le (Nat.le_refl n) (by omega)) q⟩
      have e0 : i = rc → bs = 1000000 := by
        intro ei
        rcases b1 with w | ⟨j, j1, j2, j3, j4⟩
        · exact w
        · obtain ⟨k, k1, k2⟩ := hR.2.2 j j1 j2
          exact absurd ((h1 k k1).mpr (by omega)) (by rw [k2]; exact j4)
      have e1 : i < rc → bs = ky i := by
        intro ei
        obtain ⟨j, j1, j2, j3⟩ := hR.2.1 i ei
        have lo := b3 j j1 j2 (by rw [j3, h1 i ei]; omega)
        have := kb i ei
        rcases b1 with w | ⟨j', y1, y2, y3, y4⟩
        · omega
        · obtain ⟨k, k1, k2⟩ := hR.2.2 j' y1 y2
          have : ¬ k < i := fun z => y4 (by rw [← k2]; exact (h1 k k1).mpr z)
          by_cases c2 : k = i
          · subst c2; omega
          · have := hR.1 i k (by omega) k1; omega
      by_cases ci : i = rc
      · have eb := e0 ci
        rw [eb, ← nm]
        refine ⟨fun _ => ⟨fun _ => ?_, fun q => absurd rfl q⟩, fun q => absurd (Int32.le_refl _) q⟩
        have := ih x3 a b x d ⟨fun q => by omega, by rw [show min (i + 1) rc = i by omega]; exact h2⟩
        rw [if_pos (by omega), show min (i + 1) rc = i by omega] at this
        exact this
      · have ci : i < rc := by omega
        have eb := e1 ci
        have kk1 := kb i ci
        rw [eb, nm]
        refine ⟨fun q => absurd q (nI_ge kk1 (by omega)), fun _ => ⟨fun q => absurd q (by decide), fun _ => ?_⟩⟩
        have hin : vp_in (nI i) 48 := vp_in_nI (by omega) (by omega)
        refine ⟨hin, fun f1 g1 => ⟨hin, fun f2 g2 => ⟨hin, fun f3 g3 => ⟨hin, fun f4 g4 => ?_⟩⟩⟩⟩
        rw [nI_clamp (show i < 2 ^ 31 by omega)] at g1 g2 g3 g4
        rw [nq_1000, pk_rem (by omega) (by omega) (by omega)] at g1
        rw [nq_1000, pk_div (by omega) (by omega) (by omega)] at g2
        refine lo_u2 (fun k3 t x d => wb_X5_recall_220 post (nI n) (nI m) l1 fk' fa' fd' fp fc gf' gt' ga' gd' (wb_X5_recall_30 post (nI n) (nI m) l1 fk' fa' fd' fp fc gf' gt' ga' gd' kk) k3 (nI l) 1 (nI (ky i)) (nI t) (nI i) t1 fu fcm fr0 fp0 fo f1 f2 x d)
          (fun t x' d' => (∀ k, k ≠ i → x' k = x k ∧ d' k = d k) ∧ x' i = lN (sm_u g pr (fun i => u i l) (ky i) t) ∧ d' i = nI (sm_u g pr (fun _ => 1) (ky i) t)) n ?_ ?_ 0 f3 f4 (by omega) ⟨fun k hk => ?_, ?_, ?_⟩
        · intro k3 x' d' hx
          obtain ⟨y1, y2, y3⟩ := hx
          refine ⟨fun _ v ev => ?_, fun q => absurd (nI_le (Nat.le_refl n) (by omega)) q⟩
          rw [ev, nI_1]
          unfold wb_X5_recall_345
          have := ih (nI (ky i)) f1 f2 x' d' ⟨fun q k hk => ?_, ?_⟩
          · rw [if_neg (by omega), show min (i + 1) rc = i + 1 by omega] at this
            exact this
          · have := kb k hk
            rw [nI_leI (by omega) (by omega)]
            constructor
            · intro z
              by_cases c2 : i < k
              · have := hR.1 i k c2 hk; omega
              · omega
            · intro z
              by_cases c2 : k = i
              · subst c2; omega
              · have := hR.1 k i (by omega) ci; omega
          · rw [show min (i + 1) rc = i + 1 by omega]
            intro k hk
            by_cases c2 : k = i
            · subst c2
              rw [g1, g2, pk_us, pk_us]; exact ⟨rfl, rfl, y2, y3⟩
            · obtain ⟨z1, z2⟩ := y1 k c2
              rw [g1, g2, pk_un c2, pk_un c2, z1, z2]; exact h2 k (by omega)
        · intro k3 t x' d' ht hx ih3
          obtain ⟨y1, y2, y3⟩ := hx
          have hit : vp_in (nI t) 48 := vp_in_nI (by omega) (by omega)
          have gt := hg t ht
          have skip : ¬ (g t = true ∧ pr t = ky i) → wb_X5_recall_326 post (nI n) (nI m) l1 fk' fa' fd' fp fc gf' gt' ga' gd' (wb_X5_recall_30 post (nI n) (nI m) l1 fk' fa' fd' fp fc gf' gt' ga' gd' kk) (wb_X5_recall_220 post (nI n) (nI m) l1 fk' fa' fd' fp fc gf' gt' ga' gd' (wb_X5_recall_30 post (nI n) (nI m) l1 fk' fa' fd' fp fc gf' gt' ga' gd' kk) k3) (nI l) 1 (nI (ky i)) (nI t) (nI i) t1 fu fcm fr0 fp0 fo f1 f2 x' d' := by
            intro w
            unfold wb_X5_recall_326
            intro z hz
            rw [hz, nI_1]
            refine ih3 x' d' ⟨y1, ?_, ?_⟩
            · rw [sm_succ, if_neg w]; exact y2
            · rw [sm_succ, if_neg w]; exact y3
          have i2 := nq_lt48 (show t < 48 by omega) (show l < 48 by omega)
          refine ⟨fun q => absurd q (nI_ge ht (by omega)), fun _ => ⟨hit, ?_⟩⟩
          rw [nq_ir, nq_cc, nI_clamp (show t < 2 ^ 31 by omega), nI_clamp (show t * 48 + l < 2 ^ 31 by omega), gC t l ht hl, gU t l ht hl, nI_clamp (show i < 2 ^ 31 by omega)]
          refine ⟨fun q => skip (fun w => (gt.mp w.1).1 q), fun z1 => ⟨hit, fun q => skip (fun w => (gt.mp w.1).2.1 q), fun z2 => ⟨vp_in_nI i2 (by omega), fun q => skip (fun w => ?_), fun z3 => ?_⟩⟩⟩
          · rw [(gt.mp w.1).2.2, if_pos rfl] at q; exact absurd q (by decide)
          · have z3 : c t l = true := by
              cases e : c t l with
              | true => rfl
              | false => rw [e] at z3; exact absurd rfl z3
            have gg : g t = true := gt.mpr ⟨z1, z2, z3⟩
            obtain ⟨p1, p2⟩ := hp t ht gg
            rw [p2]
            refine ⟨hit, hit, fun q => skip (fun w => q (by rw [w.2])), fun q => ⟨hin, vp_in_nI i2 (by omega), hin, fun f5 g5 => ⟨hin, hin, fun f6 g6 => ?_⟩⟩⟩
            rw [nI_eq (by omega) (by omega)] at q
            unfold wb_X5_recall_326
            intro z hz
            rw [hz, nI_1]
            refine ih3 f5 f6 ⟨fun k hk => ?_, ?_, ?_⟩
            · rw [g5, g6, pk_uLn hk, pk_un hk]; exact y1 k hk
            · rw [g5, pk_uLs, y2, lN_add, sm_succ, if_pos ⟨gg, q⟩]
            · rw [g6, pk_us, y3, nI_1, sm_succ, if_pos ⟨gg, q⟩]
        · rw [g3, g4, pk_uLn hk, pk_un hk]; exact ⟨rfl, rfl⟩
        · rw [g3, pk_uLs]; exact nq_0l
        · rw [g4, pk_us]; exact nI_0.symm
    · intro k2 t bs ht hb ih2
      obtain ⟨b1, b2, b3⟩ := hb
      have hit : vp_in (nI t) 48 := vp_in_nI (by omega) (by omega)
      have gt := hg t ht
      have skip : ∀ z : Int32, (g t = true → nI (pr t) ≤ x3) → wb_X5_recall_118 post (nI n) (nI m) l1 fk' fa' fd' fp fc gf' gt' ga' gd' (wb_X5_recall_30 post (nI n) (nI m) l1 fk' fa' fd' fp fc gf' gt' ga' gd' kk) (wb_X5_recall_42 post (nI n) (nI m) l1 fk' fa' fd' fp fc gf' gt' ga' gd' (wb_X5_recall_30 post (nI n) (nI m) l1 fk' fa' fd' fp fc gf' gt' ga' gd' kk) k2) (nI l) x3 (nI bs) (nI t) z (nI i) t1 fu fcm fr0 fp0 fo a b x d := by
        intro z w
        refine ⟨fun _ y hy => ?_, fun q => absurd rfl q⟩
        rw [hy, nI_1]
        refine ih2 bs ⟨?_, b2, fun j j1 j2 j3 => ?_⟩
        · rcases b1 with q | ⟨j, j1, j2⟩
          · exact Or.inl q
          · exact Or.inr ⟨j, by omega, j2⟩
        · by_cases c2 : j = t
          · subst c2; exact absurd (w j2) j3
          · exact b3 j (by omega) j2 j3
      have i2 := nq_lt48 (show t < 48 by omega) (show l < 48 by omega)
      refine ⟨fun q => absurd q (nI_ge ht (by omega)), fun _ => ⟨hit, hit, fun y hy => ⟨hit, ?_⟩⟩⟩
      rw [nq_ir, nq_cc, nI_clamp (show t * 48 + l < 2 ^ 31 by omega), gC t l ht hl]
      rw [nI_clamp (show t < 2 ^ 31 by omega)] at hy ⊢
      refine ⟨fun q => skip y (fun w => absurd q (gt.mp w).1), fun z1 => ⟨hit, fun q => skip y (fun w => absurd q (gt.mp w).2.1), fun z2 => ⟨vp_in_nI i2 (by omega), fun q => skip y (fun w => ?_), fun z3 => ?_⟩⟩⟩
      · rw [(gt.mp w).2.2, if_pos rfl] at q; exact absurd q (by decide)
      · have z3 : c t l = true := by
          cases e : c t l with
          | true => rfl
          | false => rw [e] at z3; exact absurd rfl z3
        have gg : g t = true := gt.mpr ⟨z1, z2, z3⟩
        obtain ⟨p1, p2⟩ := hp t ht gg
        rw [p2] at hy
        rw [hy]
        refine ⟨fun q => skip _ (fun _ => q), fun q => ⟨fun w => absurd w (by decide), fun _ => ⟨fun q2 y hy => ?_, fun q2 y hy => ?_⟩⟩⟩
        · rw [nI_leI (by omega) (by omega)] at q2
          rw [hy, nI_1]
          refine ih2 bs ⟨?_, b2, fun j j1 j2 j3 => ?_⟩
          · rcases b1 with q | ⟨j, j1, j2⟩
            · exact Or.inl q
            · exact Or.inr ⟨j, by omega, j2⟩
          · by_cases c2 : j = t
            · subst c2; exact q2
            · exact b3 j (by omega) j2 j3
        · rw [nI_leI (by omega) (by omega)] at q2
          rw [hy, nI_1]
          refine ih2 (pr t) ⟨Or.inr ⟨t, by omega, gg, rfl, q⟩, by omega, fun j j1 j2 j3 => ?_⟩
          by_cases c2 : j = t
          · subst c2; exact Nat.le_refl _
          · have := b3 j (by omega) j2 j3; omega
  · have := Int32.le_iff_toInt_le.mp q
    have w := kb k hk
    rw [nI_toInt (by omega)] at this
    have e : (-1 : Int32).toInt = -1 := by decide +kernel
    omega
/-- recall -/
theorem op_recall {spc : Int32} {lt l1 : Int64} {lcn t1 : Int32} {rc : Nat} {fs fp fc : Nat → Int32} {ls : Nat → Int32} {lu : Nat → Int64} {lh rp rcu : Nat → Int32} {ru : Nat → Int64} {rt : Nat → Int32} {gf gt : Nat → Int32} {ga gd : Nat → Int64} {go gf' gt' : Nat → Int32} {ga' gd' : Nat → Int64} {su sc sw sd sr fu0 : Nat → Int64} {fc0 : Nat → Int32} {fr0 fp0 : Nat → Int64} {fo0 : Nat → Int32} {s : (Nat → Nat → Nat) × (Nat → Nat → Bool)} (hN : iv_N n kd am0 dy0 fk fa fd fk' fa' fd') (hP : iv_P n fs fp fc) (hF : iv_F n m kd dy0 fr to am dy gf gt ga gd go gf' gt' ga' gd') (hS : iv_S n m kd am0 fr to am dy s su sc sw sd sr) (hL : iv_L rc ls lu lh rp rcu ru rt) (p : Int32) :
    ∃ (v : Int32) (rc' : Nat) (P : (Nat → Int32) → (Nat → Int64) → (Nat → Int32) → Prop) (Q : (Nat → Int32) → (Nat → Int32) → (Nat → Int64) → (Nat → Int32) → Prop), (∀ ls lu lh rp rcu ru rt, P ls lu lh → Q rp rcu ru rt → iv_L rc' ls lu lh rp rcu ru rt) ∧
      (∀ post : Int32 → Int32 → (Nat → Int32) → (Nat → Int64) → (Nat → Int32) → Prop, (∀ a b c, P a b c → post v (nI rc') a b c) → wp_X4_recall post lt (nI n) lcn fk fs (nI rc) ls lu lh spc su sr p) ∧
      ∀ post : Int32 → Int32 → Int32 → (Nat → Int64) → (Nat → Int32) → (Nat → Int64) → (Nat → Int64) → (Nat → Int32) → (Nat → Int32) → (Nat → Int32) → (Nat → Int64) → (Nat → Int32) → Prop, (∀ x1 x2 x3 x4 x5 a b c d, Q a b c d → post v (nI rc') 0 x1 x2 x3 x4 x5 a b c d) → wp_X5_recall post (nI n) (nI m) l1 (nI rc) t1 fk' fa' fd' fp fc gf' gt' ga' gd' fu0 fc0 fr0 fp0 fo0 rp rcu ru rt p := by
  have hn := hN.1
  obtain ⟨hs, ca, we, w0, rU, rC, rW, rD, rB, rS⟩ := hS
  rcases lot_2 hN p with ⟨h1, h2⟩ | ⟨l, hl, rfl, hk5, h1, h2⟩
  · refine ⟨-1, rc, fun a b c => a = ls ∧ b = lu ∧ c = lh, fun a b c d => a = rp ∧ b = rcu ∧ c = ru ∧ d = rt, ?_, fun post H => ?_, fun post H => ?_⟩
    · rintro _ _ _ _ _ _ _ ⟨rfl, rfl, rfl⟩ ⟨rfl, rfl, rfl, rfl⟩; exact hL
    · exact h1 _ _ ⟨fun q => absurd rfl q, fun _ => H _ _ _ ⟨rfl, rfl, rfl⟩⟩
    · exact h2 _ _ _ _ _ ⟨fun q => absurd rfl q, fun _ => H _ _ _ _ _ _ _ _ _ ⟨rfl, rfl, rfl, rfl⟩⟩
  · have hpl : ∀ i, i < n → ¬ fs i = -1 → ∃ p c : Nat, p < 1000 ∧ c < 1000 ∧ fs i = nI (c * 1000 + p) ∧ fp i = nI p ∧ fc i = nI c := fun i hi q => by
      rcases hP i hi with w | w
      · exact absurd w.1 q
      · exact w
    have m1 : (-1 : Int32) < 0 := by decide
    have hsp : ∀ i, i < n → (¬ fs i = -1 ↔ ¬ fp i < 0) := fun i hi => by
      rcases hP i hi with ⟨a, b, c⟩ | ⟨p, c, h1, h2, h3, h4, h5⟩
      · rw [a, b]; exact ⟨fun q => absurd rfl q, fun q => absurd m1 q⟩
      · rw [h3, h4]; exact ⟨fun _ => nI_pos (by omega), fun _ => nq_neg1 _ (by omega)⟩
    let g : Nat → Bool := fun i => decide (¬ kd i = 5 ∧ ¬ fs i = -1 ∧ s.2 i l = true)
    let pr : Nat → Nat := fun i => (fs i).toNatClampNeg
    have hg : ∀ i, i < n → (g i = true ↔ (¬ kd i = 5 ∧ ¬ fs i = -1 ∧ s.2 i l = true)) := fun i _ => by
      show decide _ = true ↔ _
      exact decide_eq_true_iff
    have hg' : ∀ i, i < n → (g i = true ↔ (¬ fk' i = -1 ∧ ¬ fp i < 0 ∧ s.2 i l = true)) := fun i hi => by
      rw [hg i hi, hsp i hi, (hN.lot hi).2.1]
    have hpp : ∀ i, i < n → g i = true → pr i < 1000000 ∧ fs i = nI (pr i) ∧ 1000 * fc i + fp i = nI (pr i) := fun i hi q => by
      obtain ⟨p, c, h1, h2, h3, h4, h5⟩ := hpl i hi ((hg i hi).mp q).2.1
      have e : pr i = c * 1000 + p := by show (fs i).toNatClampNeg = _; rw [h3, nI_clamp (by omega)]
      rw [e]
      refine ⟨by omega, h3, ?_⟩
      rw [h4, h5, nq_1000, pk_mul, nI_add, Nat.mul_comm]
    obtain ⟨rc', ky, r1, r2⟩ := re_ex g pr n
    have kb : ∀ k, k < rc' → ky k < 1000000 := fun k hk => by
      obtain ⟨i, i1, i2, i3⟩ := r2.2.1 k hk
      have := (hpp i i1 i2).1
      omega
    refine ⟨nI rc', rc', li_R g pr (fun i => s.1 i l) n rc' ky, lr_R g pr (fun i => s.1 i l) n rc' ky, ?_, fun post H => ?_, fun post H => ?_⟩
    · intro ls lu lh rp rcu ru rt a b
      refine ⟨by omega, fun k hk => ?_⟩
      obtain ⟨a1, a2, a3⟩ := a k hk
      obtain ⟨b1, b2, b3, b4⟩ := b k hk
      have := kb k hk
      refine ⟨ky k % 1000, ky k / 1000, by omega, by omega, ?_, b1, b2, a2.trans b3.symm, a3.trans b4.symm⟩
      rw [a1]; congr 1; omega
    · refine h1 _ _ ⟨fun _ => ?_, fun q => absurd q (by decide)⟩
      refine sp_Crecall (u := s.1) (c := s.2) hN hl rU rB hg (fun i hi q => ⟨(hpp i hi q).1, (hpp i hi q).2.1⟩) (fun rc2 ky2 a b c y1 y2 y3 => ?_)
      obtain ⟨e1, e2⟩ := re_uniq r2 y2
      subst e1
      refine H a b c (fun k hk => ?_)
      rw [e2 k hk]; exact y3 k hk
    · refine h2 _ _ _ _ _ ⟨fun _ => sp_Rok hN hF hs (fun fu fc fr fp fo gU gC => ?_), fun q => absurd q (by decide)⟩
      exact sp_Rrecall hn (by omega) hl gU gC hg' (fun i hi q => ⟨(hpp i hi q).1, (hpp i hi q).2.2⟩) r2 (fun a b c d y => H _ _ _ _ _ a b c d y)
end RCL
