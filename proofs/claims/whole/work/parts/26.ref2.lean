/-! THE REFERENCE: its walk -/
theorem lo_d1 {A1 : Type} (W : Nat → Nat → A1 → Prop) (I : Nat → A1 → Prop) (hs : ∀ n j a, I j a → (∀ b, 0 < j → I (j - 1) b → W n (j - 1) b) → W (n + 1) j a) (j : Nat) (a : A1) (h : I j a) : ∃ n, W n j a := by
  have key : ∀ n j a, j < n → I j a → W n j a := by
    intro n
    induction n with
    | zero => intro j a hj; omega
    | succ n ih => intro j a hj h; exact hs n j a h (fun b h0 hb => ih (j - 1) b (by omega) hb)
  exact ⟨j + 1, key (j + 1) j a (by omega) h⟩
/-- the order of flows: each is put behind those of its day and of days before -/
def tn_f (dy o : Nat → Nat) (d : Nat) : Nat → Nat
  | 0 => 0
  | j + 1 => if d < dy (o j) then tn_f dy o d j else j + 1
def in_f (o : Nat → Nat) (pos k : Nat) : Nat → Nat := fun i => if i < pos then o i else if i = pos then k else o (i - 1)
def od_f (dy : Nat → Nat) : Nat → Nat → Nat
  | 0 => fun _ => 0
  | k + 1 => in_f (od_f dy k) (tn_f dy (od_f dy k) (dy k) k) k
theorem tn_le (dy o : Nat → Nat) (d j : Nat) : tn_f dy o d j ≤ j := by
  induction j with
  | zero => exact Nat.le_refl _
  | succ j ih => rw [tn_f]; split <;> omega
theorem od_lt (dy : Nat → Nat) (m : Nat) : ∀ i, i < m → od_f dy m i < m := by
  induction m with
  | zero => intro i h; omega
  | succ k ih =>
    intro i hi
    rw [od_f]
    have hp := tn_le dy (od_f dy k) (dy k) k
    unfold in_f
    split
    · have := ih i (by omega); omega
    · split
      · omega
      · have := ih (i - 1) (by omega); omega
def rx_f (n : Nat) (fr to am od : Nat → Nat) (bd : Nat → Bool) (s0 : (Nat → Nat → Nat) × (Nat → Nat → Bool)) : Nat → Option ((Nat → Nat → Nat) × (Nat → Nat → Bool))
  | 0 => some s0
  | k + 1 => match rx_f n fr to am od bd s0 k with
    | none => none
    | some s => if su_m (s.1 (fr (od k))) n < am (od k) then none else if bd (od k) = true then none else if am (od k) = 0 then some s else some (mv_u n (fr (od k)) (to (od k)) (am (od k)) s.1, mv_c n (fr (od k)) (to (od k)) (am (od k)) s.1 s.2)
theorem rx_rn {n : Nat} {fr to am od : Nat → Nat} {bd : Nat → Bool} {s0 : (Nat → Nat → Nat) × (Nat → Nat → Bool)} {m : Nat} (h : ∀ k, k < m → bd (od k) = false) : ∀ k, k ≤ m → rx_f n fr to am od bd s0 k = rn_f n fr to am od s0 k := by
  intro k
  induction k with
  | zero => intro _; rfl
  | succ k ih =>
    intro hk
    rw [rx_f, rn_f, ih (by omega)]
    cases rn_f n fr to am od s0 k with
    | none => rfl
    | some s =>
      dsimp only
      rw [h k (by omega)]
      by_cases c1 : am (od k) = 0
      · rw [if_neg (by omega), if_neg (by decide), if_pos c1, if_pos c1]
      · rw [if_neg c1, if_neg c1]
        by_cases c2 : su_m (s.1 (fr (od k))) n < am (od k)
        · rw [if_pos c2, if_pos c2]
        · rw [if_neg c2, if_neg c2, if_neg (by decide)]
theorem rx_up {n : Nat} {fr to am od : Nat → Nat} {bd : Nat → Bool} {s0 : (Nat → Nat → Nat) × (Nat → Nat → Bool)} {k m : Nat} (hk : k ≤ m) (h : rx_f n fr to am od bd s0 k = none) : rx_f n fr to am od bd s0 m = none := by
  have : ∀ d, rx_f n fr to am od bd s0 (k + d) = none := by
    intro d
    induction d with
    | zero => exact h
    | succ d ih => show rx_f n fr to am od bd s0 (k + d + 1) = none; rw [rx_f, ih]
  have := this (m - k)
  rwa [show k + (m - k) = m by omega] at this
theorem rn_up {n : Nat} {fr to am od : Nat → Nat} {s0 : (Nat → Nat → Nat) × (Nat → Nat → Bool)} {k m : Nat} (hk : k ≤ m) (h : rn_f n fr to am od s0 k = none) : rn_f n fr to am od s0 m = none := by
  have : ∀ d, rn_f n fr to am od s0 (k + d) = none := by
    intro d
    induction d with
    | zero => exact h
    | succ d ih => show rn_f n fr to am od s0 (k + d + 1) = none; rw [rn_f, ih]
  have := this (m - k)
  rwa [show k + (m - k) = m by omega] at this
theorem rx_bad {n : Nat} {fr to am od : Nat → Nat} {bd : Nat → Bool} {s0 : (Nat → Nat → Nat) × (Nat → Nat → Bool)} {k m : Nat} (hk : k < m) (h : bd (od k) = true) : rx_f n fr to am od bd s0 m = none := by
  refine rx_up (k := k + 1) hk ?_
  rw [rx_f]
  cases rx_f n fr to am od bd s0 k with
  | none => rfl
  | some s => simp [h]
theorem rx_bound {n m : Nat} {fr to am od : Nat → Nat} {bd : Nat → Bool} {s0 : (Nat → Nat → Nat) × (Nat → Nat → Bool)} (hf : fl_ok n m fr to am) (ho : ∀ k, k < m → od k < m) (h0 : ∀ i, su_m (s0.1 i) n ≤ 1000000) : ∀ k s, k ≤ m → rx_f n fr to am od bd s0 k = some s → ∀ i, su_m (s.1 i) n ≤ 1000000 * (k + 1) := by
  intro k
  induction k with
  | zero => intro s _ h i; rw [rx_f] at h; cases h; have := h0 i; omega
  | succ k ih =>
    intro s hk h i
    rw [rx_f] at h
    cases e : rx_f n fr to am od bd s0 k with
    | none => rw [e] at h; cases h
    | some t =>
      rw [e] at h
      have b := ih t (by omega) e
      obtain ⟨g1, g2, g3, g4⟩ := hf (od k) (ho k (by omega))
      dsimp only at h
      by_cases c2 : su_m (t.1 (fr (od k))) n < am (od k)
      · rw [if_pos c2] at h; cases h
      · rw [if_neg c2] at h
        by_cases c3 : bd (od k) = true
        · rw [if_pos c3] at h; cases h
        · rw [if_neg c3] at h
          by_cases c1 : am (od k) = 0
          · rw [if_pos c1] at h; cases h; have := b i; omega
          · rw [if_neg c1] at h
            cases h
            have r := mv_row (u := t.1) g3 (by omega) (show am (od k) ≤ su_m (t.1 (fr (od k))) n by omega) i
            have b1 := b i
            dsimp only
            split at r <;> split at r <;> omega
/-- the reference's rows -/
def rr_U (n : Nat) (f : Nat → Int64) (u : Nat → Nat → Nat) : Prop := ∀ i l, i < n → l < n → f (i * 48 + l) = lN (u i l)
def rr_C (n : Nat) (f : Nat → Int32) (c : Nat → Nat → Bool) : Prop := ∀ i l, i < n → l < n → f (i * 48 + l) = if c i l then 1 else 0
theorem rr_U.up {n : Nat} {f : Nat → Int64} {u : Nat → Nat → Nat} (h : rr_U n f u) (hn : n ≤ 48) {i l : Nat} (v : Nat) (hl : l < n) : rr_U n (vp_updL f (i * 48 + l) (lN v)) (u2_up u i l v) := by
  intro a b ha hb
  by_cases e : a = i ∧ b = l
  · obtain ⟨rfl, rfl⟩ := e; rw [pk_uLs, u2_s]
  · rw [pk_uLn (by omega), u2_n e]; exact h a b ha hb
theorem nar_0 : vp_nar .boolean 0 = 0 := by decide +kernel
theorem nar_1 : vp_nar .boolean 1 = 1 := by decide +kernel
/-- the first stretch: what each node begins with -/
theorem sp_Rw2 {post : Int32 → (Nat → Int64) → (Nat → Int32) → (Nat → Int64) → (Nat → Int64) → (Nat → Int32) → Prop} {n : Nat} {v1 : Int32} {l1 : Int64} {r1 t1 : Int32} {fk : Nat → Int32} {fa fdy : Nat → Int64} {gf gt : Nat → Int32} {ga gd : Nat → Int64} {lo : Nat → Bool} {am0 : Nat → Nat} {fu0 : Nat → Int64} {fc0 : Nat → Int32} {fr0 fp0 : Nat → Int64} {fo0 : Nat → Int32} (hn : n ≤ 48) (hk : ∀ i, i < n → (fk i = -1 ↔ lo i = true)) (ha : ∀ i, i < n → lo i = true → fa i = lN (am0 i))
    (H : ∀ fu fc, rr_U n fu (in_u n lo am0) → rr_C n fc (in_c n lo) → ∃ k, wb_X5_walk_92 post (nI n) v1 l1 r1 t1 fk fa fdy gf gt ga gd k 0 fu fc fr0 fp0 fo0) :
    wp_X5_walk post (nI n) v1 l1 r1 t1 fk fa fdy gf gt ga gd fu0 fc0 fr0 fp0 fo0 := by
  unfold wp_X5_walk
  refine lo_u2 (fun k i fu fc => wb_X5_walk_2 post (nI n) v1 l1 r1 t1 fk fa fdy gf gt ga gd k (nI i) fu fc fr0 fp0 fo0)
    (fun i fu fc => (∀ a b, a < i → b < n → fu (a * 48 + b) = lN (in_u n lo am0 a b)) ∧ ∀ a b, a < i → b < n → fc (a * 48 + b) = if in_c n lo a b then 1 else 0) n ?_ ?_ 0 fu0 fc0 (by omega) ⟨fun a b h => by omega, fun a b h => by omega⟩
  · intro k fu fc hs
    exact ⟨fun _ => H fu fc hs.1 hs.2, fun q => absurd (nI_le (Nat.le_refl n) (by omega)) q⟩
  · intro k i fu fc hi hs ih
    refine ⟨fun q => absurd q (nI_ge hi (by omega)), fun _ => ?_⟩
    refine lo_u2 (fun k2 l fu fc => wb_X5_walk_12 post (nI n) v1 l1 r1 t1 fk fa fdy gf gt ga gd (wb_X5_walk_2 post (nI n) v1 l1 r1 t1 fk fa fdy gf gt ga gd k) k2 (nI i) (nI l) fu fc fr0 fp0 fo0)
      (fun l fu fc => (∀ a b, (a < i ∧ b < n) ∨ (a = i ∧ b < l) → fu (a * 48 + b) = lN (in_u n lo am0 a b)) ∧ ∀ a b, (a < i ∧ b < n) ∨ (a = i ∧ b < l) → fc (a * 48 + b) = if in_c n lo a b then 1 else 0) n ?_ ?_ 0 fu fc (by omega) ⟨fun a b h => hs.1 a b (by omega) (by omega), fun a b h => hs.2 a b (by omega) (by omega)⟩
    · intro k2 fu fc hs
      refine ⟨fun _ x hx => ?_, fun q => absurd (nI_le (Nat.le_refl n) (by omega)) q⟩
      rw [hx, nI_1]
      exact ih fu fc ⟨fun a b h1 h2 => hs.1 a b (by omega), fun a b h1 h2 => hs.2 a b (by omega)⟩
    · intro k2 l fu fc hl hs ih2
      have l9 := nq_lt48 (show i < 48 by omega) (show l < 48 by omega)
      -- the two stores, with the value that is due
      have fin : ∀ (v : Nat) (b1 : Bool) (z : Int32), v = in_u n lo am0 i l → b1 = in_c n lo i l → z = (if b1 then 1 else 0) →
          wb_X5_walk_65 post (nI n) v1 l1 r1 t1 fk fa fdy gf gt ga gd (wb_X5_walk_2 post (nI n) v1 l1 r1 t1 fk fa fdy gf gt ga gd k) (wb_X5_walk_12 post (nI n) v1 l1 r1 t1 fk fa fdy gf gt ga gd (wb_X5_walk_2 post (nI n) v1 l1 r1 t1 fk fa fdy gf gt ga gd k) k2) (nI i) (nI l) z (lN v) (48 * nI i + nI l) fu fc fr0 fp0 fo0 := by
        intro v b1 z ev eb ez
        unfold wb_X5_walk_65
        rw [nq_ir, nq_cc, nI_clamp (show i * 48 + l < 2 ^ 31 by omega)]
        have hin : vp_in (nI (i * 48 + l)) 2304 := vp_in_nI l9 (by omega)
        refine ⟨hin, fun f1 e1 => ⟨hin, fun f2 e2 x hx => ?_⟩⟩
        rw [hx, nI_1]
        have nz : vp_nar .boolean z = if b1 then 1 else 0 := by rw [ez]; cases b1 <;> simp [nar_0, nar_1]
        refine ih2 f1 f2 ⟨fun a b h => ?_, fun a b h => ?_⟩
        · rw [e1]
          by_cases e : a = i ∧ b = l
          · obtain ⟨rfl, rfl⟩ := e; rw [pk_uLs, ev]
          · rw [pk_uLn (by omega)]; exact hs.1 a b (by omega)
        · rw [e2]
          by_cases e : a = i ∧ b = l
          · obtain ⟨rfl, rfl⟩ := e; rw [pk_us, nz, eb]
          · rw [pk_un (by omega)]; exact hs.2 a b (by omega)
      have no : ∀ (q : ¬ (i = l ∧ lo i = true)), wb_X5_walk_39 post (nI n) v1 l1 r1 t1 fk fa fdy gf gt ga gd (wb_X5_walk_2 post (nI n) v1 l1 r1 t1 fk fa fdy gf gt ga gd k) (wb_X5_walk_12 post (nI n) v1 l1 r1 t1 fk fa fdy gf gt ga gd (wb_X5_walk_2 post (nI n) v1 l1 r1 t1 fk fa fdy gf gt ga gd k) k2) (nI i) (nI l) fu fc fr0 fp0 fo0 := by
        intro q
        unfold wb_X5_walk_39 wb_X5_walk_40
        refine ⟨fun _ => ?_, fun z => absurd rfl z⟩
        rw [nq_0l]
        refine fin 0 false 0 ?_ ?_ rfl
        · unfold in_u; rw [if_neg (fun w => q ⟨w.1, w.2.2⟩)]
        · unfold in_c; exact (decide_eq_false (fun w => q ⟨w.1, w.2.2⟩)).symm
      refine ⟨fun q => absurd q (nI_ge hl (by omega)), fun _ => ⟨fun q => no (fun w => q (by rw [w.1])), fun q => ⟨vp_in_nI (by omega) (by omega), ?_⟩⟩⟩
      have eil : i = l := (nI_eq (by omega) (by omega)).mp q
      rw [nI_clamp (show i < 2 ^ 31 by omega)]
      refine ⟨fun z => no (fun w => z ((hk i hi).mpr w.2)), fun z => ?_⟩
      have zl := (hk i hi).mp z
      unfold wb_X5_walk_40
      refine ⟨fun w => absurd w (by decide), fun _ => ⟨vp_in_nI (by omega) (by omega), ?_⟩⟩
      rw [nI_clamp (show i < 2 ^ 31 by omega), ha i hi zl]
      refine fin (am0 i) true 1 ?_ ?_ rfl
      · unfold in_u; rw [if_pos ⟨eil, hi, zl⟩]
      · unfold in_c; exact (decide_eq_true ⟨eil, hi, zl⟩).symm
/-- the second: the order -/
theorem sp_Rw92 {post : Int32 → (Nat → Int64) → (Nat → Int32) → (Nat → Int64) → (Nat → Int64) → (Nat → Int32) → Prop} {m : Nat} {l1 : Int64} {v0 r1 t1 : Int32} {fk : Nat → Int32} {fa fdy : Nat → Int64} {gf gt : Nat → Int32} {ga gd : Nat → Int64} {dy : Nat → Nat} {fu : Nat → Int64} {fc : Nat → Int32} {fr0 fp0 : Nat → Int64} {fo0 : Nat → Int32} (hm : m ≤ 400) (rd : rw_J m gd dy) (hdy : ∀ k, k < m → dy k ≤ 100000)
    (H : ∀ fo, rw_I m fo (od_f dy m) → ∃ k, wb_X5_walk_164 post v0 (nI m) l1 r1 t1 fk fa fdy gf gt ga gd k 0 fu fc fr0 fp0 fo) :
    ∃ k, wb_X5_walk_92 post v0 (nI m) l1 r1 t1 fk fa fdy gf gt ga gd k 0 fu fc fr0 fp0 fo0 := by
  refine lo_u1 (fun k i fo => wb_X5_walk_92 post v0 (nI m) l1 r1 t1 fk fa fdy gf gt ga gd k (nI i) fu fc fr0 fp0 fo) (fun i fo => rw_I i fo (od_f dy i)) m ?_ ?_ 0 fo0 (by omega) (fun j hj => by omega)
  · intro k fo hs
    exact ⟨fun _ => H fo hs, fun q => absurd (nI_le (Nat.le_refl m) (by omega)) q⟩
  · intro k i fo hi hs ih
    refine ⟨fun q => absurd q (nI_ge hi (by omega)), fun _ => ?_⟩
    refine lo_d1 (fun k2 j fo => wb_X5_walk_102 post v0 (nI m) l1 r1 t1 fk fa fdy gf gt ga gd (wb_X5_walk_92 post v0 (nI m) l1 r1 t1 fk fa fdy gf gt ga gd k) k2 (nI i) (nI j) fu fc fr0 fp0 fo)
      (fun j fo => j ≤ i ∧ (∀ a, a < j → fo a = nI (od_f dy i a)) ∧ (∀ a, j < a → a ≤ i → fo a = nI (od_f dy i (a - 1))) ∧ tn_f dy (od_f dy i) (dy i) i = tn_f dy (od_f dy i) (dy i) j) ?_ i fo ⟨Nat.le_refl i, fun a h => hs a h, fun a h1 h2 => by omega, rfl⟩
    intro k2 j fo hj ih2
    obtain ⟨j1, j2, j3, j4⟩ := hj
    have fin : tn_f dy (od_f dy i) (dy i) i = j → wb_X5_walk_149 post v0 (nI m) l1 r1 t1 fk fa fdy gf gt ga gd (wb_X5_walk_92 post v0 (nI m) l1 r1 t1 fk fa fdy gf gt ga gd k) (nI i) (nI j) fu fc fr0 fp0 fo := by
      intro et
      unfold wb_X5_walk_149
      refine ⟨vp_in_nI (by omega) (by omega), fun f1 e1 x hx => ?_⟩
      rw [hx, nI_1]
      refine ih f1 (fun a ha => ?_)
      rw [e1, nI_clamp (show j < 2 ^ 31 by omega), od_f, et]
      unfold in_f
      by_cases e : a = j
      · subst e; rw [pk_us, if_neg (by omega), if_pos rfl]
      · rw [pk_un e]
        by_cases e2 : a < j
        · rw [if_pos e2]; exact j2 a e2
        · rw [if_neg e2, if_neg e]; exact j3 a (by omega) (by omega)
    by_cases j0 : j = 0
    · subst j0
      exact ⟨fun _ => fin (by rw [j4]; rfl), fun q => absurd (by rw [nI_0]; exact Int32.le_refl 0) q⟩
    · have hod := od_lt dy i (j - 1) (by omega)
      refine ⟨fun q => absurd q (nI_nle (by omega) (by omega)), fun _ => ?_⟩
      rw [nq_m1 (by omega), nI_clamp (show j - 1 < 2 ^ 31 by omega), j2 (j - 1) (by omega), nI_clamp (show od_f dy i (j - 1) < 2 ^ 31 by omega), nI_clamp (show i < 2 ^ 31 by omega), nI_clamp (show j < 2 ^ 31 by omega), rd i hi, rd _ (by omega)]
      have hjj : j = (j - 1) + 1 := by omega
      have d1 := hdy i hi
      have d2 := hdy (od_f dy i (j - 1)) (by omega)
      refine ⟨vp_in_nI (by omega) (by omega), vp_in_nI (by omega) (by omega), vp_in_nI (by omega) (by omega), fun q => fin ?_, fun q => ⟨vp_in_nI (by omega) (by omega), vp_in_nI (by omega) (by omega), fun f1 e1 x hx => ?_⟩⟩
      · rw [j4, hjj, tn_f, if_neg]
        intro z
        exact q ((pk_lLT (by omega) (by omega)).mpr z)
      · have z := (pk_lLT (by omega) (by omega)).mp q
        rw [hx, nq_mm (by omega)]
        refine ih2 f1 (by omega) ⟨by omega, fun a h => ?_, fun a h1 h2 => ?_, ?_⟩
        · rw [e1, pk_un (by omega)]; exact j2 a (by omega)
        · rw [e1]
          by_cases e : a = j
          · subst e; rw [pk_us]
          · rw [pk_un e]; exact j3 a (by omega) h2
        · rw [j4]
          conv => lhs; rw [hjj, tn_f, if_pos z]
/-- the third: the flows happen -/
theorem sp_Rw164 {post : Int32 → (Nat → Int64) → (Nat → Int32) → (Nat → Int64) → (Nat → Int64) → (Nat → Int32) → Prop} {n m : Nat} {l1 : Int64} {r1 t1 : Int32} {fk : Nat → Int32} {fa fdy : Nat → Int64} {gf gt : Nat → Int32} {ga gd : Nat → Int64} {lo : Nat → Bool} {dy0 fr to am dy od : Nat → Nat} {bd : Nat → Bool} {fu0 : Nat → Int64} {fc0 : Nat → Int32} {fr0 fp0 : Nat → Int64} {fo : Nat → Int32} {s0 : (Nat → Nat → Nat) × (Nat → Nat → Bool)}
    (hn : n ≤ 48) (hm : m ≤ 400) (hk : ∀ i, i < n → (fk i = -1 ↔ lo i = true)) (hd : ∀ i, i < n → lo i = true → fdy i = lN (dy0 i) ∧ dy0 i ≤ 100000) (hf : fl_ok n m fr to am) (ho : ∀ k, k < m → od k < m) (rf : rw_I m gf fr) (rt : rw_I m gt to) (ra : rw_J m ga am) (rd : rw_J m gd dy) (hdy : ∀ k, k < m → dy k ≤ 100000) (ro : rw_I m fo od)
    (hb : ∀ k, k < m → (bd k = true ↔ (lo (fr k) = true ∧ dy k < dy0 (fr k)))) (hs0 : ∀ i, su_m (s0.1 i) n ≤ 1000000) (rU : rr_U n fu0 s0.1) (rC : rr_C n fc0 s0.2)
    (H0 : rx_f n fr to am od bd s0 m = none → ∀ fu fc fr fp fo, post 0 fu fc fr fp fo)
    (H1 : ∀ s, rx_f n fr to am od bd s0 m = some s → ∀ fu fc fr fp fo, rr_U n fu s.1 → rr_C n fc s.2 → post 1 fu fc fr fp fo) :
    ∃ k, wb_X5_walk_164 post (nI n) (nI m) l1 r1 t1 fk fa fdy gf gt ga gd k 0 fu0 fc0 fr0 fp0 fo := by
  refine lo_u5 (fun k t fu fc frr fp (_ : (Nat → Nat → Nat) × (Nat → Nat → Bool)) => wb_X5_walk_164 post (nI n) (nI m) l1 r1 t1 fk fa fdy gf gt ga gd k (nI t) fu fc frr fp fo)
    (fun t fu fc _ _ s => rx_f n fr to am od bd s0 t = some s ∧ rr_U n fu s.1 ∧ rr_C n fc s.2) m ?_ ?_ 0 fu0 fc0 fr0 fp0 s0 (by omega) ⟨rfl, rU, rC⟩
  · intro k fu fc frr fp s hs
    obtain ⟨g1, g2, g3⟩ := hs
    exact ⟨fun _ => H1 s g1 fu fc frr fp fo g2 g3, fun q => absurd (nI_le (Nat.le_refl m) (by omega)) q⟩
  · intro k t fu fc frr fp s ht hs ih
    obtain ⟨g1, g2, g3⟩ := hs
    have hot := ho t ht
    obtain ⟨f1, f2, f3, f4⟩ := hf (od t) hot
    have hin : vp_in (nI (od t)) 401 := vp_in_nI (by omega) (by omega)
    have hinf : vp_in (nI (fr (od t))) 48 := vp_in_nI (by omega) (by omega)
    have bs := rx_bound hf ho hs0 t s (by omega) g1 (fr (od t))
    have bs2 : su_m (s.1 (fr (od t))) n ≤ 1000000000 := by
      have : 1000000 * (t + 1) ≤ 1000000 * 401 := Nat.mul_le_mul_left _ (by omega)
      omega
    have hrx : rx_f n fr to am od bd s0 (t + 1) = if su_m (s.1 (fr (od t))) n < am (od t) then none else if bd (od t) = true then none else if am (od t) = 0 then some s else some (mv_u n (fr (od t)) (to (od t)) (am (od t)) s.1, mv_c n (fr (od t)) (to (od t)) (am (od t)) s.1 s.2) := by
      rw [rx_f, g1]
    refine ⟨fun q => absurd q (nI_ge ht (by omega)), fun _ => ⟨vp_in_nI (by omega) (by omega), fun x hx => ?_⟩⟩
    rw [nI_clamp (show t < 2 ^ 31 by omega), ro t ht] at hx
    subst hx
    refine ⟨hin, fun y hy => ?_⟩
    rw [nI_clamp (show od t < 2 ^ 31 by omega), rf _ hot] at hy
    subst hy
    refine sp_Rsum hn (by omega) (x := s.1 (fr (od t))) (fun l hl => g2 _ l f1 hl) ?_
    rw [nI_clamp (show od t < 2 ^ 31 by omega), ra _ hot, nI_clamp (show fr (od t) < 2 ^ 31 by omega)]
    have up : ∀ fu fc frr fp s', rx_f n fr to am od bd s0 (t + 1) = some s' → rr_U n fu s'.1 → rr_C n fc s'.2 → wb_X5_walk_378 post (nI n) (nI m) l1 r1 t1 fk fa fdy gf gt ga gd (wb_X5_walk_164 post (nI n) (nI m) l1 r1 t1 fk fa fdy gf gt ga gd k) (nI t) fu fc frr fp fo := by
      intro fu fc frr fp s' h1 h2 h3
      unfold wb_X5_walk_378
      intro x hx
      rw [hx, nI_1]
      exact ih fu fc frr fp s' ⟨h1, h2, h3⟩
    have mid : ¬ su_m (s.1 (fr (od t))) n < am (od t) → ¬ bd (od t) = true → wb_X5_walk_233 post (nI n) (nI m) l1 r1 t1 fk fa fdy gf gt ga gd (wb_X5_walk_164 post (nI n) (nI m) l1 r1 t1 fk fa fdy gf gt ga gd k) (nI t) (nI (od t)) (nI (fr (od t))) (lN (su_m (s.1 (fr (od t))) n)) fu fc frr fp fo := by
      intro c1 c2
      unfold wb_X5_walk_233
      rw [nI_clamp (show od t < 2 ^ 31 by omega), ra _ hot]
      refine ⟨hin, fun q => ?_, fun q => ⟨hin, ?_⟩⟩
      · have z : am (od t) = 0 := by
          rcases Nat.eq_zero_or_pos (am (od t)) with h | h
          · exact h
          · exact absurd ((nq_pos (by omega)).mpr h) q
        exact up fu fc frr fp s (by rw [hrx, if_neg c1, if_neg c2, if_pos z]) g2 g3
      · have z : 0 < am (od t) := (nq_pos (by omega)).mp q
        have h0 : 0 < su_m (s.1 (fr (od t))) n := by omega
        have hav : am (od t) ≤ su_m (s.1 (fr (od t))) n := by omega
        have hpl : ∀ l, l < n → mv_p n (fr (od t)) (am (od t)) s.1 l ≤ s.1 (fr (od t)) l := fun l hl => pt_le rfl h0 hav hl
        have hul : ∀ l, l < n → s.1 (fr (od t)) l ≤ 1000000000 := fun l hl => Nat.le_trans (su_at hl) bs2
        refine sp_Rpart hn (by omega) (x := s.1 (fr (od t))) (fun l hl => g2 _ l f1 hl) rfl h0 hav f4 bs2 (fun fr' fp' hfp => ?_)
        generalize eF : fr (od t) = F at *
        generalize eT : to (od t) = T at *
        generalize eA : am (od t) = a at *
        refine lo_u2 (fun k2 l fu fc => wb_X5_walk_260 post (nI n) (nI m) l1 r1 t1 fk fa fdy gf gt ga gd (wb_X5_walk_164 post (nI n) (nI m) l1 r1 t1 fk fa fdy gf gt ga gd k) k2 (nI t) (nI (od t)) (nI F) (nI l) fu fc fr' fp' fo)
          (fun l fu fc => rr_U n fu (mx_u n F T a s.1 l) ∧ rr_C n fc (mx_c n F T a s.1 s.2 l)) n ?_ ?_ 0 fu fc (by omega) ⟨fun i l hi hl => by simpa [mx_u] using g2 i l hi hl, fun i l hi hl => by simpa [mx_c] using g3 i l hi hl⟩
        · intro k2 fu fc hs
          refine ⟨fun _ => up fu fc fr' fp' _ (by rw [hrx, if_neg c1, if_neg c2, if_neg (by omega)]) (fun i l hi hl => ?_) (fun i l hi hl => ?_), fun q => absurd (nI_le (Nat.le_refl n) (by omega)) q⟩
          · rw [hs.1 i l hi hl]; simp [mx_u, hl]
          · rw [hs.2 i l hi hl]; simp [mx_c, hl]
        · intro k2 l fu fc hl hs ih2
          obtain ⟨w1, w2⟩ := hs
          have ep : fp' l = lN (mv_p n F a s.1 l) := hfp l hl
          have hpt : mv_p n F a s.1 l ≤ 1000000000 := Nat.le_trans (hpl l hl) (hul l hl)
          have i1 : vp_in (nI (F * 48 + l)) 2304 := vp_in_nI (nq_lt48 (by omega) (by omega)) (by omega)
          have i2 : vp_in (nI (T * 48 + l)) 2304 := vp_in_nI (nq_lt48 (by omega) (by omega)) (by omega)
          have i3 : vp_in (nI l) 48 := vp_in_nI (by omega) (by omega)
          refine ⟨fun q => absurd q (nI_ge hl (by omega)), fun _ => ?_⟩
          rw [nI_clamp (show od t < 2 ^ 31 by omega), rt _ hot, eT, nq_ir, nq_cc, nq_ir, nq_cc, nI_clamp (show F * 48 + l < 2 ^ 31 by omega), nI_clamp (show T * 48 + l < 2 ^ 31 by omega), nI_clamp (show l < 2 ^ 31 by omega), ep]
          refine ⟨i1, i3, i1, fun e1 he1 => ⟨hin, i2, i3, i2, fun e2 he2 => ⟨hin, hin, i2, ?_⟩⟩⟩
          have a1 : fu (F * 48 + l) = lN (s.1 F l) := by rw [w1 F l (by omega) hl]; simp [mx_u]
          have a2 : e1 (T * 48 + l) = lN (s.1 T l) := by rw [he1, pk_uLn (by omega), w1 T l (by omega) hl]; simp [mx_u]
          have a3 : fc (T * 48 + l) = if s.2 T l then 1 else 0 := by rw [w2 T l (by omega) hl]; simp [mx_c]
          have u1 := rr_U.up w1 hn (i := F) (l := l) (s.1 F l - mv_p n F a s.1 l) hl
          have u2 := rr_U.up u1 hn (i := T) (l := l) (s.1 T l + mv_p n F a s.1 l) hl
          have gU : rr_U n e2 (mx_u n F T a s.1 (l + 1)) := by
            intro i l' hi hl'
            have hh := u2 i l' hi hl'
            rw [he2, a2, lN_add, he1, a1, lN_sub (hpl l hl), hh]
            congr 1
            by_cases e : l' = l
            · subst e
              have e9 : mx_u n F T a s.1 (l' + 1) i l' = mv_u n F T a s.1 i l' := by simp [mx_u]
              rw [e9]
              by_cases e4 : i = T
              · subst e4; rw [u2_s]; simp [mv_u, hl, Ne.symm f3]
              · rw [u2_n (by omega)]
                by_cases e5 : i = F
                · subst e5; rw [u2_s]; simp [mv_u, hl]
                · rw [u2_n (by omega)]; simp [mx_u, mv_u, hl, e4, e5]
            · rw [u2_n (by omega), u2_n (by omega)]
              unfold mx_u
              by_cases e6 : l' < l
              · rw [if_pos e6, if_pos (by omega)]
              · rw [if_neg e6, if_neg (by omega)]
          have fin : ∀ (b1 : Bool) (z0 : Int32), z0 = (if b1 then 1 else 0) → b1 = mv_c n F T a s.1 s.2 T l →
              wb_X5_walk_371 post (nI n) (nI m) l1 r1 t1 fk fa fdy gf gt ga gd (wb_X5_walk_164 post (nI n) (nI m) l1 r1 t1 fk fa fdy gf gt ga gd k) (wb_X5_walk_260 post (nI n) (nI m) l1 r1 t1 fk fa fdy gf gt ga gd (wb_X5_walk_164 post (nI n) (nI m) l1 r1 t1 fk fa fdy gf gt ga gd k) k2) (nI t) (nI (od t)) (nI F) (nI l) z0 (nI (T * 48 + l)) e2 fc fr' fp' fo := by
            intro b1 z0 ez eb
            unfold wb_X5_walk_371
            rw [nI_clamp (show T * 48 + l < 2 ^ 31 by omega)]
            refine ⟨i2, fun e3 he3 x hx => ?_⟩
            rw [hx, nI_1]
            have nz : vp_nar .boolean z0 = if b1 then 1 else 0 := by rw [ez]; cases b1 <;> simp [nar_0, nar_1]
            refine ih2 e2 e3 ⟨gU, fun i l' hi hl' => ?_⟩
            rw [he3]
            by_cases e : i = T ∧ l' = l
            · obtain ⟨rfl, rfl⟩ := e
              rw [pk_us, nz, eb]; simp [mx_c]
            · rw [pk_un (by omega), w2 i l' hi hl']
              have : mx_c n F T a s.1 s.2 l i l' = mx_c n F T a s.1 s.2 (l + 1) i l' := by
                unfold mx_c
                by_cases e6 : l' < l
                · rw [if_pos e6, if_pos (by omega)]
                · rw [if_neg e6]
                  by_cases e7 : l' = l
                  · subst e7
                    rw [if_pos (by omega)]
                    have : ¬ i = T := fun w => e ⟨w, rfl⟩
                    simp [mv_c, this]
                  · rw [if_neg (by omega)]
              rw [this]
          have one : mv_c n F T a s.1 s.2 T l = true → wb_X5_walk_366 post (nI n) (nI m) l1 r1 t1 fk fa fdy gf gt ga gd (wb_X5_walk_164 post (nI n) (nI m) l1 r1 t1 fk fa fdy gf gt ga gd k) (wb_X5_walk_260 post (nI n) (nI m) l1 r1 t1 fk fa fdy gf gt ga gd (wb_X5_walk_164 post (nI n) (nI m) l1 r1 t1 fk fa fdy gf gt ga gd k) k2) (nI t) (nI (od t)) (nI F) (nI l) (nI (T * 48 + l)) e2 fc fr' fp' fo := by
            intro q
            unfold wb_X5_walk_366
            exact fin true 1 rfl q.symm
          rw [a3]
          refine ⟨fun q => one ?_, fun q => ⟨i3, fun q2 => fin false 0 rfl ?_, fun q2 => one ?_⟩⟩
          · have : s.2 T l = true := by
              cases e : s.2 T l with
              | true => rfl
              | false => rw [e] at q; exact absurd rfl q
            simp [mv_c, this]
          · have c0 : s.2 T l = false := by
              cases e : s.2 T l with
              | false => rfl
              | true => rw [e] at q; exact absurd q (by decide)
            have p0 : ¬ 0 < mv_p n F a s.1 l := fun w => q2 ((nq_pos (by omega)).mpr w)
            simp [mv_c, c0, p0]
          · have p0 : 0 < mv_p n F a s.1 l := (nq_pos (by omega)).mp q2
            simp [mv_c, hl, p0]
    refine ⟨hin, fun q => ?_, fun q => ⟨hinf, ?_⟩⟩
    · have z := (pk_lLT (by omega) (by omega)).mp q
      exact H0 (rx_up (k := t + 1) (by omega) (by rw [hrx, if_pos z])) fu fc frr fp fo
    · have c1 : ¬ su_m (s.1 (fr (od t))) n < am (od t) := fun w => q ((pk_lLT (by omega) (by omega)).mpr w)
      refine ⟨fun q2 => mid c1 (fun w => q2 ((hk _ f1).mpr ((hb _ hot).mp w).1)), fun q2 => ⟨hin, hinf, ?_⟩⟩
      have zl := (hk _ f1).mp q2
      obtain ⟨d1, d2⟩ := hd _ f1 zl
      have d3 := hdy _ hot
      rw [rd _ hot, d1]
      refine ⟨fun q3 => mid c1 (fun w => q3 ((pk_lLT (by omega) (by omega)).mpr ((hb _ hot).mp w).2)), fun q3 => ?_⟩
      have z := (pk_lLT (by omega) (by omega)).mp q3
      exact H0 (rx_up (k := t + 1) (by omega) (by rw [hrx, if_neg c1, if_pos ((hb _ hot).mpr ⟨zl, z⟩)])) fu fc frr fp fo
/-- the reference's walk -/
theorem sp_Rwalk {post : Int32 → (Nat → Int64) → (Nat → Int32) → (Nat → Int64) → (Nat → Int64) → (Nat → Int32) → Prop} {n m : Nat} {l1 : Int64} {r1 t1 : Int32} {fk : Nat → Int32} {fa fdy : Nat → Int64} {gf gt : Nat → Int32} {ga gd : Nat → Int64} {lo : Nat → Bool} {am0 dy0 fr to am dy : Nat → Nat} {bd : Nat → Bool} {fu0 : Nat → Int64} {fc0 : Nat → Int32} {fr0 fp0 : Nat → Int64} {fo0 : Nat → Int32}
    (hn : n ≤ 48) (hm : m ≤ 400) (hk : ∀ i, i < n → (fk i = -1 ↔ lo i = true)) (ha : ∀ i, i < n → lo i = true → fa i = lN (am0 i)) (ha2 : ∀ i, i < n → lo i = true → am0 i ≤ 1000000) (hd : ∀ i, i < n → lo i = true → fdy i = lN (dy0 i) ∧ dy0 i ≤ 100000) (hf : fl_ok n m fr to am) (rf : rw_I m gf fr) (rt : rw_I m gt to) (ra : rw_J m ga am) (rd : rw_J m gd dy) (hdy : ∀ k, k < m → dy k ≤ 100000)
    (hb : ∀ k, k < m → (bd k = true ↔ (lo (fr k) = true ∧ dy k < dy0 (fr k))))
    (H0 : rx_f n fr to am (od_f dy m) bd (in_u n lo am0, in_c n lo) m = none → ∀ fu fc fr fp fo, post 0 fu fc fr fp fo)
    (H1 : ∀ s, rx_f n fr to am (od_f dy m) bd (in_u n lo am0, in_c n lo) m = some s → ∀ fu fc fr fp fo, rr_U n fu s.1 → rr_C n fc s.2 → post 1 fu fc fr fp fo) :
    wp_X5_walk post (nI n) (nI m) l1 r1 t1 fk fa fdy gf gt ga gd fu0 fc0 fr0 fp0 fo0 :=
  sp_Rw2 hn hk ha (fun fu fc rU rC => sp_Rw92 hm rd hdy (fun fo ro => sp_Rw164 hn hm hk hd hf (od_lt dy m) rf rt ra rd hdy ro hb (in_bound ha2) rU rC H0 H1))
