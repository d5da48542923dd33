/-! CORRECT -/
def df_f (u v : Nat → Nat → Nat) (i : Nat) : Nat → Bool
  | 0 => false
  | l + 1 => df_f u v i l || decide (¬ u i l = v i l)
theorem df_mono {u v : Nat → Nat → Nat} {i : Nat} {a b : Nat} (h : a ≤ b) (e : df_f u v i a = true) : df_f u v i b = true := by
  induction b with
  | zero => rw [show a = 0 by omega] at e; exact e
  | succ b ih =>
    by_cases c : a = b + 1
    · subst c; exact e
    · rw [df_f, ih (by omega)]; rfl
theorem df_at {u v : Nat → Nat → Nat} {i l n : Nat} (h : l < n) (e : ¬ u i l = v i l) : df_f u v i n = true := by
  refine df_mono (a := l + 1) h ?_
  rw [df_f, decide_eq_true e, Bool.or_true]
theorem sp_differs {c1 c2 : Int32} {post : Int32 → Prop} {n i : Nat} {lcn : Int32} {fu fv : Nat → Int64} {u v : Nat → Nat → Nat} (hn : n ≤ 48) (hi : i < n) (rU : rw_U fu u) (rV : rw_U fv v) (hu : ∀ l, l < n → u i l < 2 ^ 62 ∧ v i l < 2 ^ 62) (H1 : df_f u v i n = true → post 1) (H0 : df_f u v i n = false → post 0) : wp_X3_differs post c1 (nI n) lcn fu c2 fv (nI i) := by
  unfold wp_X3_differs
  refine lo_u1 (A1 := Unit) (fun k t _ => wb_X3_differs_2 post c1 (nI n) lcn fu c2 fv k (nI i) (nI t)) (fun t _ => df_f u v i t = false) n ?_ ?_ 0 () (by omega) rfl
  · intro k _ h
    exact ⟨fun _ => H0 h, fun q => absurd (nI_le (Nat.le_refl n) (by omega)) q⟩
  · intro k t _ ht h ih
    obtain ⟨b1, b2⟩ := hu t ht
    refine ⟨fun q => absurd q (nI_ge ht (by omega)), fun _ => sp_unitsOf (by omega) (by omega) (sp_unitsOf (by omega) (by omega) ?_)⟩
    rw [rU i t (by omega) (by omega), rV i t (by omega) (by omega), pk_lEQ (by omega) (by omega)]
    refine ⟨fun q x hx => ?_, fun q => H1 (df_at ht q)⟩
    rw [hx, nI_1]
    refine ih () ?_
    rw [df_f, h, decide_eq_false (fun w => w q)]; rfl
theorem sp_countO {c1 c2 : Int32} {post : Int32 → Prop} {n : Nat} {lcn : Int32} {fu fv : Nat → Int64} {u v : Nat → Nat → Nat} (hn : n ≤ 48) (rU : rw_U fu u) (rV : rw_U fv v) (hu : ∀ i l, i < n → l < n → u i l < 2 ^ 62 ∧ v i l < 2 ^ 62) (H : post (nI (su_c (fun i => df_f u v i n) n))) : wp_X3_countOtherNodes post c1 (nI n) lcn fu c2 fv := by
  unfold wp_X3_countOtherNodes
  refine lo_u1 (A1 := Unit) (fun k t _ => wb_X3_countOtherNodes_4 post c1 (nI n) lcn fu c2 fv k (nI (su_c (fun i => df_f u v i n) t)) (nI t)) (fun _ _ => True) n ?_ ?_ 0 () (by omega) trivial
  · intro k _ h
    exact ⟨fun _ => H, fun q => absurd (nI_le (Nat.le_refl n) (by omega)) q⟩
  · intro k t _ ht h ih
    have ih := ih () trivial
    rw [su_c] at ih
    refine ⟨fun q => absurd q (nI_ge ht (by omega)), fun _ => sp_differs hn ht rU rV (fun l hl => hu t l ht hl) (fun z => ⟨fun q => absurd q (by decide), fun _ x hx y hy => ?_⟩) (fun z => ⟨fun _ y hy => ?_, fun q => absurd rfl q⟩)⟩
    · rw [hx, hy, nI_1, nI_1]
      rw [if_pos z] at ih; exact ih
    · rw [hy, nI_1]
      rw [if_neg (by rw [z]; decide)] at ih; exact ih
section COR
variable {n m : Nat} {kd am0 dy0 fr to am dy : Nat → Nat} {fk : Nat → Int32} {fa fd : Nat → Int64} {fk' : Nat → Int32} {fa' fd' : Nat → Int64}
theorem sp_RcountO {post : Int32 → Int64 → Int32 → (Nat → Int64) → (Nat → Int64) → (Nat → Int32) → (Nat → Int64) → (Nat → Int64) → (Nat → Int64) → (Nat → Int32) → Prop} {r1 t1 : Int32} {lt : Int64} {fh gf' gt' : Nat → Int32} {gd' gx fu fb f1 f2 : Nat → Int64} {fc f3 : Nat → Int32} {u v : Nat → Nat → Nat} (hn : n ≤ 48) (rU : rr_U n fu u) (rV : rr_U n fb v) (hu : ∀ i l, i < n → l < n → u i l < 2 ^ 62 ∧ v i l < 2 ^ 62) (H : post (nI (su_c (fun i => df_f u v i n) n)) lt t1 gx fu fc fb f1 f2 f3) : ∃ k, wb_X5_correct_143 post (nI n) (nI m) r1 fk' fa' fd' fh gf' gt' gd' k 0 0 lt t1 gx fu fc fb f1 f2 f3 := by
  refine lo_u1 (A1 := Unit) (fun k t _ => wb_X5_correct_143 post (nI n) (nI m) r1 fk' fa' fd' fh gf' gt' gd' k (nI (su_c (fun i => df_f u v i n) t)) (nI t) lt t1 gx fu fc fb f1 f2 f3) (fun _ _ => True) n ?_ ?_ 0 () (by omega) trivial
  · intro k _ h
    exact ⟨fun _ => H, fun q => absurd (nI_le (Nat.le_refl n) (by omega)) q⟩
  · intro kk t _ ht h ih
    have ih := ih () trivial
    rw [su_c] at ih
    refine ⟨fun q => absurd q (nI_ge ht (by omega)), fun _ => ?_⟩
    refine lo_u1 (A1 := Unit) (fun k l _ => wb_X5_correct_158 post (nI n) (nI m) r1 fk' fa' fd' fh gf' gt' gd' (wb_X5_correct_143 post (nI n) (nI m) r1 fk' fa' fd' fh gf' gt' gd' kk) k (nI (su_c (fun i => df_f u v i n) t)) (nI t) (if df_f u v t l = true then 0 else 1) (nI l) lt t1 gx fu fc fb f1 f2 f3) (fun _ _ => True) n ?_ ?_ 0 () (by omega) trivial
    · intro k2 _ _
      refine ⟨fun _ => ⟨fun q => ?_, fun q => ?_⟩, fun q => absurd (nI_le (Nat.le_refl n) (by omega)) q⟩
      · unfold wb_X5_correct_227
        intro x hx y hy
        rw [hx, hy, nI_1, nI_1]
        have z : df_f u v t n = true := by
          cases e : df_f u v t n with
          | true => rfl
          | false => rw [e, if_neg (by decide)] at q; exact absurd q (by decide)
        rw [if_pos z] at ih; exact ih
      · unfold wb_X5_correct_227
        intro x hx y hy
        have z : ¬ df_f u v t n = true := fun z => by rw [if_pos z] at q; exact absurd rfl q
        rw [hx, hy, nI_1, ← nI_0, nI_add]
        rw [if_neg z] at ih; exact ih
    · intro k2 l _ hl _ ih2
      have ih2 := ih2 () trivial
      rw [df_f] at ih2
      obtain ⟨b1, b2⟩ := hu t l ht hl
      have hin := vp_in_nI (nq_lt48 (show t < 48 by omega) (show l < 48 by omega)) (by omega)
      have one : (df_f u v t l = true ∨ ¬ u t l = v t l) → wb_X5_correct_206 post (nI n) (nI m) r1 fk' fa' fd' fh gf' gt' gd' (wb_X5_correct_143 post (nI n) (nI m) r1 fk' fa' fd' fh gf' gt' gd' kk) (wb_X5_correct_158 post (nI n) (nI m) r1 fk' fa' fd' fh gf' gt' gd' (wb_X5_correct_143 post (nI n) (nI m) r1 fk' fa' fd' fh gf' gt' gd' kk) k2) (nI (su_c (fun i => df_f u v i n) t)) (nI t) (nI l) lt t1 gx fu fc fb f1 f2 f3 := by
        intro w
        unfold wb_X5_correct_206 wb_X5_correct_207
        intro x hx
        rw [hx, nI_1]
        have : (df_f u v t l || decide (¬ u t l = v t l)) = true := by
          rcases w with w | w
          · rw [w]; rfl
          · rw [decide_eq_true w, Bool.or_true]
        rw [if_pos this] at ih2
        exact ih2
      refine ⟨fun q => absurd q (nI_ge hl (by omega)), fun _ => ⟨fun q => one (Or.inl ?_), fun q => ?_⟩⟩
      · cases e : df_f u v t l with
        | true => rfl
        | false => rw [e, if_neg (by decide)] at q; exact absurd q (by decide)
      · have z : df_f u v t l = false := by
          cases e : df_f u v t l with
          | false => rfl
          | true => rw [e, if_pos rfl] at q; exact absurd rfl q
        have i2 := nq_lt48 (show t < 48 by omega) (show l < 48 by omega)
        rw [nq_ir, nq_cc, nI_clamp (show t * 48 + l < 2 ^ 31 by omega), rU t l ht hl, rV t l ht hl, pk_lEQ (by omega) (by omega)]
        refine ⟨hin, hin, fun q => one (Or.inr q), fun q => ?_⟩
        unfold wb_X5_correct_207
        intro x hx
        rw [hx, nI_1]
        have : ¬ (df_f u v t l || decide (¬ u t l = v t l)) = true := by
          rw [z, decide_eq_false (fun w => w q)]; decide
        rw [if_neg this] at ih2
        exact ih2
theorem fl_cor (hF : fl_all n m kd dy0 fr to am dy) {k a : Nat} (ha : a ≤ 1000000) : fl_all n m kd dy0 fr to (fu_up am k a) dy := by
  intro j hj
  obtain ⟨h1, h2, h3, h4, h5⟩ := hF j hj
  refine ⟨h1, h2, h3, ?_, h5⟩
  by_cases c : j = k
  · subst c; rw [fu_s]; exact ha
  · rw [fu_n c]; exact h4
/-- correct -/
theorem op_correct {td : Nat} {lcn r1 t1 : Int32} {fh fh' : Nat → Int32} {gf gt : Nat → Int32} {ga gd : Nat → Int64} {go gf' gt' : Nat → Int32} {ga' gd' : Nat → Int64} {su sc sw sd sr sp sq tu tc tw tdr tr tp tq fu0 : Nat → Int64} {spc tpc : Int32} {se te : Nat → Int32} {fc0 : Nat → Int32} {fb0 fr0 fp0 : Nat → Int64} {fo0 : Nat → Int32} {s : (Nat → Nat → Nat) × (Nat → Nat → Bool)} (hN : iv_N n kd am0 dy0 fk fa fd fk' fa' fd') (hH : iv_H n fh fh') (hF : iv_F n m kd dy0 fr to am dy gf gt ga gd go gf' gt' ga' gd') (hS : iv_S n m kd am0 fr to am dy s su sc sw sd sr) (htd : td ≤ 100000) (p : Int32) (a tl : Int64) :
    ∃ (v : Int32) (td' : Nat) (am' : Nat → Nat) (s' : (Nat → Nat → Nat) × (Nat → Nat → Bool)) (P : (Nat → Int64) → (Nat → Int64) → (Nat → Int64) → (Nat → Int64) → (Nat → Int64) → (Nat → Int64) → Prop) (Q : (Nat → Int64) → Prop), td' ≤ 100000 ∧ (∀ ga su sc sw sd sr ga', P ga su sc sw sd sr → Q ga' → iv_F n m kd dy0 fr to am' dy gf gt ga gd go gf' gt' ga' gd' ∧ iv_S n m kd am0 fr to am' dy s' su sc sw sd sr) ∧
      (∀ post : Int32 → Int64 → (Nat → Int64) → Int32 → (Nat → Int64) → (Nat → Int64) → (Nat → Int64) → (Nat → Int64) → (Nat → Int64) → (Nat → Int32) → (Nat → Int64) → (Nat → Int64) → Int32 → (Nat → Int64) → (Nat → Int64) → (Nat → Int64) → (Nat → Int64) → (Nat → Int64) → (Nat → Int32) → (Nat → Int64) → (Nat → Int64) → Prop, (∀ ga spc su sc sw sd sr se sp sq tpc tu tc tw tdr tr te tp tq, P ga su sc sw sd sr → post v (lN td') ga spc su sc sw sd sr se sp sq tpc tu tc tw tdr tr te tp tq) → wp_X4_correct post (lN td) (nI n) lcn fk fa fh (nI m) gf gt ga go spc su sc sw sd sr se sp sq tpc tu tc tw tdr tr te tp tq p a tl) ∧
      ∀ post : Int32 → Int64 → Int32 → (Nat → Int64) → (Nat → Int64) → (Nat → Int32) → (Nat → Int64) → (Nat → Int64) → (Nat → Int64) → (Nat → Int32) → Prop, (∀ x ga' x1 x2 x3 x4 x5, Q ga' → post v (lN td') 0 ga' x x1 x2 x3 x4 x5) → wp_X5_correct post (nI n) (nI m) (lN td) r1 t1 fk' fa' fd' fh' gf' gt' ga' gd' fu0 fc0 fb0 fr0 fp0 fo0 p a tl := by
  have hn := hN.1
  obtain ⟨f1, f2, f3, f4, f5, f6, f7, f8, f9, f10, f11⟩ := hF
  have noIv : ∀ ga2 su2 sc2 sw2 sd2 sr2 ga2', (rw_J m ga2 am ∧ su2 = su ∧ sc2 = sc ∧ sw2 = sw ∧ sd2 = sd ∧ sr2 = sr) → rw_J m ga2' am → iv_F n m kd dy0 fr to am dy gf gt ga2 gd go gf' gt' ga2' gd' ∧ iv_S n m kd am0 fr to am dy s su2 sc2 sw2 sd2 sr2 := by
    rintro ga2 _ _ _ _ _ ga2' ⟨h, rfl, rfl, rfl, rfl, rfl⟩ h'
    exact ⟨⟨f1, f2, f3, h, f5, f6, f7, f8, h', f10, f11⟩, hS⟩
  have z0 : rw_J m ga am ∧ su = su ∧ sc = sc ∧ sw = sw ∧ sd = sd ∧ sr = sr := ⟨f4, rfl, rfl, rfl, rfl, rfl⟩
  rcases pk_ix p (show m < 2 ^ 31 by omega) with h | h | ⟨k, hk, rfl⟩
  · exact ⟨-1, td, am, s, _, _, htd, noIv, fun post H => ⟨fun _ => H _ _ _ _ _ _ _ _ _ _ _ _ _ _ _ _ _ _ _ z0, fun q => absurd h q⟩, fun post H => ⟨fun _ => H _ _ _ _ _ _ _ f9, fun q => absurd h q⟩⟩
  · by_cases hp : p < 0
    · exact ⟨-1, td, am, s, _, _, htd, noIv, fun post H => ⟨fun _ => H _ _ _ _ _ _ _ _ _ _ _ _ _ _ _ _ _ _ _ z0, fun q => absurd hp q⟩, fun post H => ⟨fun _ => H _ _ _ _ _ _ _ f9, fun q => absurd hp q⟩⟩
    · exact ⟨-1, td, am, s, _, _, htd, noIv, fun post H => ⟨fun q => absurd q hp, fun _ => ⟨fun _ => H _ _ _ _ _ _ _ _ _ _ _ _ _ _ _ _ _ _ _ z0, fun q => absurd h q⟩⟩, fun post H => ⟨fun q => absurd q hp, fun _ => ⟨fun _ => H _ _ _ _ _ _ _ f9, fun q => absurd h q⟩⟩⟩
  · have n1 : ¬ nI k < 0 := nI_pos (by omega)
    have n2 : ¬ nI m ≤ nI k := nI_ge hk (by omega)
    by_cases a0 : a < 0
    · exact ⟨-1, td, am, s, _, _, htd, noIv, fun post H => ⟨fun q => absurd q n1, fun _ => ⟨fun q => absurd q n2, fun _ => ⟨fun _ => H _ _ _ _ _ _ _ _ _ _ _ _ _ _ _ _ _ _ _ z0, fun q => absurd a0 q⟩⟩⟩, fun post H => ⟨fun q => absurd q n1, fun _ => ⟨fun q => absurd q n2, fun _ => ⟨fun _ => H _ _ _ _ _ _ _ f9, fun q => absurd a0 q⟩⟩⟩⟩
    · by_cases a1 : 1000000 < a
      · exact ⟨-1, td, am, s, _, _, htd, noIv, fun post H => ⟨fun q => absurd q n1, fun _ => ⟨fun q => absurd q n2, fun _ => ⟨fun q => absurd q a0, fun _ => ⟨fun q => absurd a1 q, fun _ => H _ _ _ _ _ _ _ _ _ _ _ _ _ _ _ _ _ _ _ z0⟩⟩⟩⟩, fun post H => ⟨fun q => absurd q n1, fun _ => ⟨fun q => absurd q n2, fun _ => ⟨fun q => absurd q a0, fun _ => ⟨fun _ => H _ _ _ _ _ _ _ f9, fun q => absurd a1 q⟩⟩⟩⟩⟩
      · obtain ⟨ka, hka, rfl⟩ : ∃ ka : Nat, ka ≤ 1000000 ∧ a = lN ka := by
          obtain ⟨j, hj, rfl⟩ := pk_lOf a0
          refine ⟨j, ?_, rfl⟩
          rcases Nat.lt_or_ge 1000000 j with w | w
          · exact absurd (by rw [nq_ml]; exact (pk_lLT (by omega) hj).mpr w) a1
          · exact w
        by_cases bad : tl < 0 ∨ 100000 < tl ∨ tl < lN td
        · refine ⟨-1, td, am, s, _, _, htd, noIv, fun post H => ⟨fun q => absurd q n1, fun _ => ⟨fun q => absurd q n2, fun _ => ⟨fun q => absurd q a0, fun _ => ⟨fun _ => ?_, fun q => absurd q a1⟩⟩⟩⟩, fun post H => ⟨fun q => absurd q n1, fun _ => ⟨fun q => absurd q n2, fun _ => ⟨fun q => absurd q a0, fun _ => ⟨fun q => absurd q a1, fun _ => ?_⟩⟩⟩⟩⟩
          · rcases day_2 tl with w | ⟨kt, d2, rfl, d3, d4⟩
            · exact sp_day0 w ⟨fun _ => H _ _ _ _ _ _ _ _ _ _ _ _ _ _ _ _ _ _ _ z0, fun q => absurd rfl q⟩
            · refine sp_day1 d3 d4 ⟨fun q => absurd q (by decide), fun _ => ⟨fun q => ?_, fun _ => H _ _ _ _ _ _ _ _ _ _ _ _ _ _ _ _ _ _ _ z0⟩⟩
              rcases bad with w | w | w
              · exact absurd w d3
              · exact absurd w d4
              · exact absurd w q
          · refine ⟨fun _ => H _ _ _ _ _ _ _ f9, fun q => ⟨fun _ => H _ _ _ _ _ _ _ f9, fun q2 => ?_⟩⟩
            rcases bad with w | w | w
            · refine absurd ?_ q
              rw [Int64.lt_iff_toInt_lt] at w ⊢
              rw [pk_lT (by omega)]
              have e : (0 : Int64).toInt = 0 := by decide +kernel
              omega
            · exact absurd w q2
            · exact absurd w q
        · have b1 : ¬ tl < 0 := fun q => bad (Or.inl q)
          have b2 : ¬ 100000 < tl := fun q => bad (Or.inr (Or.inl q))
          have b3 : ¬ tl < lN td := fun q => bad (Or.inr (Or.inr q))
          obtain ⟨kt, hkt, rfl⟩ : ∃ kt : Nat, kt ≤ 100000 ∧ tl = lN kt := by
            rcases day_2 tl with (w | w) | ⟨kt, d2, e, -⟩
            · exact absurd w b1
            · exact absurd w.2 b2
            · exact ⟨kt, d2, e⟩
          obtain ⟨g1, g2, g3, g4, -⟩ := f11 k hk
          have hin : vp_in (nI k) 400 := vp_in_nI (by omega) (by omega)
          have hin1 : vp_in (nI k) 401 := vp_in_nI (by omega) (by omega)
          have hin2 : vp_in (nI (fr k)) 48 := vp_in_nI (by omega) (by omega)
          have ck : (nI k).toNatClampNeg = k := nI_clamp (by omega)
          have cf : (nI (fr k)).toNatClampNeg = fr k := nI_clamp (by omega)
          obtain ⟨hh1, hh2⟩ := hH.1 (fr k) g1
          by_cases hb : am k < ka ∧ ¬ fh (fr k) = 0
          · refine ⟨-1, td, am, s, _, _, htd, noIv, fun post H => ⟨fun q => absurd q n1, fun _ => ⟨fun q => absurd q n2, fun _ => ⟨fun q => absurd q a0, fun _ => ⟨fun _ => sp_day1 b1 b2 ⟨fun q => absurd q (by decide), fun _ => ⟨fun _ => ⟨hin, fun x hx => ?_⟩, fun q => absurd q b3⟩⟩, fun q => absurd q a1⟩⟩⟩⟩, fun post H => ⟨fun q => absurd q n1, fun _ => ⟨fun q => absurd q n2, fun _ => ⟨fun q => absurd q a0, fun _ => ⟨fun q => absurd q a1, fun _ => ⟨fun q => absurd q b3, fun _ => ⟨fun q => absurd q b2, fun _ => ⟨hin1, ?_⟩⟩⟩⟩⟩⟩⟩⟩
            · rw [ck] at hx ⊢
              rw [hx, f4 k hk, f2 k hk, cf, pk_lLT (by omega) (by omega)]
              exact ⟨fun q => absurd hb.1 q, fun _ => ⟨hin, hin2, fun q => absurd q hb.2, fun _ => H _ _ _ _ _ _ _ _ _ _ _ _ _ _ _ _ _ _ _ z0⟩⟩
            · rw [ck, f7 k hk, cf, f9 k hk, hh1, pk_lLT (by omega) (by omega)]
              exact ⟨hin2, fun q => absurd q hb.2, fun _ => ⟨hin1, fun q => absurd hb.1 q, fun _ => H _ _ _ _ _ _ _ f9⟩⟩
          · obtain ⟨hs, ca, we, w0, hR⟩ := hS
            have hF2 := fl_cor f11 (k := k) (a := ka) hka
            -- the class and the reference come to their replays
            have cls : ∀ post : Int32 → Int64 → (Nat → Int64) → Int32 → (Nat → Int64) → (Nat → Int64) → (Nat → Int64) → (Nat → Int64) → (Nat → Int64) → (Nat → Int32) → (Nat → Int64) → (Nat → Int64) → Int32 → (Nat → Int64) → (Nat → Int64) → (Nat → Int64) → (Nat → Int64) → (Nat → Int64) → (Nat → Int32) → (Nat → Int64) → (Nat → Int64) → Prop, wb_X4_correct_91 post (nI n) lcn fk fa fh (nI m) gf gt go (nI k) (lN ka) (lN kt) (lN (am k)) (lN td) ga spc su sc sw sd sr se sp sq tpc tu tc tw tdr tr te tp tq → wp_X4_correct post (lN td) (nI n) lcn fk fa fh (nI m) gf gt ga go spc su sc sw sd sr se sp sq tpc tu tc tw tdr tr te tp tq (nI k) (lN ka) (lN kt) := by
              intro post H
              refine ⟨fun q => absurd q n1, fun _ => ⟨fun q => absurd q n2, fun _ => ⟨fun q => absurd q a0, fun _ => ⟨fun _ => sp_day1 b1 b2 ⟨fun q => absurd q (by decide), fun _ => ⟨fun _ => ⟨hin, fun x hx => ?_⟩, fun q => absurd q b3⟩⟩, fun q => absurd q a1⟩⟩⟩⟩
              rw [ck] at hx ⊢
              rw [hx, f4 k hk, f2 k hk, cf, pk_lLT (by omega) (by omega)]
              exact ⟨fun _ => H, fun q => ⟨hin, hin2, fun _ => H, fun q2 => absurd ⟨q, q2⟩ hb⟩⟩
            have ref : ∀ post : Int32 → Int64 → Int32 → (Nat → Int64) → (Nat → Int64) → (Nat → Int32) → (Nat → Int64) → (Nat → Int64) → (Nat → Int64) → (Nat → Int32) → Prop, wb_X5_correct_77 post (nI n) (nI m) r1 fk' fa' fd' fh' gf' gt' gd' (nI k) (lN ka) (lN kt) (lN td) 0 ga' fu0 fc0 fb0 fr0 fp0 fo0 → wp_X5_correct post (nI n) (nI m) (lN td) r1 t1 fk' fa' fd' fh' gf' gt' ga' gd' fu0 fc0 fb0 fr0 fp0 fo0 (nI k) (lN ka) (lN kt) := by
              intro post H
              refine ⟨fun q => absurd q n1, fun _ => ⟨fun q => absurd q n2, fun _ => ⟨fun q => absurd q a0, fun _ => ⟨fun q => absurd q a1, fun _ => ⟨fun q => absurd q b3, fun _ => ⟨fun q => absurd q b2, fun _ => ⟨hin1, ?_⟩⟩⟩⟩⟩⟩⟩
              rw [ck, f7 k hk, cf, f9 k hk, hh1, pk_lLT (by omega) (by omega)]
              exact ⟨hin2, fun _ => H, fun q2 => ⟨hin1, fun _ => H, fun q => absurd ⟨q, q2⟩ hb⟩⟩
            have back : ∀ {g : Nat → Int64}, rw_J m g am → rw_J m (vp_updL (vp_updL g k (lN ka)) k (lN (am k))) am := fun {g} hg j hj => by
              by_cases c : j = k
              · subst c; rw [pk_uLs]
              · rw [pk_uLn c, pk_uLn c]; exact hg j hj
            cases er : rn_k n m kd am0 fr to (fu_up am k ka) dy with
            | none =>
              refine ⟨-1, td, am, s, _, _, htd, noIv, fun post H => cls post ⟨hin, fun g hg => ?_⟩, fun post H => ref post ?_⟩
              · rw [ck] at hg ⊢
                refine sp_replay (lo := lo_k kd) (am0 := am0) (am := fu_up am k ka) (od := od_f dy m) (dn := dn_k kd) hn f1 hN.k5 hN.k0 (fun i hi hl => (hN.2.2 i hi (lo_k5 hl)).1) (fun i hi hl => (hN.2.2 i hi (lo_k5 hl)).2.2.1) hF2.ok hF2.lo (od_lt _ _) f2 f3 (by rw [hg]; exact f4.up k ka) f6 (fun z v1 u1 u2 u3 u4 u5 v2 u6 u7 => ⟨fun q => absurd rfl q, fun _ => ⟨hin, fun g2 hg2 => ?_⟩⟩) (fun s' z ca' we' v1 u1 u2 u3 u4 u5 v2 u6 u7 z2 z3 => ?_)
                · rw [hg2, hg]
                  exact H _ _ _ _ _ _ _ _ _ _ _ _ _ _ _ _ _ _ _ ⟨back f4, rfl, rfl, rfl, rfl, rfl⟩
                · have : rn_k n m kd am0 fr to (fu_up am k ka) dy = some s' := z
                  rw [er] at this; cases this
              · unfold wb_X5_correct_77
                refine sp_Rok hN ⟨f1, f2, f3, f4, f5, f6, f7, f8, f9, f10, f11⟩ hs (fun u1 u2 u3 u4 u5 gU gC g hg => ⟨hin1, fun x hx => ⟨hin1, fun g2 hg2 => ?_⟩⟩)
                rw [ck] at hx hg2 ⊢
                refine sp_Rgo (am := fu_up am k ka) hN f1 f7 f8 (by rw [hg2]; exact f9.up k ka) f10 hF2 (fun z y1 y2 y3 y4 y5 => ⟨fun q => absurd rfl q, fun _ => ⟨hin1, fun g3 hg3 => ?_⟩⟩) (fun s' z => ?_)
                · rw [hg3, hg2, hx, f9 k hk]
                  exact H _ _ _ _ _ _ _ (back f9)
                · rw [er] at z; cases z
            | some s' =>
              have bu := in_all hN f1 f11 hs
              have bv := in_all hN f1 hF2 er
              have hu : ∀ i l, i < n → l < n → s'.1 i l < 2 ^ 62 ∧ s.1 i l < 2 ^ 62 := fun i l hi hl => by
                have x1 := bu i
                have x2 := bv i
                have y1 := su_at (f := s.1 i) hl
                have y2 := su_at (f := s'.1 i) hl
                omega
              refine ⟨nI (su_c (fun i => df_f s'.1 s.1 i n) n), kt, fu_up am k ka, s', fun g u1 u2 u3 u4 u5 => rw_J m g (fu_up am k ka) ∧ iv_S n m kd am0 fr to (fu_up am k ka) dy s' u1 u2 u3 u4 u5, fun g => rw_J m g (fu_up am k ka), hkt, fun ga2 u1 u2 u3 u4 u5 ga2' y1 y2 => ⟨⟨f1, f2, f3, y1.1, f5, f6, f7, f8, y2, f10, hF2⟩, y1.2⟩, fun post H => cls post ⟨hin, fun g hg => ?_⟩, fun post H => ref post ?_⟩
              · rw [ck] at hg ⊢
                have rg : rw_J m g (fu_up am k ka) := by rw [hg]; exact f4.up k ka
                refine sp_replay (lo := lo_k kd) (am0 := am0) (am := fu_up am k ka) (od := od_f dy m) (dn := dn_k kd) hn f1 hN.k5 hN.k0 (fun i hi hl => (hN.2.2 i hi (lo_k5 hl)).1) (fun i hi hl => (hN.2.2 i hi (lo_k5 hl)).2.2.1) hF2.ok hF2.lo (od_lt _ _) f2 f3 rg f6 (fun z v1 u1 u2 u3 u4 u5 v2 u6 u7 => ?_) (fun s2 z ca' we' v1 u1 u2 u3 u4 u5 v2 u6 u7 z2 z3 => ⟨fun _ => ?_, fun q => absurd q (by decide)⟩)
                · have : rn_k n m kd am0 fr to (fu_up am k ka) dy = none := z
                  rw [er] at this; cases this
                · have e2 : rn_k n m kd am0 fr to (fu_up am k ka) dy = some s2 := z
                  rw [er] at e2; cases e2
                  unfold wp_X4_takeTrial
                  exact sp_countO hn z3.1 hR.1 hu (H _ _ _ _ _ _ _ _ _ _ _ _ _ _ _ _ _ _ _ ⟨rg, er, ca', we', z2, z3⟩)
              · unfold wb_X5_correct_77
                refine sp_Rok hN ⟨f1, f2, f3, f4, f5, f6, f7, f8, f9, f10, f11⟩ hs (fun u1 u2 u3 u4 u5 gU gC g hg => ⟨hin1, fun x hx => ⟨hin1, fun g2 hg2 => ?_⟩⟩)
                rw [ck] at hx hg2 ⊢
                have rg : rw_J m g2 (fu_up am k ka) := by rw [hg2]; exact f9.up k ka
                refine sp_Rgo (am := fu_up am k ka) hN f1 f7 f8 rg f10 hF2 (fun z => ?_) (fun s2 z y1 y2 y3 y4 y5 gU2 gC2 => ⟨fun _ => ?_, fun q => absurd q (by decide)⟩)
                · rw [er] at z; cases z
                · rw [er] at z; cases z
                  refine sp_RcountO hn gU2 (fun i l hi hl => ?_) hu (H _ _ _ _ _ _ _ rg)
                  have i2 := nq_lt48 (show i < 48 by omega) (show l < 48 by omega)
                  have c0 : (0 : Int32).toNatClampNeg = 0 := by decide +kernel
                  have c1 : (2304 : Int32).toNatClampNeg = 2304 := by decide +kernel
                  rw [hg, c0, c1, pk_cpy_in (by omega) (by omega)]
                  rw [show 0 + (i * 48 + l - 0) = i * 48 + l by omega]
                  exact gU i l hi hl
end COR
