/-! THE STOCK: rows by node and lot, bits of lots; what the class's loops do -/
abbrev bt_l (l : Nat) : Int64 := 1 <<< ((nI l).toInt64 &&& 63)
theorem bt_two : ∀ l, l < 48 → (bt_l l).toBitVec = BitVec.twoPow 64 l := by decide +kernel
theorem bt_get (m : Int64) {l : Nat} (hl : l < 48) : (m &&& bt_l l = 0) ↔ m.toBitVec.getLsbD l = false := by
  have e1 : (m &&& bt_l l).toBitVec = m.toBitVec &&& BitVec.twoPow 64 l := by rw [← bt_two l hl]; rfl
  rw [← Int64.toBitVec_inj, e1, BitVec.and_twoPow]
  by_cases h : m.toBitVec.getLsbD l = true
  · rw [if_pos h, h]
    constructor
    · intro q
      exfalso
      have q2 := congrArg (fun b : BitVec 64 => b.getLsbD l) q
      simp [BitVec.getLsbD_twoPow] at q2
      omega
    · intro q; cases q
  · rw [if_neg h]
    simp only [Bool.not_eq_true] at h
    rw [h]
    exact ⟨fun _ => rfl, fun _ => rfl⟩
theorem bt_or (m : Int64) {k l : Nat} (hk : k < 48) (hl : l < 48) : ((m ||| bt_l k) &&& bt_l l = 0) ↔ (m &&& bt_l l = 0 ∧ k ≠ l) := by
  rw [bt_get _ hl, bt_get _ hl]
  have e1 : (m ||| bt_l k).toBitVec = m.toBitVec ||| BitVec.twoPow 64 k := by rw [← bt_two k hk]; rfl
  rw [e1, BitVec.getLsbD_or, BitVec.getLsbD_twoPow, Bool.or_eq_false_iff]
  simp only [Bool.and_eq_false_iff, decide_eq_false_iff_not]
  constructor
  · rintro ⟨h1, h2 | h2⟩
    · omega
    · exact ⟨h1, h2⟩
  · rintro ⟨h1, h2⟩
    exact ⟨h1, Or.inr h2⟩
theorem bt_0 {l : Nat} (hl : l < 48) : (0 : Int64) &&& bt_l l = 0 := by rw [bt_get _ hl]; simp
theorem bt_one {k l : Nat} (hk : k < 48) (hl : l < 48) : (bt_l k &&& bt_l l = 0) ↔ k ≠ l := by
  rw [bt_get _ hl, bt_two k hk, BitVec.getLsbD_twoPow]
  simp only [Bool.and_eq_false_iff, decide_eq_false_iff_not]
  constructor
  · rintro (h | h)
    · omega
    · exact h
  · exact Or.inr
/-- units by node and lot in the flat row; the bits -/
def rw_U (f : Nat → Int64) (u : Nat → Nat → Nat) : Prop := ∀ i l, i < 48 → l < 48 → f (i * 48 + l) = lN (u i l)
def rw_B (f : Nat → Int64) (c : Nat → Nat → Bool) : Prop := ∀ i l, i < 48 → l < 48 → ((f i &&& bt_l l = 0) ↔ c i l = false)
def u2_up (u : Nat → Nat → Nat) (i l v : Nat) : Nat → Nat → Nat := fun a b => if a = i ∧ b = l then v else u a b
theorem u2_s {u : Nat → Nat → Nat} {i l v : Nat} : u2_up u i l v i l = v := by simp [u2_up]
theorem u2_n {u : Nat → Nat → Nat} {i l v a b : Nat} (h : ¬ (a = i ∧ b = l)) : u2_up u i l v a b = u a b := by simp [u2_up, h]
theorem rw_U.up {f : Nat → Int64} {u : Nat → Nat → Nat} (h : rw_U f u) {i l : Nat} (v : Nat) (hl : l < 48) : rw_U (vp_updL f (i * 48 + l) (lN v)) (u2_up u i l v) := by
  intro a b ha hb
  by_cases e : a = i ∧ b = l
  · obtain ⟨rfl, rfl⟩ := e; rw [pk_uLs, u2_s]
  · rw [pk_uLn (by omega), u2_n e]; exact h a b ha hb
def c2_up (c : Nat → Nat → Bool) (i l : Nat) : Nat → Nat → Bool := fun a b => if a = i ∧ b = l then true else c a b
theorem rw_B.up {f : Nat → Int64} {c : Nat → Nat → Bool} (h : rw_B f c) {i l : Nat} (hi : i < 48) (hl : l < 48) : rw_B (vp_updL f i (f i ||| bt_l l)) (c2_up c i l) := by
  intro a b ha hb
  by_cases e : a = i
  · subst e
    rw [pk_uLs, bt_or _ hl hb, h a b ha hb]
    by_cases e2 : b = l
    · subst e2; simp [c2_up]
    · simp [c2_up, e2, Ne.symm e2]
  · rw [pk_uLn e]
    simp only [c2_up, e, false_and, if_false]
    exact h a b ha hb
/-- a flow of a from fr to to, parted -/
def mv_p (n fr a : Nat) (u : Nat → Nat → Nat) : Nat → Nat := pt_f n (u fr) a (su_m (u fr) n)
def mv_u (n fr to a : Nat) (u : Nat → Nat → Nat) : Nat → Nat → Nat := fun i l => if l < n then (if i = fr then u i l - mv_p n fr a u l else if i = to then u i l + mv_p n fr a u l else u i l) else u i l
def mv_c (n fr to a : Nat) (u : Nat → Nat → Nat) (c : Nat → Nat → Bool) : Nat → Nat → Bool := fun i l => c i l || (decide (i = to) && (decide (l < n) && decide (0 < mv_p n fr a u l)))
/-- the small methods -/
theorem sp_unitsOf {post : Int64 → Prop} {pc : Int32} {f : Nat → Int64} {i l : Nat} (hi : i < 48) (hl : l < 48) (H : post (f (i * 48 + l))) : wp_X3_unitsOf post pc f (nI i) (nI l) := by
  unfold wp_X3_unitsOf
  rw [nq_ic]
  have := nq_lt48 hi hl
  exact ⟨vp_in_nI this (by omega), by rw [nI_clamp (by omega)]; exact H⟩
theorem sp_unitsIn {post : Int64 → Prop} {pc : Int32} {fc fw : Nat → Int64} {i : Nat} (hi : i < 48) (H : post (fc i - fw i)) : wp_X3_unitsIn post pc fc fw (nI i) := by
  unfold wp_X3_unitsIn
  exact ⟨vp_in_nI hi (by omega), vp_in_nI hi (by omega), by rw [nI_clamp (by omega)]; exact H⟩
theorem sp_reached {post : Int32 → Prop} {pc : Int32} {f : Nat → Int64} {c : Nat → Nat → Bool} {i l : Nat} (hi : i < 48) (hl : l < 48) (h : rw_B f c) (H : post (if c i l then 1 else 0)) : wp_X3_hasReached post pc f (nI l) (nI i) := by
  unfold wp_X3_hasReached
  rw [nI_clamp (show i < 2 ^ 31 by omega)]
  refine ⟨vp_in_nI hi (by omega), fun q => ?_, fun q => ?_⟩
  · rw [(h i l hi hl).mp q] at H; exact H
  · have : c i l = true := by
      cases e : c i l with
      | true => rfl
      | false => exact absurd ((h i l hi hl).mpr e) q
    rw [this] at H; exact H
theorem sp_fill {post : (Nat → Int64) → Prop} {n : Nat} {f : Nat → Int64} {v : Int64} (hn : n < 2 ^ 31) (H : ∀ g : Nat → Int64, (∀ j, j < n → g j = v) → post g) : wp_J7_fill_d0a16 post n f v := by
  unfold wp_J7_fill_d0a16
  intro x hx
  subst hx
  refine lo_up (fun k i s => wb_J7_fill_d0a16_6 post n k v (nI i) (Int32.ofNat n) s) (fun i s => ∀ j, j < i → s j = v) n ?_ ?_ 0 f (by omega) (fun j hj => by omega)
  · intro k s h
    exact ⟨fun _ => H s h, fun q => absurd (nI_le (Nat.le_refl n) hn) q⟩
  · intro k i s hi h ih
    refine ⟨fun q => absurd q (nI_ge hi hn), fun _ => ⟨vp_in_nI hi hn, fun g hg x hx => ?_⟩⟩
    subst hx
    rw [nI_1]
    refine ih g (fun j hj => ?_)
    rw [hg, nI_clamp (by omega)]
    by_cases e : j = i
    · subst e; rw [pk_uLs]
    · rw [pk_uLn e]; exact h j (by omega)
/-- rests as the class keeps them: those that were served stand as 0 -/
def rs_R (n : Nat) (f : Nat → Int64) (r : Nat → Int) : Prop := ∀ j, j < n → ∃ a : Nat, a < 2 ^ 62 ∧ f j = lN a ∧ (r j = (a : Int) ∨ (r j = -1 ∧ a = 0))
theorem sp_rest {post : Int32 → Prop} {n : Nat} {f : Nat → Int64} {r : Nat → Int} (h0 : 0 < n) (hn : n ≤ 48) (hR : rs_R n f r) (hp : 0 < ps_n r n) (H : post (nI (be_f r n))) : wp_X3_greatestRest post (nI n) f := by
  unfold wp_X3_greatestRest
  -- the place found so far: the greatest of the class's numbers, least place
  have key : ∃ k, wb_X3_greatestRest_4 post (nI n) f k (nI 0) (nI 1) := by
    refine lo_up (σ := Nat) (fun k i b => wb_X3_greatestRest_4 post (nI n) f k (nI b) (nI i)) (fun i b => b < i ∧ (∀ l, l < i → (f l).toInt ≤ (f b).toInt) ∧ ∀ l, l < b → (f l).toInt < (f b).toInt) n ?_ ?_ 1 0 (by omega) ⟨by omega, fun l hl => by rw [show l = 0 by omega]; exact Int.le_refl _, fun l hl => by omega⟩
    · intro k b hb
      refine ⟨fun _ => ?_, fun q => absurd (nI_le (Nat.le_refl n) (by omega)) q⟩
      obtain ⟨b1, b2, b3⟩ := hb
      have e : be_f r n = b := by
        obtain ⟨j, hj, hj2⟩ := su_c_pos hp
        have hj2 : 0 < r j := by simpa using hj2
        have val : ∀ l, l < n → ∃ a : Nat, (f l).toInt = (a : Int) ∧ (r l = (a : Int) ∨ (r l = -1 ∧ a = 0)) := fun l hl => by
          obtain ⟨a, ha, h1, h2⟩ := hR l hl
          exact ⟨a, by rw [h1]; exact pk_lT (by omega), h2⟩
        obtain ⟨aj, ej, oj⟩ := val j hj
        obtain ⟨ab, eb, ob⟩ := val b b1
        have m1 := b2 j hj
        have rb : r b = (ab : Int) := by
          rcases ob with h | ⟨h, h'⟩
          · exact h
          · rcases oj with g | ⟨g, g'⟩ <;> omega
        refine be_uniq r b1 (fun l hl => ?_) (fun l hl => ?_)
        · obtain ⟨al, el, ol⟩ := val l hl
          have := b2 l hl
          rcases ol with h | ⟨h, h'⟩ <;> omega
        · obtain ⟨al, el, ol⟩ := val l (by omega)
          have := b3 l hl
          rcases ol with h | ⟨h, h'⟩ <;> omega
      rw [e] at H
      exact H
    · intro k i b hi hb ih
      obtain ⟨b1, b2, b3⟩ := hb
      refine ⟨fun q => absurd q (nI_ge hi (by omega)), fun _ => ⟨vp_in_nI (by omega) (by omega), vp_in_nI (by omega) (by omega), ?_⟩⟩
      rw [nI_clamp (show b < 2 ^ 31 by omega), nI_clamp (show i < 2 ^ 31 by omega)]
      refine ⟨fun q x hx => ?_, fun q x hx => ?_⟩
      · subst hx
        rw [nI_1]
        refine ih b ⟨by omega, fun l hl => ?_, b3⟩
        have q2 : ¬ (f b).toInt < (f i).toInt := fun z => q (Int64.lt_iff_toInt_lt.mpr z)
        by_cases e : l = i
        · subst e; omega
        · exact b2 l (by omega)
      · subst hx
        rw [nI_1]
        have q2 := Int64.lt_iff_toInt_lt.mp q
        refine ih i ⟨by omega, fun l hl => ?_, fun l hl => ?_⟩
        · by_cases e : l = i
          · subst e; exact Int.le_refl _
          · have := b2 l (by omega); omega
        · have := b2 l (by omega); omega
  exact key
