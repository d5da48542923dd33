/-! PARTING: the greatest rest, units left over, one each -/
/-- the lesser place of the greatest number, as the loops look for it -/
def be_f (r : Nat → Int) : Nat → Nat
  | 0 => 0
  | k + 1 => if k = 0 then 0 else if r (be_f r k) < r k then k else be_f r k
theorem be_one (r : Nat → Int) : be_f r 1 = 0 := by simp [be_f]
theorem be_step (r : Nat → Int) {k : Nat} (h : 0 < k) : be_f r (k + 1) = if r (be_f r k) < r k then k else be_f r k := by
  rw [be_f, if_neg (by omega)]
theorem be_spec (r : Nat → Int) {n : Nat} (h : 0 < n) : be_f r n < n ∧ (∀ l, l < n → r l ≤ r (be_f r n)) ∧ ∀ l, l < be_f r n → r l < r (be_f r n) := by
  induction n with
  | zero => omega
  | succ n ih =>
    by_cases e : n = 0
    · subst e
      rw [be_one]
      refine ⟨by omega, fun l hl => ?_, fun l hl => by omega⟩
      have : l = 0 := by omega
      subst this; exact Int.le_refl _
    · obtain ⟨h1, h2, h3⟩ := ih (by omega)
      rw [be_step r (by omega)]
      by_cases c : r (be_f r n) < r n
      · rw [if_pos c]
        refine ⟨by omega, fun l hl => ?_, fun l hl => ?_⟩
        · by_cases e2 : l = n
          · subst e2; exact Int.le_refl _
          · have := h2 l (by omega); omega
        · have := h2 l (by omega); omega
      · rw [if_neg c]
        refine ⟨by omega, fun l hl => ?_, h3⟩
        by_cases e2 : l = n
        · subst e2; omega
        · exact h2 l (by omega)
theorem be_uniq (r : Nat → Int) {n b : Nat} (hb : b < n) (h1 : ∀ l, l < n → r l ≤ r b) (h2 : ∀ l, l < b → r l < r b) : be_f r n = b := by
  obtain ⟨g1, g2, g3⟩ := be_spec r (n := n) (by omega)
  have a1 := h1 _ g1
  have a2 := g2 _ hb
  rcases Nat.lt_trichotomy (be_f r n) b with h | h | h
  · have := h2 _ h; omega
  · exact h
  · have := g3 _ h; omega
/-- the serving: k units more, one each to the greatest rest, which is then spent -/
def sv_r (r : Nat → Int) (b : Nat) : Nat → Int := fun j => if j = b then -1 else r j
def sv_f (n : Nat) : Nat → (Nat → Nat) → (Nat → Int) → (Nat → Nat)
  | 0, p, _ => p
  | k + 1, p, r => sv_f n k (fu_up p (be_f r n) (p (be_f r n) + 1)) (sv_r r (be_f r n))
/-- what is parted: of lot l x l units of v; a are taken -/
def pt_fl (x : Nat → Nat) (a v : Nat) : Nat → Nat := fun l => x l * a / v
def pt_rs (x : Nat → Nat) (a v : Nat) : Nat → Int := fun l => ((x l * a % v : Nat) : Int)
def pt_ov (n : Nat) (x : Nat → Nat) (a v : Nat) : Nat := a - su_m (pt_fl x a v) n
def pt_f (n : Nat) (x : Nat → Nat) (a v : Nat) : Nat → Nat := sv_f n (pt_ov n x a v) (pt_fl x a v) (pt_rs x a v)
def ps_n (r : Nat → Int) (n : Nat) : Nat := su_c (fun j => decide (0 < r j)) n
theorem ps_best {r : Nat → Int} {n : Nat} (h : 0 < ps_n r n) : be_f r n < n ∧ 0 < r (be_f r n) := by
  obtain ⟨j, hj, hp⟩ := su_c_pos h
  obtain ⟨g1, g2, -⟩ := be_spec r (n := n) (by omega)
  have := g2 j hj
  have hp : 0 < r j := by simpa using hp
  exact ⟨g1, by omega⟩
theorem ps_drop {r : Nat → Int} {n b : Nat} (hb : b < n) (h : 0 < r b) : ps_n (sv_r r b) n + 1 = ps_n r n := by
  unfold ps_n
  refine su_c_drop hb (by simpa using h) (by simp [sv_r]) (fun j _ hj => by simp [sv_r, hj])
/-- the sum of what is served -/
theorem sv_sum (n : Nat) : ∀ (k : Nat) (p : Nat → Nat) (r : Nat → Int), k ≤ ps_n r n → su_m (sv_f n k p r) n = su_m p n + k := by
  intro k
  induction k with
  | zero => intro p r _; rfl
  | succ k ih =>
    intro p r h
    obtain ⟨b1, b2⟩ := ps_best (r := r) (n := n) (by omega)
    have d := ps_drop b1 b2
    rw [sv_f, ih _ _ (by omega)]
    have := su_up (f := p) (v := p (be_f r n) + 1) b1
    omega
/-- one lot gets at most one, and only if it has a rest -/
theorem sv_most (n : Nat) : ∀ (k : Nat) (p : Nat → Nat) (r : Nat → Int), k ≤ ps_n r n → ∀ l, l < n → sv_f n k p r l ≤ p l + (if 0 < r l then 1 else 0) := by
  intro k
  induction k with
  | zero => intro p r _ l _; rw [sv_f]; omega
  | succ k ih =>
    intro p r h l hl
    obtain ⟨b1, b2⟩ := ps_best (r := r) (n := n) (by omega)
    have d := ps_drop b1 b2
    have q := ih (fu_up p (be_f r n) (p (be_f r n) + 1)) (sv_r r (be_f r n)) (by omega) l hl
    rw [sv_f]
    by_cases e : l = be_f r n
    · rw [e] at q ⊢
      rw [fu_s] at q
      rw [if_pos b2]
      have z : ¬ (0 : Int) < sv_r r (be_f r n) (be_f r n) := by simp [sv_r]
      rw [if_neg z] at q
      omega
    · rw [fu_n e] at q
      have z : sv_r r (be_f r n) l = r l := by simp [sv_r, e]
      rw [z] at q
      exact q
theorem sv_least (n : Nat) : ∀ (k : Nat) (p : Nat → Nat) (r : Nat → Int) (l : Nat), p l ≤ sv_f n k p r l := by
  intro k
  induction k with
  | zero => intro p r l; exact Nat.le_refl _
  | succ k ih =>
    intro p r l
    have q := ih (fu_up p (be_f r n) (p (be_f r n) + 1)) (sv_r r (be_f r n)) l
    rw [sv_f]
    by_cases e : l = be_f r n
    · rw [e] at q ⊢; rw [fu_s] at q; omega
    · rw [fu_n e] at q; exact q
/-- the numbers of a parting -/
theorem pt_sums {n : Nat} {x : Nat → Nat} {a v : Nat} (hv : v = su_m x n) (h0 : 0 < v) (ha : a ≤ v) : su_m (pt_fl x a v) n ≤ a ∧ pt_ov n x a v ≤ ps_n (pt_rs x a v) n := by
  have key : ∀ k, su_m (fun l => x l * a) k = su_m (pt_fl x a v) k * v + su_m (fun l => x l * a % v) k := by
    intro k
    induction k with
    | zero => simp [su_m]
    | succ k ih =>
      simp only [su_m, ih, Nat.add_mul]
      have h1 := Nat.div_add_mod (x k * a) v
      have h2 : v * (x k * a / v) = pt_fl x a v k * v := by rw [pt_fl, Nat.mul_comm]
      omega
  have e1 : su_m (fun l => x l * a) n = v * a := by rw [su_mul, ← hv]
  have hk := key n
  rw [e1] at hk
  have h1 : su_m (pt_fl x a v) n ≤ a := by
    have q : su_m (pt_fl x a v) n * v ≤ a * v := by rw [Nat.mul_comm a v]; omega
    exact Nat.le_of_mul_le_mul_right q h0
  refine ⟨h1, ?_⟩
  have hr : ∀ k, su_m (fun l => x l * a % v) k ≤ ps_n (pt_rs x a v) k * v := by
    intro k
    induction k with
    | zero => simp [su_m]
    | succ k ih =>
      simp only [su_m, ps_n, su_c] at ih ⊢
      have hm : x k * a % v < v := Nat.mod_lt _ h0
      by_cases c : 0 < x k * a % v
      · have c2 : decide (0 < pt_rs x a v k) = true := decide_eq_true (show (0 : Int) < ((x k * a % v : Nat) : Int) from Int.natCast_pos.mpr c)
        rw [if_pos c2, Nat.add_mul]; omega
      · have c2 : ¬ decide (0 < pt_rs x a v k) = true := fun q => c (Int.natCast_pos.mp (show (0 : Int) < ((x k * a % v : Nat) : Int) from of_decide_eq_true q))
        rw [if_neg c2, Nat.add_zero]; omega
  have hrn := hr n
  unfold pt_ov
  have e2 : (a - su_m (pt_fl x a v) n) * v ≤ ps_n (pt_rs x a v) n * v := by
    rw [Nat.sub_mul, Nat.mul_comm a v]; omega
  exact Nat.le_of_mul_le_mul_right e2 h0
theorem pt_sum {n : Nat} {x : Nat → Nat} {a v : Nat} (hv : v = su_m x n) (h0 : 0 < v) (ha : a ≤ v) : su_m (pt_f n x a v) n = a := by
  obtain ⟨h1, h2⟩ := pt_sums hv h0 ha
  rw [pt_f, sv_sum n _ _ _ h2]
  unfold pt_ov; omega
theorem pt_le {n : Nat} {x : Nat → Nat} {a v : Nat} (hv : v = su_m x n) (h0 : 0 < v) (ha : a ≤ v) {l : Nat} (hl : l < n) : pt_f n x a v l ≤ x l := by
  obtain ⟨h1, h2⟩ := pt_sums hv h0 ha
  have q := sv_most n _ (pt_fl x a v) _ h2 l hl
  have hd : pt_fl x a v l ≤ x l := by
    show x l * a / v ≤ x l
    have : x l * a ≤ x l * v := Nat.mul_le_mul_left _ ha
    exact Nat.div_le_of_le_mul (by rw [Nat.mul_comm v]; exact this)
  by_cases c : (0 : Int) < pt_rs x a v l
  · rw [if_pos c] at q
    -- a rest is left: the whole part is less than x l
    have h3 : pt_fl x a v l < x l := by
      show x l * a / v < x l
      have hm := Nat.div_add_mod (x l * a) v
      have hp : 0 < x l * a % v := Int.natCast_pos.mp (show (0 : Int) < ((x l * a % v : Nat) : Int) from c)
      have hle : x l * a ≤ x l * v := Nat.mul_le_mul_left _ ha
      apply Nat.lt_of_mul_lt_mul_left (a := v)
      have e4 : v * x l = x l * v := Nat.mul_comm _ _
      omega
    unfold pt_f
    omega
  · rw [if_neg c] at q
    unfold pt_f
    omega
