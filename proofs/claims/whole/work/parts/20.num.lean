/-! NUMBERS AND SUMS: what the walks' predicates are read by -/
theorem nq_48 : (48 : Int32) = nI 48 := by decide +kernel
theorem nq_0l : (0 : Int64) = lN 0 := by decide +kernel
theorem nq_1l : (1 : Int64) = lN 1 := by decide +kernel
theorem nq_1 : (1 : Int32) = nI 1 := by decide +kernel
theorem nq_5 : (5 : Int32) = nI 5 := by decide +kernel
theorem nq_4 : (4 : Int32) = nI 4 := by decide +kernel
theorem nq_400 : (400 : Int32) = nI 400 := by decide +kernel
theorem nq_1000 : (1000 : Int32) = nI 1000 := by decide +kernel
theorem nq_ml : (1000000 : Int64) = lN 1000000 := by decide +kernel
theorem nq_dl : (100000 : Int64) = lN 100000 := by decide +kernel
theorem nq_ic (i l : Nat) : nI i * 48 + nI l = nI (i * 48 + l) := by rw [nq_48, pk_mul, nI_add]
theorem nq_ir (i l : Nat) : 48 * nI i + nI l = nI (48 * i + l) := by rw [nq_48, pk_mul, nI_add]
theorem nq_cc (i l : Nat) : 48 * i + l = i * 48 + l := by omega
theorem nq_lt48 {i l : Nat} (hi : i < 48) (hl : l < 48) : i * 48 + l < 2304 := by omega
theorem nq_pos {a : Nat} (h : a < 2 ^ 63) : (0 : Int64) < lN a ↔ 0 < a := by rw [nq_0l]; exact pk_lLT (by omega) h
theorem nq_m1 {n : Nat} (h : 0 < n) : nI n - 1 = nI (n - 1) := by rw [nq_1]; exact pk_sub h
theorem nq_mm {n : Nat} (h : 0 < n) : nI n + (-1) = nI (n - 1) := by
  obtain ⟨k, rfl⟩ : ∃ k, n = k + 1 := ⟨n - 1, by omega⟩
  exact pk_m1 k
theorem nq_lm1 {n : Nat} (h : 0 < n) : lN n - 1 = lN (n - 1) := by rw [nq_1l]; exact lN_sub h
theorem nq_neg1 (n : Nat) (h : n < 2 ^ 31) : ¬ nI n = (-1 : Int32) := by
  intro e
  have a := nI_toInt h
  rw [e] at a
  have b : (-1 : Int32).toInt = -1 := by decide +kernel
  omega
/-- a row of ints, of longs, that holds whole numbers -/
def rw_I (n : Nat) (f : Nat → Int32) (g : Nat → Nat) : Prop := ∀ j, j < n → f j = nI (g j)
def rw_J (n : Nat) (f : Nat → Int64) (g : Nat → Nat) : Prop := ∀ j, j < n → f j = lN (g j)
def fu_up (g : Nat → Nat) (k v : Nat) : Nat → Nat := fun j => if j = k then v else g j
theorem fu_s {g : Nat → Nat} {k v : Nat} : fu_up g k v k = v := by simp [fu_up]
theorem fu_n {g : Nat → Nat} {k v j : Nat} (h : j ≠ k) : fu_up g k v j = g j := by simp [fu_up, h]
theorem rw_I.up {n : Nat} {f : Nat → Int32} {g : Nat → Nat} (h : rw_I n f g) (k v : Nat) : rw_I n (upd f k (nI v)) (fu_up g k v) := by
  intro j hj
  by_cases e : j = k
  · subst e; rw [pk_us, fu_s]
  · rw [pk_un e, fu_n e]; exact h j hj
theorem rw_J.up {n : Nat} {f : Nat → Int64} {g : Nat → Nat} (h : rw_J n f g) (k v : Nat) : rw_J n (vp_updL f k (lN v)) (fu_up g k v) := by
  intro j hj
  by_cases e : j = k
  · subst e; rw [pk_uLs, fu_s]
  · rw [pk_uLn e, fu_n e]; exact h j hj
theorem rw_J.mono {n m : Nat} {f : Nat → Int64} {g : Nat → Nat} (h : rw_J n f g) (hm : m ≤ n) : rw_J m f g := fun j hj => h j (by omega)
theorem rw_I.mono {n m : Nat} {f : Nat → Int32} {g : Nat → Nat} (h : rw_I n f g) (hm : m ≤ n) : rw_I m f g := fun j hj => h j (by omega)
/-- a loop that counts up to e: by its predicate of the counter -/
theorem lo_up {σ : Type} (W : Nat → Nat → σ → Prop) (I : Nat → σ → Prop) (e : Nat) (hx : ∀ n s, I e s → W (n + 1) e s) (hs : ∀ n i s, i < e → I i s → (∀ s', I (i + 1) s' → W n (i + 1) s') → W (n + 1) i s) (i : Nat) (s : σ) (hi : i ≤ e) (h : I i s) : ∃ n, W n i s :=
  ⟨e - i + 1, loop_i W I e hx hs (e - i + 1) i s hi (by omega) h⟩
/-! sums -/
def su_m (f : Nat → Nat) : Nat → Nat
  | 0 => 0
  | k + 1 => su_m f k + f k
theorem su_congr {f g : Nat → Nat} {n : Nat} (h : ∀ j, j < n → f j = g j) : su_m f n = su_m g n := by
  induction n with
  | zero => rfl
  | succ n ih => rw [su_m, su_m, ih (fun j hj => h j (by omega)), h n (by omega)]
theorem su_add (f g : Nat → Nat) (n : Nat) : su_m (fun j => f j + g j) n = su_m f n + su_m g n := by
  induction n with
  | zero => rfl
  | succ n ih => simp only [su_m, ih]; omega
theorem su_le {f g : Nat → Nat} {n : Nat} (h : ∀ j, j < n → f j ≤ g j) : su_m f n ≤ su_m g n := by
  induction n with
  | zero => exact Nat.le_refl _
  | succ n ih =>
    have a := ih (fun j hj => h j (by omega))
    have b := h n (by omega)
    simp only [su_m]; omega
theorem su_at {f : Nat → Nat} {n j : Nat} (h : j < n) : f j ≤ su_m f n := by
  induction n with
  | zero => omega
  | succ n ih =>
    simp only [su_m]
    by_cases e : j = n
    · subst e; omega
    · have := ih (by omega); omega
theorem su_zero {f : Nat → Nat} {n : Nat} (h : ∀ j, j < n → f j = 0) : su_m f n = 0 := by
  induction n with
  | zero => rfl
  | succ n ih => rw [su_m, ih (fun j hj => h j (by omega)), h n (by omega)]
theorem su_up {f : Nat → Nat} {n k v : Nat} (hk : k < n) : su_m (fu_up f k v) n + f k = su_m f n + v := by
  induction n with
  | zero => omega
  | succ n ih =>
    simp only [su_m]
    by_cases e : k = n
    · subst e
      rw [fu_s, su_congr (g := f) (fun j hj => fu_n (by omega))]; omega
    · rw [fu_n (by omega)]
      have := ih (by omega); omega
theorem su_sub {f g : Nat → Nat} {n : Nat} (h : ∀ j, j < n → g j ≤ f j) : su_m (fun j => f j - g j) n + su_m g n = su_m f n := by
  induction n with
  | zero => rfl
  | succ n ih =>
    have a := ih (fun j hj => h j (by omega))
    have b := h n (by omega)
    simp only [su_m]; omega
theorem su_mul (f : Nat → Nat) (c n : Nat) : su_m (fun j => f j * c) n = su_m f n * c := by
  induction n with
  | zero => simp [su_m]
  | succ n ih => simp only [su_m, ih, Nat.add_mul]
/-- how many places below n have p -/
def su_c (p : Nat → Bool) : Nat → Nat
  | 0 => 0
  | k + 1 => su_c p k + (if p k then 1 else 0)
theorem su_c_congr {p q : Nat → Bool} {n : Nat} (h : ∀ j, j < n → p j = q j) : su_c p n = su_c q n := by
  induction n with
  | zero => rfl
  | succ n ih => rw [su_c, su_c, ih (fun j hj => h j (by omega)), h n (by omega)]
theorem su_c_pos {p : Nat → Bool} {n : Nat} (h : 0 < su_c p n) : ∃ j, j < n ∧ p j = true := by
  induction n with
  | zero => simp [su_c] at h
  | succ n ih =>
    by_cases e : p n = true
    · exact ⟨n, by omega, e⟩
    · rw [su_c, if_neg e] at h
      obtain ⟨j, h1, h2⟩ := ih (by omega)
      exact ⟨j, by omega, h2⟩
theorem su_c_le (p : Nat → Bool) (n : Nat) : su_c p n ≤ n := by
  induction n with
  | zero => exact Nat.le_refl _
  | succ n ih => rw [su_c]; split <;> omega
/-- one place fewer -/
theorem su_c_drop {p q : Nat → Bool} {n k : Nat} (hk : k < n) (hp : p k = true) (hq : q k = false) (h : ∀ j, j < n → j ≠ k → q j = p j) : su_c q n + 1 = su_c p n := by
  induction n with
  | zero => omega
  | succ n ih =>
    rw [su_c, su_c]
    by_cases e : k = n
    · subst e
      rw [su_c_congr (q := p) (fun j hj => h j (by omega) (by omega)), hp, hq]; simp
    · have a := ih (by omega) (fun j hj hjk => h j (by omega) hjk)
      rw [h n (by omega) (by omega)]; omega
