/-! NUMBERS AND SUMS: what the walks' predicates are read by -/
theorem nq_48 : (48 : Int32) = nI 48 := by decide +kernel
theorem nq_0l : (0 : Int64) = lN 0 := by decide +kernel
theorem nq_1l : (1 : Int64) = lN 1 := by decide +kernel
theorem nq_1 : (1 : Int32) = nI 1 := by decide +kernel
theorem nq_5 : (5 : Int32) = nI 5 := by decide +kernel
theorem nq_4 : (4 : Int32) = nI 4 := by decide +kernel
theorem nq_400 : (400 : Int32) = nI 400 := by decide +kernel
theorem nq_1000 : (1000 : Int32) = nI 1000 := by decide +kernel
theorem nq_ml : (1000000 : Int64) = lN 1000000 := by decide +kernel
theorem nq_dl : (100000 : Int64) = lN 100000 := by decide +kernel
theorem nq_ic (i l : Nat) : nI i * 48 + nI l = nI (i * 48 + l) := by rw [nq_48, pk_mul, nI_add]
theorem nq_ir (i l : Nat) : 48 * nI i + nI l = nI (48 * i + l) := by rw [nq_48, pk_mul, nI_add]
theorem nq_cc (i l : Nat) : 48 * i + l = i * 48 + l := by omega
theorem nq_lt48 {i l : Nat} (hi : i < 48) (hl : l < 48) : i * 48 + l < 2304 := by omega
theorem nq_pos {a : Nat} (h : a < 2 ^ 63) : (0 : Int64) < lN a ↔ 0 < a := by rw [nq_0l]; exact pk_lLT (by omega) h
theorem nq_m1 {n : Nat} (h : 0 < n) : nI n - 1 = nI (n - 1) := by rw [nq_1]; exact pk_sub h
theorem nq_mm {n : Nat} (h : 0 < n) : nI n + (-1) = nI (n - 1) := by
  obtain ⟨k, rfl⟩ : ∃ k, n = k + 1 := ⟨n - 1, by omega⟩
  exact pk_m1 k
theorem nq_lm1 {n : Nat} (h : 0 < n) : lN n - 1 = lN (n - 1) := by rw [nq_1l]; exact lN_sub h
theorem nq_neg1 (n : Nat) (h : n < 2 ^ 31) : ¬ nI n = (-1 : Int32) := by
  intro e
  have a := nI_toInt h
  rw [e] at a
  have b : (-1 : Int32).toInt = -1 := by decide +kernel
  omega
/-- a row of ints, of longs, that holds whole numbers -/
def rw_I (n : Nat) (f : Nat → Int32) (g : Nat → Nat) : Prop := ∀ j, j < n → f j = nI (g j)
def rw_J (n : Nat) (f : Nat → Int64) (g : Nat → Nat) : Prop := ∀ j, j < n → f j = lN (g j)
def fu_up (g : Nat → Nat) (k v : Nat) : Nat → Nat := fun j => if j = k then v else g j
theorem fu_s {g : Nat → Nat} {k v : Nat} : fu_up g k v k = v := by simp [fu_up]
theorem fu_n {g : Nat → Nat} {k v j : Nat} (h : j ≠ k) : fu_up g k v j = g j := by simp [fu_up, h]
theorem rw_I.up {n : Nat} {f : Nat → Int32} {g : Nat → Nat} (h : rw_I n f g) (k v : Nat) : rw_I n (upd f k (nI v)) (fu_up g k v) := by
  intro j hj
  by_cases e : j = k
  · subst e; rw [pk_us, fu_s]
  · rw [pk_un e, fu_n e]; exact h j hj
theorem rw_J.up {n : Nat} {f : Nat → Int64} {g : Nat → Nat} (h : rw_J n f g) (k v : Nat) : rw_J n (vp_updL f k (lN v)) (fu_up g k v) := by
  intro j hj
  by_cases e : j = k
  · subst e; rw [pk_uLs, fu_s]
  · rw [pk_uLn e, fu_n e]; exact h j hj
theorem rw_J.mono {n m : Nat} {f : Nat → Int64} {g : Nat → Nat} (h : rw_J n f g) (hm : m ≤ n) : rw_J m f g := fun j hj => h j (by omega)
theorem rw_I.mono {n m : Nat} {f : Nat → Int32} {g : Nat → Nat} (h : rw_I n f g) (hm : m ≤ n) : rw_I m f g := fun j hj => h j (by omega)
/-- a loop that counts up to e: by its predicate of the counter -/
theorem lo_up {σ : Type} (W : Nat → Nat → σ → Prop) (I : Nat → σ → Prop) (e : Nat) (hx : ∀ n s, I e s → W (n + 1) e s) (hs : ∀ n i s, i < e → I i s → (∀ s', I (i + 1) s' → W n (i + 1) s') → W (n + 1) i s) (i : Nat) (s : σ) (hi : i ≤ e) (h : I i s) : ∃ n, W n i s :=
  ⟨e - i + 1, loop_i W I e hx hs (e - i + 1) i s hi (by omega) h⟩
theorem lo_u1 {A1 : Type} (W : Nat → Nat → A1 → Prop) (I : Nat → A1 → Prop) (e : Nat) (hx : ∀ n a1, I e a1 → W (n + 1) e a1) (hs : ∀ n i a1, i < e → I i a1 → (∀ b1, I (i + 1) b1 → W n (i + 1) b1) → W (n + 1) i a1) (i : Nat) (a1 : A1) (hi : i ≤ e) (h : I i a1) : ∃ n, W n i a1 :=
  lo_up (σ := A1) (fun n i s => W n i s) (fun i s => I i s) e (fun n s h => hx n s h) (fun n i s hi h k => hs n i s hi h (fun b1 hb => k b1 hb)) i a1 hi h
theorem lo_u2 {A1 A2 : Type} (W : Nat → Nat → A1 → A2 → Prop) (I : Nat → A1 → A2 → Prop) (e : Nat) (hx : ∀ n a1 a2, I e a1 a2 → W (n + 1) e a1 a2) (hs : ∀ n i a1 a2, i < e → I i a1 a2 → (∀ b1 b2, I (i + 1) b1 b2 → W n (i + 1) b1 b2) → W (n + 1) i a1 a2) (i : Nat) (a1 : A1) (a2 : A2) (hi : i ≤ e) (h : I i a1 a2) : ∃ n, W n i a1 a2 :=
  lo_up (σ := A1 × A2) (fun n i s => W n i s.1 s.2) (fun i s => I i s.1 s.2) e (fun n s h => hx n s.1 s.2 h) (fun n i s hi h k => hs n i s.1 s.2 hi h (fun b1 b2 hb => k (b1, b2) hb)) i (a1, a2) hi h
theorem lo_u3 {A1 A2 A3 : Type} (W : Nat → Nat → A1 → A2 → A3 → Prop) (I : Nat → A1 → A2 → A3 → Prop) (e : Nat) (hx : ∀ n a1 a2 a3, I e a1 a2 a3 → W (n + 1) e a1 a2 a3) (hs : ∀ n i a1 a2 a3, i < e → I i a1 a2 a3 → (∀ b1 b2 b3, I (i + 1) b1 b2 b3 → W n (i + 1) b1 b2 b3) → W (n + 1) i a1 a2 a3) (i : Nat) (a1 : A1) (a2 : A2) (a3 : A3) (hi : i ≤ e) (h : I i a1 a2 a3) : ∃ n, W n i a1 a2 a3 :=
  lo_up (σ := A1 × A2 × A3) (fun n i s => W n i s.1 s.2.1 s.2.2) (fun i s => I i s.1 s.2.1 s.2.2) e (fun n s h => hx n s.1 s.2.1 s.2.2 h) (fun n i s hi h k => hs n i s.1 s.2.1 s.2.2 hi h (fun b1 b2 b3 hb => k (b1, b2, b3) hb)) i (a1, a2, a3) hi h
theorem lo_u4 {A1 A2 A3 A4 : Type} (W : Nat → Nat → A1 → A2 → A3 → A4 → Prop) (I : Nat → A1 → A2 → A3 → A4 → Prop) (e : Nat) (hx : ∀ n a1 a2 a3 a4, I e a1 a2 a3 a4 → W (n + 1) e a1 a2 a3 a4) (hs : ∀ n i a1 a2 a3 a4, i < e → I i a1 a2 a3 a4 → (∀ b1 b2 b3 b4, I (i + 1) b1 b2 b3 b4 → W n (i + 1) b1 b2 b3 b4) → W (n + 1) i a1 a2 a3 a4) (i : Nat) (a1 : A1) (a2 : A2) (a3 : A3) (a4 : A4) (hi : i ≤ e) (h : I i a1 a2 a3 a4) : ∃ n, W n i a1 a2 a3 a4 :=
  lo_up (σ := A1 × A2 × A3 × A4) (fun n i s => W n i s.1 s.2.1 s.2.2.1 s.2.2.2) (fun i s => I i s.1 s.2.1 s.2.2.1 s.2.2.2) e (fun n s h => hx n s.1 s.2.1 s.2.2.1 s.2.2.2 h) (fun n i s hi h k => hs n i s.1 s.2.1 s.2.2.1 s.2.2.2 hi h (fun b1 b2 b3 b4 hb => k (b1, b2, b3, b4) hb)) i (a1, a2, a3, a4) hi h
theorem lo_u5 {A1 A2 A3 A4 A5 : Type} (W : Nat → Nat → A1 → A2 → A3 → A4 → A5 → Prop) (I : Nat → A1 → A2 → A3 → A4 → A5 → Prop) (e : Nat) (hx : ∀ n a1 a2 a3 a4 a5, I e a1 a2 a3 a4 a5 → W (n + 1) e a1 a2 a3 a4 a5) (hs : ∀ n i a1 a2 a3 a4 a5, i < e → I i a1 a2 a3 a4 a5 → (∀ b1 b2 b3 b4 b5, I (i + 1) b1 b2 b3 b4 b5 → W n (i + 1) b1 b2 b3 b4 b5) → W (n + 1) i a1 a2 a3 a4 a5) (i : Nat) (a1 : A1) (a2 : A2) (a3 : A3) (a4 : A4) (a5 : A5) (hi : i ≤ e) (h : I i a1 a2 a3 a4 a5) : ∃ n, W n i a1 a2 a3 a4 a5 :=
  lo_up (σ := A1 × A2 × A3 × A4 × A5) (fun n i s => W n i s.1 s.2.1 s.2.2.1 s.2.2.2.1 s.2.2.2.2) (fun i s => I i s.1 s.2.1 s.2.2.1 s.2.2.2.1 s.2.2.2.2) e (fun n s h => hx n s.1 s.2.1 s.2.2.1 s.2.2.2.1 s.2.2.2.2 h) (fun n i s hi h k => hs n i s.1 s.2.1 s.2.2.1 s.2.2.2.1 s.2.2.2.2 hi h (fun b1 b2 b3 b4 b5 hb => k (b1, b2, b3, b4, b5) hb)) i (a1, a2, a3, a4, a5) hi h
theorem lo_u6 {A1 A2 A3 A4 A5 A6 : Type} (W : Nat → Nat → A1 → A2 → A3 → A4 → A5 → A6 → Prop) (I : Nat → A1 → A2 → A3 → A4 → A5 → A6 → Prop) (e : Nat) (hx : ∀ n a1 a2 a3 a4 a5 a6, I e a1 a2 a3 a4 a5 a6 → W (n + 1) e a1 a2 a3 a4 a5 a6) (hs : ∀ n i a1 a2 a3 a4 a5 a6, i < e → I i a1 a2 a3 a4 a5 a6 → (∀ b1 b2 b3 b4 b5 b6, I (i + 1) b1 b2 b3 b4 b5 b6 → W n (i + 1) b1 b2 b3 b4 b5 b6) → W (n + 1) i a1 a2 a3 a4 a5 a6) (i : Nat) (a1 : A1) (a2 : A2) (a3 : A3) (a4 : A4) (a5 : A5) (a6 : A6) (hi : i ≤ e) (h : I i a1 a2 a3 a4 a5 a6) : ∃ n, W n i a1 a2 a3 a4 a5 a6 :=
  lo_up (σ := A1 × A2 × A3 × A4 × A5 × A6) (fun n i s => W n i s.1 s.2.1 s.2.2.1 s.2.2.2.1 s.2.2.2.2.1 s.2.2.2.2.2) (fun i s => I i s.1 s.2.1 s.2.2.1 s.2.2.2.1 s.2.2.2.2.1 s.2.2.2.2.2) e (fun n s h => hx n s.1 s.2.1 s.2.2.1 s.2.2.2.1 s.2.2.2.2.1 s.2.2.2.2.2 h) (fun n i s hi h k => hs n i s.1 s.2.1 s.2.2.1 s.2.2.2.1 s.2.2.2.2.1 s.2.2.2.2.2 hi h (fun b1 b2 b3 b4 b5 b6 hb => k (b1, b2, b3, b4, b5, b6) hb)) i (a1, a2, a3, a4, a5, a6) hi h
theorem lo_u7 {A1 A2 A3 A4 A5 A6 A7 : Type} (W : Nat → Nat → A1 → A2 → A3 → A4 → A5 → A6 → A7 → Prop) (I : Nat → A1 → A2 → A3 → A4 → A5 → A6 → A7 → Prop) (e : Nat) (hx : ∀ n a1 a2 a3 a4 a5 a6 a7, I e a1 a2 a3 a4 a5 a6 a7 → W (n + 1) e a1 a2 a3 a4 a5 a6 a7) (hs : ∀ n i a1 a2 a3 a4 a5 a6 a7, i < e → I i a1 a2 a3 a4 a5 a6 a7 → (∀ b1 b2 b3 b4 b5 b6 b7, I (i + 1) b1 b2 b3 b4 b5 b6 b7 → W n (i + 1) b1 b2 b3 b4 b5 b6 b7) → W (n + 1) i a1 a2 a3 a4 a5 a6 a7) (i : Nat) (a1 : A1) (a2 : A2) (a3 : A3) (a4 : A4) (a5 : A5) (a6 : A6) (a7 : A7) (hi : i ≤ e) (h : I i a1 a2 a3 a4 a5 a6 a7) : ∃ n, W n i a1 a2 a3 a4 a5 a6 a7 :=
  lo_up (σ := A1 × A2 × A3 × A4 × A5 × A6 × A7) (fun n i s => W n i s.1 s.2.1 s.2.2.1 s.2.2.2.1 s.2.2.2.2.1 s.2.2.2.2.2.1 s.2.2.2.2.2.2) (fun i s => I i s.1 s.2.1 s.2.2.1 s.2.2.2.1 s.2.2.2.2.1 s.2.2.2.2.2.1 s.2.2.2.2.2.2) e (fun n s h => hx n s.1 s.2.1 s.2.2.1 s.2.2.2.1 s.2.2.2.2.1 s.2.2.2.2.2.1 s.2.2.2.2.2.2 h) (fun n i s hi h k => hs n i s.1 s.2.1 s.2.2.1 s.2.2.2.1 s.2.2.2.2.1 s.2.2.2.2.2.1 s.2.2.2.2.2.2 hi h (fun b1 b2 b3 b4 b5 b6 b7 hb => k (b1, b2, b3, b4, b5, b6, b7) hb)) i (a1, a2, a3, a4, a5, a6, a7) hi h
theorem lo_u8 {A1 A2 A3 A4 A5 A6 A7 A8 : Type} (W : Nat → Nat → A1 → A2 → A3 → A4 → A5 → A6 → A7 → A8 → Prop) (I : Nat → A1 → A2 → A3 → A4 → A5 → A6 → A7 → A8 → Prop) (e : Nat) (hx : ∀ n a1 a2 a3 a4 a5 a6 a7 a8, I e a1 a2 a3 a4 a5 a6 a7 a8 → W (n + 1) e a1 a2 a3 a4 a5 a6 a7 a8) (hs : ∀ n i a1 a2 a3 a4 a5 a6 a7 a8, i < e → I i a1 a2 a3 a4 a5 a6 a7 a8 → (∀ b1 b2 b3 b4 b5 b6 b7 b8, I (i + 1) b1 b2 b3 b4 b5 b6 b7 b8 → W n (i + 1) b1 b2 b3 b4 b5 b6 b7 b8) → W (n + 1) i a1 a2 a3 a4 a5 a6 a7 a8) (i : Nat) (a1 : A1) (a2 : A2) (a3 : A3) (a4 : A4) (a5 : A5) (a6 : A6) (a7 : A7) (a8 : A8) (hi : i ≤ e) (h : I i a1 a2 a3 a4 a5 a6 a7 a8) : ∃ n, W n i a1 a2 a3 a4 a5 a6 a7 a8 :=
  lo_up (σ := A1 × A2 × A3 × A4 × A5 × A6 × A7 × A8) (fun n i s => W n i s.1 s.2.1 s.2.2.1 s.2.2.2.1 s.2.2.2.2.1 s.2.2.2.2.2.1 s.2.2.2.2.2.2.1 s.2.2.2.2.2.2.2) (fun i s => I i s.1 s.2.1 s.2.2.1 s.2.2.2.1 s.2.2.2.2.1 s.2.2.2.2.2.1 s.2.2.2.2.2.2.1 s.2.2.2.2.2.2.2) e (fun n s h => hx n s.1 s.2.1 s.2.2.1 s.2.2.2.1 s.2.2.2.2.1 s.2.2.2.2.2.1 s.2.2.2.2.2.2.1 s.2.2.2.2.2.2.2 h) (fun n i s hi h k => hs n i s.1 s.2.1 s.2.2.1 s.2.2.2.1 s.2.2.2.2.1 s.2.2.2.2.2.1 s.2.2.2.2.2.2.1 s.2.2.2.2.2.2.2 hi h (fun b1 b2 b3 b4 b5 b6 b7 b8 hb => k (b1, b2, b3, b4, b5, b6, b7, b8) hb)) i (a1, a2, a3, a4, a5, a6, a7, a8) hi h
theorem lo_u9 {A1 A2 A3 A4 A5 A6 A7 A8 A9 : Type} (W : Nat → Nat → A1 → A2 → A3 → A4 → A5 → A6 → A7 → A8 → A9 → Prop) (I : Nat → A1 → A2 → A3 → A4 → A5 → A6 → A7 → A8 → A9 → Prop) (e : Nat) (hx : ∀ n a1 a2 a3 a4 a5 a6 a7 a8 a9, I e a1 a2 a3 a4 a5 a6 a7 a8 a9 → W (n + 1) e a1 a2 a3 a4 a5 a6 a7 a8 a9) (hs : ∀ n i a1 a2 a3 a4 a5 a6 a7 a8 a9, i < e → I i a1 a2 a3 a4 a5 a6 a7 a8 a9 → (∀ b1 b2 b3 b4 b5 b6 b7 b8 b9, I (i + 1) b1 b2 b3 b4 b5 b6 b7 b8 b9 → W n (i + 1) b1 b2 b3 b4 b5 b6 b7 b8 b9) → W (n + 1) i a1 a2 a3 a4 a5 a6 a7 a8 a9) (i : Nat) (a1 : A1) (a2 : A2) (a3 : A3) (a4 : A4) (a5 : A5) (a6 : A6) (a7 : A7) (a8 : A8) (a9 : A9) (hi : i ≤ e) (h : I i a1 a2 a3 a4 a5 a6 a7 a8 a9) : ∃ n, W n i a1 a2 a3 a4 a5 a6 a7 a8 a9 :=
  lo_up (σ := A1 × A2 × A3 × A4 × A5 × A6 × A7 × A8 × A9) (fun n i s => W n i s.1 s.2.1 s.2.2.1 s.2.2.2.1 s.2.2.2.2.1 s.2.2.2.2.2.1 s.2.2.2.2.2.2.1 s.2.2.2.2.2.2.2.1 s.2.2.2.2.2.2.2.2) (fun i s => I i s.1 s.2.1 s.2.2.1 s.2.2.2.1 s.2.2.2.2.1 s.2.2.2.2.2.1 s.2.2.2.2.2.2.1 s.2.2.2.2.2.2.2.1 s.2.2.2.2.2.2.2.2) e (fun n s h => hx n s.1 s.2.1 s.2.2.1 s.2.2.2.1 s.2.2.2.2.1 s.2.2.2.2.2.1 s.2.2.2.2.2.2.1 s.2.2.2.2.2.2.2.1 s.2.2.2.2.2.2.2.2 h) (fun n i s hi h k => hs n i s.1 s.2.1 s.2.2.1 s.2.2.2.1 s.2.2.2.2.1 s.2.2.2.2.2.1 s.2.2.2.2.2.2.1 s.2.2.2.2.2.2.2.1 s.2.2.2.2.2.2.2.2 hi h (fun b1 b2 b3 b4 b5 b6 b7 b8 b9 hb => k (b1, b2, b3, b4, b5, b6, b7, b8, b9) hb)) i (a1, a2, a3, a4, a5, a6, a7, a8, a9) hi h
theorem lo_u10 {A1 A2 A3 A4 A5 A6 A7 A8 A9 A10 : Type} (W : Nat → Nat → A1 → A2 → A3 → A4 → A5 → A6 → A7 → A8 → A9 → A10 → Prop) (I : Nat → A1 → A2 → A3 → A4 → A5 → A6 → A7 → A8 → A9 → A10 → Prop) (e : Nat) (hx : ∀ n a1 a2 a3 a4 a5 a6 a7 a8 a9 a10, I e a1 a2 a3 a4 a5 a6 a7 a8 a9 a10 → W (n + 1) e a1 a2 a3 a4 a5 a6 a7 a8 a9 a10) (hs : ∀ n i a1 a2 a3 a4 a5 a6 a7 a8 a9 a10, i < e → I i a1 a2 a3 a4 a5 a6 a7 a8 a9 a10 → (∀ b1 b2 b3 b4 b5 b6 b7 b8 b9 b10, I (i + 1) b1 b2 b3 b4 b5 b6 b7 b8 b9 b10 → W n (i + 1) b1 b2 b3 b4 b5 b6 b7 b8 b9 b10) → W (n + 1) i a1 a2 a3 a4 a5 a6 a7 a8 a9 a10) (i : Nat) (a1 : A1) (a2 : A2) (a3 : A3) (a4 : A4) (a5 : A5) (a6 : A6) (a7 : A7) (a8 : A8) (a9 : A9) (a10 : A10) (hi : i ≤ e) (h : I i a1 a2 a3 a4 a5 a6 a7 a8 a9 a10) : ∃ n, W n i a1 a2 a3 a4 a5 a6 a7 a8 a9 a10 :=
  lo_up (σ := A1 × A2 × A3 × A4 × A5 × A6 × A7 × A8 × A9 × A10) (fun n i s => W n i s.1 s.2.1 s.2.2.1 s.2.2.2.1 s.2.2.2.2.1 s.2.2.2.2.2.1 s.2.2.2.2.2.2.1 s.2.2.2.2.2.2.2.1 s.2.2.2.2.2.2.2.2.1 s.2.2.2.2.2.2.2.2.2) (fun i s => I i s.1 s.2.1 s.2.2.1 s.2.2.2.1 s.2.2.2.2.1 s.2.2.2.2.2.1 s.2.2.2.2.2.2.1 s.2.2.2.2.2.2.2.1 s.2.2.2.2.2.2.2.2.1 s.2.2.2.2.2.2.2.2.2) e (fun n s h => hx n s.1 s.2.1 s.2.2.1 s.2.2.2.1 s.2.2.2.2.1 s.2.2.2.2.2.1 s.2.2.2.2.2.2.1 s.2.2.2.2.2.2.2.1 s.2.2.2.2.2.2.2.2.1 s.2.2.2.2.2.2.2.2.2 h) (fun n i s hi h k => hs n i s.1 s.2.1 s.2.2.1 s.2.2.2.1 s.2.2.2.2.1 s.2.2.2.2.2.1 s.2.2.2.2.2.2.1 s.2.2.2.2.2.2.2.1 s.2.2.2.2.2.2.2.2.1 s.2.2.2.2.2.2.2.2.2 hi h (fun b1 b2 b3 b4 b5 b6 b7 b8 b9 b10 hb => k (b1, b2, b3, b4, b5, b6, b7, b8, b9, b10) hb)) i (a1, a2, a3, a4, a5, a6, a7, a8, a9, a10) hi h
theorem lo_u11 {A1 A2 A3 A4 A5 A6 A7 A8 A9 A10 A11 : Type} (W : Nat → Nat → A1 → A2 → A3 → A4 → A5 → A6 → A7 → A8 → A9 → A10 → A11 → Prop) (I : Nat → A1 → A2 → A3 → A4 → A5 → A6 → A7 → A8 → A9 → A10 → A11 → Prop) (e : Nat) (hx : ∀ n a1 a2 a3 a4 a5 a6 a7 a8 a9 a10 a11, I e a1 a2 a3 a4 a5 a6 a7 a8 a9 a10 a11 → W (n + 1) e a1 a2 a3 a4 a5 a6 a7 a8 a9 a10 a11) (hs : ∀ n i a1 a2 a3 a4 a5 a6 a7 a8 a9 a10 a11, i < e → I i a1 a2 a3 a4 a5 a6 a7 a8 a9 a10 a11 → (∀ b1 b2 b3 b4 b5 b6 b7 b8 b9 b10 b11, I (i + 1) b1 b2 b3 b4 b5 b6 b7 b8 b9 b10 b11 → W n (i + 1) b1 b2 b3 b4 b5 b6 b7 b8 b9 b10 b11) → W (n + 1) i a1 a2 a3 a4 a5 a6 a7 a8 a9 a10 a11) (i : Nat) (a1 : A1) (a2 : A2) (a3 : A3) (a4 : A4) (a5 : A5) (a6 : A6) (a7 : A7) (a8 : A8) (a9 : A9) (a10 : A10) (a11 : A11) (hi : i ≤ e) (h : I i a1 a2 a3 a4 a5 a6 a7 a8 a9 a10 a11) : ∃ n, W n i a1 a2 a3 a4 a5 a6 a7 a8 a9 a10 a11 :=
  lo_up (σ := A1 × A2 × A3 × A4 × A5 × A6 × A7 × A8 × A9 × A10 × A11) (fun n i s => W n i s.1 s.2.1 s.2.2.1 s.2.2.2.1 s.2.2.2.2.1 s.2.2.2.2.2.1 s.2.2.2.2.2.2.1 s.2.2.2.2.2.2.2.1 s.2.2.2.2.2.2.2.2.1 s.2.2.2.2.2.2.2.2.2.1 s.2.2.2.2.2.2.2.2.2.2) (fun i s => I i s.1 s.2.1 s.2.2.1 s.2.2.2.1 s.2.2.2.2.1 s.2.2.2.2.2.1 s.2.2.2.2.2.2.1 s.2.2.2.2.2.2.2.1 s.2.2.2.2.2.2.2.2.1 s.2.2.2.2.2.2.2.2.2.1 s.2.2.2.2.2.2.2.2.2.2) e (fun n s h => hx n s.1 s.2.1 s.2.2.1 s.2.2.2.1 s.2.2.2.2.1 s.2.2.2.2.2.1 s.2.2.2.2.2.2.1 s.2.2.2.2.2.2.2.1 s.2.2.2.2.2.2.2.2.1 s.2.2.2.2.2.2.2.2.2.1 s.2.2.2.2.2.2.2.2.2.2 h) (fun n i s hi h k => hs n i s.1 s.2.1 s.2.2.1 s.2.2.2.1 s.2.2.2.2.1 s.2.2.2.2.2.1 s.2.2.2.2.2.2.1 s.2.2.2.2.2.2.2.1 s.2.2.2.2.2.2.2.2.1 s.2.2.2.2.2.2.2.2.2.1 s.2.2.2.2.2.2.2.2.2.2 hi h (fun b1 b2 b3 b4 b5 b6 b7 b8 b9 b10 b11 hb => k (b1, b2, b3, b4, b5, b6, b7, b8, b9, b10, b11) hb)) i (a1, a2, a3, a4, a5, a6, a7, a8, a9, a10, a11) hi h
theorem lo_u12 {A1 A2 A3 A4 A5 A6 A7 A8 A9 A10 A11 A12 : Type} (W : Nat → Nat → A1 → A2 → A3 → A4 → A5 → A6 → A7 → A8 → A9 → A10 → A11 → A12 → Prop) (I : Nat → A1 → A2 → A3 → A4 → A5 → A6 → A7 → A8 → A9 → A10 → A11 → A12 → Prop) (e : Nat) (hx : ∀ n a1 a2 a3 a4 a5 a6 a7 a8 a9 a10 a11 a12, I e a1 a2 a3 a4 a5 a6 a7 a8 a9 a10 a11 a12 → W (n + 1) e a1 a2 a3 a4 a5 a6 a7 a8 a9 a10 a11 a12) (hs : ∀ n i a1 a2 a3 a4 a5 a6 a7 a8 a9 a10 a11 a12, i < e → I i a1 a2 a3 a4 a5 a6 a7 a8 a9 a10 a11 a12 → (∀ b1 b2 b3 b4 b5 b6 b7 b8 b9 b10 b11 b12, I (i + 1) b1 b2 b3 b4 b5 b6 b7 b8 b9 b10 b11 b12 → W n (i + 1) b1 b2 b3 b4 b5 b6 b7 b8 b9 b10 b11 b12) → W (n + 1) i a1 a2 a3 a4 a5 a6 a7 a8 a9 a10 a11 a12) (i : Nat) (a1 : A1) (a2 : A2) (a3 : A3) (a4 : A4) (a5 : A5) (a6 : A6) (a7 : A7) (a8 : A8) (a9 : A9) (a10 : A10) (a11 : A11) (a12 : A12) (hi : i ≤ e) (h : I i a1 a2 a3 a4 a5 a6 a7 a8 a9 a10 a11 a12) : ∃ n, W n i a1 a2 a3 a4 a5 a6 a7 a8 a9 a10 a11 a12 :=
  lo_up (σ := A1 × A2 × A3 × A4 × A5 × A6 × A7 × A8 × A9 × A10 × A11 × A12) (fun n i s => W n i s.1 s.2.1 s.2.2.1 s.2.2.2.1 s.2.2.2.2.1 s.2.2.2.2.2.1 s.2.2.2.2.2.2.1 s.2.2.2.2.2.2.2.1 s.2.2.2.2.2.2.2.2.1 s.2.2.2.2.2.2.2.2.2.1 s.2.2.2.2.2.2.2.2.2.2.1 s.2.2.2.2.2.2.2.2.2.2.2) (fun i s => I i s.1 s.2.1 s.2.2.1 s.2.2.2.1 s.2.2.2.2.1 s.2.2.2.2.2.1 s.2.2.2.2.2.2.1 s.2.2.2.2.2.2.2.1 s.2.2.2.2.2.2.2.2.1 s.2.2.2.2.2.2.2.2.2.1 s.2.2.2.2.2.2.2.2.2.2.1 s.2.2.2.2.2.2.2.2.2.2.2) e (fun n s h => hx n s.1 s.2.1 s.2.2.1 s.2.2.2.1 s.2.2.2.2.1 s.2.2.2.2.2.1 s.2.2.2.2.2.2.1 s.2.2.2.2.2.2.2.1 s.2.2.2.2.2.2.2.2.1 s.2.2.2.2.2.2.2.2.2.1 s.2.2.2.2.2.2.2.2.2.2.1 s.2.2.2.2.2.2.2.2.2.2.2 h) (fun n i s hi h k => hs n i s.1 s.2.1 s.2.2.1 s.2.2.2.1 s.2.2.2.2.1 s.2.2.2.2.2.1 s.2.2.2.2.2.2.1 s.2.2.2.2.2.2.2.1 s.2.2.2.2.2.2.2.2.1 s.2.2.2.2.2.2.2.2.2.1 s.2.2.2.2.2.2.2.2.2.2.1 s.2.2.2.2.2.2.2.2.2.2.2 hi h (fun b1 b2 b3 b4 b5 b6 b7 b8 b9 b10 b11 b12 hb => k (b1, b2, b3, b4, b5, b6, b7, b8, b9, b10, b11, b12) hb)) i (a1, a2, a3, a4, a5, a6, a7, a8, a9, a10, a11, a12) hi h
theorem lo_u13 {A1 A2 A3 A4 A5 A6 A7 A8 A9 A10 A11 A12 A13 : Type} (W : Nat → Nat → A1 → A2 → A3 → A4 → A5 → A6 → A7 → A8 → A9 → A10 → A11 → A12 → A13 → Prop) (I : Nat → A1 → A2 → A3 → A4 → A5 → A6 → A7 → A8 → A9 → A10 → A11 → A12 → A13 → Prop) (e : Nat) (hx : ∀ n a1 a2 a3 a4 a5 a6 a7 a8 a9 a10 a11 a12 a13, I e a1 a2 a3 a4 a5 a6 a7 a8 a9 a10 a11 a12 a13 → W (n + 1) e a1 a2 a3 a4 a5 a6 a7 a8 a9 a10 a11 a12 a13) (hs : ∀ n i a1 a2 a3 a4 a5 a6 a7 a8 a9 a10 a11 a12 a13, i < e → I i a1 a2 a3 a4 a5 a6 a7 a8 a9 a10 a11 a12 a13 → (∀ b1 b2 b3 b4 b5 b6 b7 b8 b9 b10 b11 b12 b13, I (i + 1) b1 b2 b3 b4 b5 b6 b7 b8 b9 b10 b11 b12 b13 → W n (i + 1) b1 b2 b3 b4 b5 b6 b7 b8 b9 b10 b11 b12 b13) → W (n + 1) i a1 a2 a3 a4 a5 a6 a7 a8 a9 a10 a11 a12 a13) (i : Nat) (a1 : A1) (a2 : A2) (a3 : A3) (a4 : A4) (a5 : A5) (a6 : A6) (a7 : A7) (a8 : A8) (a9 : A9) (a10 : A10) (a11 : A11) (a12 : A12) (a13 : A13) (hi : i ≤ e) (h : I i a1 a2 a3 a4 a5 a6 a7 a8 a9 a10 a11 a12 a13) : ∃ n, W n i a1 a2 a3 a4 a5 a6 a7 a8 a9 a10 a11 a12 a13 :=
  lo_up (σ := A1 × A2 × A3 × A4 × A5 × A6 × A7 × A8 × A9 × A10 × A11 × A12 × A13) (fun n i s => W n i s.1 s.2.1 s.2.2.1 s.2.2.2.1 s.2.2.2.2.1 s.2.2.2.2.2.1 s.2.2.2.2.2.2.1 s.2.2.2.2.2.2.2.1 s.2.2.2.2.2.2.2.2.1 s.2.2.2.2.2.2.2.2.2.1 s.2.2.2.2.2.2.2.2.2.2.1 s.2.2.2.2.2.2.2.2.2.2.2.1 s.2.2.2.2.2.2.2.2.2.2.2.2) (fun i s => I i s.1 s.2.1 s.2.2.1 s.2.2.2.1 s.2.2.2.2.1 s.2.2.2.2.2.1 s.2.2.2.2.2.2.1 s.2.2.2.2.2.2.2.1 s.2.2.2.2.2.2.2.2.1 s.2.2.2.2.2.2.2.2.2.1 s.2.2.2.2.2.2.2.2.2.2.1 s.2.2.2.2.2.2.2.2.2.2.2.1 s.2.2.2.2.2.2.2.2.2.2.2.2) e (fun n s h => hx n s.1 s.2.1 s.2.2.1 s.2.2.2.1 s.2.2.2.2.1 s.2.2.2.2.2.1 s.2.2.2.2.2.2.1 s.2.2.2.2.2.2.2.1 s.2.2.2.2.2.2.2.2.1 s.2.2.2.2.2.2.2.2.2.1 s.2.2.2.2.2.2.2.2.2.2.1 s.2.2.2.2.2.2.2.2.2.2.2.1 s.2.2.2.2.2.2.2.2.2.2.2.2 h) (fun n i s hi h k => hs n i s.1 s.2.1 s.2.2.1 s.2.2.2.1 s.2.2.2.2.1 s.2.2.2.2.2.1 s.2.2.2.2.2.2.1 s.2.2.2.2.2.2.2.1 s.2.2.2.2.2.2.2.2.1 s.2.2.2.2.2.2.2.2.2.1 s.2.2.2.2.2.2.2.2.2.2.1 s.2.2.2.2.2.2.2.2.2.2.2.1 s.2.2.2.2.2.2.2.2.2.2.2.2 hi h (fun b1 b2 b3 b4 b5 b6 b7 b8 b9 b10 b11 b12 b13 hb => k (b1, b2, b3, b4, b5, b6, b7, b8, b9, b10, b11, b12, b13) hb)) i (a1, a2, a3, a4, a5, a6, a7, a8, a9, a10, a11, a12, a13) hi h
/-! sums -/
def su_m (f : Nat → Nat) : Nat → Nat
  | 0 => 0
  | k + 1 => su_m f k + f k
theorem su_congr {f g : Nat → Nat} {n : Nat} (h : ∀ j, j < n → f j = g j) : su_m f n = su_m g n := by
  induction n with
  | zero => rfl
  | succ n ih => rw [su_m, su_m, ih (fun j hj => h j (by omega)), h n (by omega)]
theorem su_add (f g : Nat → Nat) (n : Nat) : su_m (fun j => f j + g j) n = su_m f n + su_m g n := by
  induction n with
  | zero => rfl
  | succ n ih => simp only [su_m, ih]; omega
theorem su_le {f g : Nat → Nat} {n : Nat} (h : ∀ j, j < n → f j ≤ g j) : su_m f n ≤ su_m g n := by
  induction n with
  | zero => exact Nat.le_refl _
  | succ n ih =>
    have a := ih (fun j hj => h j (by omega))
    have b := h n (by omega)
    simp only [su_m]; omega
theorem su_at {f : Nat → Nat} {n j : Nat} (h : j < n) : f j ≤ su_m f n := by
  induction n with
  | zero => omega
  | succ n ih =>
    simp only [su_m]
    by_cases e : j = n
    · subst e; omega
    · have := ih (by omega); omega
theorem su_zero {f : Nat → Nat} {n : Nat} (h : ∀ j, j < n → f j = 0) : su_m f n = 0 := by
  induction n with
  | zero => rfl
  | succ n ih => rw [su_m, ih (fun j hj => h j (by omega)), h n (by omega)]
theorem su_up {f : Nat → Nat} {n k v : Nat} (hk : k < n) : su_m (fu_up f k v) n + f k = su_m f n + v := by
  induction n with
  | zero => omega
  | succ n ih =>
    simp only [su_m]
    by_cases e : k = n
    · subst e
      rw [fu_s, su_congr (g := f) (fun j hj => fu_n (by omega))]; omega
    · rw [fu_n (by omega)]
      have := ih (by omega); omega
theorem su_sub {f g : Nat → Nat} {n : Nat} (h : ∀ j, j < n → g j ≤ f j) : su_m (fun j => f j - g j) n + su_m g n = su_m f n := by
  induction n with
  | zero => rfl
  | succ n ih =>
    have a := ih (fun j hj => h j (by omega))
    have b := h n (by omega)
    simp only [su_m]; omega
theorem su_mul (f : Nat → Nat) (c n : Nat) : su_m (fun j => f j * c) n = su_m f n * c := by
  induction n with
  | zero => simp [su_m]
  | succ n ih => simp only [su_m, ih, Nat.add_mul]
/-- how many places below n have p -/
def su_c (p : Nat → Bool) : Nat → Nat
  | 0 => 0
  | k + 1 => su_c p k + (if p k then 1 else 0)
theorem su_c_congr {p q : Nat → Bool} {n : Nat} (h : ∀ j, j < n → p j = q j) : su_c p n = su_c q n := by
  induction n with
  | zero => rfl
  | succ n ih => rw [su_c, su_c, ih (fun j hj => h j (by omega)), h n (by omega)]
theorem su_c_pos {p : Nat → Bool} {n : Nat} (h : 0 < su_c p n) : ∃ j, j < n ∧ p j = true := by
  induction n with
  | zero => simp [su_c] at h
  | succ n ih =>
    by_cases e : p n = true
    · exact ⟨n, by omega, e⟩
    · rw [su_c, if_neg e] at h
      obtain ⟨j, h1, h2⟩ := ih (by omega)
      exact ⟨j, by omega, h2⟩
theorem su_c_le (p : Nat → Bool) (n : Nat) : su_c p n ≤ n := by
  induction n with
  | zero => exact Nat.le_refl _
  | succ n ih => rw [su_c]; split <;> omega
/-- one place fewer -/
theorem su_c_drop {p q : Nat → Bool} {n k : Nat} (hk : k < n) (hp : p k = true) (hq : q k = false) (h : ∀ j, j < n → j ≠ k → q j = p j) : su_c q n + 1 = su_c p n := by
  induction n with
  | zero => omega
  | succ n ih =>
    rw [su_c, su_c]
    by_cases e : k = n
    · subst e
      rw [su_c_congr (q := p) (fun j hj => h j (by omega) (by omega)), hp, hq]; simp
    · have a := ih (by omega) (fun j hj hjk => h j (by omega) hjk)
      rw [h n (by omega) (by omega)]; omega
