/-! HOW MANY TREES: mathematics -/
theorem hd_sm_le {f g : Int → Int} {i : Int} : ∀ {m : Nat}, (∀ k : Int, i ≤ k → k < i + m → f k ≤ g k) → hd_sm f i m ≤ hd_sm g i m
  | 0, _ => Int.le_refl _
  | m + 1, h => by
    have h1 := hd_sm_le (m := m) (fun k a b => h k a (by omega))
    have h2 := h (i + m) (by omega) (by omega)
    simp only [hd_sm]
    omega
theorem hd_sm_nn {f : Int → Int} {i : Int} : ∀ {m : Nat}, (∀ k : Int, i ≤ k → k < i + m → 0 ≤ f k) → 0 ≤ hd_sm f i m
  | 0, _ => Int.le_refl _
  | m + 1, h => by
    have h1 := hd_sm_nn (m := m) (fun k a b => h k a (by omega))
    have h2 := h (i + m) (by omega) (by omega)
    simp only [hd_sm]
    omega
theorem hd_sm_add {f g : Int → Int} {i : Int} : ∀ (m : Nat), hd_sm (fun k => f k + g k) i m = hd_sm f i m + hd_sm g i m
  | 0 => rfl
  | m + 1 => by
    have h1 := hd_sm_add (f := f) (g := g) (i := i) m
    simp only [hd_sm]
    omega
theorem hd_sm_z (i : Int) : ∀ (m : Nat), hd_sm (fun _ => 0) i m = 0
  | 0 => rfl
  | m + 1 => by
    have := hd_sm_z i m
    simp only [hd_sm]
    omega
theorem hd_sm_swap (F : Int → Int → Int) (i i' : Int) (m' : Nat) : ∀ (m : Nat), hd_sm (fun h => hd_sm (fun s => F h s) i' m') i m = hd_sm (fun s => hd_sm (fun h => F h s) i m) i' m'
  | 0 => (hd_sm_z i' m').symm
  | m + 1 => by
    have h1 := hd_sm_swap F i i' m' m
    have h2 := hd_sm_add (f := fun s => hd_sm (fun h => F h s) i m) (g := fun s => F (i + m) s) (i := i') m'
    simp only [hd_sm] at h1 h2 ⊢
    omega
theorem hd_sm_mulr (f : Int → Int) (a i : Int) : ∀ (m : Nat), hd_sm (fun k => f k * a) i m = hd_sm f i m * a
  | 0 => by simp [hd_sm]
  | m + 1 => by
    have h1 := hd_sm_mulr f a i m
    simp only [hd_sm]
    rw [h1, Int.add_mul]
theorem hd_sm_mull (f : Int → Int) (a i : Int) (m : Nat) : hd_sm (fun k => a * f k) i m = a * hd_sm f i m := by
  have h := hd_sm_mulr f a i m
  have e : (fun k => a * f k) = fun k => f k * a := by funext k; exact Int.mul_comm _ _
  rw [e, h, Int.mul_comm]
theorem hd_sm_app (f : Int → Int) (i : Int) (m : Nat) : ∀ (k : Nat), hd_sm f i (m + k) = hd_sm f i m + hd_sm f (i + m) k
  | 0 => by simp [hd_sm]
  | k + 1 => by
    have h1 := hd_sm_app f i m k
    show hd_sm f i (m + k) + f (i + ((m + k : Nat) : Int)) = hd_sm f i m + (hd_sm f (i + m) k + f (i + m + k))
    have e : i + ((m + k : Nat) : Int) = i + m + k := by push_cast; omega
    rw [h1, e]
    omega
theorem hd_sm_mono {f : Int → Int} {i : Int} {m m' : Nat} (hm : m ≤ m') (h : ∀ k : Int, i ≤ k → k < i + m' → 0 ≤ f k) : hd_sm f i m ≤ hd_sm f i m' := by
  obtain ⟨k, rfl⟩ : ∃ k, m' = m + k := ⟨m' - m, by omega⟩
  rw [hd_sm_app]
  have := hd_sm_nn (f := f) (i := i + m) (m := k) (fun q a b => h q (by omega) (by push_cast; omega))
  omega
theorem hd_sm_mem {f : Int → Int} {i : Int} {m : Nat} {k : Int} (h : ∀ q : Int, i ≤ q → q < i + m → 0 ≤ f q) (h1 : i ≤ k) (h2 : k < i + m) : f k ≤ hd_sm f i m := by
  have a := hd_sm_mono (f := f) (i := i) (m := (k - i).toNat + 1) (m' := m) (by omega) h
  have b := hd_sm_nn (f := f) (i := i) (m := (k - i).toNat) (fun q a b => h q a (by omega))
  have e : i + (((k - i).toNat : Nat) : Int) = k := by omega
  simp only [hd_sm, e] at a
  omega
theorem hd_sm_sh {f g : Int → Int} {i i' : Int} : ∀ {m : Nat}, (∀ k : Nat, k < m → f (i + k) = g (i' + k)) → hd_sm f i m = hd_sm g i' m
  | 0, _ => rfl
  | m + 1, h => by
    have h1 := hd_sm_sh (m := m) (fun k hk => h k (by omega))
    have h2 := h m (by omega)
    simp only [hd_sm]
    omega
def dw_X (c : Int → Int → Int → Int → Int) (W : Int → Int → Int → Int) (a b h : Int) : Int := if a ≤ h ∧ h ≤ b then W a b h else hd_sm (fun u => if dp_B c a b u + c h u 1 1 = dp_U c a b h then W a b u else 0) a (b - a + 1).toNat
def dw_S (c : Int → Int → Int → Int → Int) (W : Int → Int → Int → Int) (i j h : Int) : Int := hd_sm (fun s => if dp_I c (dp_B c) i j h s = dp_B c i j h then dw_X c W i s h * dw_X c W (s + 1) j h else 0) i (j - i).toNat
def dw_T (c : Int → Int → Int → Int → Int) : Nat → Int → Int → Int → Int
  | 0, _, _, _ => 1
  | k + 1, i, j, h => if j - i ≤ k then dw_T c k i j h else dw_S c (dw_T c k) i j h
/-- how many trees of least breaks a span has with a head -/
def dw_W (c : Int → Int → Int → Int → Int) : Int → Int → Int → Int := dw_T c 24
theorem dw_X_congr {c : Int → Int → Int → Int → Int} {W W' : Int → Int → Int → Int} {a b h : Int} (hT : ∀ h', a ≤ h' → h' ≤ b → W a b h' = W' a b h') : dw_X c W a b h = dw_X c W' a b h := by
  unfold dw_X
  by_cases hh : a ≤ h ∧ h ≤ b
  · rw [if_pos hh, if_pos hh]; exact hT h hh.1 hh.2
  · rw [if_neg hh, if_neg hh]
    refine hd_sm_congr fun u u1 u2 => ?_
    show (if _ then W a b u else 0) = (if _ then W' a b u else 0)
    rw [hT u u1 (by omega)]
theorem dw_S_congr {c : Int → Int → Int → Int → Int} {W W' : Int → Int → Int → Int} {i j h : Int} (hT : ∀ i' j' h', i ≤ i' → i' ≤ j' → j' ≤ j → j' - i' < j - i → i' ≤ h' → h' ≤ j' → W i' j' h' = W' i' j' h') : dw_S c W i j h = dw_S c W' i j h := by
  unfold dw_S
  refine hd_sm_congr fun s s1 s2 => ?_
  show (if _ then dw_X c W i s h * dw_X c W (s + 1) j h else 0) = (if _ then dw_X c W' i s h * dw_X c W' (s + 1) j h else 0)
  rw [dw_X_congr (fun h' a b => hT i s h' (by omega) s1 (by omega) (by omega) a b), dw_X_congr (fun h' a b => hT (s + 1) j h' (by omega) (by omega) (by omega) (by omega) a b)]
theorem dw_T_st {c : Int → Int → Int → Int → Int} {k : Nat} : ∀ {m : Nat} {i j h : Int}, j - i ≤ k → k ≤ m → dw_T c m i j h = dw_T c k i j h
  | 0, i, j, h, h1, h2 => by
    have : k = 0 := by omega
    subst this; rfl
  | m + 1, i, j, h, h1, h2 => by
    by_cases hk : k = m + 1
    · subst hk; rfl
    · show (if j - i ≤ m then dw_T c m i j h else dw_S c (dw_T c m) i j h) = _
      rw [if_pos (by omega)]
      exact dw_T_st h1 (by omega)
theorem dw_W_0 (c : Int → Int → Int → Int → Int) (i h : Int) : dw_W c i i h = 1 := dw_T_st (k := 0) (m := 24) (by omega) (by omega)
theorem dw_W_S {c : Int → Int → Int → Int → Int} {i j h : Int} (h1 : i < j) (h2 : j - i ≤ 24) : dw_W c i j h = dw_S c (dw_W c) i j h := by
  have e1 : dw_W c i j h = dw_T c (j - i).toNat i j h := dw_T_st (by omega) (by omega)
  obtain ⟨k, hk⟩ : ∃ k, (j - i).toNat = k + 1 := ⟨(j - i).toNat - 1, by omega⟩
  rw [e1, hk]
  show (if j - i ≤ k then dw_T c k i j h else dw_S c (dw_T c k) i j h) = _
  rw [if_neg (by omega)]
  refine dw_S_congr fun i' j' h' a1 a2 a3 a4 _ _ => ?_
  exact (dw_T_st (k := k) (m := 24) (by omega) (by omega)).symm
/-- two to the m times the m-th of Catalan's numbers -/
def dw_L : List Int := [1, 2, 8, 40, 224, 1344, 8448, 54912, 366080, 2489344, 17199104, 120393728, 852017152, 6085836800, 43818024960, 317680680960, 2317200261120, 16992801914880, 125210119372800, 926554883358720, 6882979133521920, 51309480813527040, 383705682605506560, 2877792619541299200]
def dw_D (m : Int) : Int := dw_L.getD m.toNat 0
theorem dw_D_rec : ∀ m : Fin 23, hd_sm (fun s => dw_D s * dw_D ((m.val : Int) - s) + dw_D s * dw_D ((m.val : Int) - s)) 0 (m.val + 1) = dw_D ((m.val : Int) + 1) := by decide +kernel
theorem dw_D_nn : ∀ m : Fin 24, 1 ≤ dw_D (m.val : Int) ∧ dw_D (m.val : Int) ≤ 3000000000000000000 := by decide +kernel
theorem dw_D_b {m : Int} (h0 : 0 ≤ m) (h1 : m ≤ 23) : 1 ≤ dw_D m ∧ dw_D m ≤ 3000000000000000000 := by
  have := dw_D_nn ⟨m.toNat, by omega⟩
  have e : ((m.toNat : Nat) : Int) = m := by omega
  simp only [e] at this
  exact this
theorem dw_D_r {i j : Int} (h : i < j) (h2 : j - i ≤ 23) : hd_sm (fun s => dw_D (s - i) * dw_D (j - s - 1) + dw_D (s - i) * dw_D (j - s - 1)) i (j - i).toNat = dw_D (j - i) := by
  have := dw_D_rec ⟨(j - i - 1).toNat, by omega⟩
  have e : (((j - i - 1).toNat : Nat) : Int) = j - i - 1 := by omega
  have e2 : (j - i - 1).toNat + 1 = (j - i).toNat := by omega
  have e3 : j - i - 1 + 1 = j - i := by omega
  simp only [e, e2, e3] at this
  rw [← this]
  refine hd_sm_sh fun k hk => ?_
  have e4 : i + (k : Int) - i = 0 + k := by omega
  have e5 : j - (i + (k : Int)) - 1 = j - i - 1 - (0 + k) := by omega
  simp only [e4, e5]
theorem hd_mul_le {a b A B : Int} (h1 : 0 ≤ a) (h2 : a ≤ A) (h3 : 0 ≤ b) (h4 : b ≤ B) : 0 ≤ a * b ∧ a * b ≤ A * B :=
  ⟨Int.mul_nonneg h1 h3, Int.mul_le_mul h2 h4 h3 (by omega)⟩
/-- all trees of a span together -/
def dw_A (c : Int → Int → Int → Int → Int) (i j : Int) : Int := hd_sm (fun h => dw_W c i j h) i (j - i + 1).toNat
theorem dw_X_b {c : Int → Int → Int → Int → Int} {a b h : Int} (hn : ∀ h', a ≤ h' → h' ≤ b → 0 ≤ dw_W c a b h') : 0 ≤ dw_X c (dw_W c) a b h ∧ dw_X c (dw_W c) a b h ≤ dw_A c a b := by
  unfold dw_X dw_A
  by_cases hh : a ≤ h ∧ h ≤ b
  · rw [if_pos hh]
    exact ⟨hn h hh.1 hh.2, hd_sm_mem (f := fun h => dw_W c a b h) (fun q q1 q2 => hn q q1 (by omega)) hh.1 (by omega)⟩
  · rw [if_neg hh]
    constructor
    · refine hd_sm_nn fun k k1 k2 => ?_
      have := hn k k1 (by omega)
      show 0 ≤ if _ then dw_W c a b k else 0
      split <;> omega
    · refine hd_sm_le fun k k1 k2 => ?_
      have := hn k k1 (by omega)
      show (if _ then dw_W c a b k else 0) ≤ dw_W c a b k
      split <;> omega
theorem dw_A_b {c : Int → Int → Int → Int → Int} : ∀ (m : Nat) (i j : Int), i ≤ j → j - i ≤ m → j - i ≤ 23 → (∀ h, i ≤ h → h ≤ j → 0 ≤ dw_W c i j h) ∧ dw_A c i j ≤ dw_D (j - i) := by
  intro m
  induction m with
  | zero =>
    intro i j h1 h2 h3
    have e : j = i := by omega
    subst e
    have e1 : (j - j + 1).toNat = 1 := by omega
    have e2 : dw_D (j - j) = 1 := by
      have : j - j = 0 := by omega
      rw [this]; decide
    refine ⟨fun h _ _ => by rw [dw_W_0]; omega, ?_⟩
    unfold dw_A
    rw [e1, e2]
    simp [hd_sm, dw_W_0]
  | succ m ih =>
    intro i j h1 h2 h3
    by_cases hij : i = j
    · exact ih i j h1 (by omega) h3
    · have hs : ∀ s, i ≤ s → s < j → (∀ h, 0 ≤ dw_X c (dw_W c) i s h ∧ dw_X c (dw_W c) i s h ≤ dw_D (s - i)) ∧ (∀ h, 0 ≤ dw_X c (dw_W c) (s + 1) j h ∧ dw_X c (dw_W c) (s + 1) j h ≤ dw_D (j - s - 1)) := by
        intro s s1 s2
        have i1 := ih i s s1 (by omega) (by omega)
        have i2 := ih (s + 1) j (by omega) (by omega) (by omega)
        have e : j - (s + 1) = j - s - 1 := by omega
        rw [e] at i2
        exact ⟨fun h => by have := dw_X_b (h := h) i1.1; omega, fun h => by have := dw_X_b (h := h) i2.1; omega⟩
      have hW : ∀ h, i ≤ h → h ≤ j → 0 ≤ dw_W c i j h ∧ dw_W c i j h ≤ hd_sm (fun s => dw_X c (dw_W c) i s h * dw_X c (dw_W c) (s + 1) j h) i (j - i).toNat := by
        intro h _ _
        rw [dw_W_S (by omega) (by omega)]
        unfold dw_S
        constructor
        · refine hd_sm_nn fun s s1 s2 => ?_
          have := hs s s1 (by omega)
          have := hd_mul_le (this.1 h).1 (this.1 h).2 (this.2 h).1 (this.2 h).2
          show 0 ≤ if _ then dw_X c (dw_W c) i s h * dw_X c (dw_W c) (s + 1) j h else 0
          split <;> omega
        · refine hd_sm_le fun s s1 s2 => ?_
          have := hs s s1 (by omega)
          have := hd_mul_le (this.1 h).1 (this.1 h).2 (this.2 h).1 (this.2 h).2
          show (if _ then dw_X c (dw_W c) i s h * dw_X c (dw_W c) (s + 1) j h else 0) ≤ dw_X c (dw_W c) i s h * dw_X c (dw_W c) (s + 1) j h
          split <;> omega
      refine ⟨fun h a b => (hW h a b).1, ?_⟩
      unfold dw_A
      refine Int.le_trans (hd_sm_le (g := fun h => hd_sm (fun s => dw_X c (dw_W c) i s h * dw_X c (dw_W c) (s + 1) j h) i (j - i).toNat) (fun h a b => (hW h a (by omega)).2)) ?_
      rw [hd_sm_swap (fun h s => dw_X c (dw_W c) i s h * dw_X c (dw_W c) (s + 1) j h), ← dw_D_r (by omega) h3]
      refine hd_sm_le fun s s1 s2 => ?_
      have i1 := ih i s s1 (by omega) (by omega)
      have i2 := ih (s + 1) j (by omega) (by omega) (by omega)
      have e : j - (s + 1) = j - s - 1 := by omega
      rw [e] at i2
      have hss := hs s s1 (by omega)
      have em : (j - i + 1).toNat = (s - i + 1).toNat + (j - (s + 1) + 1).toNat := by omega
      have es : i + (((s - i + 1).toNat : Nat) : Int) = s + 1 := by omega
      show hd_sm (fun h => dw_X c (dw_W c) i s h * dw_X c (dw_W c) (s + 1) j h) i (j - i + 1).toNat ≤ _
      rw [em, hd_sm_app, es]
      have dn1 := dw_D_b (m := s - i) (by omega) (by omega)
      have dn2 := dw_D_b (m := j - s - 1) (by omega) (by omega)
      have a1 : hd_sm (fun h => dw_X c (dw_W c) i s h * dw_X c (dw_W c) (s + 1) j h) i (s - i + 1).toNat ≤ dw_D (s - i) * dw_D (j - s - 1) := by
        refine Int.le_trans (hd_sm_le (g := fun h => dw_W c i s h * dw_D (j - s - 1)) (fun h a b => ?_)) ?_
        · have eX : dw_X c (dw_W c) i s h = dw_W c i s h := by unfold dw_X; rw [if_pos ⟨a, by omega⟩]
          show dw_X c (dw_W c) i s h * dw_X c (dw_W c) (s + 1) j h ≤ _
          rw [eX]
          exact Int.mul_le_mul_of_nonneg_left (hss.2 h).2 (i1.1 h a (by omega))
        · rw [hd_sm_mulr]
          exact Int.mul_le_mul_of_nonneg_right i1.2 (by omega)
      have a2 : hd_sm (fun h => dw_X c (dw_W c) i s h * dw_X c (dw_W c) (s + 1) j h) (s + 1) (j - (s + 1) + 1).toNat ≤ dw_D (s - i) * dw_D (j - s - 1) := by
        refine Int.le_trans (hd_sm_le (g := fun h => dw_D (s - i) * dw_W c (s + 1) j h) (fun h a b => ?_)) ?_
        · have eX : dw_X c (dw_W c) (s + 1) j h = dw_W c (s + 1) j h := by unfold dw_X; rw [if_pos ⟨a, by omega⟩]
          show dw_X c (dw_W c) i s h * dw_X c (dw_W c) (s + 1) j h ≤ _
          rw [eX]
          exact Int.mul_le_mul_of_nonneg_right (hss.1 h).2 (i2.1 h a (by omega))
        · rw [hd_sm_mull]
          exact Int.mul_le_mul_of_nonneg_left i2.2 (by omega)
      omega
