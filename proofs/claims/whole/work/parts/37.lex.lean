/-! scanning pairs in their order: the least, the first of the least, how many -/
def hd_lim (z : Int) : Int := if 1000000000000 < z then 1000000000000 else z
theorem hd_lim_b {z : Int} (h : 0 ≤ z) : 0 ≤ hd_lim z ∧ hd_lim z ≤ 1000000000000 ∧ hd_lim z ≤ z := by unfold hd_lim; split <;> omega
theorem hd_lim_add {a b : Int} (ha : 0 ≤ a) (hb : 0 ≤ b) : hd_lim (hd_lim a + hd_lim b) = hd_lim (a + b) := by
  unfold hd_lim
  repeat' split
  all_goals omega
theorem hd_lim_id (a : Int) : hd_lim (hd_lim a) = hd_lim a := by
  unfold hd_lim
  repeat' split
  all_goals omega
theorem hd_lim_mul {a b : Int} (ha : 1 ≤ a) (hb : 1 ≤ b) : hd_lim (hd_lim a * hd_lim b) = hd_lim (a * b) := by
  have la : 1 ≤ hd_lim a := by unfold hd_lim; split <;> omega
  have lb : 1 ≤ hd_lim b := by unfold hd_lim; split <;> omega
  by_cases h1 : 1000000000000 < a
  · have e : hd_lim a = 1000000000000 := by unfold hd_lim; rw [if_pos h1]
    have x1 : (1000000000000 : Int) * 1 ≤ 1000000000000 * hd_lim b := Int.mul_le_mul_of_nonneg_left lb (by omega)
    have x2 : a * 1 ≤ a * b := Int.mul_le_mul_of_nonneg_left hb (by omega)
    rw [e]
    unfold hd_lim at x1 ⊢
    repeat' split
    all_goals omega
  · have e : hd_lim a = a := by unfold hd_lim; rw [if_neg h1]
    by_cases h2 : 1000000000000 < b
    · have e2 : hd_lim b = 1000000000000 := by unfold hd_lim; rw [if_pos h2]
      have x1 : (1 : Int) * 1000000000000 ≤ a * 1000000000000 := Int.mul_le_mul_of_nonneg_right ha (by omega)
      have x2 : 1 * b ≤ a * b := Int.mul_le_mul_of_nonneg_right ha (by omega)
      rw [e, e2]
      unfold hd_lim
      repeat' split
      all_goals omega
    · have e2 : hd_lim b = b := by unfold hd_lim; rw [if_neg h2]
      rw [e, e2]
def lx_row (V G : Int → Int → Int) (B s f : Int) (k : Nat) : Int := hd_sm (fun u => if V s u = B then G s u else 0) f k
def lx_sum (V G : Int → Int → Int) (fr : Int → Int) (ln : Int → Nat) (B i : Int) (m k : Nat) : Int := hd_sm (fun s => lx_row V G B s (fr s) (ln s)) i m + lx_row V G B (i + m) (fr (i + m)) k
def lx_in (fr : Int → Int) (ln : Int → Nat) (i : Int) (m k : Nat) (s u : Int) : Prop := fr s ≤ u ∧ ((i ≤ s ∧ s < i + m ∧ u < fr s + ln s) ∨ (s = i + m ∧ u < fr s + k))
def lx_inv (V G : Int → Int → Int) (fr : Int → Int) (ln : Int → Nat) (F i : Int) (m k : Nat) (B S U W : Int) : Prop :=
  (∀ s u, lx_in fr ln i m k s u → B ≤ V s u) ∧
  ((B = F ∧ ∀ s u, ¬ lx_in fr ln i m k s u) ∨ (lx_in fr ln i m k S U ∧ V S U = B ∧ ∀ s u, lx_in fr ln i m k s u → (s < S ∨ (s = S ∧ u < U)) → B < V s u)) ∧
  W = hd_lim (lx_sum V G fr ln B i m k)
theorem lx_in_s {fr : Int → Int} {ln : Int → Nat} {i : Int} {m k : Nat} {s u : Int} : lx_in fr ln i m (k + 1) s u ↔ (lx_in fr ln i m k s u ∨ (s = i + m ∧ u = fr (i + m) + k)) := by
  unfold lx_in
  constructor
  · rintro ⟨h1, h2 | ⟨rfl, h2⟩⟩
    · exact Or.inl ⟨h1, Or.inl h2⟩
    · by_cases h3 : u < fr (i + m) + k
      · exact Or.inl ⟨h1, Or.inr ⟨rfl, h3⟩⟩
      · exact Or.inr ⟨rfl, by push_cast at h2; omega⟩
  · rintro (⟨h1, h2 | ⟨rfl, h2⟩⟩ | ⟨rfl, rfl⟩)
    · exact ⟨h1, Or.inl h2⟩
    · exact ⟨h1, Or.inr ⟨rfl, by push_cast; omega⟩⟩
    · exact ⟨by omega, Or.inr ⟨rfl, by push_cast; omega⟩⟩
theorem lx_sum_s {V G : Int → Int → Int} {fr : Int → Int} {ln : Int → Nat} {B i : Int} {m k : Nat} : lx_sum V G fr ln B i m (k + 1) = lx_sum V G fr ln B i m k + (if V (i + m) (fr (i + m) + k) = B then G (i + m) (fr (i + m) + k) else 0) := by
  unfold lx_sum lx_row
  simp only [hd_sm]
  omega
theorem lx_sum_z {V G : Int → Int → Int} {fr : Int → Int} {ln : Int → Nat} {B i : Int} {m k : Nat} (h : ∀ s u, lx_in fr ln i m k s u → V s u ≠ B) : lx_sum V G fr ln B i m k = 0 := by
  unfold lx_sum lx_row
  have e1 : hd_sm (fun s => hd_sm (fun u => if V s u = B then G s u else 0) (fr s) (ln s)) i m = hd_sm (fun _ => 0) i m := hd_sm_congr fun s s1 s2 => by
    have e : hd_sm (fun u => if V s u = B then G s u else 0) (fr s) (ln s) = hd_sm (fun _ => 0) (fr s) (ln s) := hd_sm_congr fun u u1 u2 => by
      show (if V s u = B then G s u else 0) = 0
      rw [if_neg (h s u ⟨u1, Or.inl ⟨s1, s2, u2⟩⟩)]
    show hd_sm (fun u => if V s u = B then G s u else 0) (fr s) (ln s) = 0
    rw [e, hd_sm_z]
  have e2 : hd_sm (fun u => if V (i + m) u = B then G (i + m) u else 0) (fr (i + m)) k = hd_sm (fun _ => 0) (fr (i + m)) k := hd_sm_congr fun u u1 u2 => by
    show (if V (i + m) u = B then G (i + m) u else 0) = 0
    rw [if_neg (h (i + m) u ⟨u1, Or.inr ⟨rfl, u2⟩⟩)]
  rw [e1, e2, hd_sm_z, hd_sm_z]
  rfl
theorem lx_sum_nn {V G : Int → Int → Int} {fr : Int → Int} {ln : Int → Nat} {B i : Int} {m k : Nat} (h : ∀ s u, lx_in fr ln i m k s u → 0 ≤ G s u) : 0 ≤ lx_sum V G fr ln B i m k := by
  unfold lx_sum lx_row
  have e1 : 0 ≤ hd_sm (fun s => hd_sm (fun u => if V s u = B then G s u else 0) (fr s) (ln s)) i m := hd_sm_nn fun s s1 s2 => hd_sm_nn fun u u1 u2 => by
    have := h s u ⟨u1, Or.inl ⟨s1, s2, u2⟩⟩
    show 0 ≤ (if V s u = B then G s u else 0)
    split <;> omega
  have e2 : 0 ≤ hd_sm (fun u => if V (i + m) u = B then G (i + m) u else 0) (fr (i + m)) k := hd_sm_nn fun u u1 u2 => by
    have := h (i + m) u ⟨u1, Or.inr ⟨rfl, u2⟩⟩
    show 0 ≤ (if V (i + m) u = B then G (i + m) u else 0)
    split <;> omega
  omega
theorem lx_0 (V G : Int → Int → Int) (fr : Int → Int) (ln : Int → Nat) (F i S U : Int) : lx_inv V G fr ln F i 0 0 F S U 0 := by
  have hn : ∀ s u, ¬ lx_in fr ln i 0 0 s u := fun s u h => by
    obtain ⟨h1, h2 | h2⟩ := h
    · have := h2.2.1; have := h2.1; simp at *; omega
    · have := h2.2; simp at *; omega
  refine ⟨fun s u h => absurd h (hn s u), Or.inl ⟨rfl, hn⟩, ?_⟩
  rw [lx_sum_z (fun s u h => absurd h (hn s u))]
  rfl
theorem lx_step {V G : Int → Int → Int} {fr : Int → Int} {ln : Int → Nat} {F i : Int} {m k : Nat} {B S U W v : Int} (h : lx_inv V G fr ln F i m k B S U W) (hv : v = V (i + m) (fr (i + m) + k)) (hF : v < F) (hG : ∀ s u, lx_in fr ln i m (k + 1) s u → 0 ≤ G s u) :
    (B < v → lx_inv V G fr ln F i m (k + 1) B S U W) ∧ (v < B → lx_inv V G fr ln F i m (k + 1) v (i + m) (fr (i + m) + k) (hd_lim (0 + hd_lim (G (i + m) (fr (i + m) + k))))) ∧ (v = B → lx_inv V G fr ln F i m (k + 1) B S U (hd_lim (W + hd_lim (G (i + m) (fr (i + m) + k))))) := by
  obtain ⟨h1, h2, h3⟩ := h
  have g0 : 0 ≤ G (i + m) (fr (i + m) + k) := hG _ _ (lx_in_s.mpr (Or.inr ⟨rfl, rfl⟩))
  have gs : 0 ≤ lx_sum V G fr ln B i m k := lx_sum_nn fun s u hi => hG s u (lx_in_s.mpr (Or.inl hi))
  refine ⟨fun c => ⟨fun s u hi => ?_, ?_, ?_⟩, fun c => ⟨fun s u hi => ?_, Or.inr ⟨lx_in_s.mpr (Or.inr ⟨rfl, rfl⟩), hv.symm, fun s u hi hl => ?_⟩, ?_⟩, fun c => ⟨fun s u hi => ?_, ?_, ?_⟩⟩
  · rcases lx_in_s.mp hi with h | ⟨rfl, rfl⟩
    · exact h1 s u h
    · omega
  · rcases h2 with ⟨e, _⟩ | ⟨a1, a2, a3⟩
    · omega
    · refine Or.inr ⟨lx_in_s.mpr (Or.inl a1), a2, fun s u hi hl => ?_⟩
      rcases lx_in_s.mp hi with h | ⟨rfl, rfl⟩
      · exact a3 s u h hl
      · omega
  · rw [h3, lx_sum_s, if_neg (by omega), Int.add_zero]
  · rcases lx_in_s.mp hi with h | ⟨rfl, rfl⟩
    · have := h1 s u h; omega
    · omega
  · rcases lx_in_s.mp hi with h | ⟨rfl, rfl⟩
    · have := h1 s u h; omega
    · rcases hl with hl | hl
      · omega
      · omega
  · have z : lx_sum V G fr ln v i m k = 0 := lx_sum_z fun s u hi => by have := h1 s u hi; omega
    rw [lx_sum_s, if_pos hv.symm, z, Int.zero_add, Int.zero_add, hd_lim_id]
  · rcases lx_in_s.mp hi with h | ⟨rfl, rfl⟩
    · exact h1 s u h
    · omega
  · rcases h2 with ⟨e, _⟩ | ⟨a1, a2, a3⟩
    · omega
    · refine Or.inr ⟨lx_in_s.mpr (Or.inl a1), a2, fun s u hi hl => ?_⟩
      rcases lx_in_s.mp hi with h | ⟨rfl, rfl⟩
      · exact a3 s u h hl
      · obtain ⟨b1, b2 | b2⟩ := a1
        · omega
        · rcases hl with hl | hl
          · omega
          · have e := b2.1
            subst e
            omega
  · rw [h3, lx_sum_s, if_pos (by omega), hd_lim_add gs g0]
theorem lx_next {V G : Int → Int → Int} {fr : Int → Int} {ln : Int → Nat} {F i : Int} {m : Nat} {B S U W : Int} (h : lx_inv V G fr ln F i m (ln (i + m)) B S U W) : lx_inv V G fr ln F i (m + 1) 0 B S U W := by
  have hi : ∀ s u, lx_in fr ln i (m + 1) 0 s u ↔ lx_in fr ln i m (ln (i + m)) s u := fun s u => by
    unfold lx_in
    constructor
    · rintro ⟨a1, a2 | ⟨a2, a3⟩⟩
      · by_cases e : s = i + m
        · subst e
          exact ⟨a1, Or.inr ⟨rfl, a2.2.2⟩⟩
        · exact ⟨a1, Or.inl ⟨a2.1, by have := a2.2.1; push_cast at this; omega, a2.2.2⟩⟩
      · simp at a3
        omega
    · rintro ⟨a1, a2 | ⟨rfl, a3⟩⟩
      · exact ⟨a1, Or.inl ⟨a2.1, by have := a2.2.1; push_cast; omega, a2.2.2⟩⟩
      · exact ⟨a1, Or.inl ⟨by omega, by push_cast; omega, a3⟩⟩
  have hs : lx_sum V G fr ln B i (m + 1) 0 = lx_sum V G fr ln B i m (ln (i + m)) := by
    unfold lx_sum
    simp only [hd_sm, lx_row]
    omega
  obtain ⟨h1, h2, h3⟩ := h
  refine ⟨fun s u hh => h1 s u ((hi s u).mp hh), ?_, by rw [h3, hs]⟩
  rcases h2 with ⟨e, h2⟩ | ⟨a1, a2, a3⟩
  · exact Or.inl ⟨e, fun s u hh => h2 s u ((hi s u).mp hh)⟩
  · exact Or.inr ⟨(hi S U).mpr a1, a2, fun s u hh hl => a3 s u ((hi s u).mp hh) hl⟩
