/-! THE LEAST BREAKS: mathematics, over any cost of a joining -/
theorem hd_mn_add {f : Int → Int} (a : Int) (i : Int) (m : Nat) : hd_mn (fun u => a + f u) i m = a + hd_mn f i m := by
  induction m with
  | zero => rfl
  | succ m ih =>
    simp only [hd_mn, ih]
    by_cases h : f (i + (m + 1 : Nat)) < hd_mn f i m
    · rw [if_pos h, if_pos (by omega)]
    · rw [if_neg h, if_neg (by omega)]
theorem hd_mn_b {f : Int → Int} {i : Int} {m : Nat} {A B : Int} (h : ∀ k : Int, i ≤ k → k ≤ i + m → A ≤ f k ∧ f k ≤ B) : A ≤ hd_mn f i m ∧ hd_mn f i m ≤ B := by
  obtain ⟨k, h1, h2, h3⟩ := hd_mn_ex f i m
  have := h k h1 h2
  omega
def dp_V (c : Int → Int → Int → Int → Int) (T : Int → Int → Int → Int) (i j h s u : Int) : Int := (if h ≤ s then T i s h + T (s + 1) j u else T (s + 1) j h + T i s u) + c h u (s - i + 1) (j - s)
def dp_I (c : Int → Int → Int → Int → Int) (T : Int → Int → Int → Int) (i j h s : Int) : Int := if h ≤ s then hd_mn (fun u => dp_V c T i j h s u) (s + 1) (j - s - 1).toNat else hd_mn (fun u => dp_V c T i j h s u) i (s - i).toNat
def dp_S (c : Int → Int → Int → Int → Int) (T : Int → Int → Int → Int) (i j h : Int) : Int := hd_mn (fun s => dp_I c T i j h s) i (j - i - 1).toNat
def dp_T (c : Int → Int → Int → Int → Int) : Nat → Int → Int → Int → Int
  | 0, _, _, _ => 0
  | k + 1, i, j, h => if j - i ≤ k then dp_T c k i j h else dp_S c (dp_T c k) i j h
/-- the least breaks of the span i .. j with the head h -/
def dp_B (c : Int → Int → Int → Int → Int) : Int → Int → Int → Int := dp_T c 24
theorem dp_I_congr {c : Int → Int → Int → Int → Int} {T T' : Int → Int → Int → Int} {i j h s : Int} (hs : i ≤ s ∧ s < j) (hT : ∀ i' j' h', i ≤ i' → i' ≤ j' → j' ≤ j → j' - i' < j - i → T i' j' h' = T' i' j' h') : dp_I c T i j h s = dp_I c T' i j h s := by
  have hv : ∀ u, dp_V c T i j h s u = dp_V c T' i j h s u := fun u => by
    unfold dp_V
    rw [hT i s h (by omega) (by omega) (by omega) (by omega), hT (s + 1) j u (by omega) (by omega) (by omega) (by omega), hT (s + 1) j h (by omega) (by omega) (by omega) (by omega), hT i s u (by omega) (by omega) (by omega) (by omega)]
  unfold dp_I
  simp only [hv]
theorem dp_S_congr {c : Int → Int → Int → Int → Int} {T T' : Int → Int → Int → Int} {i j h : Int} (hij : i < j) (hT : ∀ i' j' h', i ≤ i' → i' ≤ j' → j' ≤ j → j' - i' < j - i → T i' j' h' = T' i' j' h') : dp_S c T i j h = dp_S c T' i j h :=
  hd_mn_congr fun k h1 h2 => dp_I_congr (by omega) hT
theorem dp_T_st {c : Int → Int → Int → Int → Int} {k : Nat} : ∀ {m : Nat} {i j h : Int}, j - i ≤ k → k ≤ m → dp_T c m i j h = dp_T c k i j h
  | 0, i, j, h, h1, h2 => by
    have : k = 0 := by omega
    subst this; rfl
  | m + 1, i, j, h, h1, h2 => by
    by_cases hk : k = m + 1
    · subst hk; rfl
    · show (if j - i ≤ m then dp_T c m i j h else dp_S c (dp_T c m) i j h) = _
      rw [if_pos (by omega)]
      exact dp_T_st h1 (by omega)
theorem dp_B_0 (c : Int → Int → Int → Int → Int) (i h : Int) : dp_B c i i h = 0 := dp_T_st (k := 0) (m := 24) (by omega) (by omega)
theorem dp_B_S {c : Int → Int → Int → Int → Int} {i j h : Int} (h1 : i < j) (h2 : j - i ≤ 24) : dp_B c i j h = dp_S c (dp_B c) i j h := by
  have e1 : dp_B c i j h = dp_T c (j - i).toNat i j h := dp_T_st (by omega) (by omega)
  obtain ⟨k, hk⟩ : ∃ k, (j - i).toNat = k + 1 := ⟨(j - i).toNat - 1, by omega⟩
  rw [e1, hk]
  show (if j - i ≤ k then dp_T c k i j h else dp_S c (dp_T c k) i j h) = _
  rw [if_neg (by omega)]
  refine dp_S_congr h1 fun i' j' h' a1 a2 a3 a4 => ?_
  exact (dp_T_st (k := k) (m := 24) (by omega) (by omega)).symm
/-- a table with these two marks is the least breaks -/
theorem dp_uniq {c : Int → Int → Int → Int → Int} {n : Int} (hn : n ≤ 24) {T : Int → Int → Int → Int} (h0 : ∀ i, 0 ≤ i → i < n → T i i i = 0) (hS : ∀ i j h, 0 ≤ i → i < j → j < n → i ≤ h → h ≤ j → T i j h = dp_S c T i j h) : ∀ (m : Nat) (i j h : Int), 0 ≤ i → i ≤ j → j < n → i ≤ h → h ≤ j → j - i ≤ m → T i j h = dp_B c i j h := by
  intro m
  induction m with
  | zero =>
    intro i j h a1 a2 a3 a4 a5 a6
    have e1 : j = i := by omega
    have e2 : h = i := by omega
    subst e1; subst e2
    rw [h0 _ a1 a3, dp_B_0]
  | succ m ih =>
    intro i j h a1 a2 a3 a4 a5 a6
    by_cases hij : i = j
    · subst hij
      have e2 : h = i := by omega
      subst e2
      rw [h0 _ a1 a3, dp_B_0]
    · rw [hS i j h a1 (by omega) a3 a4 a5, dp_B_S (by omega) (by omega)]
      refine hd_mn_congr fun s s1 s2 => ?_
      unfold dp_I
      split
      · rename_i hs
        refine hd_mn_congr fun u u1 u2 => ?_
        unfold dp_V
        rw [if_pos hs, if_pos hs, ih i s h (by omega) (by omega) (by omega) (by omega) (by omega) (by omega), ih (s + 1) j u (by omega) (by omega) (by omega) (by omega) (by omega) (by omega)]
      · rename_i hs
        refine hd_mn_congr fun u u1 u2 => ?_
        unfold dp_V
        rw [if_neg hs, if_neg hs, ih (s + 1) j h (by omega) (by omega) (by omega) (by omega) (by omega) (by omega), ih i s u (by omega) (by omega) (by omega) (by omega) (by omega) (by omega)]
/-- costs in their bounds -/
def dp_cb (c : Int → Int → Int → Int → Int) (n : Int) : Prop := ∀ h u l r : Int, 0 ≤ h → h < n → 0 ≤ u → u < n → 1 ≤ l → l ≤ 24 → 1 ≤ r → r ≤ 24 → 0 ≤ c h u l r ∧ c h u l r ≤ 60000
theorem dp_B_b {c : Int → Int → Int → Int → Int} {n : Int} (hn : n ≤ 24) (hc : dp_cb c n) : ∀ (m : Nat) (i j h : Int), 0 ≤ i → i ≤ j → j < n → i ≤ h → h ≤ j → j - i ≤ m → 0 ≤ dp_B c i j h ∧ dp_B c i j h ≤ 60000 * (j - i) := by
  intro m
  induction m with
  | zero =>
    intro i j h a1 a2 a3 a4 a5 a6
    have e1 : j = i := by omega
    subst e1
    rw [dp_B_0]; omega
  | succ m ih =>
    intro i j h a1 a2 a3 a4 a5 a6
    by_cases hij : i = j
    · subst hij
      rw [dp_B_0]; omega
    · rw [dp_B_S (by omega) (by omega)]
      refine hd_mn_b fun s s1 s2 => ?_
      unfold dp_I
      split
      · rename_i hs
        refine hd_mn_b fun u u1 u2 => ?_
        unfold dp_V
        rw [if_pos hs]
        have b1 := ih i s h (by omega) (by omega) (by omega) (by omega) (by omega) (by omega)
        have b2 := ih (s + 1) j u (by omega) (by omega) (by omega) (by omega) (by omega) (by omega)
        have b3 := hc h u (s - i + 1) (j - s) (by omega) (by omega) (by omega) (by omega) (by omega) (by omega) (by omega) (by omega)
        omega
      · rename_i hs
        refine hd_mn_b fun u u1 u2 => ?_
        unfold dp_V
        rw [if_neg hs]
        have b1 := ih (s + 1) j h (by omega) (by omega) (by omega) (by omega) (by omega) (by omega)
        have b2 := ih i s u (by omega) (by omega) (by omega) (by omega) (by omega) (by omega)
        have b3 := hc h u (s - i + 1) (j - s) (by omega) (by omega) (by omega) (by omega) (by omega) (by omega) (by omega) (by omega)
        omega
/-- the least breaks of a span going under h -/
def dp_U (c : Int → Int → Int → Int → Int) (i j h : Int) : Int := hd_mn (fun u => dp_B c i j u + c h u 1 1) i (j - i).toNat
theorem dp_U_b {c : Int → Int → Int → Int → Int} {n : Int} (hn : n ≤ 24) (hc : dp_cb c n) {i j h : Int} (a1 : 0 ≤ i) (a2 : i ≤ j) (a3 : j < n) (a4 : 0 ≤ h) (a5 : h < n) : 0 ≤ dp_U c i j h ∧ dp_U c i j h ≤ 60000 * (j - i + 1) := by
  refine hd_mn_b fun u u1 u2 => ?_
  have b1 := dp_B_b hn hc (j - i).toNat i j u a1 a2 a3 (by omega) (by omega) (by omega)
  have b2 := hc h u 1 1 a4 a5 (by omega) (by omega) (by omega) (by omega) (by omega) (by omega)
  omega
/-- what a split costs: two cells and what even asks -/
theorem dp_I_eq {c : Int → Int → Int → Int → Int} {ev : Int} (hc : ∀ h u l r, c h u l r = c h u 1 1 + ev * sc_abs (l - r)) {i j h s : Int} (hs : i ≤ s ∧ s < j) : dp_I c (dp_B c) i j h s = (if h ≤ s then dp_B c i s h + dp_U c (s + 1) j h else dp_U c i s h + dp_B c (s + 1) j h) + ev * sc_abs ((s + 1 - i) - (j - s)) := by
  unfold dp_I
  have e2 : s - i + 1 - (j - s) = s + 1 - i - (j - s) := by omega
  split
  · rename_i h1
    have e : (fun u => dp_V c (dp_B c) i j h s u) = fun u => (dp_B c i s h + ev * sc_abs ((s + 1 - i) - (j - s))) + (dp_B c (s + 1) j u + c h u 1 1) := by
      funext u
      unfold dp_V
      rw [if_pos h1, hc h u (s - i + 1) (j - s), e2]
      omega
    rw [e, hd_mn_add]
    unfold dp_U
    have : (j - s - 1).toNat = (j - (s + 1)).toNat := by omega
    rw [this]
    omega
  · rename_i h1
    have e : (fun u => dp_V c (dp_B c) i j h s u) = fun u => (dp_B c (s + 1) j h + ev * sc_abs ((s + 1 - i) - (j - s))) + (dp_B c i s u + c h u 1 1) := by
      funext u
      unfold dp_V
      rw [if_neg h1, hc h u (s - i + 1) (j - s), e2]
      omega
    rw [e, hd_mn_add]
    unfold dp_U
    omega
/-- the best head, split and under: the first of the least -/
def dp_H (c : Int → Int → Int → Int → Int) (i j : Int) : Int := hd_am (fun h => dp_B c i j h) i (j - i).toNat
def dp_sp (c : Int → Int → Int → Int → Int) (i j h : Int) : Int := hd_am (fun s => dp_I c (dp_B c) i j h s) i (j - i - 1).toNat
def dp_un (c : Int → Int → Int → Int → Int) (i j h : Int) : Int := if h ≤ dp_sp c i j h then hd_am (fun u => dp_V c (dp_B c) i j h (dp_sp c i j h) u) (dp_sp c i j h + 1) (j - dp_sp c i j h - 1).toNat else hd_am (fun u => dp_V c (dp_B c) i j h (dp_sp c i j h) u) i (dp_sp c i j h - i).toNat
theorem dp_sp_in {c : Int → Int → Int → Int → Int} {i j h : Int} (hij : i < j) : i ≤ dp_sp c i j h ∧ dp_sp c i j h < j := by
  have := hd_am_in (fun s => dp_I c (dp_B c) i j h s) i (j - i - 1).toNat
  unfold dp_sp
  omega
theorem dp_un_in {c : Int → Int → Int → Int → Int} {i j h : Int} (hij : i < j) : (h ≤ dp_sp c i j h → dp_sp c i j h + 1 ≤ dp_un c i j h ∧ dp_un c i j h ≤ j) ∧ (¬ h ≤ dp_sp c i j h → i ≤ dp_un c i j h ∧ dp_un c i j h ≤ dp_sp c i j h) := by
  have hs := dp_sp_in (c := c) (h := h) hij
  unfold dp_un
  constructor
  · intro h1
    rw [if_pos h1]
    have := hd_am_in (fun u => dp_V c (dp_B c) i j h (dp_sp c i j h) u) (dp_sp c i j h + 1) (j - dp_sp c i j h - 1).toNat
    omega
  · intro h1
    rw [if_neg h1]
    have := hd_am_in (fun u => dp_V c (dp_B c) i j h (dp_sp c i j h) u) i (dp_sp c i j h - i).toNat
    omega
theorem dp_H_in {c : Int → Int → Int → Int → Int} {i j : Int} (hij : i ≤ j) : i ≤ dp_H c i j ∧ dp_H c i j ≤ j := by
  have := hd_am_in (fun h => dp_B c i j h) i (j - i).toNat
  unfold dp_H
  omega
