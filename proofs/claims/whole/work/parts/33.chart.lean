/-! Chart: what its methods answer -/
def ch_tri (j : Int) : Int := Int.tdiv (j * (j + 1)) 2
def ch_row (i j : Int) : Int := (ch_tri j + i) * 24
theorem ch_tri_f : ∀ j : Fin 24, 0 ≤ ch_tri (j.val : Int) ∧ ch_tri (j.val : Int) ≤ 276 ∧ 0 ≤ (j.val : Int) * ((j.val : Int) + 1) ∧ (j.val : Int) * ((j.val : Int) + 1) ≤ 552 ∧ ch_tri ((j.val : Int) + 1) = ch_tri (j.val : Int) + (j.val : Int) + 1 := by decide +kernel
theorem ch_tri_m : ∀ a b : Fin 24, a.val < b.val → ch_tri (a.val : Int) + (a.val : Int) + 1 ≤ ch_tri (b.val : Int) := by decide +kernel
theorem ch_tri_b {j : Int} (h0 : 0 ≤ j) (h1 : j ≤ 23) : 0 ≤ ch_tri j ∧ ch_tri j ≤ 276 ∧ 0 ≤ j * (j + 1) ∧ j * (j + 1) ≤ 552 ∧ ch_tri (j + 1) = ch_tri j + j + 1 := by
  have := ch_tri_f ⟨j.toNat, by omega⟩
  have e : ((j.toNat : Nat) : Int) = j := by omega
  simp only [e] at this
  exact this
theorem ch_tri_lt {a b : Int} (h0 : 0 ≤ a) (h1 : a < b) (h2 : b ≤ 23) : ch_tri a + a + 1 ≤ ch_tri b := by
  have := ch_tri_m ⟨a.toNat, by omega⟩ ⟨b.toNat, by omega⟩ (by show a.toNat < b.toNat; omega)
  have e : ((a.toNat : Nat) : Int) = a := by omega
  have e2 : ((b.toNat : Nat) : Int) = b := by omega
  simp only [e, e2] at this
  exact this
theorem ch_row_b {i j : Int} (h0 : 0 ≤ i) (h1 : i ≤ j) (h2 : j ≤ 23) : 0 ≤ ch_row i j ∧ ch_row i j ≤ 7176 := by
  have := ch_tri_b (by omega : 0 ≤ j) h2
  have h3 := ch_tri_b (by omega : (0 : Int) ≤ 23) (by omega)
  by_cases hj : j = 23
  · subst hj
    have e : ch_tri 23 = 276 := by decide
    unfold ch_row; rw [e]; omega
  · have := ch_tri_lt (by omega : 0 ≤ j) (by omega : j < 23) (by omega)
    have e : ch_tri 23 = 276 := by decide
    unfold ch_row
    omega
/-- cells of other spans or heads lie elsewhere -/
theorem ch_row_inj {i j h i' j' h' : Int} (a1 : 0 ≤ i) (a2 : i ≤ j) (a3 : j ≤ 23) (a4 : 0 ≤ h) (a5 : h ≤ 23) (b1 : 0 ≤ i') (b2 : i' ≤ j') (b3 : j' ≤ 23) (b4 : 0 ≤ h') (b5 : h' ≤ 23) (e : ch_row i j + h = ch_row i' j' + h') : i = i' ∧ j = j' ∧ h = h' := by
  unfold ch_row at e
  rcases Int.lt_trichotomy j j' with g | g | g
  · have := ch_tri_lt (by omega : 0 ≤ j) g b3
    omega
  · subst g; omega
  · have := ch_tri_lt (by omega : 0 ≤ j') g a3
    omega
theorem c_row (d : Nat) {i j : Int} (h0 : 0 ≤ i) (h1 : i ≤ 24) (h2 : 0 ≤ j) (h3 : j ≤ 23) : ab_Ct (d + 1) 0 0 mX1_row [ab_I i, ab_I j] [] (ab_Is (ch_row i j) []) := by
  have b := ch_tri_b h2 h3
  have e : Int.tdiv (j * (j + 1)) 2 = ch_tri j := rfl
  exact ab_ct kX1_row rfl rfl (fun x hx => vX1_row_0 hx i j 0 0 ⟨by omega, by omega, by decide, by rw [e]; omega, by rw [e]; omega, by rw [e]; omega, ab_lf rfl rfl⟩)
def ch_len (w : ab_Ob) : Prop := (w.2 2).1 = 7200 ∧ (w.2 3).1 = 576
/-- a cell -/
def ch_c (w : ab_Ob) (i j h : Int) : Int := (w.2 2).2 (ch_row i j + h)
theorem c_cell (d : Nat) (w : ab_Ob) (hw : ch_len w) {i j h : Int} (h0 : 0 ≤ i) (h1 : i ≤ j) (h2 : j ≤ 23) (h3 : 0 ≤ h) (h4 : h ≤ 23) : ab_Ct (d + 2) 0 0 mX1_cell [ab_O 0, ab_I i, ab_I j, ab_I h] [w] (ab_Is (ch_c w i j h) [w]) := by
  have b := ch_row_b h0 h1 h2
  have l := hw.1
  exact ab_ct kX1_cell rfl rfl (fun x hx => vX1_cell_0 hx i j h w 0 0 (ab_x1 (c_row d h0 (by omega) (by omega) h2) ⟨by omega, by omega, ab_lf rfl rfl⟩))
theorem c_bestHead (d : Nat) (w : ab_Ob) (hw : ch_len w) {i j : Int} (h0 : 0 ≤ i) (h1 : i ≤ j) (h2 : j ≤ 23) : ab_Ct (d + 2) 0 0 mX1_bestHead [ab_O 0, ab_I i, ab_I j] [w] (ab_Is (hd_am (fun h => ch_c w i j h) i (j - i).toNat) [w]) := by
  have b := ch_row_b h0 h1 h2
  have l := hw.1
  refine ab_ct kX1_bestHead rfl rfl (fun x hx => vX1_bestHead_0 hx i j w 0 0 (ab_x1 (c_row d h0 (by omega) (by omega) h2) ⟨by omega, ?_⟩))
  have key : ∀ (q m : Nat), i + m + q = j → ab_J x 14 [some (ab_O 0), none, some (ab_I j), some (ab_I (ch_row i j)), some (ab_I (hd_am (fun h => ch_c w i j h) i m)), some (ab_I (i + m + 1))] [] [w] 0 0 := by
    intro q
    induction q with
    | zero =>
      intro m hm
      have : m = (j - i).toNat := by omega
      subst this
      exact vX1_bestHead_14 hx _ _ _ _ w 0 0 ⟨fun _ => ab_lf rfl rfl, fun h => absurd (by omega) h⟩
    | succ q ih =>
      intro m hm
      have ha := hd_am_in (fun h => ch_c w i j h) i m
      have := ih (m + 1) (by push_cast; omega)
      simp only [hd_am] at this
      have e1 : i + ((m + 1 : Nat) : Int) = i + m + 1 := by omega
      rw [e1] at this
      refine vX1_bestHead_14 hx _ _ _ _ w 0 0 ⟨fun h => absurd h (by omega), fun _ => ⟨by omega, by omega, by omega, by omega, fun g => ⟨by omega, ?_⟩, fun g => ⟨by omega, ?_⟩⟩⟩
      · have g' : ¬ ch_c w i j (i + m + 1) < ch_c w i j (hd_am (fun h => ch_c w i j h) i m) := by unfold ch_c; unfold ch_c at g; omega
        rw [if_neg g'] at this
        exact this
      · have g' : ch_c w i j (i + m + 1) < ch_c w i j (hd_am (fun h => ch_c w i j h) i m) := by unfold ch_c; unfold ch_c at g; omega
        rw [if_pos g'] at this
        exact this
  have := key (j - i).toNat 0 (by omega)
  simpa [hd_am] using this
theorem c_least (d : Nat) (w : ab_Ob) (hw : ch_len w) {i j : Int} (h0 : 0 ≤ i) (h1 : i ≤ j) (h2 : j ≤ 23) : ab_Ct (d + 3) 0 0 mX1_least [ab_O 0, ab_I i, ab_I j] [w] (ab_Is (hd_mn (fun h => ch_c w i j h) i (j - i).toNat) [w]) := by
  have ha := hd_am_in (fun h => ch_c w i j h) i (j - i).toNat
  refine ab_ct kX1_least rfl rfl (fun x hx => vX1_least_0 hx i j w 0 0 (ab_x1 (c_bestHead d w hw h0 h1 h2) (ab_x1 (c_cell d w hw h0 h1 h2 (by omega) (by omega)) (ab_lf rfl ?_))))
  exact hd_am_val (fun h => ch_c w i j h) i (j - i).toNat
/-- the cells are no large numbers -/
def ch_sm (w : ab_Ob) : Prop := (0 ≤ w.1 1 ∧ w.1 1 ≤ 99) ∧ (∀ i j h : Int, 0 ≤ i → i ≤ j → j < w.1 0 → 0 ≤ h → h < w.1 0 → 0 ≤ ch_c w i j h ∧ ch_c w i j h ≤ 3000000) ∧ ∀ h u : Int, 0 ≤ h → h < w.1 0 → 0 ≤ u → u < w.1 0 → 0 ≤ (w.2 3).2 (h * 24 + u) ∧ (w.2 3).2 (h * 24 + u) ≤ 60000
def ch_sv (w : ab_Ob) (i j s h : Int) : Int := ch_c w i s h + ch_c w (s + 1) j h + w.1 1 * sc_abs ((s + 1 - i) - (j - s))
theorem ch_ev {a b : Int} (ha : 0 ≤ a ∧ a ≤ 99) (hb : 0 ≤ b ∧ b ≤ 30) : 0 ≤ a * b ∧ a * b ≤ 2970 := by
  constructor
  · exact Int.mul_nonneg ha.1 hb.1
  · have : a * b ≤ 99 * 30 := Int.mul_le_mul ha.2 hb.2 hb.1 (by omega)
    omega
theorem c_splitAt (d : Nat) (w : ab_Ob) (hw : ch_len w) (hs : ch_sm w) {i j s h : Int} (h0 : 0 ≤ i) (h1 : i ≤ s) (h2 : s < j) (h5 : j < w.1 0) (hn : w.1 0 ≤ 24) (h3 : 0 ≤ h) (h4 : h < w.1 0) : ab_Ct (d + 3) 0 0 mX1_splitAt [ab_O 0, ab_I i, ab_I j, ab_I s, ab_I h] [w] (ab_Is (ch_sv w i j s h) [w]) := by
  have b1 := hs.2.1 i s h h0 h1 (by omega) h3 h4
  have b2 := hs.2.1 (s + 1) j h (by omega) (by omega) h5 h3 h4
  have b3 : 0 ≤ sc_abs ((s + 1 - i) - (j - s)) ∧ sc_abs ((s + 1 - i) - (j - s)) ≤ 30 := by unfold sc_abs; split <;> omega
  have b4 := ch_ev hs.1 b3
  have e : (if 0 ≤ (s + 1 - i) - (j - s) then (s + 1 - i) - (j - s) else 0 - ((s + 1 - i) - (j - s))) = sc_abs ((s + 1 - i) - (j - s)) := rfl
  have r1 := ch_row_b h0 h1 (by omega : s ≤ 23)
  have r2 := ch_row_b (by omega : 0 ≤ s + 1) (by omega : s + 1 ≤ j) (by omega : j ≤ 23)
  have l := hw.1
  unfold ch_c at b1 b2
  exact ab_ct kX1_splitAt rfl rfl (fun x hx => vX1_splitAt_0 hx i j s h w 0 0 ⟨by omega, by omega, by omega, by omega, ab_x1 (c_row (d + 1) h0 (by omega) (by omega) (by omega)) ⟨by omega, by omega, by omega, ab_x1 (c_row (d + 1) (by omega) (by omega) (by omega) (by omega)) ⟨by omega, by omega, by omega, by omega, by rw [e]; omega, by rw [e]; omega, ab_lf rfl rfl⟩⟩⟩)
theorem ch_sv_b {w : ab_Ob} (hs : ch_sm w) {i j s h : Int} (h0 : 0 ≤ i) (h1 : i ≤ s) (h2 : s < j) (h5 : j < w.1 0) (hn : w.1 0 ≤ 24) (h3 : 0 ≤ h) (h4 : h < w.1 0) : 0 ≤ ch_sv w i j s h ∧ ch_sv w i j s h ≤ 7000000 := by
  have b1 := hs.2.1 i s h h0 h1 (by omega) h3 h4
  have b2 := hs.2.1 (s + 1) j h (by omega) (by omega) h5 h3 h4
  have b3 : 0 ≤ sc_abs ((s + 1 - i) - (j - s)) ∧ sc_abs ((s + 1 - i) - (j - s)) ≤ 30 := by unfold sc_abs; split <;> omega
  have b4 := ch_ev hs.1 b3
  unfold ch_sv
  omega
theorem c_leastSplitAt (d : Nat) (w : ab_Ob) (hw : ch_len w) (hs : ch_sm w) {i j s : Int} (h0 : 0 ≤ i) (h1 : i ≤ s) (h2 : s < j) (h5 : j < w.1 0) (hn : w.1 0 ≤ 24) : ab_Ct (d + 4) 0 0 mX1_leastSplitAt [ab_O 0, ab_I i, ab_I j, ab_I s] [w] (ab_Is (hd_mn (fun h => ch_sv w i j s h) i (j - i).toNat) [w]) := by
  refine ab_ct kX1_leastSplitAt rfl rfl (fun x hx => vX1_leastSplitAt_0 hx i j s w 0 0 (ab_x1 (c_splitAt d w hw hs h0 h1 h2 h5 hn (by omega) (by omega)) ⟨by omega, ?_⟩))
  have key : ∀ (q m : Nat), i + m + q = j → ab_J x 15 [some (ab_O 0), some (ab_I i), some (ab_I j), some (ab_I s), some (ab_I (hd_mn (fun h => ch_sv w i j s h) i m)), some (ab_I (i + m + 1))] [] [w] 0 0 := by
    intro q
    induction q with
    | zero =>
      intro m hm
      have : m = (j - i).toNat := by omega
      subst this
      exact vX1_leastSplitAt_15 hx _ _ _ _ _ w 0 0 ⟨fun _ => ab_lf rfl rfl, fun h => absurd (by omega) h⟩
    | succ q ih =>
      intro m hm
      have := ih (m + 1) (by push_cast; omega)
      simp only [hd_mn] at this
      have e1 : i + ((m + 1 : Nat) : Int) = i + m + 1 := by omega
      rw [e1] at this
      exact vX1_leastSplitAt_15 hx _ _ _ _ _ w 0 0 ⟨fun h => absurd h (by omega), fun _ => ab_x1 (c_splitAt d w hw hs h0 h1 h2 h5 hn (by omega) (by omega)) ⟨by omega, this⟩⟩
  have := key (j - i).toNat 0 (by omega)
  simpa [hd_mn] using this
/-- the first split that costs as little as the cell, or the last one -/
theorem c_bestSplit (d : Nat) (w : ab_Ob) (hw : ch_len w) (hs : ch_sm w) {i j h r : Int} (h0 : 0 ≤ i) (h2 : i < j) (h5 : j < w.1 0) (hn : w.1 0 ≤ 24) (h3 : 0 ≤ h) (h4 : h < w.1 0) (hr1 : i ≤ r) (hr2 : r < j) (hr3 : ch_sv w i j r h = ch_c w i j h) (hr4 : ∀ s : Int, i ≤ s → s < r → ch_sv w i j s h ≠ ch_c w i j h) : ab_Ct (d + 4) 0 0 mX1_bestSplit [ab_O 0, ab_I i, ab_I j, ab_I h] [w] (ab_Is r [w]) := by
  refine ab_ct kX1_bestSplit rfl rfl (fun x hx => vX1_bestSplit_0 hx i j h w 0 0 (ab_x1 (c_cell (d + 1) w hw h0 (by omega) (by omega) h3 (by omega)) ?_))
  have key : ∀ (q m : Nat), i + m + q = r → ab_J x 12 [some (ab_O 0), some (ab_I i), some (ab_I j), some (ab_I h), some (ab_I (ch_c w i j h)), some (ab_I (i + m))] [] [w] 0 0 := by
    intro q
    induction q with
    | zero =>
      intro m hm
      have e : i + (m : Int) = r := by omega
      rw [e]
      exact vX1_bestSplit_12 hx _ _ _ _ _ w 0 0 ⟨by omega, fun _ => ab_lf rfl rfl, fun g => ab_x1 (c_splitAt d w hw hs h0 (by omega) (by omega) h5 hn h3 h4) ⟨fun _ => ab_lf rfl rfl, fun g2 => absurd hr3 g2⟩⟩
    | succ q ih =>
      intro m hm
      have := ih (m + 1) (by push_cast; omega)
      have e1 : i + ((m + 1 : Nat) : Int) = i + m + 1 := by omega
      rw [e1] at this
      exact vX1_bestSplit_12 hx _ _ _ _ _ w 0 0 ⟨by omega, fun g => absurd g (by omega), fun _ => ab_x1 (c_splitAt d w hw hs h0 (by omega) (by omega) h5 hn h3 h4) ⟨fun g => absurd g (hr4 _ (by omega) (by omega)), fun _ => ⟨by omega, this⟩⟩⟩
  have := key (r - i).toNat 0 (by omega)
  simpa using this
def ch_uv (w : ab_Ob) (i j h u : Int) : Int := ch_c w i j u + (w.2 3).2 (h * 24 + u)
theorem c_underAt (d : Nat) (w : ab_Ob) (hw : ch_len w) (hs : ch_sm w) {i j h u : Int} (h0 : 0 ≤ i) (h1 : i ≤ j) (h5 : j < w.1 0) (hn : w.1 0 ≤ 24) (h3 : 0 ≤ h) (h4 : h < w.1 0) (h6 : 0 ≤ u) (h7 : u < w.1 0) : ab_Ct (d + 3) 0 0 mX1_underAt [ab_O 0, ab_I i, ab_I j, ab_I h, ab_I u] [w] (ab_Is (ch_uv w i j h u) [w]) := by
  have b1 := hs.2.1 i j u h0 h1 h5 h6 h7
  have b2 := hs.2.2 h u h3 h4 h6 h7
  have l := hw.2
  have l1 := hw.1
  have r1 := ch_row_b h0 h1 (by omega : j ≤ 23)
  unfold ch_c at b1
  exact ab_ct kX1_underAt rfl rfl (fun x hx => vX1_underAt_0 hx i j h u w 0 0 (ab_x1 (c_row (d + 1) h0 (by omega) (by omega) (by omega)) ⟨by omega, by omega, by omega, by omega, by omega, by omega, ab_lf rfl rfl⟩))
theorem c_bestUnder (d : Nat) (w : ab_Ob) (hw : ch_len w) (hs : ch_sm w) {i j h r : Int} (h0 : 0 ≤ i) (h1 : i ≤ j) (h5 : j < w.1 0) (hn : w.1 0 ≤ 24) (h3 : 0 ≤ h) (h4 : h < w.1 0) (hr1 : i ≤ r) (hr2 : r ≤ j) (hr3 : ch_uv w i j h r = ch_c w i j h) (hr4 : ∀ s : Int, i ≤ s → s < r → ch_uv w i j h s ≠ ch_c w i j h) : ab_Ct (d + 4) 0 0 mX1_bestUnder [ab_O 0, ab_I i, ab_I j, ab_I h] [w] (ab_Is r [w]) := by
  refine ab_ct kX1_bestUnder rfl rfl (fun x hx => vX1_bestUnder_0 hx i j h w 0 0 (ab_x1 (c_cell (d + 1) w hw h0 (by omega) (by omega) h3 (by omega)) ?_))
  have key : ∀ (q m : Nat), i + m + q = r → ab_J x 12 [some (ab_O 0), some (ab_I i), some (ab_I j), some (ab_I h), some (ab_I (ch_c w i j h)), some (ab_I (i + m))] [] [w] 0 0 := by
    intro q
    induction q with
    | zero =>
      intro m hm
      have e : i + (m : Int) = r := by omega
      rw [e]
      exact vX1_bestUnder_12 hx _ _ _ _ _ w 0 0 ⟨fun _ => ab_lf rfl rfl, fun g => ab_x1 (c_underAt d w hw hs h0 h1 h5 hn h3 h4 (by omega) (by omega)) ⟨fun _ => ab_lf rfl rfl, fun g2 => absurd hr3 g2⟩⟩
    | succ q ih =>
      intro m hm
      have := ih (m + 1) (by push_cast; omega)
      have e1 : i + ((m + 1 : Nat) : Int) = i + m + 1 := by omega
      rw [e1] at this
      exact vX1_bestUnder_12 hx _ _ _ _ _ w 0 0 ⟨fun g => absurd g (by omega), fun _ => ab_x1 (c_underAt d w hw hs h0 h1 h5 hn h3 h4 (by omega) (by omega)) ⟨fun g => absurd g (hr4 _ (by omega) (by omega)), fun _ => ⟨by omega, this⟩⟩⟩
  have := key (r - i).toNat 0 (by omega)
  simpa using this
/-! filling -/
theorem c_leastUnder (d : Nat) (w : ab_Ob) (hw : ch_len w) {i j h : Int} (h0 : 0 ≤ i) (h1 : i ≤ j) (h2 : j ≤ 23) (h3 : 0 ≤ h) (h4 : h ≤ 23) (hb : ∀ u : Int, i ≤ u → u ≤ j → (0 ≤ ch_c w i j u ∧ ch_c w i j u ≤ 3000000) ∧ (0 ≤ (w.2 3).2 (h * 24 + u) ∧ (w.2 3).2 (h * 24 + u) ≤ 60000)) : ab_Ct (d + 1) 0 0 mX1_leastUnder [ab_O 0, ab_I (ch_row i j), ab_I i, ab_I j, ab_I (h * 24)] [w] (ab_Is (hd_mn (fun u => ch_c w i j u + (w.2 3).2 (h * 24 + u)) i (j - i).toNat) [w]) := by
  have b := ch_row_b h0 h1 h2
  obtain ⟨l2, l3⟩ := hw
  have bi := hb i (by omega) h1
  unfold ch_c at bi
  refine ab_ct kX1_leastUnder rfl rfl (fun x hx => vX1_leastUnder_0 hx _ i j _ w 0 0 ⟨by omega, by omega, by omega, by omega, by omega, by omega, ?_⟩)
  have key : ∀ (q m : Nat), i + m + q = j → ab_J x 25 [some (ab_O 0), some (ab_I (ch_row i j)), none, some (ab_I j), some (ab_I (h * 24)), some (ab_I (hd_mn (fun u => ch_c w i j u + (w.2 3).2 (h * 24 + u)) i m)), some (ab_I (i + m + 1)), none] [] [w] 0 0 := by
    intro q
    induction q with
    | zero =>
      intro m hm
      have : m = (j - i).toNat := by omega
      subst this
      exact vX1_leastUnder_25 hx _ _ _ _ _ w 0 0 ⟨fun _ => ab_lf rfl rfl, fun h => absurd (by omega) h⟩
    | succ q ih =>
      intro m hm
      have := ih (m + 1) (by push_cast; omega)
      simp only [hd_mn] at this
      have e1 : i + ((m + 1 : Nat) : Int) = i + m + 1 := by omega
      rw [e1] at this
      have bm := hb (i + m + 1) (by omega) (by omega)
      unfold ch_c at bm
      refine vX1_leastUnder_25 hx _ _ _ _ _ w 0 0 ⟨fun h => absurd h (by omega), fun _ => ⟨by omega, by omega, by omega, by omega, by omega, fun g => ⟨by omega, ?_⟩, fun g => ⟨by omega, ?_⟩⟩⟩
      · rw [if_neg (by show ¬ ((w.2 2).2 (ch_row i j + (i + m + 1)) + _ < _); omega)] at this
        exact this
      · rw [if_pos (by show (w.2 2).2 (ch_row i j + (i + m + 1)) + _ < _; omega)] at this
        exact this
  have := key (j - i).toNat 0 (by omega)
  simpa [hd_mn, ch_c] using this
theorem c_leastInside (d : Nat) (w : ab_Ob) (hw : ch_len w) {i j h : Int} (h0 : 0 ≤ i) (h1 : i < j) (h2 : j ≤ 23) (h3 : 0 ≤ h) (h4 : h ≤ 23) (he : 0 ≤ w.1 1 ∧ w.1 1 ≤ 99) (hb : ∀ s : Int, i ≤ s → s < j → (0 ≤ ch_c w i s h ∧ ch_c w i s h ≤ 3000000) ∧ (0 ≤ ch_c w (s + 1) j h ∧ ch_c w (s + 1) j h ≤ 3000000)) : ab_Ct (d + 2) 0 0 mX1_leastInside [ab_O 0, ab_I i, ab_I j, ab_I h] [w] (ab_Is (hd_mn (fun s => ch_sv w i j s h) i (j - i - 1).toNat) [w]) := by
  have r1 := ch_row_b h0 (Int.le_refl i) (by omega)
  have r2 := ch_row_b (by omega : 0 ≤ i + 1) (by omega : i + 1 ≤ j) h2
  have l := hw.1
  refine ab_ct kX1_leastInside rfl rfl (fun x hx => vX1_leastInside_0 hx i j h w 0 0 (ab_x1 (c_row d h0 (by omega) h0 (by omega)) ⟨by omega, by omega, ab_x1 (c_row d (by omega) (by omega) (by omega) h2) ⟨by omega, by omega, by omega, ?_⟩⟩))
  have st : ∀ (s L : Int), i ≤ s → s < j → 0 ≤ L → L ≤ 1000000000 → ab_J x 34 [some (ab_O 0), none, some (ab_I j), none, some (ab_I (ch_row i (s + 1) + h)), some (ab_I (ch_row (s + 2) j + h)), some (ab_I ((s + 2 - i) - (j - (s + 1)))), some (ab_I (if ch_sv w i j s h < L then ch_sv w i j s h else L)), some (ab_I (s + 1)), none] [] [w] 0 0 → ab_J x 34 [some (ab_O 0), none, some (ab_I j), none, some (ab_I (ch_row i s + h)), some (ab_I (ch_row (s + 1) j + h)), some (ab_I ((s + 1 - i) - (j - s))), some (ab_I L), some (ab_I s), none] [] [w] 0 0 := by
    intro s L s1 s2 L1 L2 k
    have q1 := ch_row_b h0 s1 (by omega)
    have q2 := ch_row_b (by omega : 0 ≤ s + 1) (by omega : s + 1 ≤ j) h2
    have t1 := (ch_tri_b (by omega : 0 ≤ s) (by omega)).2.2.2.2
    have e1 : ch_row i (s + 1) + h = ch_row i s + h + (s + 1) * 24 := by unfold ch_row; rw [t1]; omega
    have e2 : ch_row (s + 2) j + h = ch_row (s + 1) j + h + 24 := by unfold ch_row; omega
    have e3 : (s + 2 - i) - (j - (s + 1)) = (s + 1 - i) - (j - s) + 2 := by omega
    rw [e1, e2, e3] at k
    have bb := hb s s1 s2
    unfold ch_c at bb
    have b3 : 0 ≤ sc_abs ((s + 1 - i) - (j - s)) ∧ sc_abs ((s + 1 - i) - (j - s)) ≤ 30 := by unfold sc_abs; split <;> omega
    have b4 := ch_ev he b3
    have hsv : ch_sv w i j s h = (w.2 2).2 (ch_row i s + h) + (w.2 2).2 (ch_row (s + 1) j + h) + w.1 1 * sc_abs ((s + 1 - i) - (j - s)) := rfl
    refine vX1_leastInside_34 hx _ _ _ _ _ _ w 0 0 ⟨fun g => absurd g (by omega), fun _ => ⟨by omega, by omega, by omega, fun g => ?_, fun g => ?_⟩⟩
    · have ea : sc_abs ((s + 1 - i) - (j - s)) = (s + 1 - i) - (j - s) := by unfold sc_abs; rw [if_pos g]
      rw [ea] at b4 hsv
      refine ⟨by omega, by omega, fun g2 => ?_, fun g2 => ?_⟩
      · rw [if_neg (by rw [hsv]; omega)] at k
        exact ⟨by omega, by omega, by omega, by omega, by omega, by omega, k⟩
      · rw [if_pos (by rw [hsv]; omega), hsv] at k
        exact ⟨by omega, by omega, by omega, by omega, by omega, by omega, k⟩
    · have ea : sc_abs ((s + 1 - i) - (j - s)) = -((s + 1 - i) - (j - s)) := by unfold sc_abs; rw [if_neg g]; omega
      rw [ea] at b4 hsv
      refine ⟨by omega, by omega, by omega, fun g2 => ?_, fun g2 => ?_⟩
      · rw [if_neg (by rw [hsv]; omega)] at k
        exact ⟨by omega, by omega, by omega, by omega, by omega, by omega, k⟩
      · rw [if_pos (by rw [hsv]; omega), hsv] at k
        exact ⟨by omega, by omega, by omega, by omega, by omega, by omega, k⟩
  have svb : ∀ s, i ≤ s → s < j → 0 ≤ ch_sv w i j s h ∧ ch_sv w i j s h ≤ 7000000 := by
    intro s s1 s2
    have bb := hb s s1 s2
    have b3 : 0 ≤ sc_abs ((s + 1 - i) - (j - s)) ∧ sc_abs ((s + 1 - i) - (j - s)) ≤ 30 := by unfold sc_abs; split <;> omega
    have b4 := ch_ev he b3
    unfold ch_sv
    omega
  have key : ∀ (q m : Nat), i + m + 1 + q = j → ab_J x 34 [some (ab_O 0), none, some (ab_I j), none, some (ab_I (ch_row i (i + m + 1) + h)), some (ab_I (ch_row (i + m + 2) j + h)), some (ab_I ((i + m + 2 - i) - (j - (i + m + 1)))), some (ab_I (hd_mn (fun s => ch_sv w i j s h) i m)), some (ab_I (i + m + 1)), none] [] [w] 0 0 := by
    intro q
    induction q with
    | zero =>
      intro m hm
      have : m = (j - i - 1).toNat := by omega
      subst this
      exact vX1_leastInside_34 hx _ _ _ _ _ _ w 0 0 ⟨fun _ => ab_lf rfl rfl, fun g => absurd (by omega) g⟩
    | succ q ih =>
      intro m hm
      have hbm := hd_mn_b (f := fun s => ch_sv w i j s h) (i := i) (m := m) (A := 0) (B := 7000000) (fun k k1 k2 => svb k k1 (by omega))
      have := ih (m + 1) (by push_cast; omega)
      simp only [hd_mn] at this
      have e1 : i + ((m + 1 : Nat) : Int) = i + m + 1 := by omega
      rw [e1] at this
      have s0 := st (i + m + 1) (hd_mn (fun s => ch_sv w i j s h) i m) (by omega) (by omega) hbm.1 (by omega)
      have f1 : i + m + 1 + 1 = i + (m : Int) + 2 := by omega
      have f2 : i + m + 1 + 2 = i + (m : Int) + 1 + 1 + 1 := by omega
      simp only [f1] at s0 this
      exact s0 this
  have s0 := st i 1000000000 (by omega) h1 (by omega) (by omega)
  rw [if_pos (by have := svb i (by omega) h1; omega)] at s0
  have k0 := key (j - i - 1).toNat 0 (by omega)
  simp only [hd_mn, Int.natCast_zero, Int.add_zero] at k0
  have e0 : i - j + 1 = i + 1 - i - (j - i) := by omega
  rw [e0]
  exact s0 k0
/-- some cells of a row have been written -/
def ch_fs (w v : ab_Ob) (i j : Int) (D : Int → Prop) (val : Int → Int) : Prop :=
  v.1 = w.1 ∧ (∀ f, f ≠ 2 → v.2 f = w.2 f) ∧ (v.2 2).1 = (w.2 2).1 ∧ (∀ h : Int, 0 ≤ h → h ≤ 23 → D h → ch_c v i j h = val h) ∧ ∀ q : Int, (∀ h : Int, 0 ≤ h → h ≤ 23 → D h → q ≠ ch_row i j + h) → (v.2 2).2 q = (w.2 2).2 q
theorem ch_fs_0 (w : ab_Ob) (i j : Int) (val : Int → Int) : ch_fs w w i j (fun _ => False) val := ⟨rfl, fun _ _ => rfl, rfl, fun _ _ _ h => h.elim, fun _ _ => rfl⟩
theorem ch_fs_s {w v : ab_Ob} {i j : Int} {D D' : Int → Prop} {val : Int → Int} (hv : ch_fs w v i j D val) {h z : Int} (hz : z = val h) (hD : ∀ k, D' k ↔ D k ∨ k = h) (h0 : 0 ≤ h) (h1 : h ≤ 23) : ch_fs w (ab_pa v 2 (ch_row i j + h) z) i j D' val := by
  obtain ⟨g1, g2, g3, g4, g5⟩ := hv
  refine ⟨g1, fun f hf => by rw [hd_pa_ne hf]; exact g2 f hf, by rw [hd_pa_len]; exact g3, fun k k0 k1 hk => ?_, fun q hq => ?_⟩
  · unfold ch_c
    rw [hd_pa_eq]
    show ab_ui (v.2 2).2 (ch_row i j + h) z (ch_row i j + k) = val k
    by_cases e : k = h
    · subst e; rw [hd_ui_eq]; exact hz
    · rw [hd_ui_ne (by omega)]
      exact g4 k k0 k1 (((hD k).mp hk).resolve_right e)
  · rw [hd_pa_eq]
    show ab_ui (v.2 2).2 (ch_row i j + h) z q = _
    rw [hd_ui_ne (hq h h0 h1 ((hD h).mpr (Or.inr rfl)))]
    exact g5 q (fun k k0 k1 hk => hq k k0 k1 ((hD k).mpr (Or.inl hk)))
theorem ch_fs_c {w v : ab_Ob} {i j : Int} {D : Int → Prop} {val : Int → Int} (hv : ch_fs w v i j D val) {i' j' h' : Int} (a1 : 0 ≤ i) (a2 : i ≤ j) (a3 : j ≤ 23) (b1 : 0 ≤ i') (b2 : i' ≤ j') (b3 : j' ≤ 23) (b4 : 0 ≤ h') (b5 : h' ≤ 23) (hne : ¬ (i' = i ∧ j' = j)) : ch_c v i' j' h' = ch_c w i' j' h' := by
  unfold ch_c
  refine hv.2.2.2.2 _ fun h h0 h1 _ e => hne ?_
  have := ch_row_inj b1 b2 b3 b4 b5 a1 a2 a3 h0 h1 e
  exact ⟨this.1, this.2.1⟩
/-- what does not change while a chart is filled -/
def ch_base (w : ab_Ob) (c : Int → Int → Int → Int → Int) (n ev : Int) : Prop := ch_len w ∧ w.1 0 = n ∧ w.1 1 = ev ∧ ∀ h u : Int, 0 ≤ h → h < n → 0 ≤ u → u < n → (w.2 3).2 (h * 24 + u) = c h u 1 1
theorem ch_fs_base {w v : ab_Ob} {i j : Int} {D : Int → Prop} {val : Int → Int} (hv : ch_fs w v i j D val) {c : Int → Int → Int → Int → Int} {n ev : Int} (hb : ch_base w c n ev) : ch_base v c n ev := by
  obtain ⟨g1, g2, g3, g4, g5⟩ := hv
  obtain ⟨⟨l2, l3⟩, b1, b2, b3⟩ := hb
  refine ⟨⟨by rw [g3]; exact l2, by rw [g2 3 (by decide)]; exact l3⟩, by rw [g1]; exact b1, by rw [g1]; exact b2, by rw [g2 3 (by decide)]; exact b3⟩
def ch_val (c : Int → Int → Int → Int → Int) (i j h : Int) : Int := if i ≤ h ∧ h ≤ j then dp_B c i j h else dp_U c i j h
/-- the cells of a span are right -/
def ch_sp (w : ab_Ob) (c : Int → Int → Int → Int → Int) (n i j : Int) : Prop := ∀ h : Int, 0 ≤ h → h < n → ch_c w i j h = ch_val c i j h
theorem ch_val_b {c : Int → Int → Int → Int → Int} {n : Int} (hn : n ≤ 24) (hc : dp_cb c n) {i j h : Int} (a1 : 0 ≤ i) (a2 : i ≤ j) (a3 : j < n) (a4 : 0 ≤ h) (a5 : h < n) : 0 ≤ ch_val c i j h ∧ ch_val c i j h ≤ 3000000 := by
  unfold ch_val
  split
  · have := dp_B_b hn hc (j - i).toNat i j h a1 a2 a3 (by omega) (by omega) (by omega)
    omega
  · have := dp_U_b hn hc a1 a2 a3 a4 a5
    omega
/-- a split's cost over right cells -/
theorem ch_sv_dp {w : ab_Ob} {c : Int → Int → Int → Int → Int} {n ev : Int} (hev : ∀ h u l r, c h u l r = c h u 1 1 + ev * sc_abs (l - r)) (hb : ch_base w c n ev) {i j s h : Int} (h1 : i ≤ s) (h2 : s < j) (h3 : 0 ≤ h) (h4 : h < n) (h5 : i ≤ h) (h6 : h ≤ j) (s1 : ch_sp w c n i s) (s2 : ch_sp w c n (s + 1) j) : ch_sv w i j s h = dp_I c (dp_B c) i j h s := by
  unfold ch_sv
  rw [s1 h h3 h4, s2 h h3 h4, hb.2.2.1, dp_I_eq hev ⟨h1, h2⟩]
  unfold ch_val
  by_cases hs : h ≤ s
  · rw [if_pos ⟨h5, hs⟩, if_neg (by omega), if_pos hs]
  · rw [if_neg (by omega), if_pos (by omega), if_neg hs]
theorem c_fillSpan (d : Nat) (w : ab_Ob) {c : Int → Int → Int → Int → Int} {n ev : Int} (hn : n ≤ 24) (hc : dp_cb c n) (hev : ∀ h u l r, c h u l r = c h u 1 1 + ev * sc_abs (l - r)) (he : 0 ≤ ev ∧ ev ≤ 99) (hb : ch_base w c n ev) {i j : Int} (h0 : 0 ≤ i) (h1 : i ≤ j) (h2 : j < n)
    (hsub : ∀ i' j' : Int, i ≤ i' → i' ≤ j' → j' ≤ j → j' - i' < j - i → ch_sp w c n i' j') :
    ab_Ct (d + 3) 0 0 mX1_fillSpan [ab_O 0, ab_I i, ab_I j] [w] (ab_V1 (fun v => ch_fs w v i j (fun h => 0 ≤ h ∧ h < n) (ch_val c i j))) := by
  refine ab_ct kX1_fillSpan rfl rfl (fun x hx => vX1_fillSpan_0 hx i j w 0 0 (ab_x1 (c_row (d + 1) h0 (by omega) (by omega) (by omega)) ?_))
  have rb := ch_row_b h0 h1 (by omega : j ≤ 23)
  -- sub-spans of what has been written so far
  have hsv : ∀ {v : ab_Ob} {D : Int → Prop}, ch_fs w v i j D (ch_val c i j) → ∀ i' j' : Int, i ≤ i' → i' ≤ j' → j' ≤ j → j' - i' < j - i → ch_sp v c n i' j' := by
    intro v D hv i' j' a1 a2 a3 a4 h b1 b2
    rw [ch_fs_c hv h0 h1 (by omega) (by omega) a2 (by omega) b1 (by omega) (by omega)]
    exact hsub i' j' a1 a2 a3 a4 h b1 b2
  -- the third loop
  have k3 : ∀ (q m : Nat) (v : ab_Ob), j + 1 + m + q = n → ch_fs w v i j (fun h => (0 ≤ h ∧ h < i) ∨ (i ≤ h ∧ h < j + 1 + m)) (ch_val c i j) → ab_J x 88 [some (ab_O 0), some (ab_I i), some (ab_I j), some (ab_I (ch_row i j)), some (ab_I (j + 1 + m))] [] [v] 0 0 := by
    intro q
    induction q with
    | zero =>
      intro m v hm hv
      have hbv := ch_fs_base hv hb
      have e0 := hbv.2.1
      refine vX1_fillSpan_88 hx _ _ _ _ v 0 0 ⟨fun _ => ab_lv1 ?_, fun g => absurd (by omega) g⟩
      obtain ⟨g1, g2, g3, g4, g5⟩ := hv
      exact ⟨g1, g2, g3, fun h a b hh => g4 h a b (by omega), fun q hq => g5 q (fun h a b hh => hq h a b (by omega))⟩
    | succ q ih =>
      intro m v hm hv
      have hbv := ch_fs_base hv hb
      have e0 := hbv.2.1
      have lv := hbv.1
      refine vX1_fillSpan_88 hx _ _ _ _ v 0 0 ⟨fun g => absurd g (by omega), fun _ => ⟨by omega, by omega, ab_x1 (c_leastUnder (d + 1) v lv h0 h1 (by omega) (by omega) (by omega) (fun u u1 u2 => ?_)) ⟨by have := lv.1; omega, by omega, ?_⟩⟩⟩
      · have e1 : ch_c v i j u = ch_val c i j u := hv.2.2.2.1 u (by omega) (by omega) (by omega)
        have e2 : (v.2 3).2 ((j + 1 + m) * 24 + u) = c (j + 1 + m) u 1 1 := hbv.2.2.2 _ u (by omega) (by omega) (by omega) (by omega)
        rw [e1, e2]
        exact ⟨ch_val_b hn hc h0 h1 h2 (by omega) (by omega), hc _ _ 1 1 (by omega) (by omega) (by omega) (by omega) (by omega) (by omega) (by omega) (by omega)⟩
      · have := ih (m + 1) (ab_pa v 2 (ch_row i j + (j + 1 + m)) (hd_mn (fun u => ch_c v i j u + (v.2 3).2 ((j + 1 + m) * 24 + u)) i (j - i).toNat)) (by push_cast; omega) (ch_fs_s hv ?_ (fun k => by push_cast; omega) (by omega) (by omega))
        · have e1 : j + 1 + ((m + 1 : Nat) : Int) = j + 1 + m + 1 := by omega
          rw [e1] at this
          exact this
        · unfold ch_val
          rw [if_neg (by omega)]
          refine hd_mn_congr fun u u1 u2 => ?_
          rw [hv.2.2.2.1 u (by omega) (by omega) (by omega), hbv.2.2.2 _ u (by omega) (by omega) (by omega) (by omega)]
          unfold ch_val
          rw [if_pos (by omega)]
  -- the second loop
  have k2 : ∀ (q m : Nat) (v : ab_Ob), (m : Int) + q = i → ch_fs w v i j (fun h => (0 ≤ h ∧ h < m) ∨ (i ≤ h ∧ h ≤ j)) (ch_val c i j) → ab_J x 50 [some (ab_O 0), some (ab_I i), some (ab_I j), some (ab_I (ch_row i j)), some (ab_I m)] [] [v] 0 0 := by
    intro q
    induction q with
    | zero =>
      intro m v hm hv
      refine vX1_fillSpan_50 hx _ _ _ _ v 0 0 ⟨fun _ => ⟨by omega, ?_⟩, fun g => absurd (by omega) g⟩
      have := k3 (n - (j + 1)).toNat 0 v (by omega) ?_
      · simpa using this
      · obtain ⟨g1, g2, g3, g4, g5⟩ := hv
        exact ⟨g1, g2, g3, fun h a b hh => g4 h a b (by omega), fun q hq => g5 q (fun h a b hh => hq h a b (by omega))⟩
    | succ q ih =>
      intro m v hm hv
      have hbv := ch_fs_base hv hb
      have lv := hbv.1
      refine vX1_fillSpan_50 hx _ _ _ _ v 0 0 ⟨fun g => absurd g (by omega), fun _ => ⟨by omega, by omega, ab_x1 (c_leastUnder (d + 1) v lv h0 h1 (by omega) (by omega) (by omega) (fun u u1 u2 => ?_)) ⟨by have := lv.1; omega, by omega, ?_⟩⟩⟩
      · have e1 : ch_c v i j u = ch_val c i j u := hv.2.2.2.1 u (by omega) (by omega) (by omega)
        have e2 : (v.2 3).2 ((m : Int) * 24 + u) = c m u 1 1 := hbv.2.2.2 _ u (by omega) (by omega) (by omega) (by omega)
        rw [e1, e2]
        exact ⟨ch_val_b hn hc h0 h1 h2 (by omega) (by omega), hc _ _ 1 1 (by omega) (by omega) (by omega) (by omega) (by omega) (by omega) (by omega) (by omega)⟩
      · exact ih (m + 1) (ab_pa v 2 (ch_row i j + m) (hd_mn (fun u => ch_c v i j u + (v.2 3).2 ((m : Int) * 24 + u)) i (j - i).toNat)) (by push_cast; omega) (ch_fs_s hv (by
          unfold ch_val
          rw [if_neg (by omega)]
          refine hd_mn_congr fun u u1 u2 => ?_
          rw [hv.2.2.2.1 u (by omega) (by omega) (by omega), hbv.2.2.2 _ u (by omega) (by omega) (by omega) (by omega)]
          unfold ch_val
          rw [if_pos (by omega)]) (fun k => by push_cast; omega) (by omega) (by omega))
  -- the first loop
  have k1 : ∀ (q m : Nat) (v : ab_Ob), i + m + q = j + 1 → ch_fs w v i j (fun h => i ≤ h ∧ h < i + m) (ch_val c i j) → ab_J x 9 [some (ab_O 0), some (ab_I i), some (ab_I j), some (ab_I (ch_row i j)), some (ab_I (i + m))] [] [v] 0 0 := by
    intro q
    induction q with
    | zero =>
      intro m v hm hv
      refine vX1_fillSpan_9 hx _ _ _ _ v 0 0 ⟨fun _ => ?_, fun g => absurd (by omega) g⟩
      refine k2 i.toNat 0 v (by omega) ?_
      obtain ⟨g1, g2, g3, g4, g5⟩ := hv
      exact ⟨g1, g2, g3, fun h a b hh => g4 h a b (by omega), fun q hq => g5 q (fun h a b hh => hq h a b (by omega))⟩
    | succ q ih =>
      intro m v hm hv
      have hbv := ch_fs_base hv hb
      have lv := hbv.1
      have nxt : ∀ z, z = ch_val c i j (i + m) → ab_J x 9 [some (ab_O 0), some (ab_I i), some (ab_I j), some (ab_I (ch_row i j)), some (ab_I (i + m + 1))] [] [ab_pa v 2 (ch_row i j + (i + m)) z] 0 0 := by
        intro z hz
        have := ih (m + 1) (ab_pa v 2 (ch_row i j + (i + m)) z) (by push_cast; omega) (ch_fs_s hv hz (fun k => by push_cast; omega) (by omega) (by omega))
        have e1 : i + ((m + 1 : Nat) : Int) = i + m + 1 := by omega
        rw [e1] at this
        exact this
      refine vX1_fillSpan_9 hx _ _ _ _ v 0 0 ⟨fun g => absurd g (by omega), fun _ => ⟨by omega, fun g => ab_x1 (c_leastInside d v lv h0 (by omega) (by omega) (by omega) (by omega) (by rw [hbv.2.2.1]; exact he) (fun s s1 s2 => ?_)) ⟨by have := lv.1; omega, by omega, nxt _ ?_⟩, fun g => ⟨by have := lv.1; omega, by omega, nxt _ ?_⟩⟩⟩
      · rw [hsv hv i s (by omega) (by omega) (by omega) (by omega) _ (by omega) (by omega), hsv hv (s + 1) j (by omega) (by omega) (by omega) (by omega) _ (by omega) (by omega)]
        exact ⟨ch_val_b hn hc h0 s1 (by omega) (by omega) (by omega), ch_val_b hn hc (by omega) (by omega) h2 (by omega) (by omega)⟩
      · unfold ch_val
        rw [if_pos (by omega), dp_B_S (by omega) (by omega)]
        exact hd_mn_congr fun s s1 s2 => ch_sv_dp hev hbv s1 (by omega) (by omega) (by omega) (by omega) (by omega) (hsv hv i s (by omega) (by omega) (by omega) (by omega)) (hsv hv (s + 1) j (by omega) (by omega) (by omega) (by omega))
      · unfold ch_val
        rw [if_pos (by omega)]
        have : i + (m : Int) = i := by omega
        rw [← g, this, dp_B_0]
  have := k1 (j + 1 - i).toNat 0 w (by omega) ?_
  · simpa using this
  · obtain ⟨g1, g2, g3, g4, g5⟩ := ch_fs_0 w i j (ch_val c i j)
    exact ⟨g1, g2, g3, fun h a b hh => absurd hh (by omega), fun q hq => rfl⟩
