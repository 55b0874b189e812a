/-! Counts -/
abbrev ab_IsL (R : Int) (W : List ab_Ob) : Option ab_V → List ab_Ob → Prop := fun rv w => rv = some (ab_L R) ∧ w = W
theorem dw_X_D {c : Int → Int → Int → Int → Int} {a b h : Int} (h1 : a ≤ b) (h2 : b - a ≤ 23) : 0 ≤ dw_X c (dw_W c) a b h ∧ dw_X c (dw_W c) a b h ≤ dw_D (b - a) := by
  have i := dw_A_b (c := c) (b - a).toNat a b h1 (by omega) h2
  have := dw_X_b (c := c) (h := h) i.1
  omega
def dw_t (c : Int → Int → Int → Int → Int) (i j h s : Int) : Int := if dp_I c (dp_B c) i j h s = dp_B c i j h then dw_X c (dw_W c) i s h * dw_X c (dw_W c) (s + 1) j h else 0
theorem dw_t_b {c : Int → Int → Int → Int → Int} {i j h s : Int} (h1 : i ≤ s) (h2 : s < j) (h3 : j - i ≤ 23) : (0 ≤ dw_X c (dw_W c) i s h * dw_X c (dw_W c) (s + 1) j h ∧ dw_X c (dw_W c) i s h * dw_X c (dw_W c) (s + 1) j h ≤ 3000000000000000000) ∧ 0 ≤ dw_t c i j h s ∧ dw_t c i j h s ≤ dw_D (s - i) * dw_D (j - s - 1) + dw_D (s - i) * dw_D (j - s - 1) := by
  have x1 := dw_X_D (c := c) (h := h) h1 (by omega : s - i ≤ 23)
  have x2 := dw_X_D (c := c) (h := h) (by omega : s + 1 ≤ j) (by omega)
  have e : j - (s + 1) = j - s - 1 := by omega
  rw [e] at x2
  have p := hd_mul_le x1.1 x1.2 x2.1 x2.2
  have d1 := dw_D_b (m := s - i) (by omega) (by omega)
  have d2 := dw_D_b (m := j - s - 1) (by omega) (by omega)
  have dd := Int.mul_nonneg (by omega : 0 ≤ dw_D (s - i)) (by omega : 0 ≤ dw_D (j - s - 1))
  have r := dw_D_r (i := i) (j := j) (by omega) h3
  have mm := hd_sm_mem (f := fun s => dw_D (s - i) * dw_D (j - s - 1) + dw_D (s - i) * dw_D (j - s - 1)) (i := i) (m := (j - i).toNat) (k := s) (fun q q1 q2 => by
    have d1 := dw_D_b (m := q - i) (by omega) (by omega)
    have d2 := dw_D_b (m := j - q - 1) (by omega) (by omega)
    have dd := Int.mul_nonneg (by omega : 0 ≤ dw_D (q - i)) (by omega : 0 ≤ dw_D (j - q - 1))
    show 0 ≤ dw_D (q - i) * dw_D (j - q - 1) + dw_D (q - i) * dw_D (j - q - 1)
    omega) h1 (by omega)
  have db := dw_D_b (m := j - i) (by omega) h3
  rw [r] at mm
  refine ⟨⟨p.1, by omega⟩, ?_⟩
  unfold dw_t
  split <;> omega
theorem dw_t_s {c : Int → Int → Int → Int → Int} {i j h : Int} (h1 : i < j) (h3 : j - i ≤ 23) {m : Nat} (hm : m ≤ (j - i).toNat) : 0 ≤ hd_sm (fun s => dw_t c i j h s) i m ∧ hd_sm (fun s => dw_t c i j h s) i m ≤ 3000000000000000000 := by
  have nn : ∀ k : Int, i ≤ k → k < i + (j - i).toNat → 0 ≤ dw_t c i j h k := fun k k1 k2 => (dw_t_b k1 (by omega) h3).2.1
  refine ⟨hd_sm_nn fun k k1 k2 => nn k k1 (by omega), ?_⟩
  have a := hd_sm_mono (f := fun s => dw_t c i j h s) hm nn
  have b := hd_sm_le (f := fun s => dw_t c i j h s) (g := fun s => dw_D (s - i) * dw_D (j - s - 1) + dw_D (s - i) * dw_D (j - s - 1)) (i := i) (m := (j - i).toNat) (fun k k1 k2 => (dw_t_b k1 (by omega) h3).2.2)
  rw [dw_D_r h1 h3] at b
  have db := dw_D_b (m := j - i) (by omega) h3
  omega
def cn_c (v : ab_Ob) (i j h : Int) : Int := (v.2 0).2 (ch_row i j + h)
theorem ch_row_le {i j : Int} (h0 : 0 ≤ i) (h1 : i ≤ j) (h2 : j ≤ 23) : 0 ≤ ch_row i j ∧ ch_row i j + 24 ≤ 7200 := by
  have := ch_row_b h0 h1 h2
  omega
theorem c_countInside (d : Nat) (v w : ab_Ob) {c : Int → Int → Int → Int → Int} {n ev : Int} (hn : n ≤ 24) (hc : dp_cb c n) (hev : ∀ h u l r, c h u l r = c h u 1 1 + ev * sc_abs (l - r)) (he : 0 ≤ ev ∧ ev ≤ 99) (hw : ch_ok w c n ev) (hv : (v.2 0).1 = 7200) {i j h : Int} (h0 : 0 ≤ i) (h1 : i < j) (h2 : j < n) (h3 : i ≤ h) (h4 : h ≤ j)
    (hs : ∀ s : Int, i ≤ s → s < j → cn_c v i s h = dw_X c (dw_W c) i s h ∧ cn_c v (s + 1) j h = dw_X c (dw_W c) (s + 1) j h) : ab_Ct (d + 4) 0 0 mX2_countInside [ab_O 0, ab_O 1, ab_I i, ab_I j, ab_I h] [v, w] (ab_IsL (dw_W c i j h) [v, w]) := by
  have sm := ch_ok_sm hn hc he hw
  have e0 := hw.1.2.1
  have ec : ch_c w i j h = dp_B c i j h := by
    rw [hw.2 i j h0 (by omega) h2 h (by omega) (by omega)]
    unfold ch_val
    rw [if_pos ⟨h3, h4⟩]
  have cc := c_cell (d + 1) w hw.1.1 (i := i) (j := j) (h := h) h0 (by omega) (by omega) (by omega) (by omega)
  rw [ec] at cc
  have eW : dw_W c i j h = hd_sm (fun s => dw_t c i j h s) i (j - i).toNat := dw_W_S h1 (by omega)
  refine ab_ct kX2_countInside rfl rfl (fun x hx => vX2_countInside_0 hx i j h v w 0 0 (ab_x1 cc ?_))
  have key : ∀ (q m : Nat), i + m + q = j → ab_J x 16 [some (ab_O 0), some (ab_O 1), some (ab_I i), some (ab_I j), some (ab_I h), some (ab_I (dp_B c i j h)), some (ab_L (hd_sm (fun s => dw_t c i j h s) i m)), none, some (ab_I (i + m))] [] [v, w] 0 0 := by
    intro q
    induction q with
    | zero =>
      intro m hm
      have : m = (j - i).toNat := by omega
      subst this
      exact vX2_countInside_16 hx _ _ _ _ _ _ v w 0 0 ⟨fun _ => ab_lfl rfl eW.symm, fun g => absurd (by omega) g⟩
    | succ q ih =>
      intro m hm
      have sv := ch_sv_dp hev hw.1 (by omega : i ≤ i + m) (by omega : i + m < j) (by omega : 0 ≤ h) (by omega) h3 h4 (hw.2 i (i + m) h0 (by omega) (by omega)) (hw.2 (i + m + 1) j (by omega) (by omega) h2)
      have cs := c_splitAt d w hw.1.1 sm (i := i) (j := j) (s := i + m) (h := h) h0 (by omega) (by omega) (by omega) (by omega) (by omega) (by omega)
      rw [sv] at cs
      have b1 := dw_t_s (c := c) (h := h) h1 (by omega) (m := m) (by omega)
      have b2 := dw_t_s (c := c) (h := h) h1 (by omega) (m := m + 1) (by omega)
      have b3 := dw_t_b (c := c) (h := h) (by omega : i ≤ i + m) (by omega : i + m < j) (by omega)
      have nx := ih (m + 1) (by push_cast; omega)
      have e1 : i + ((m + 1 : Nat) : Int) = i + m + 1 := by omega
      simp only [hd_sm] at nx b2
      rw [e1] at nx
      refine vX2_countInside_16 hx _ _ _ _ _ _ v w 0 0 ⟨fun g => absurd g (by omega), fun _ => ab_x1 cs ⟨fun g => ⟨by omega, ?_⟩, fun g => ?_⟩⟩
      · have e2 : dw_t c i j h (i + m) = 0 := by unfold dw_t; rw [if_neg g]
        rw [e2, Int.add_zero] at nx
        exact nx
      · have e2 : dw_t c i j h (i + m) = dw_X c (dw_W c) i (i + m) h * dw_X c (dw_W c) (i + m + 1) j h := by unfold dw_t; rw [if_pos g]
        rw [e2] at nx b2
        have r1 := ch_row_le h0 (by omega : i ≤ i + m) (by omega)
        have r2 := ch_row_le (by omega : 0 ≤ i + m + 1) (by omega : i + m + 1 ≤ j) (by omega)
        have s1 := hs (i + m) (by omega) (by omega)
        unfold cn_c at s1
        refine ab_x1 (c_row (d + 2) h0 (by omega) (by omega) (by omega)) ⟨by omega, by omega, by omega, ab_x1 (c_row (d + 2) (by omega) (by omega) (by omega) (by omega)) ⟨by omega, by omega, ?_⟩⟩
        rw [s1.1, s1.2]
        exact ⟨by omega, by omega, by omega, nx⟩
  have := key (j - i).toNat 0 (by omega)
  simpa [hd_sm] using this
theorem c_countUnder (d : Nat) (v w : ab_Ob) {c : Int → Int → Int → Int → Int} {n ev : Int} (hn : n ≤ 24) (hc : dp_cb c n) (he : 0 ≤ ev ∧ ev ≤ 99) (hw : ch_ok w c n ev) (hv : (v.2 0).1 = 7200) {i j h : Int} (h0 : 0 ≤ i) (h1 : i ≤ j) (h2 : j < n) (h3 : 0 ≤ h) (h4 : h < n) (h5 : ¬ (i ≤ h ∧ h ≤ j))
    (hs : ∀ u : Int, i ≤ u → u ≤ j → cn_c v i j u = dw_W c i j u) : ab_Ct (d + 4) 0 0 mX2_countUnder [ab_O 0, ab_O 1, ab_I i, ab_I j, ab_I h] [v, w] (ab_IsL (dw_X c (dw_W c) i j h) [v, w]) := by
  have sm := ch_ok_sm hn hc he hw
  have e0 := hw.1.2.1
  have ec : ch_c w i j h = dp_U c i j h := by
    rw [hw.2 i j h0 (by omega) h2 h (by omega) (by omega)]
    unfold ch_val
    rw [if_neg h5]
  have cc := c_cell (d + 1) w hw.1.1 (i := i) (j := j) (h := h) h0 (by omega) (by omega) (by omega) (by omega)
  rw [ec] at cc
  have nW := (dw_A_b (c := c) (j - i).toNat i j h1 (by omega) (by omega))
  have db := dw_D_b (m := j - i) (by omega) (by omega)
  have part : ∀ m : Nat, m ≤ (j - i + 1).toNat → 0 ≤ hd_sm (fun u => if dp_B c i j u + c h u 1 1 = dp_U c i j h then dw_W c i j u else 0) i m ∧ hd_sm (fun u => if dp_B c i j u + c h u 1 1 = dp_U c i j h then dw_W c i j u else 0) i m ≤ 3000000000000000000 := by
    intro m hm
    have nn : ∀ k : Int, i ≤ k → k < i + (j - i + 1).toNat → 0 ≤ (if dp_B c i j k + c h k 1 1 = dp_U c i j h then dw_W c i j k else 0) := fun k k1 k2 => by
      have := nW.1 k k1 (by omega)
      split <;> omega
    refine ⟨hd_sm_nn fun k k1 k2 => nn k k1 (by omega), ?_⟩
    have a := hd_sm_mono (f := fun u => if dp_B c i j u + c h u 1 1 = dp_U c i j h then dw_W c i j u else 0) hm nn
    have b := hd_sm_le (f := fun u => if dp_B c i j u + c h u 1 1 = dp_U c i j h then dw_W c i j u else 0) (g := fun u => dw_W c i j u) (i := i) (m := (j - i + 1).toNat) (fun k k1 k2 => by
      have := nW.1 k k1 (by omega)
      show (if dp_B c i j k + c h k 1 1 = dp_U c i j h then dw_W c i j k else 0) ≤ dw_W c i j k
      split <;> omega)
    have := nW.2
    unfold dw_A at this
    omega
  have eX : dw_X c (dw_W c) i j h = hd_sm (fun u => if dp_B c i j u + c h u 1 1 = dp_U c i j h then dw_W c i j u else 0) i (j - i + 1).toNat := by unfold dw_X; rw [if_neg h5]
  refine ab_ct kX2_countUnder rfl rfl (fun x hx => vX2_countUnder_0 hx i j h v w 0 0 (ab_x1 cc ?_))
  have key : ∀ (q m : Nat), i + m + q = j + 1 → ab_J x 16 [some (ab_O 0), some (ab_O 1), some (ab_I i), some (ab_I j), some (ab_I h), some (ab_I (dp_U c i j h)), some (ab_L (hd_sm (fun u => if dp_B c i j u + c h u 1 1 = dp_U c i j h then dw_W c i j u else 0) i m)), none, some (ab_I (i + m))] [] [v, w] 0 0 := by
    intro q
    induction q with
    | zero =>
      intro m hm
      have : m = (j - i + 1).toNat := by omega
      subst this
      exact vX2_countUnder_16 hx _ _ _ _ _ _ v w 0 0 ⟨fun _ => ab_lfl rfl eX.symm, fun g => absurd (by omega) g⟩
    | succ q ih =>
      intro m hm
      have uv : ch_uv w i j h (i + m) = dp_B c i j (i + m) + c h (i + m) 1 1 := by
        unfold ch_uv
        rw [hw.2 i j h0 h1 h2 (i + m) (by omega) (by omega), hw.1.2.2.2 h (i + m) h3 h4 (by omega) (by omega)]
        unfold ch_val
        rw [if_pos (by omega)]
      have cu := c_underAt d w hw.1.1 sm (i := i) (j := j) (h := h) (u := i + m) h0 h1 (by omega) (by omega) (by omega) (by omega) (by omega) (by omega)
      rw [uv] at cu
      have b1 := part m (by omega)
      have b2 := part (m + 1) (by omega)
      have nx := ih (m + 1) (by push_cast; omega)
      have e1 : i + ((m + 1 : Nat) : Int) = i + m + 1 := by omega
      simp only [hd_sm] at nx b2
      rw [e1] at nx
      refine vX2_countUnder_16 hx _ _ _ _ _ _ v w 0 0 ⟨fun g => absurd g (by omega), fun _ => ab_x1 cu ⟨fun g => ⟨by omega, ?_⟩, fun g => ?_⟩⟩
      · rw [if_neg g, Int.add_zero] at nx
        exact nx
      · rw [if_pos g] at nx b2
        have r1 := ch_row_le h0 h1 (by omega : j ≤ 23)
        have s1 := hs (i + m) (by omega) (by omega)
        unfold cn_c at s1
        refine ab_x1 (c_row (d + 2) h0 (by omega) (by omega) (by omega)) ⟨by omega, by omega, ?_⟩
        rw [s1]
        exact ⟨by omega, by omega, nx⟩
  have := key (j - i + 1).toNat 0 (by omega)
  simpa [hd_sm] using this
theorem c_ofBest (d : Nat) (v w : ab_Ob) {c : Int → Int → Int → Int → Int} {n ev : Int} (hn : n ≤ 24) (hw : ch_ok w c n ev) (hv : (v.2 0).1 = 7200) {i j : Int} (h0 : 0 ≤ i) (h1 : i ≤ j) (h2 : j < n)
    (hs : ∀ u : Int, i ≤ u → u ≤ j → cn_c v i j u = dw_W c i j u) : ab_Ct (d + 4) 0 0 mX2_ofBest [ab_O 0, ab_O 1, ab_I i, ab_I j] [v, w] (ab_IsL (hd_sm (fun h => if dp_B c i j h = hd_mn (fun h => dp_B c i j h) i (j - i).toNat then dw_W c i j h else 0) i (j - i + 1).toNat) [v, w]) := by
  have e0 := hw.1.2.1
  have cl := c_least d w hw.1.1 h0 h1 (by omega)
  rw [ch_least hw h0 h1 h2] at cl
  generalize hd_mn (fun h => dp_B c i j h) i (j - i).toNat = L at cl ⊢
  have nW := (dw_A_b (c := c) (j - i).toNat i j h1 (by omega) (by omega))
  have db := dw_D_b (m := j - i) (by omega) (by omega)
  have part : ∀ m : Nat, m ≤ (j - i + 1).toNat → 0 ≤ hd_sm (fun u => if dp_B c i j u = L then dw_W c i j u else 0) i m ∧ hd_sm (fun u => if dp_B c i j u = L then dw_W c i j u else 0) i m ≤ 3000000000000000000 := by
    intro m hm
    have nn : ∀ k : Int, i ≤ k → k < i + (j - i + 1).toNat → 0 ≤ (if dp_B c i j k = L then dw_W c i j k else 0) := fun k k1 k2 => by
      have := nW.1 k k1 (by omega)
      split <;> omega
    refine ⟨hd_sm_nn fun k k1 k2 => nn k k1 (by omega), ?_⟩
    have a := hd_sm_mono (f := fun u => if dp_B c i j u = L then dw_W c i j u else 0) hm nn
    have b := hd_sm_le (f := fun u => if dp_B c i j u = L then dw_W c i j u else 0) (g := fun u => dw_W c i j u) (i := i) (m := (j - i + 1).toNat) (fun k k1 k2 => by
      have := nW.1 k k1 (by omega)
      show (if dp_B c i j k = L then dw_W c i j k else 0) ≤ dw_W c i j k
      split <;> omega)
    have := nW.2
    unfold dw_A at this
    omega
  refine ab_ct kX2_ofBest rfl rfl (fun x hx => vX2_ofBest_0 hx i j v w 0 0 (ab_x1 cl ?_))
  have key : ∀ (q m : Nat), i + m + q = j + 1 → ab_J x 14 [some (ab_O 0), some (ab_O 1), some (ab_I i), some (ab_I j), some (ab_I L), some (ab_L (hd_sm (fun u => if dp_B c i j u = L then dw_W c i j u else 0) i m)), none, some (ab_I (i + m))] [] [v, w] 0 0 := by
    intro q
    induction q with
    | zero =>
      intro m hm
      have : m = (j - i + 1).toNat := by omega
      subst this
      exact vX2_ofBest_14 hx _ _ _ _ _ v w 0 0 ⟨fun _ => ab_lfl rfl rfl, fun g => absurd (by omega) g⟩
    | succ q ih =>
      intro m hm
      have ec : ch_c w i j (i + m) = dp_B c i j (i + m) := by
        rw [hw.2 i j h0 h1 h2 (i + m) (by omega) (by omega)]
        unfold ch_val
        rw [if_pos (by omega)]
      have cc := c_cell (d + 1) w hw.1.1 (i := i) (j := j) (h := i + m) h0 (by omega) (by omega) (by omega) (by omega)
      rw [ec] at cc
      have b1 := part m (by omega)
      have b2 := part (m + 1) (by omega)
      have nx := ih (m + 1) (by push_cast; omega)
      have e1 : i + ((m + 1 : Nat) : Int) = i + m + 1 := by omega
      simp only [hd_sm] at nx b2
      rw [e1] at nx
      refine vX2_ofBest_14 hx _ _ _ _ _ v w 0 0 ⟨fun g => absurd g (by omega), fun _ => ab_x1 cc ⟨fun g => ⟨by omega, ?_⟩, fun g => ?_⟩⟩
      · rw [if_neg g, Int.add_zero] at nx
        exact nx
      · rw [if_pos g] at nx b2
        have r1 := ch_row_le h0 h1 (by omega : j ≤ 23)
        have s1 := hs (i + m) (by omega) (by omega)
        unfold cn_c at s1
        refine ab_x1 (c_row (d + 2) h0 (by omega) (by omega) (by omega)) ⟨by omega, by omega, ?_⟩
        rw [s1]
        exact ⟨by omega, by omega, nx⟩
  have := key (j - i + 1).toNat 0 (by omega)
  simpa [hd_sm] using this
