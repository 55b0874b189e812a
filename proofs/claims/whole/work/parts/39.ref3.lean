/-! the reference's tables: the walk -/
/-- one cell of the tables is right -/
def md_ce (m : ab_Ob) (c : Int → Int → Int → Int → Int) (i j h : Int) : Prop := (m.2 27).2 (md_cu i j h) = dp_B c i j h ∧ (m.2 28).2 (md_cu i j h) = (if i < j then dp_sp c i j h else -2) ∧ (m.2 29).2 (md_cu i j h) = (if i < j then dp_un c i j h else -2) ∧ (m.2 30).2 (md_cu i j h) = hd_lim (dw_W c i j h)
/-- the cells of all spans within a span are right -/
def md_sub (m : ab_Ob) (c : Int → Int → Int → Int → Int) (i j : Int) : Prop := ∀ i' j' h' : Int, i ≤ i' → i' ≤ j' → j' ≤ j → j' - i' < j - i → i' ≤ h' → h' ≤ j' → md_ce m c i' j' h'
theorem dp_V_b {c : Int → Int → Int → Int → Int} {n : Int} (hn : n ≤ 24) (hc : dp_cb c n) {i j h s u : Int} (h0 : 0 ≤ i) (h1 : i ≤ s) (h2 : s < j) (h3 : j < n) (h4 : i ≤ h) (h5 : h ≤ j) (hu1 : md_fr i h s ≤ u) (hu2 : u < md_fr i h s + md_ln i j h s) : 0 ≤ dp_V c (dp_B c) i j h s u ∧ dp_V c (dp_B c) i j h s u ≤ 4000000 ∧ i ≤ u ∧ u ≤ j := by
  unfold md_fr at hu1 hu2
  unfold md_ln at hu2
  unfold dp_V
  by_cases hs : h ≤ s
  · rw [if_pos hs] at hu1 hu2 ⊢
    rw [if_pos hs] at hu2
    have b1 := dp_B_b hn hc (s - i).toNat i s h h0 h1 (by omega) h4 hs (by omega)
    have b2 := dp_B_b hn hc (j - (s + 1)).toNat (s + 1) j u (by omega) (by omega) h3 hu1 (by omega) (by omega)
    have b3 := hc h u (s - i + 1) (j - s) (by omega) (by omega) (by omega) (by omega) (by omega) (by omega) (by omega) (by omega)
    omega
  · rw [if_neg hs] at hu1 hu2 ⊢
    rw [if_neg hs] at hu2
    have b1 := dp_B_b hn hc (j - (s + 1)).toNat (s + 1) j h (by omega) (by omega) h3 (by omega) h5 (by omega)
    have b2 := dp_B_b hn hc (s - i).toNat i s u h0 h1 (by omega) hu1 (by omega) (by omega)
    have b3 := hc h u (s - i + 1) (j - s) (by omega) (by omega) (by omega) (by omega) (by omega) (by omega) (by omega) (by omega)
    omega
theorem c9_joinedBy (d : Nat) (b m : ab_Ob) (hb : sc_ok b) (hd : sc_db b) (hp : md_p b m) (hq : md_d b m) (hl : md_len m) {i j h s u : Int} (h0 : 0 ≤ i) (h1 : i ≤ s) (h2 : s < j) (h3 : j < b.1 3) (h4 : i ≤ h) (h5 : h ≤ j) (hu1 : md_fr i h s ≤ u) (hu2 : u < md_fr i h s + md_ln i j h s) (hT : md_sub m (sc_br b) i j) : ab_Ct (d + 4) 0 0 mX9_joinedBy [ab_O 0, ab_I i, ab_I j, ab_I h, ab_I s, ab_I u] [m] (ab_Is (dp_V (sc_br b) (dp_B (sc_br b)) i j h s u) [m]) := by
  have hn := hb.2.1
  have hc := sc_br_cb hb hd
  have vb := dp_V_b (by omega) hc h0 h1 h2 h3 h4 h5 hu1 hu2
  have n27 := hl.2.2.2.1
  have bc := hc h u (s - i + 1) (j - s) (by omega) (by omega) (by omega) (by omega) (by omega) (by omega) (by omega) (by omega)
  unfold md_fr at hu1 hu2
  unfold md_ln at hu2
  refine ab_ct kX9_joinedBy rfl rfl (fun x hx => vX9_joinedBy_0 hx i j h s u m 0 0 ⟨fun g => ⟨by omega, ab_x1 (c9_cube (d + 2) (by omega) (by omega) (by omega)) ?_⟩, fun g => ab_x1 (c9_cube (d + 2) (by omega) (by omega) (by omega)) ?_⟩)
  · rw [if_neg (by omega)] at hu1 hu2
    rw [if_neg (by omega)] at hu2
    have t1 := (hT (s + 1) j h (by omega) (by omega) (by omega) (by omega) (by omega) (by omega)).1
    have t2 := (hT i s u (by omega) (by omega) (by omega) (by omega) (by omega) (by omega)).1
    have d1 := md_cu_b (i := s + 1) (j := j) (h := h) (by omega) (by omega) (by omega)
    have d2 := md_cu_b (i := i) (j := s) (h := u) (by omega) (by omega) (by omega)
    have b1 := dp_B_b (by omega) hc (j - (s + 1)).toNat (s + 1) j h (by omega) (by omega) h3 (by omega) h5 (by omega)
    have b2 := dp_B_b (by omega) hc (s - i).toNat i s u h0 h1 (by omega) hu1 (by omega) (by omega)
    have e : dp_V (sc_br b) (dp_B (sc_br b)) i j h s u = dp_B (sc_br b) (s + 1) j h + dp_B (sc_br b) i s u + sc_br b h u (s - i + 1) (j - s) := by unfold dp_V; rw [if_neg (by omega)]
    refine vX9_joinedBy_25 hx _ _ _ _ _ _ m 0 0 ⟨fun _ => ab_x1 (c9_cube (d + 2) (by omega) (by omega) (by omega)) ?_, fun g2 => absurd g g2⟩
    refine vX9_joinedBy_54 hx _ _ _ _ _ _ _ m 0 0 ⟨by omega, by omega, by omega, by omega, by omega, by omega, ab_x1 (c9_brokenAll d b m hb hd hp hq hl (by omega) (by omega) (by omega) (by omega)) ⟨by omega, ab_lf rfl ?_⟩⟩
    omega
  · rw [if_pos (by omega)] at hu1 hu2
    rw [if_pos (by omega)] at hu2
    have t1 := (hT i s h (by omega) (by omega) (by omega) (by omega) (by omega) (by omega)).1
    have t2 := (hT (s + 1) j u (by omega) (by omega) (by omega) (by omega) (by omega) (by omega)).1
    have d1 := md_cu_b (i := i) (j := s) (h := h) (by omega) (by omega) (by omega)
    have d2 := md_cu_b (i := s + 1) (j := j) (h := u) (by omega) (by omega) (by omega)
    have b1 := dp_B_b (by omega) hc (s - i).toNat i s h h0 h1 (by omega) h4 (by omega) (by omega)
    have b2 := dp_B_b (by omega) hc (j - (s + 1)).toNat (s + 1) j u (by omega) (by omega) h3 hu1 (by omega) (by omega)
    have e : dp_V (sc_br b) (dp_B (sc_br b)) i j h s u = dp_B (sc_br b) i s h + dp_B (sc_br b) (s + 1) j u + sc_br b h u (s - i + 1) (j - s) := by unfold dp_V; rw [if_pos (by omega)]
    refine vX9_joinedBy_25 hx _ _ _ _ _ _ m 0 0 ⟨fun g2 => absurd g2 g, fun _ => ⟨by omega, ab_x1 (c9_cube (d + 2) (by omega) (by omega) (by omega)) ?_⟩⟩
    refine vX9_joinedBy_54 hx _ _ _ _ _ _ _ m 0 0 ⟨by omega, by omega, by omega, by omega, by omega, by omega, ab_x1 (c9_brokenAll d b m hb hd hp hq hl (by omega) (by omega) (by omega) (by omega)) ⟨by omega, ab_lf rfl ?_⟩⟩
    omega
/-- what one try makes of the tables -/
def md_up (w : ab_Ob) (to by' s u : Int) : ab_Ob := if by' < (w.2 27).2 to then ab_pa (ab_pa (ab_pa (ab_pa w 27 to by') 28 to s) 29 to u) 30 to 0 else w
def md_tr (w : ab_Ob) (to by' s u ww : Int) : ab_Ob := if by' ≤ (w.2 27).2 to then ab_pa (md_up w to by' s u) 30 to (hd_lim (((md_up w to by' s u).2 30).2 to + ww)) else w
theorem ab_cmp_le {x y : Int} : ab_cmp x y ≤ 0 ↔ x ≤ y := by
  unfold ab_cmp
  repeat' split
  all_goals omega
theorem dw_W_1 {c : Int → Int → Int → Int → Int} {i j h : Int} (h1 : i ≤ j) (h2 : j - i ≤ 23) (h3 : i ≤ h) (h4 : h ≤ j) : 0 ≤ dw_W c i j h := (dw_A_b (j - i).toNat i j h1 (by omega) h2).1 h h3 h4
/-- at least one tree -/
theorem dw_pos {c : Int → Int → Int → Int → Int} {ev : Int} (hev : ∀ h u l r, c h u l r = c h u 1 1 + ev * sc_abs (l - r)) : ∀ (m : Nat) (i j h : Int), i ≤ j → j - i ≤ m → j - i ≤ 23 → i ≤ h → h ≤ j → 1 ≤ dw_W c i j h := by
  intro m
  induction m with
  | zero =>
    intro i j h a1 a2 a3 a4 a5
    have e : j = i := by omega
    subst e
    rw [dw_W_0]; omega
  | succ m ih =>
    intro i j h a1 a2 a3 a4 a5
    by_cases hij : i = j
    · subst hij
      rw [dw_W_0]; omega
    · have hX : ∀ a b, i ≤ a → a ≤ b → b ≤ j → b - a ≤ m → ∀ h, 1 ≤ dw_X c (dw_W c) a b h := by
        intro a b x1 x2 x3 x4 h
        unfold dw_X
        by_cases hh : a ≤ h ∧ h ≤ b
        · rw [if_pos hh]
          exact ih a b h x2 x4 (by omega) hh.1 hh.2
        · rw [if_neg hh]
          obtain ⟨u, u1, u2, u3⟩ := hd_mn_ex (fun u => dp_B c a b u + c h u 1 1) a (b - a).toNat
          have m1 := hd_sm_mem (f := fun u => if dp_B c a b u + c h u 1 1 = dp_U c a b h then dw_W c a b u else 0) (i := a) (m := (b - a + 1).toNat) (k := u) (fun q q1 q2 => by
            have := ih a b q x2 x4 (by omega) q1 (by omega)
            show 0 ≤ if _ then dw_W c a b q else 0
            split <;> omega) u1 (by omega)
          have e : (if dp_B c a b u + c h u 1 1 = dp_U c a b h then dw_W c a b u else 0) = dw_W c a b u := if_pos u3.symm
          have := ih a b u x2 x4 (by omega) u1 (by omega)
          omega
      rw [dw_W_S (by omega) (by omega)]
      unfold dw_S
      obtain ⟨s, s1, s2, s3⟩ := hd_mn_ex (fun s => dp_I c (dp_B c) i j h s) i (j - i - 1).toNat
      have nn : ∀ q, i ≤ q → q < j → 1 ≤ dw_X c (dw_W c) i q h * dw_X c (dw_W c) (q + 1) j h := fun q q1 q2 => by
        have x1 := hX i q (by omega) q1 (by omega) (by omega) h
        have x2 := hX (q + 1) j (by omega) (by omega) (by omega) (by omega) h
        have := Int.mul_le_mul_of_nonneg_right x1 (by omega : 0 ≤ dw_X c (dw_W c) (q + 1) j h)
        omega
      have m1 := hd_sm_mem (f := fun s => if dp_I c (dp_B c) i j h s = dp_B c i j h then dw_X c (dw_W c) i s h * dw_X c (dw_W c) (s + 1) j h else 0) (i := i) (m := (j - i).toNat) (k := s) (fun q q1 q2 => by
        have := nn q q1 (by omega)
        show 0 ≤ if _ then dw_X c (dw_W c) i q h * dw_X c (dw_W c) (q + 1) j h else 0
        split <;> omega) s1 (by omega)
      have e : (if dp_I c (dp_B c) i j h s = dp_B c i j h then dw_X c (dw_W c) i s h * dw_X c (dw_W c) (s + 1) j h else 0) = dw_X c (dw_W c) i s h * dw_X c (dw_W c) (s + 1) j h := if_pos (by rw [dp_B_S (by omega) (by omega)]; exact s3.symm)
      have := nn s s1 (by omega)
      omega
