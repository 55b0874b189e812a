/-! Counts.fill -/
def cn_fs (w v : ab_Ob) (i j : Int) (D : Int → Prop) (val : Int → Int) : Prop :=
  v.1 = w.1 ∧ (∀ f, f ≠ 0 → v.2 f = w.2 f) ∧ (v.2 0).1 = (w.2 0).1 ∧ (∀ h : Int, 0 ≤ h → h ≤ 23 → D h → cn_c v i j h = val h) ∧ ∀ q : Int, (∀ h : Int, 0 ≤ h → h ≤ 23 → D h → q ≠ ch_row i j + h) → (v.2 0).2 q = (w.2 0).2 q
theorem cn_fs_s {w v : ab_Ob} {i j : Int} {D D' : Int → Prop} {val : Int → Int} (hv : cn_fs w v i j D val) {h z : Int} (hz : z = val h) (hD : ∀ k, D' k ↔ D k ∨ k = h) (h0 : 0 ≤ h) (h1 : h ≤ 23) : cn_fs w (ab_pa v 0 (ch_row i j + h) z) i j D' val := by
  obtain ⟨g1, g2, g3, g4, g5⟩ := hv
  refine ⟨g1, fun f hf => by rw [hd_pa_ne hf]; exact g2 f hf, by rw [hd_pa_len]; exact g3, fun k k0 k1 hk => ?_, fun q hq => ?_⟩
  · unfold cn_c
    rw [hd_pa_eq]
    show ab_ui (v.2 0).2 (ch_row i j + h) z (ch_row i j + k) = val k
    by_cases e : k = h
    · subst e; rw [hd_ui_eq]; exact hz
    · rw [hd_ui_ne (by omega)]
      exact g4 k k0 k1 (((hD k).mp hk).resolve_right e)
  · rw [hd_pa_eq]
    show ab_ui (v.2 0).2 (ch_row i j + h) z q = _
    rw [hd_ui_ne (hq h h0 h1 ((hD h).mpr (Or.inr rfl)))]
    exact g5 q (fun k k0 k1 hk => hq k k0 k1 ((hD k).mpr (Or.inl hk)))
theorem cn_fs_c {w v : ab_Ob} {i j : Int} {D : Int → Prop} {val : Int → Int} (hv : cn_fs w v i j D val) {i' j' h' : Int} (a1 : 0 ≤ i) (a2 : i ≤ j) (a3 : j ≤ 23) (b1 : 0 ≤ i') (b2 : i' ≤ j') (b3 : j' ≤ 23) (b4 : 0 ≤ h') (b5 : h' ≤ 23) (hne : ¬ (i' = i ∧ j' = j)) : cn_c v i' j' h' = cn_c w i' j' h' := by
  unfold cn_c
  refine hv.2.2.2.2 _ fun h h0 h1 _ e => hne ?_
  have := ch_row_inj b1 b2 b3 b4 b5 a1 a2 a3 h0 h1 e
  exact ⟨this.1, this.2.1⟩
theorem dw_X_in {c : Int → Int → Int → Int → Int} {i j h : Int} (h1 : i ≤ h) (h2 : h ≤ j) : dw_X c (dw_W c) i j h = dw_W c i j h := by unfold dw_X; rw [if_pos ⟨h1, h2⟩]
theorem c_cfillSpan (d : Nat) (v w : ab_Ob) {c : Int → Int → Int → Int → Int} {n ev : Int} (hn : n ≤ 24) (hc : dp_cb c n) (hev : ∀ h u l r, c h u l r = c h u 1 1 + ev * sc_abs (l - r)) (he : 0 ≤ ev ∧ ev ≤ 99) (hw : ch_ok w c n ev) (hv : (v.2 0).1 = 7200) {i j : Int} (h0 : 0 ≤ i) (h1 : i ≤ j) (h2 : j < n)
    (hsub : ∀ i' j' h : Int, i ≤ i' → i' ≤ j' → j' ≤ j → j' - i' < j - i → 0 ≤ h → h < n → cn_c v i' j' h = dw_X c (dw_W c) i' j' h) :
    ab_Ct (d + 5) 0 0 mX2_fillSpan [ab_O 0, ab_O 1, ab_I i, ab_I j] [v, w] (ab_V2 w (fun v' => cn_fs v v' i j (fun h => 0 ≤ h ∧ h < n) (fun h => dw_X c (dw_W c) i j h))) := by
  have e0 := hw.1.2.1
  have r1 := ch_row_le h0 h1 (by omega : j ≤ 23)
  refine ab_ct kX2_fillSpan rfl rfl (fun x hx => vX2_fillSpan_0 hx i j v w 0 0 (ab_x1 (c_row (d + 3) h0 (by omega) (by omega) (by omega)) ?_))
  have k53 : ∀ (q m : Nat) (u : ab_Ob), (m : Int) + q = n → cn_fs v u i j (fun h => (0 ≤ h ∧ h < m) ∨ (i ≤ h ∧ h ≤ j)) (fun h => dw_X c (dw_W c) i j h) → ab_J x 53 [some (ab_O 0), some (ab_O 1), some (ab_I i), some (ab_I j), some (ab_I (ch_row i j)), some (ab_I m)] [] [u, w] 0 0 := by
    intro q
    induction q with
    | zero =>
      intro m u hm hu
      refine vX2_fillSpan_53 hx _ _ _ _ u w 0 0 ⟨fun _ => ab_lv2 ?_, fun g => absurd (by omega) g⟩
      obtain ⟨g1, g2, g3, g4, g5⟩ := hu
      exact ⟨g1, g2, g3, fun h a b hh => g4 h a b (by omega), fun q hq => g5 q (fun h a b hh => hq h a b (by omega))⟩
    | succ q ih =>
      intro m u hm hu
      have lu : (u.2 0).1 = 7200 := by rw [hu.2.2.1]; exact hv
      have cu : ¬ (i ≤ (m : Int) ∧ (m : Int) ≤ j) → ab_Ct (d + 4) 0 0 mX2_countUnder [ab_O 0, ab_O 1, ab_I i, ab_I j, ab_I m] [u, w] (ab_IsL (dw_X c (dw_W c) i j m) [u, w]) := fun g =>
        c_countUnder d u w hn hc he hw lu h0 h1 h2 (by omega) (by omega) g (fun k k1 k2 => by
          rw [hu.2.2.2.1 k (by omega) (by omega) (by omega)]
          exact dw_X_in k1 k2)
      have nx : ¬ (i ≤ (m : Int) ∧ (m : Int) ≤ j) → ab_J x 53 [some (ab_O 0), some (ab_O 1), some (ab_I i), some (ab_I j), some (ab_I (ch_row i j)), some (ab_I ((m : Int) + 1))] [] [ab_pa u 0 (ch_row i j + m) (dw_X c (dw_W c) i j m), w] 0 0 := fun g =>
        ih (m + 1) _ (by push_cast; omega) (cn_fs_s hu rfl (fun k => by push_cast; omega) (by omega) (by omega))
      refine vX2_fillSpan_53 hx _ _ _ _ u w 0 0 ⟨fun g => absurd g (by omega), fun _ => ⟨fun g => ⟨by omega, ab_xl (cu (by omega)) ⟨by omega, by omega, nx (by omega)⟩⟩, fun g => ⟨fun g2 => ⟨by omega, ?_⟩, fun g2 => ⟨by omega, ab_xl (cu (by omega)) ⟨by omega, by omega, nx (by omega)⟩⟩⟩⟩⟩
      refine ih (m + 1) u (by push_cast; omega) ?_
      obtain ⟨g1, g2, g3, g4, g5⟩ := hu
      exact ⟨g1, g2, g3, fun h a b hh => g4 h a b (by push_cast at hh; omega), fun q hq => g5 q (fun h a b hh => hq h a b (by push_cast; omega))⟩
  have k10 : ∀ (q m : Nat) (u : ab_Ob), i + m + q = j + 1 → cn_fs v u i j (fun h => i ≤ h ∧ h < i + m) (fun h => dw_X c (dw_W c) i j h) → ab_J x 10 [some (ab_O 0), some (ab_O 1), some (ab_I i), some (ab_I j), some (ab_I (ch_row i j)), some (ab_I (i + m))] [] [u, w] 0 0 := by
    intro q
    induction q with
    | zero =>
      intro m u hm hu
      refine vX2_fillSpan_10 hx _ _ _ _ u w 0 0 ⟨fun _ => ?_, fun g => absurd (by omega) g⟩
      refine k53 n.toNat 0 u (by omega) ?_
      obtain ⟨g1, g2, g3, g4, g5⟩ := hu
      exact ⟨g1, g2, g3, fun h a b hh => g4 h a b (by omega), fun q hq => g5 q (fun h a b hh => hq h a b (by omega))⟩
    | succ q ih =>
      intro m u hm hu
      have lu : (u.2 0).1 = 7200 := by rw [hu.2.2.1]; exact hv
      have nx : ∀ z, z = dw_X c (dw_W c) i j (i + m) → ab_J x 10 [some (ab_O 0), some (ab_O 1), some (ab_I i), some (ab_I j), some (ab_I (ch_row i j)), some (ab_I (i + m + 1))] [] [ab_pa u 0 (ch_row i j + (i + m)) z, w] 0 0 := fun z hz => by
        have := ih (m + 1) (ab_pa u 0 (ch_row i j + (i + m)) z) (by push_cast; omega) (cn_fs_s hu hz (fun k => by push_cast; omega) (by omega) (by omega))
        have e1 : i + ((m + 1 : Nat) : Int) = i + m + 1 := by omega
        rw [e1] at this
        exact this
      refine vX2_fillSpan_10 hx _ _ _ _ u w 0 0 ⟨fun g => absurd g (by omega), fun _ => ⟨by omega, fun g => ab_xl (c_countInside d u w hn hc hev he hw lu h0 (by omega) h2 (by omega) (by omega) (fun s s1 s2 => ?_)) ⟨by omega, by omega, nx _ (dw_X_in (by omega) (by omega)).symm⟩, fun g => ⟨by omega, by omega, nx 1 ?_⟩⟩⟩
      · rw [cn_fs_c hu h0 h1 (by omega) h0 s1 (by omega) (by omega) (by omega) (by omega), cn_fs_c hu h0 h1 (by omega) (by omega) (by omega) (by omega) (by omega) (by omega) (by omega)]
        exact ⟨hsub i s _ (by omega) s1 (by omega) (by omega) (by omega) (by omega), hsub (s + 1) j _ (by omega) (by omega) (by omega) (by omega) (by omega) (by omega)⟩
      · rw [dw_X_in (by omega) (by omega)]
        have : i + (m : Int) = i := by omega
        rw [← g, this, dw_W_0]
  have := k10 (j + 1 - i).toNat 0 v (by omega) ⟨rfl, fun _ _ => rfl, rfl, fun h a b hh => absurd hh (by omega), fun q hq => rfl⟩
  simpa using this
/-- counts that are right -/
def cn_ok (v : ab_Ob) (c : Int → Int → Int → Int → Int) (n : Int) : Prop := (v.2 0).1 = 7200 ∧ ∀ i j h : Int, 0 ≤ i → i ≤ j → j < n → 0 ≤ h → h < n → cn_c v i j h = dw_X c (dw_W c) i j h
def cn_k (v : ab_Ob) : Nat := if 7200 ≤ (v.2 0).1 then 0 else 1
def cn_s (v : ab_Ob) : Nat := if 7200 ≤ (v.2 0).1 then 0 else 7200
def cn_st (v : ab_Ob) : Prop := (v.2 0).1 = 7200 ∨ (v.2 0).1 = 0
theorem c_cfill (d : Nat) (v w : ab_Ob) {c : Int → Int → Int → Int → Int} {n ev : Int} (hn : 0 ≤ n ∧ n ≤ 24) (hc : dp_cb c n) (hev : ∀ h u l r, c h u l r = c h u 1 1 + ev * sc_abs (l - r)) (he : 0 ≤ ev ∧ ev ≤ 99) (hw : ch_ok w c n ev) (hv : cn_st v) : ab_Ct (d + 6) (cn_k v) (cn_s v) mX2_fill [ab_O 0, ab_O 1] [v, w] (ab_V2 w (fun v' => cn_ok v' c n)) := by
  have e0 := hw.1.2.1
  refine ab_ct kX2_fill rfl rfl (fun x hx => ?_)
  have k22 : ∀ (kc ks q L : Nat) (u : ab_Ob), (L : Int) + q = n + 1 → 1 ≤ L → (u.2 0).1 = 7200 → (∀ i j h : Int, 0 ≤ i → i ≤ j → j < n → j - i + 1 < L → 0 ≤ h → h < n → cn_c u i j h = dw_X c (dw_W c) i j h) → ab_J x 22 [some (ab_O 0), some (ab_O 1), some (ab_I L), none] [] [u, w] kc ks := by
    intro kc ks q
    induction q with
    | zero =>
      intro L u hL h1 lu hs
      exact vX2_fill_22 hx _ u w kc ks ⟨fun _ => ab_lv2 ⟨lu, fun i j h a1 a2 a3 a4 a5 => hs i j h a1 a2 a3 (by omega) a4 a5⟩, fun g => absurd (by omega) g⟩
    | succ q ih =>
      intro L u hL h1 lu hs
      refine vX2_fill_22 hx _ u w kc ks ⟨fun g => absurd g (by omega), fun _ => ?_⟩
      have inn : ∀ (p i : Nat) (u : ab_Ob), (i : Int) + L + p = n + 1 → (u.2 0).1 = 7200 → (∀ i j h : Int, 0 ≤ i → i ≤ j → j < n → j - i + 1 < L → 0 ≤ h → h < n → cn_c u i j h = dw_X c (dw_W c) i j h) → (∀ k h : Int, 0 ≤ k → k < i → 0 ≤ h → h < n → cn_c u k (k + L - 1) h = dw_X c (dw_W c) k (k + L - 1) h) → ab_J x 32 [some (ab_O 0), some (ab_O 1), some (ab_I L), some (ab_I i)] [] [u, w] kc ks := by
        intro p
        induction p with
        | zero =>
          intro i u hi lu hs1 hs2
          refine vX2_fill_32 hx _ _ u w kc ks ⟨by omega, fun _ => ⟨by omega, ?_⟩, fun g => absurd (by omega) g⟩
          exact ih (L + 1) u (by push_cast; omega) (by omega) lu (fun i' j' h a1 a2 a3 a4 a5 a6 => by
            by_cases hq : j' - i' + 1 < L
            · exact hs1 i' j' h a1 a2 a3 hq a5 a6
            · have e : j' = i' + L - 1 := by push_cast at a4; omega
              rw [e]; exact hs2 i' h a1 (by omega) a5 a6)
        | succ p ihp =>
          intro i u hi lu hs1 hs2
          refine vX2_fill_32 hx _ _ u w kc ks ⟨by omega, fun g => absurd g (by omega), fun _ => ⟨by omega, by omega, ?_⟩⟩
          have cf := c_cfillSpan d u w hn.2 hc hev he hw lu (i := i) (j := i + L - 1) (by omega) (by omega) (by omega) (fun i' j' h a1 a2 a3 a4 a5 a6 => hs1 i' j' h (by omega) a2 (by omega) (by omega) a5 a6)
          refine ab_xv2 cf (fun v' hv' => ⟨by omega, ?_⟩)
          refine ihp (i + 1) v' (by push_cast; omega) (by rw [hv'.2.2.1]; exact lu) (fun i' j' h a1 a2 a3 a4 b1 b2 => ?_) (fun k h k1 k2 b1 b2 => ?_)
          · rw [cn_fs_c hv' (by omega) (by omega) (by omega) a1 a2 (by omega) b1 (by omega) (by omega)]
            exact hs1 i' j' h a1 a2 a3 a4 b1 b2
          · by_cases hk : k = i
            · subst hk
              exact hv'.2.2.2.1 h b1 (by omega) ⟨b1, b2⟩
            · push_cast at k2
              rw [cn_fs_c hv' (by omega) (by omega) (by omega) k1 (by omega) (by omega) b1 (by omega) (by omega)]
              exact hs2 k h k1 (by omega) b1 b2
      exact inn (n + 1 - L).toNat 0 u (by omega) lu hs (fun k h k1 k2 => absurd k2 (by omega))
  refine vX2_fill_0 hx v w 0 0 ⟨fun g => ?_, fun g => ⟨by omega, ?_, ?_⟩⟩
  · exact k22 0 0 n.toNat 1 v (by omega) (by omega) (hv.resolve_right (by omega)) (fun i j h a1 a2 a3 a4 => absurd a4 (by omega))
  · unfold cn_k cn_s; rw [if_neg g, if_neg g]; omega
  · exact k22 _ _ n.toNat 1 (ab_pn v 0 7200) (by omega) (by omega) (by rw [hd_pn_eq]) (fun i j h a1 a2 a3 a4 => absurd a4 (by omega))
