/-! Chart.fill -/
theorem sc_un_lr {w : ab_Ob} {q h u l r : Int} (hq : q ≠ 4) : sc_un w q h u l r = sc_un w q h u 1 1 := by simp [sc_un, hq]
theorem sc_un_4 (w : ab_Ob) (h u l r : Int) : sc_un w 4 h u l r = sc_abs (l - r) := by simp [sc_un]
theorem sc_br_ev (w : ab_Ob) (h u l r : Int) : sc_br w h u l r = sc_br w h u 1 1 + (w.2 6).2 4 * sc_abs (l - r) := by
  have e : ∀ l r, sc_br w h u l r = hd_sm (fun q => (w.2 6).2 q * sc_un w q h u l r) 0 4 + (w.2 6).2 4 * sc_un w 4 h u l r + (w.2 6).2 5 * sc_un w 5 h u l r := fun l r => rfl
  have e5 : sc_un w 5 h u l r = sc_un w 5 h u 1 1 := sc_un_lr (by decide)
  have es : hd_sm (fun q => (w.2 6).2 q * sc_un w q h u l r) 0 4 = hd_sm (fun q => (w.2 6).2 q * sc_un w q h u 1 1) 0 4 := hd_sm_congr (fun k k1 k2 => by
    show (w.2 6).2 k * sc_un w k h u l r = (w.2 6).2 k * sc_un w k h u 1 1
    rw [sc_un_lr (l := l) (r := r) (by omega)])
  have e0 : sc_abs (1 - 1) = 0 := by decide
  rw [e l r, e 1 1, sc_un_4, sc_un_4, e5, es, e0, Int.mul_zero]
  omega
theorem sc_br_cb {w : ab_Ob} (hw : sc_ok w) (hd : sc_db w) : dp_cb (sc_br w) (w.1 3) := fun h u l r h0 h1 u0 u1 l0 l1 r0 r1 => by
  have := sc_br_b hw hd ⟨h0, h1⟩ ⟨u0, u1⟩ ⟨l0, l1⟩ ⟨r0, r1⟩ 6 (by omega)
  unfold sc_br
  omega
/-- a chart that holds the least breaks -/
def ch_ok (w : ab_Ob) (c : Int → Int → Int → Int → Int) (n ev : Int) : Prop := ch_base w c n ev ∧ ∀ i j : Int, 0 ≤ i → i ≤ j → j < n → ch_sp w c n i j
theorem ch_ok_sm {w : ab_Ob} {c : Int → Int → Int → Int → Int} {n ev : Int} (hn : n ≤ 24) (hc : dp_cb c n) (he : 0 ≤ ev ∧ ev ≤ 99) (hw : ch_ok w c n ev) : ch_sm w := by
  obtain ⟨⟨l, e0, e1, hp⟩, hs⟩ := hw
  refine ⟨by rw [e1]; exact he, fun i j h a1 a2 a3 a4 a5 => ?_, fun h u a1 a2 a3 a4 => ?_⟩
  · rw [e0] at a3 a5
    rw [hs i j a1 a2 a3 h a4 a5]
    exact ch_val_b hn hc a1 a2 a3 a4 a5
  · rw [e0] at a2 a4
    rw [hp h u a1 a2 a3 a4]
    exact hc h u 1 1 a1 a2 a3 a4 (by omega) (by omega) (by omega) (by omega)
def ch_k (w : ab_Ob) : Nat := if 7200 ≤ (w.2 2).1 then 0 else 2
def ch_s (w : ab_Ob) : Nat := if 7200 ≤ (w.2 2).1 then 0 else 7776
/-- a chart that was filled at some time, or never -/
def ch_st (w : ab_Ob) : Prop := ch_len w ∨ (w.2 2).1 = 0
abbrev ab_V2 (b : ab_Ob) (P : ab_Ob → Prop) : Option ab_V → List ab_Ob → Prop := fun rv w => rv = none ∧ ∃ v, w = [v, b] ∧ P v
theorem ab_lv2 {w v b : ab_Ob} {P : ab_Ob → Prop} (h : P v) : ((none : Option ab_V) = none ∧ ab_shw [true, false] [w, b] [v, b]) ∧ ((none : Option ab_V) = none ∧ ∃ u, [v, b] = [u, b] ∧ P u) := ⟨⟨rfl, v, [b], rfl, [], rfl, rfl⟩, rfl, v, rfl, h⟩
theorem ab_xv2 {d mc ms : Nat} {M : ab_M} {as : List ab_V} {ws : List ab_Ob} {b : ab_Ob} {P : ab_Ob → Prop} {K : ab_Ob → Prop} (h : ab_Ct d mc ms M as ws (ab_V2 b P)) (k : ∀ v, P v → K v) : ∃ Q : Option ab_V → List ab_Ob → Prop, ab_Ct d mc ms M as ws Q ∧ ∀ v : ab_Ob, Q none [v, b] → K v :=
  ⟨_, h, fun v hv => by
    obtain ⟨_, u, hu, hp⟩ := hv
    cases hu
    exact k v hp⟩
theorem c_fill (d : Nat) (w b : ab_Ob) (hw : ch_st w) (hb : sc_ok b) (hd : sc_db b) : ab_Ct (d + 4) (ch_k w) (ch_s w) mX1_fill [ab_O 0, ab_O 1] [w, b] (ab_V2 b (fun v => ch_ok v (sc_br b) (b.1 3) ((b.2 6).2 4))) := by
  have hc := sc_br_cb hb hd
  have hev := sc_br_ev b
  have he := hb.2.2.2.2.2.2 4 (by omega) (by omega)
  have hn := hb.2.1
  have n6 := hb.1.2.2.1
  refine ab_ct kX1_fill rfl rfl (fun x hx => ?_)
  have k4 : ∀ (kc ks q L : Nat) (v : ab_Ob), (L : Int) + q = b.1 3 + 1 → 1 ≤ L → ch_base v (sc_br b) (b.1 3) ((b.2 6).2 4) → (∀ i j : Int, 0 ≤ i → i ≤ j → j < b.1 3 → j - i + 1 < L → ch_sp v (sc_br b) (b.1 3) i j) → ab_J x 100 [some (ab_O 0), none, some (ab_I L), none] [] [v, b] kc ks := by
    intro kc ks q
    induction q with
    | zero =>
      intro L v hL h1 hbv hs
      have e0 := hbv.2.1
      exact vX1_fill_100 hx _ v b kc ks ⟨fun _ => ab_lv2 ⟨hbv, fun i j a1 a2 a3 => hs i j a1 a2 a3 (by omega)⟩, fun g => absurd (by omega) g⟩
    | succ q ih =>
      intro L v hL h1 hbv hs
      have e0 := hbv.2.1
      refine vX1_fill_100 hx _ v b kc ks ⟨fun g => absurd g (by omega), fun _ => ?_⟩
      have inn : ∀ (p i : Nat) (v : ab_Ob), (i : Int) + L + p = b.1 3 + 1 → ch_base v (sc_br b) (b.1 3) ((b.2 6).2 4) → (∀ i j : Int, 0 ≤ i → i ≤ j → j < b.1 3 → j - i + 1 < L → ch_sp v (sc_br b) (b.1 3) i j) → (∀ k : Int, 0 ≤ k → k < i → ch_sp v (sc_br b) (b.1 3) k (k + L - 1)) → ab_J x 110 [some (ab_O 0), none, some (ab_I L), some (ab_I i)] [] [v, b] kc ks := by
        intro p
        induction p with
        | zero =>
          intro i v hi hbv hs1 hs2
          have e0 := hbv.2.1
          refine vX1_fill_110 hx _ _ v b kc ks ⟨by omega, fun _ => ⟨by omega, ?_⟩, fun g => absurd (by omega) g⟩
          exact ih (L + 1) v (by push_cast; omega) (by omega) hbv (fun i' j' a1 a2 a3 a4 => by
            by_cases hq : j' - i' + 1 < L
            · exact hs1 i' j' a1 a2 a3 hq
            · have e : j' = i' + L - 1 := by push_cast at a4; omega
              rw [e]; exact hs2 i' a1 (by omega))
        | succ p ihp =>
          intro i v hi hbv hs1 hs2
          have e0 := hbv.2.1
          refine vX1_fill_110 hx _ _ v b kc ks ⟨by omega, fun g => absurd g (by omega), fun _ => ⟨by omega, by omega, ?_⟩⟩
          have cf := c_fillSpan d v (by omega) hc hev he hbv (i := i) (j := i + L - 1) (by omega) (by omega) (by omega) (fun i' j' a1 a2 a3 a4 => hs1 i' j' (by omega) a2 (by omega) (by omega))
          refine ab_xv1 cf (fun v' hv' => ⟨by omega, ?_⟩)
          refine ihp (i + 1) v' (by push_cast; omega) (ch_fs_base hv' hbv) (fun i' j' a1 a2 a3 a4 h b1 b2 => ?_) (fun k k1 k2 h b1 b2 => ?_)
          · rw [ch_fs_c hv' (by omega) (by omega) (by omega) a1 a2 (by omega) b1 (by omega) (by omega)]
            exact hs1 i' j' a1 a2 a3 a4 h b1 b2
          · by_cases hk : k = i
            · subst hk
              exact hv'.2.2.2.1 h b1 (by omega) ⟨b1, b2⟩
            · push_cast at k2
              rw [ch_fs_c hv' (by omega) (by omega) (by omega) k1 (by omega) (by omega) b1 (by omega) (by omega)]
              exact hs2 k k1 (by omega) h b1 b2
      exact inn (b.1 3 + 1 - L).toNat 0 v (by omega) hbv hs (fun k k1 k2 => absurd k2 (by omega))
  have k2 : ∀ (kc ks q m : Nat) (v : ab_Ob), (m : Int) + q = b.1 3 → ch_len v → v.1 0 = b.1 3 → v.1 1 = (b.2 6).2 4 → (∀ h u : Int, 0 ≤ h → h < m → 0 ≤ u → u < b.1 3 → (v.2 3).2 (h * 24 + u) = sc_br b h u 1 1) → ab_J x 49 [some (ab_O 0), some (ab_O 1), some (ab_I m), none] [] [v, b] kc ks := by
    intro kc ks q
    induction q with
    | zero =>
      intro m v hm lv e0 e1 hp
      refine vX1_fill_49 hx _ v b kc ks ⟨fun _ => ?_, fun g => absurd (by omega) g⟩
      exact k4 kc ks (b.1 3).toNat 1 v (by omega) (by omega) ⟨lv, e0, e1, fun h u a1 a2 a3 a4 => hp h u a1 (by omega) a3 a4⟩ (fun i j a1 a2 a3 a4 => absurd a4 (by omega))
    | succ q ih =>
      intro m v hm lv e0 e1 hp
      refine vX1_fill_49 hx _ v b kc ks ⟨fun g => absurd g (by omega), fun _ => ?_⟩
      have inn : ∀ (p u : Nat) (v : ab_Ob), (u : Int) + p = b.1 3 → ch_len v → v.1 0 = b.1 3 → v.1 1 = (b.2 6).2 4 → (∀ h u : Int, 0 ≤ h → h < m → 0 ≤ u → u < b.1 3 → (v.2 3).2 (h * 24 + u) = sc_br b h u 1 1) → (∀ k : Int, 0 ≤ k → k < u → (v.2 3).2 (m * 24 + k) = sc_br b m k 1 1) → ab_J x 59 [some (ab_O 0), some (ab_O 1), some (ab_I m), some (ab_I u)] [] [v, b] kc ks := by
        intro p
        induction p with
        | zero =>
          intro u v hu lv e0 e1 hp1 hp2
          refine vX1_fill_59 hx _ _ v b kc ks ⟨fun _ => ⟨by omega, ?_⟩, fun g => absurd (by omega) g⟩
          exact ih (m + 1) v (by push_cast; omega) lv e0 e1 (fun h k a1 a2 a3 a4 => by
            by_cases hh : h = m
            · subst hh; exact hp2 k a3 (by omega)
            · exact hp1 h k a1 (by push_cast at a2; omega) a3 a4)
        | succ p ihp =>
          intro u v hu lv e0 e1 hp1 hp2
          have l3 := lv.2
          refine vX1_fill_59 hx _ _ v b kc ks ⟨fun g => absurd g (by omega), fun _ => ⟨by omega, by omega, ab_x1 (c_breaking d b hb hd (by omega) (by omega) (by omega) (by omega)) ⟨by omega, by omega, ?_⟩⟩⟩
          refine ihp (u + 1) (ab_pa v 3 (m * 24 + u) (sc_br b m u 1 1)) (by push_cast; omega) ⟨by rw [hd_pa_len]; exact lv.1, by rw [hd_pa_len]; exact l3⟩ e0 e1 (fun h k a1 a2 a3 a4 => ?_) (fun k k1 k2 => ?_)
          · rw [hd_pa_eq]
            show ab_ui (v.2 3).2 (m * 24 + u) (sc_br b m u 1 1) (h * 24 + k) = _
            rw [hd_ui_ne (by omega)]
            exact hp1 h k a1 a2 a3 a4
          · rw [hd_pa_eq]
            show ab_ui (v.2 3).2 (m * 24 + u) (sc_br b m u 1 1) (m * 24 + k) = _
            by_cases hk : k = u
            · subst hk; rw [hd_ui_eq]
            · rw [hd_ui_ne (by omega)]
              exact hp2 k k1 (by push_cast at k2; omega)
      exact inn (b.1 3).toNat 0 v (by omega) lv e0 e1 hp (fun k k1 k2 => absurd k2 (by omega))
  refine vX1_fill_0 hx w b 0 0 ⟨fun g => ⟨by omega, ?_⟩, fun g => ⟨by omega, ?_, by omega, ?_, by omega, ?_⟩⟩
  · have lw : ch_len w := hw.resolve_right (by omega)
    exact k2 0 0 (b.1 3).toNat 0 (ab_pf (ab_pf w 0 (b.1 3)) 1 ((b.2 6).2 4)) (by omega) lw (by simp [ab_pf, ab_up]) (by simp [ab_pf, ab_up]) (fun h u a1 a2 => absurd a2 (by omega))
  · unfold ch_k ch_s; rw [if_neg g, if_neg g]; omega
  · unfold ch_k ch_s; rw [if_neg g, if_neg g]; omega
  · exact k2 _ _ (b.1 3).toNat 0 (ab_pf (ab_pf (ab_pn (ab_pn w 2 7200) 3 576) 0 (b.1 3)) 1 ((b.2 6).2 4)) (by omega) ⟨by simp [ab_pf, ab_pn, ab_ua], by simp [ab_pf, ab_pn, ab_ua]⟩ (by simp [ab_pf, ab_up]) (by simp [ab_pf, ab_up]) (fun h u a1 a2 => absurd a2 (by omega))
