/-! lays -/
/-- what lays leaves as it is -/
def md_lf (m v : ab_Ob) : Prop := (∀ f, f ≠ 40 → f ≠ 41 → v.1 f = m.1 f) ∧ (∀ f, f < 25 ∨ 39 < f → v.2 f = m.2 f) ∧ ∀ f, (v.2 f).1 = (m.2 f).1
theorem md_lf_p {b m v : ab_Ob} (h : md_lf m v) (hp : md_p b m) : md_p b v := by
  unfold md_p
  rw [h.1 8 (by decide) (by decide), h.1 6 (by decide) (by decide), h.1 7 (by decide) (by decide), h.2.1 3 (by omega)]
  exact hp
theorem md_lf_len {m v : ab_Ob} (h : md_lf m v) (hp : md_len m) : md_len v := by
  unfold md_len
  simp only [h.2.2]
  exact hp
theorem md_lf_len2 {m v : ab_Ob} (h : md_lf m v) (hp : md_len2 m) : md_len2 v := by
  unfold md_len2
  simp only [h.2.2]
  exact hp
/-- these cells of the tables are right -/
def md_D (v : ab_Ob) (c : Int → Int → Int → Int → Int) (n : Int) (P : Int → Int → Int → Prop) : Prop := ∀ i j h : Int, 0 ≤ i → i ≤ j → j < n → i ≤ h → h ≤ j → P i j h → md_ce v c i j h
theorem c9_lays (d : Nat) (b m : ab_Ob) (hb : sc_ok b) (hdd : sc_dd b) (hn1 : 1 ≤ b.1 3) (hp : md_p b m) (hl : md_len m) (hl2 : md_len2 m) :
    ab_Ct (d + 7) 0 0 mX9_lays [ab_O 0] [m] (ab_V1 (fun v => md_lf m v ∧ md_d b v ∧ md_all v (sc_br b) (b.1 3) ∧ mt_ok v (sc_br b) (b.1 3))) := by
  have hd := sc_dd_db hdd
  have hn := hb.2.1
  refine ab_ct kX9_lays rfl rfl (fun x hx => ?_)
  have k45 : ∀ (q : Nat) (i : Int) (v : ab_Ob), i + 1 = q → i < b.1 3 → md_lf m v → md_d b v → md_D v (sc_br b) (b.1 3) (fun i' _ _ => i < i') → ab_J x 45 [some (ab_O 0), some (ab_I i), none, none] [] [v] 0 0 := by
    intro q
    induction q with
    | zero =>
      intro i v hi hin f hq hD
      refine vX9_lays_45 hx _ v 0 0 ⟨fun _ => ab_xv1 (c9_laysTree (d + 3) v (c := sc_br b) (n := b.1 3) (by omega) (by rw [f.1 8 (by decide) (by decide)]; exact hp.1) (md_lf_len f hl) (md_lf_len2 f hl2) (fun i' j' h' a1 a2 a3 a4 a5 => hD i' j' h' a1 a2 a3 a4 a5 (by omega))) (fun v' hv' => ab_lv1 ?_), fun g => absurd (by omega) g⟩
      obtain ⟨f', ok⟩ := hv'
      refine ⟨⟨fun g g1 g2 => by rw [f'.1 g g1 g2]; exact f.1 g g1 g2, fun g hg => by rw [f'.2.1 g (by omega)]; exact f.2.1 g hg, fun g => by rw [f'.2.2]; exact f.2.2 g⟩, ?_, fun i' j' h' a1 a2 a3 a4 a5 => ?_, ok⟩
      · unfold md_d
        rw [f'.2.1 25 (by omega), f'.2.1 26 (by omega)]
        exact hq
      · have := hD i' j' h' a1 a2 a3 a4 a5 (by omega)
        unfold md_ce at this ⊢
        rw [f'.2.1 27 (by omega), f'.2.1 28 (by omega), f'.2.1 29 (by omega), f'.2.1 30 (by omega)]
        exact this
    | succ q ih =>
      intro i v hi hin f hq hD
      refine vX9_lays_45 hx _ v 0 0 ⟨fun g => absurd g (by omega), fun _ => ?_⟩
      have k51 : ∀ (p : Nat) (j : Int) (v : ab_Ob), j + p = b.1 3 → i ≤ j → md_lf m v → md_d b v → md_D v (sc_br b) (b.1 3) (fun i' j' _ => i < i' ∨ (i' = i ∧ j' < j)) → ab_J x 51 [some (ab_O 0), some (ab_I i), some (ab_I j), none] [] [v] 0 0 := by
        intro p
        induction p with
        | zero =>
          intro j v hj hij f hq hD
          have e8 : v.1 8 = b.1 3 := by rw [f.1 8 (by decide) (by decide)]; exact hp.1
          refine vX9_lays_51 hx _ _ v 0 0 ⟨fun _ => ⟨by omega, ih _ v (by omega) (by omega) f hq (fun i' j' h' a1 a2 a3 a4 a5 a6 => hD i' j' h' a1 a2 a3 a4 a5 (by omega))⟩, fun g => absurd (by omega) g⟩
        | succ p ihp =>
          intro j v hj hij f hq hD
          have e8 : v.1 8 = b.1 3 := by rw [f.1 8 (by decide) (by decide)]; exact hp.1
          refine vX9_lays_51 hx _ _ v 0 0 ⟨fun g => absurd g (by omega), fun _ => ?_⟩
          have k61 : ∀ (r : Nat) (h : Int) (v : ab_Ob), h + r = j + 1 → i ≤ h → md_lf m v → md_d b v → md_D v (sc_br b) (b.1 3) (fun i' j' h' => i < i' ∨ (i' = i ∧ j' < j) ∨ (i' = i ∧ j' = j ∧ h' < h)) → ab_J x 61 [some (ab_O 0), some (ab_I i), some (ab_I j), some (ab_I h)] [] [v] 0 0 := by
            intro r
            induction r with
            | zero =>
              intro h v hh hih f hq hD
              refine vX9_lays_61 hx _ _ _ v 0 0 ⟨fun _ => ⟨by omega, ihp (j + 1) v (by push_cast at hj; omega) (by omega) f hq (fun i' j' h' a1 a2 a3 a4 a5 a6 => hD i' j' h' a1 a2 a3 a4 a5 (by omega))⟩, fun g => absurd (by omega) g⟩
            | succ r ihr =>
              intro h v hh hih f hq hD
              refine vX9_lays_61 hx _ _ _ v 0 0 ⟨fun g => absurd g (by omega), fun _ => ab_xv1 (c9_laysOne d b v hb hd (md_lf_p f hp) hq (md_lf_len f hl) (i := i) (j := j) (h := h) (by omega) hij (by omega) hih (by omega) (fun i' j' h' a1 a2 a3 a4 a5 a6 => hD i' j' h' (by omega) a2 (by omega) a5 a6 (by omega))) (fun v' hv' => ⟨by omega, ?_⟩)⟩
              obtain ⟨ha, hce⟩ := hv'
              refine ihr (h + 1) v' (by push_cast at hh; omega) (by omega) ⟨fun g g1 g2 => by rw [ha.1]; exact f.1 g g1 g2, fun g hg => by rw [ha.2.1 g (by omega) (by omega) (by omega) (by omega)]; exact f.2.1 g hg, fun g => by rw [ha.2.2.1]; exact f.2.2 g⟩ (md_at_d ha hq) (fun i' j' h' a1 a2 a3 a4 a5 a6 => ?_)
              by_cases e : i' = i ∧ j' = j ∧ h' = h
              · obtain ⟨rfl, rfl, rfl⟩ := e
                exact hce
              · refine md_at_ce ha (fun e2 => e ?_) (hD i' j' h' a1 a2 a3 a4 a5 (by omega))
                exact md_cu_inj (by omega) (by omega) (by omega) (by omega) e2
          exact k61 (j + 1 - i).toNat i v (by omega) (by omega) f hq (fun i' j' h' a1 a2 a3 a4 a5 a6 => hD i' j' h' a1 a2 a3 a4 a5 (by omega))
      exact k51 (b.1 3 - i).toNat i v (by omega) (by omega) f hq (fun i' j' h' a1 a2 a3 a4 a5 a6 => hD i' j' h' a1 a2 a3 a4 a5 (by omega))
  have k2 : ∀ (q k : Nat) (v : ab_Ob), (k : Int) + q = b.1 3 → md_lf m v → (∀ t : Int, 0 ≤ t → t < k → (v.2 25).2 t = (b.2 8).2 t ∧ (v.2 26).2 t = (b.2 9).2 t) → ab_J x 2 [some (ab_O 0), some (ab_I k), none, none] [] [v] 0 0 := by
    intro q
    induction q with
    | zero =>
      intro k v hk f hq
      have e8 : v.1 8 = b.1 3 := by rw [f.1 8 (by decide) (by decide)]; exact hp.1
      refine vX9_lays_2 hx _ v 0 0 ⟨fun _ => ⟨by omega, ?_⟩, fun g => absurd (by omega) g⟩
      rw [e8]
      exact k45 (b.1 3).toNat (b.1 3 - 1) v (by omega) (by omega) f (fun t t0 t1 => hq t t0 (by omega)) (fun i' j' h' a1 a2 a3 a4 a5 a6 => absurd a6 (by omega))
    | succ q ih =>
      intro k v hk f hq
      have e8 : v.1 8 = b.1 3 := by rw [f.1 8 (by decide) (by decide)]; exact hp.1
      have lv := md_lf_len f hl
      have hpv := md_lf_p f hp
      have dk := hdd k (by omega) (by omega)
      refine vX9_lays_2 hx _ v 0 0 ⟨fun g => absurd g (by omega), fun _ => ab_x1 (c9_strength (d + 3) b v hb hpv lv.1 (by omega) (by omega)) ⟨by rw [lv.2.1]; omega, ?_⟩⟩
      have hp2 : md_p b (ab_pa v 25 k (sc_st (b.1 0) (b.1 1) (hd_sm (b.2 5).2 0 (k : Int).toNat))) := by
        unfold md_p
        rw [hd_pa_ne (by decide), hd_pa_1]
        exact hpv
      refine ab_x1 (c9_stable (d + 4) b _ hb hp2 (by rw [hd_pa_len]; exact lv.1) (by omega) (by omega)) ⟨by rw [lv.2.2.1]; omega, by omega, ?_⟩
      refine ih (k + 1) _ (by push_cast; omega) ⟨fun g g1 g2 => f.1 g g1 g2, fun g hg => by rw [hd_pa_ne (by omega), hd_pa_ne (by omega)]; exact f.2.1 g hg, fun g => by rw [hd_pa_len, hd_pa_len]; exact f.2.2 g⟩ (fun t t0 t1 => ?_)
      have r25 : ((ab_pa (ab_pa v 25 k (sc_st (b.1 0) (b.1 1) (hd_sm (b.2 5).2 0 (k : Int).toNat))) 26 k (sc_sb ((b.2 4).2 k) (b.1 2))).2 25).2 = ab_ui (v.2 25).2 k (sc_st (b.1 0) (b.1 1) (hd_sm (b.2 5).2 0 (k : Int).toNat)) := by simp [ab_pa, ab_ua]
      have r26 : ((ab_pa (ab_pa v 25 k (sc_st (b.1 0) (b.1 1) (hd_sm (b.2 5).2 0 (k : Int).toNat))) 26 k (sc_sb ((b.2 4).2 k) (b.1 2))).2 26).2 = ab_ui (v.2 26).2 k (sc_sb ((b.2 4).2 k) (b.1 2)) := by simp [ab_pa, ab_ua]
      rw [r25, r26]
      by_cases e : t = k
      · subst e
        rw [hd_ui_eq, hd_ui_eq, dk.2.1, dk.2.2]
        exact ⟨rfl, rfl⟩
      · rw [hd_ui_ne e, hd_ui_ne e]
        exact hq t t0 (by push_cast at t1; omega)
  refine vX9_lays_0 hx m 0 0 ?_
  exact k2 (b.1 3).toNat 0 m (by omega) ⟨fun _ _ _ => rfl, fun _ _ => rfl, fun _ => rfl⟩ (fun t t0 t1 => absurd t1 (by omega))
