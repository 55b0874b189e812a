/-! THE REFERENCE: lines of the text, further -/
theorem fr_x_0 {T : Int → Int} {n a : Int} : fr_x T n (0, a) = (0, lx_x T n a) := if_pos rfl
theorem fr_x_b {T : Int → Int} {n : Int} {R : Int × Int} (h : ¬ R.1 = 0) : fr_x T n R = R := if_neg h
theorem fr_w_b {T : Int → Int} {n lo hi : Int} {R : Int × Int} (h : ¬ R.1 = 0) : fr_w T n lo hi R = R := if_neg h
theorem rt_G_0 {m : ab_Ob} {T : Int → Int} {n : Int} {R : Int × Int} (h : rt_G m T n R) : m.1 23 = R.1 := by
  rcases h with ⟨y, z⟩ | ⟨y, z⟩
  · rw [y]; exact z.2.2.2.2.2.1
  · exact z.1
theorem pf_chk_p {T : Int → Int} {n a lo hi : Int} (h : ¬ pf_chk T n a lo hi = 0) : 1 ≤ pf_chk T n a lo hi := by
  unfold pf_chk at h ⊢
  by_cases g : lx_k T n a = 3
  · rw [if_pos g] at h ⊢
    by_cases g1 : lx_n T n a < lo
    · rw [if_pos g1]; decide
    · rw [if_neg g1] at h ⊢
      by_cases g2 : lx_n T n a ≤ hi
      · rw [if_pos g2] at h; exact absurd rfl h
      · rw [if_neg g2]; decide
  · rw [if_neg g]; decide
theorem c9_readNote (d : Nat) {m : ab_Ob} {T : Int → Int} {n a : Int} {dr : ab_Ob} {tl : Int} {fl : Int → Int} (h : rt_st m T n a) (hD : rp_D m dr tl fl) (h4 : (m.2 4).1 = 55) : ab_Ct (d + 7) 0 0 mX9_readNote [ab_O 0] [m] (ab_V1 (fun v => rl_ok m v T n (if tl = 0 then (5, a, dr, tl, fl) else if dr.1 3 < 24 then ((pf_note T n a dr).1, (pf_note T n a dr).2.1, (pf_note T n a dr).2.2, tl, fl) else (4, a, dr, tl, fl)))) := by
  have hG : rt_G m T n (0, a) := Or.inl ⟨rfl, h⟩
  obtain ⟨d1, d2, d3, d4, d5, d6, d7⟩ := id hD
  -- once at a fault, to the end
  have bad : ∀ (full : Int) (B : Int × Int), ¬ B.1 = 0 → fr_b full (m.1 10) T n (0, a) = B → (∀ v : ab_Ob, rt_F m v → rt_G v T n B → rl_ok m v T n (if tl = 0 then (5, a, dr, tl, fl) else if dr.1 3 < 24 then ((pf_note T n a dr).1, (pf_note T n a dr).2.1, (pf_note T n a dr).2.2, tl, fl) else (4, a, dr, tl, fl))) → ∃ Q1 : Option ab_V → List ab_Ob → Prop, ab_Ct (d + 6) 0 0 mX9_begins [ab_O 0, ab_I full] [m] Q1 ∧ ∀ v2 : ab_Ob, Q1 none [v2] → ∃ Q3 : Option ab_V → List ab_Ob → Prop, ab_Ct (d + 6) 0 0 mX9_readWhole [ab_O 0, ab_I 0, ab_I 99] [v2] Q3 ∧ ∀ (r4 : Int) (v5 : ab_Ob), Q3 (some (ab_I r4)) [v5] → ∃ Q6 : Option ab_V → List ab_Ob → Prop, ab_Ct (d + 6) 0 0 mX9_readPart [ab_O 0, ab_S 6, ab_I 1, ab_I 64] [v5] Q6 ∧ ∀ (r7 : Int) (v8 : ab_Ob), Q6 (some (ab_I r7)) [v8] → ¬ v8.1 23 ≤ 0 ∧ rl_ok m v8 T n (if tl = 0 then (5, a, dr, tl, fl) else if dr.1 3 < 24 then ((pf_note T n a dr).1, (pf_note T n a dr).2.1, (pf_note T n a dr).2.2, tl, fl) else (4, a, dr, tl, fl)) := fun full B nB eB fin => by
    refine ab_xv1 (c9_begins (d + 2) hG full) (fun v1 hv1 => ?_)
    rw [eB] at hv1
    refine ⟨_, c9_readWhole (d + 2) hv1.2 0 99, fun r1 v2 hr1 => ?_⟩
    rw [fr_w_b nB] at hr1
    obtain ⟨er1, u, eu, f2, g2⟩ := hr1
    cases eu
    refine ⟨_, c9_readPart d g2 (by decide : 6 < 12) 1 64, fun r2 v3 hr2 => ?_⟩
    rw [fr_p_b nB] at hr2
    obtain ⟨er2, u, eu, f3, g3⟩ := hr2
    cases eu
    have p1 : 1 ≤ B.1 := by
      rcases g3 with ⟨y, _⟩ | ⟨y, _⟩
      · exact absurd y nB
      · exact y
    exact ⟨by rw [rt_G_0 g3]; omega, fin v3 (rt_F_f (rt_f_t (rt_f_t hv1.1 f2) f3)) g3⟩
  refine ab_ct kX9_readNote rfl rfl (fun x hx => vX9_readNote_0 hx m 0 0 ⟨fun g => ?_, fun g => ?_⟩)
  · by_cases t0 : tl = 0
    · have m10 : m.1 10 = 0 := by
        rcases d1 with y | y
        · exact y.2
        · exact absurd t0 y.1
      obtain ⟨Q, c, k⟩ := bad 0 (5, a) (by show ¬ (5 : Int) = 0; decide) (by
        unfold fr_b
        rw [if_pos m10, if_pos rfl]
        have : fr_f 5 ((0 : Int), a) = (5, a) := if_pos rfl
        rw [this]
        exact fr_x_b (by show ¬ (5 : Int) = 0; decide)) (fun v F G => by
          rw [if_pos t0]
          exact ⟨F, G, fun y => absurd y (by show ¬ (5 : Int) = 0; decide)⟩)
      refine ⟨Q, c, fun v2 hv2 => ?_⟩
      obtain ⟨Q3, c3, k3⟩ := k v2 hv2
      refine ⟨Q3, c3, fun r4 v5 hv5 => ?_⟩
      obtain ⟨Q6, c6, k6⟩ := k3 r4 v5 hv5
      refine ⟨Q6, c6, fun r7 v8 hv8 => ?_⟩
      obtain ⟨y1, y2⟩ := k6 r7 v8 hv8
      exact ⟨fun y => absurd y y1, fun _ => ab_lv1 y2⟩
    · have m10 : ¬ m.1 10 = 0 := by
        rcases d1 with y | y
        · exact absurd y.1 t0
        · omega
      have c24 : dr.1 3 < 24 := by omega
      rw [if_neg t0, if_pos c24]
      have eb : fr_b 0 (m.1 10) T n (0, a) = (0, lx_x T n a) := by
        unfold fr_b
        rw [if_neg m10, if_pos rfl, fr_x_0]
      refine ab_xv1 (c9_begins (d + 2) hG 0) (fun v1 hv1 => ?_)
      rw [eb] at hv1
      refine ⟨_, c9_readWhole (d + 2) hv1.2 0 99, fun r1 v2 hr1 => ?_⟩
      obtain ⟨er1, u, eu, f2, g2⟩ := hr1
      cases eu
      refine ⟨_, c9_readPart d g2 (by decide : 6 < 12) 1 64, fun r2 v3 hr2 => ?_⟩
      obtain ⟨er2, u, eu, f3, g3⟩ := hr2
      cases eu
      have f := rt_f_t (rt_f_t hv1.1 f2) f3
      by_cases q1 : pf_chk T n (lx_x T n a) 0 99 = 0
      · have ew : fr_w T n 0 99 (0, lx_x T n a) = (0, lx_x T n (lx_x T n a)) := by
          unfold fr_w
          rw [if_pos rfl, if_pos q1]
        have b1 := pf_chk_b q1
        rw [ew] at er1 g2 er2 g3
        rw [if_pos rfl] at er1
        have e1 : r1 = lx_n T n (lx_x T n a) := Sum.inl.inj (Option.some.inj er1)
        rw [fr_p_named] at er2 g3
        by_cases q2 : (pf_named T n (ab_str 6) 1 64 (lx_x T n (lx_x T n a))).1 = 0
        · have w2 := pf_named_2 q2
          rw [if_pos q2] at er2 g3
          rw [if_pos rfl] at er2
          have e2 : r2 = lx_n T n (pf_named T n (ab_str 6) 1 64 (lx_x T n (lx_x T n a))).2 := by
            rw [w2]
            exact Sum.inl.inj (Option.some.inj er2)
          have eP : pf_note T n a dr = (0, lx_x T n (pf_named T n (ab_str 6) 1 64 (lx_x T n (lx_x T n a))).2, pf_add dr r1 r2) := by
            unfold pf_note
            rw [if_pos q1, if_pos q2, e1, e2]
          have v23 : v3.1 23 = 0 := rt_G_0 g3
          have v12 : v3.1 12 = dr.1 3 := by rw [f.1 12 (by decide) (by decide) (by decide) (by decide) (by decide) (by decide)]; exact d2
          have v10 : v3.1 10 = m.1 10 := f.1 10 (by decide) (by decide) (by decide) (by decide) (by decide) (by decide)
          have v11 : v3.1 11 = m.1 11 := f.1 11 (by decide) (by decide) (by decide) (by decide) (by decide) (by decide)
          have v13 : v3.1 13 = m.1 13 := f.1 13 (by decide) (by decide) (by decide) (by decide) (by decide) (by decide)
          have l4 : (v3.2 4).1 = 55 := by rw [f.2]; exact h4
          rw [eP]
          refine ⟨fun _ => ⟨by omega, by omega, by omega, by omega, by omega, ab_lv1 ⟨rt_F_pf (rt_F_pa (rt_F_pa (rt_F_f f) _ _) _ _) (Or.inr (Or.inr (Or.inl rfl))) _, g3, fun _ => ?_⟩⟩, fun y => absurd (by omega) y⟩
          rw [show (0 : Int) + v3.1 12 = dr.1 3 by omega, v12]
          have y4 : ((ab_pf (ab_pa (ab_pa v3 4 (dr.1 3) r1) 4 (24 + dr.1 3) r2) 12 (dr.1 3 + 1)).2 4).2 = ab_ui (ab_ui (m.2 4).2 (dr.1 3) r1) (24 + dr.1 3) r2 := by
            rw [hd_pf_2, hd_pa_eq, hd_pa_eq, f.2]
          have p4 : ((pf_add dr r1 r2).2 4).2 = ab_ui (dr.2 4).2 (dr.1 3) r1 := by unfold pf_add; simp [ab_pf, ab_pa, ab_ua]
          have p5 : ((pf_add dr r1 r2).2 5).2 = ab_ui (dr.2 5).2 (dr.1 3) r2 := by unfold pf_add; simp [ab_pf, ab_pa, ab_ua]
          have p6 : (pf_add dr r1 r2).2 6 = dr.2 6 := by unfold pf_add; simp [ab_pf, ab_pa, ab_ua]
          have p3 : (pf_add dr r1 r2).1 3 = dr.1 3 + 1 := rfl
          refine ⟨?_, rfl, by rw [p3]; omega, fun k k0 k1 => ?_, fun r r0 r1' => ?_, ?_, fun _ => t0⟩
          · rcases d1 with y | y
            · exact absurd y.1 t0
            · refine Or.inr ⟨t0, ?_, y.2.2.1, ?_, ?_⟩
              · show v3.1 10 = dr.1 0
                rw [v10]; exact y.2.1
              · show v3.1 11 = dr.1 1
                rw [v11]; exact y.2.2.2.1
              · rw [y4, hd_ui_ne (by omega), hd_ui_ne (by omega)]
                exact y.2.2.2.2
          · rw [p3] at k1
            rw [y4, p4, p5]
            by_cases ek : k = dr.1 3
            · subst ek
              rw [hd_ui_ne (by omega), hd_ui_eq, hd_ui_eq, hd_ui_eq, hd_ui_eq]
              exact ⟨rfl, rfl⟩
            · have := d4 k k0 (by omega)
              rw [hd_ui_ne (by omega), hd_ui_ne ek, hd_ui_ne ek, hd_ui_ne (by omega), hd_ui_ne (by omega), hd_ui_ne ek]
              exact this
          · rw [y4, p6, hd_ui_ne (by omega), hd_ui_ne (by omega)]
            exact d5 r r0 r1'
          · show (0 ≤ v3.1 13 ∧ v3.1 13 < 64) ∧ ∀ r : Int, 0 ≤ r → r < 6 → fl r = rr_b (v3.1 13) r
            rw [v13]
            exact d6
        · rw [if_neg q2] at g3
          have eP : pf_note T n a dr = ((pf_named T n (ab_str 6) 1 64 (lx_x T n (lx_x T n a))).1, (pf_named T n (ab_str 6) 1 64 (lx_x T n (lx_x T n a))).2, dr) := by
            unfold pf_note
            rw [if_pos q1, if_neg q2]
          have v23 := rt_G_0 g3
          have p1 : 1 ≤ (pf_named T n (ab_str 6) 1 64 (lx_x T n (lx_x T n a))).1 := by
            rcases g3 with ⟨y, _⟩ | ⟨y, _⟩
            · exact absurd y q2
            · exact y
          rw [eP]
          exact ⟨fun y => absurd y (by omega), fun _ => ab_lv1 ⟨rt_F_f f, g3, fun y => absurd y q2⟩⟩
      · have ew : fr_w T n 0 99 (0, lx_x T n a) = (pf_chk T n (lx_x T n a) 0 99, lx_x T n a) := by
          unfold fr_w
          rw [if_pos rfl, if_neg q1]
        have p1 := pf_chk_p q1
        rw [ew] at g3
        rw [fr_p_b q1] at g3
        have eP : pf_note T n a dr = (pf_chk T n (lx_x T n a) 0 99, lx_x T n a, dr) := by
          unfold pf_note
          rw [if_neg q1]
        have v23 := rt_G_0 g3
        dsimp only at v23
        rw [eP]
        exact ⟨fun y => absurd y (by omega), fun _ => ab_lv1 ⟨rt_F_f f, g3, fun y => absurd y q1⟩⟩
  · have t0 : ¬ tl = 0 := d7 (by omega)
    have m10 : ¬ m.1 10 = 0 := by
      rcases d1 with y | y
      · exact absurd y.1 t0
      · omega
    obtain ⟨Q, c, k⟩ := bad 1 (4, a) (by show ¬ (4 : Int) = 0; decide) (by
      unfold fr_b
      rw [if_neg m10, if_neg (by decide)]
      have : fr_f 4 ((0 : Int), a) = (4, a) := if_pos rfl
      rw [this]
      exact fr_x_b (by show ¬ (4 : Int) = 0; decide)) (fun v F G => by
        rw [if_neg t0, if_neg (by omega)]
        exact ⟨F, G, fun y => absurd y (by show ¬ (4 : Int) = 0; decide)⟩)
    refine ⟨Q, c, fun v2 hv2 => ?_⟩
    obtain ⟨Q3, c3, k3⟩ := k v2 hv2
    refine ⟨Q3, c3, fun r4 v5 hv5 => ?_⟩
    obtain ⟨Q6, c6, k6⟩ := k3 r4 v5 hv5
    refine ⟨Q6, c6, fun r7 v8 hv8 => ?_⟩
    obtain ⟨y1, y2⟩ := k6 r7 v8 hv8
    exact ⟨fun y => absurd y y1, fun _ => ab_lv1 y2⟩
theorem c9_readRule (d : Nat) {m : ab_Ob} {T : Int → Int} {n a : Int} {dr : ab_Ob} {tl : Int} {fl : Int → Int} (h : rt_st m T n a) (hD : rp_D m dr tl fl) (h4 : (m.2 4).1 = 55) : ab_Ct (d + 7) 0 0 mX9_readRule [ab_O 0] [m] (ab_V1 (fun v => rl_ok m v T n (if tl = 0 then (5, a, dr, tl, fl) else ((pf_rule T n a dr fl).1, (pf_rule T n a dr fl).2.1, (pf_rule T n a dr fl).2.2.1, tl, (pf_rule T n a dr fl).2.2.2)))) := by
  have hG : rt_G m T n (0, a) := Or.inl ⟨rfl, h⟩
  obtain ⟨d1, d2, d3, d4, d5, d6, d7⟩ := id hD
  have rb := pf_rsd_b T n (lx_x T n a)
  refine ab_ct kX9_readRule rfl rfl (fun x hx => vX9_readRule_0 hx m 0 0 (ab_xv1 (c9_begins (d + 2) hG 0) (fun v1 hv1 => ab_x1 (c9_ruleHere d hv1.2) ?_)))
  -- a fault stays
  have bad : ∀ (v : ab_Ob) (B : Int × Int) (r : Int), rt_F m v → rt_G v T n B → 1 ≤ r → (∀ u : ab_Ob, rt_F m u → rt_G u T n (fr_f r B) → rl_ok m u T n (if tl = 0 then (5, a, dr, tl, fl) else ((pf_rule T n a dr fl).1, (pf_rule T n a dr fl).2.1, (pf_rule T n a dr fl).2.2.1, tl, (pf_rule T n a dr fl).2.2.2))) → ∃ Q10 : Option ab_V → List ab_Ob → Prop, ab_Ct (d + 6) 0 0 mX9_flaw [ab_O 0, ab_I r] [v] Q10 ∧ ∀ v11 : ab_Ob, Q10 none [v11] → ∃ Q12 : Option ab_V → List ab_Ob → Prop, ab_Ct (d + 6) 0 0 mX9_next [ab_O 0] [v11] Q12 ∧ ∀ v13 : ab_Ob, Q12 none [v13] → ∃ Q14 : Option ab_V → List ab_Ob → Prop, ab_Ct (d + 6) 0 0 mX9_readWhole [ab_O 0, ab_I 0, ab_I 99] [v13] Q14 ∧ ∀ (r15 : Int) (v16 : ab_Ob), Q14 (some (ab_I r15)) [v16] → ¬ v16.1 23 ≤ 0 ∧ rl_ok m v16 T n (if tl = 0 then (5, a, dr, tl, fl) else ((pf_rule T n a dr fl).1, (pf_rule T n a dr fl).2.1, (pf_rule T n a dr fl).2.2.1, tl, (pf_rule T n a dr fl).2.2.2)) := fun v B r F G hr fin => by
    refine ab_xv1 (c9_flaw (d + 5) v r) (fun v2 hv2 => ?_)
    obtain ⟨f2, g2, p2⟩ := rt_flaw G hr hv2
    have nB : ¬ (fr_f r B).1 = 0 := by omega
    refine ab_xv1 (c9_next (d + 3) g2) (fun v3 hv3 => ?_)
    rw [fr_x_b nB] at hv3
    refine ⟨_, c9_readWhole (d + 2) hv3.2 0 99, fun r4 v5 hr4 => ?_⟩
    rw [fr_w_b nB] at hr4
    obtain ⟨er, u, eu, f5, g5⟩ := hr4
    cases eu
    exact ⟨by rw [rt_G_0 g5]; omega, fin v5 (rt_F_t F (rt_F_f (rt_f_t (rt_f_t f2 hv3.1) f5))) g5⟩
  by_cases t0 : tl = 0
  · have m10 : m.1 10 = 0 := by
      rcases d1 with y | y
      · exact y.2
      · exact absurd t0 y.1
    have eb : fr_b 0 (m.1 10) T n (0, a) = (5, a) := by
      unfold fr_b
      rw [if_pos m10, if_pos rfl]
      have : fr_f 5 ((0 : Int), a) = (5, a) := if_pos rfl
      rw [this]
      exact fr_x_b (by show ¬ (5 : Int) = 0; decide)
    have g1 := hv1.2
    rw [eb] at g1 ⊢
    rw [if_neg (by show ¬ (5 : Int) = 0; decide)]
    refine ⟨fun g => absurd rfl g, fun _ => ?_⟩
    obtain ⟨Q, c, k⟩ := bad v1 (5, a) 1 (rt_F_f hv1.1) g1 (by decide) (fun u F G => by
      rw [if_pos t0]
      have e5 : fr_f 1 ((5 : Int), a) = (5, a) := if_neg (by show ¬ (5 : Int) = 0; decide)
      rw [e5] at G
      exact ⟨F, G, fun y => absurd y (by show ¬ (5 : Int) = 0; decide)⟩)
    refine ⟨Q, c, fun v2 hv2 => ?_⟩
    obtain ⟨Q3, c3, k3⟩ := k v2 hv2
    refine ⟨Q3, c3, fun v5 hv5 => ?_⟩
    obtain ⟨Q6, c6, k6⟩ := k3 v5 hv5
    refine ⟨Q6, c6, fun r7 v8 hv8 => ?_⟩
    obtain ⟨y1, y2⟩ := k6 r7 v8 hv8
    exact ⟨fun y => absurd y y1, fun _ => ab_lv1 y2⟩
  · have m10 : ¬ m.1 10 = 0 := by
      rcases d1 with y | y
      · exact absurd y.1 t0
      · omega
    have eb : fr_b 0 (m.1 10) T n (0, a) = (0, lx_x T n a) := by
      unfold fr_b
      rw [if_neg m10, if_pos rfl, fr_x_0]
    have g1 := hv1.2
    rw [eb] at g1 ⊢
    rw [if_pos rfl]
    show (¬ pf_rsd T n (lx_x T n a) = -1 → _) ∧ (pf_rsd T n (lx_x T n a) = -1 → _)
    have v13 : v1.1 13 = m.1 13 := hv1.1.1 13 (by decide) (by decide) (by decide) (by decide) (by decide) (by decide)
    refine ⟨fun q1 => ?_, fun q1 => ?_⟩
    · have rr : 0 ≤ pf_rsd T n (lx_x T n a) ∧ pf_rsd T n (lx_x T n a) < 6 := by omega
      have bit := d6.2 _ rr.1 rr.2
      have b01 := (rr_i d6.1 rr rr).2.2
      rw [v13]
      show (¬ rr_b (m.1 13) (pf_rsd T n (lx_x T n a)) = 1 → _) ∧ (rr_b (m.1 13) (pf_rsd T n (lx_x T n a)) = 1 → _)
      rw [← bit] at b01 ⊢
      refine ⟨fun q2 => ?_, fun q2 => ?_⟩
      · have q2' : fl (pf_rsd T n (lx_x T n a)) = 0 := by omega
        refine ab_xv1 (c9_next (d + 3) g1) (fun v2 hv2 => ?_)
        rw [fr_x_0] at hv2
        refine ⟨_, c9_readWhole (d + 2) hv2.2 0 99, fun r3 v3 hr3 => ?_⟩
        obtain ⟨er3, u, eu, f3, g3⟩ := hr3
        cases eu
        have f := rt_f_t (rt_f_t hv1.1 hv2.1) f3
        by_cases q3 : pf_chk T n (lx_x T n (lx_x T n a)) 0 99 = 0
        · have ew : fr_w T n 0 99 (0, lx_x T n (lx_x T n a)) = (0, lx_x T n (lx_x T n (lx_x T n a))) := by
            unfold fr_w
            rw [if_pos rfl, if_pos q3]
          rw [ew] at er3 g3
          rw [if_pos rfl] at er3
          have e3 : r3 = lx_n T n (lx_x T n (lx_x T n a)) := Sum.inl.inj (Option.some.inj er3)
          have eP : pf_rule T n a dr fl = (0, lx_x T n (lx_x T n (lx_x T n a)), ab_pa dr 6 (pf_rsd T n (lx_x T n a)) r3, ab_ui fl (pf_rsd T n (lx_x T n a)) 1) := by
            unfold pf_rule
            rw [if_neg q1, if_pos q2', if_pos q3, e3]
          have v23 : v3.1 23 = 0 := rt_G_0 g3
          have w13 : v3.1 13 = m.1 13 := f.1 13 (by decide) (by decide) (by decide) (by decide) (by decide) (by decide)
          have l4 : (v3.2 4).1 = 55 := by rw [f.2]; exact h4
          rw [if_neg t0, eP]
          have e9 : pf_rsd T n ((0 : Int), lx_x T n a).2 = pf_rsd T n (lx_x T n a) := rfl
          refine ⟨fun _ => ⟨by omega, by omega, ab_lv1 ⟨rt_F_pa (rt_F_pf (rt_F_f f) (Or.inr (Or.inr (Or.inr rfl))) _) _ _, g3, fun _ => ?_⟩⟩, fun y => absurd (by omega) y⟩
          have y4 : ∀ z : Int, ((ab_pa (ab_pf v3 13 z) 4 (48 + pf_rsd T n (lx_x T n a)) r3).2 4).2 = ab_ui (m.2 4).2 (48 + pf_rsd T n (lx_x T n a)) r3 := fun z => by rw [hd_pa_eq, hd_pf_2, f.2]
          refine ⟨?_, ?_, d3, fun k k0 k1 => ?_, fun r r0 r1' => ?_, ?_, d7⟩
          · rcases d1 with y | y
            · exact absurd y.1 t0
            · refine Or.inr ⟨t0, ?_, y.2.2.1, ?_, ?_⟩
              · show v3.1 10 = dr.1 0
                rw [f.1 10 (by decide) (by decide) (by decide) (by decide) (by decide) (by decide)]; exact y.2.1
              · show v3.1 11 = dr.1 1
                rw [f.1 11 (by decide) (by decide) (by decide) (by decide) (by decide) (by decide)]; exact y.2.2.2.1
              · rw [y4, hd_ui_ne (by omega)]
                exact y.2.2.2.2
          · show v3.1 12 = dr.1 3
            rw [f.1 12 (by decide) (by decide) (by decide) (by decide) (by decide) (by decide)]; exact d2
          · have k2 : k < dr.1 3 := k1
            rw [y4, hd_ui_ne (by omega), hd_ui_ne (by omega), hd_pa_ne (by decide), hd_pa_ne (by decide)]
            exact d4 k k0 k1
          · rw [y4, hd_pa_eq]
            show _ = ab_ui (dr.2 6).2 (pf_rsd T n (lx_x T n a)) r3 r
            by_cases e : r = pf_rsd T n (lx_x T n a)
            · rw [e, hd_ui_eq, hd_ui_eq]
            · rw [hd_ui_ne (by omega), hd_ui_ne e]
              exact d5 r r0 r1'
          · show (0 ≤ rr_u (v3.1 13) (pf_rsd T n (lx_x T n a)) ∧ rr_u (v3.1 13) (pf_rsd T n (lx_x T n a)) < 64) ∧ ∀ r : Int, 0 ≤ r → r < 6 → ab_ui fl (pf_rsd T n (lx_x T n a)) 1 r = rr_b (rr_u (v3.1 13) (pf_rsd T n (lx_x T n a))) r
            rw [w13]
            refine ⟨(rr_i d6.1 rr rr).1, fun r r0 r1' => ?_⟩
            rw [(rr_i d6.1 rr ⟨r0, r1'⟩).2.1]
            by_cases e : r = pf_rsd T n (lx_x T n a)
            · rw [if_pos e, e, hd_ui_eq]
            · rw [if_neg e, hd_ui_ne e]
              exact d6.2 r r0 r1'
        · have ew : fr_w T n 0 99 (0, lx_x T n (lx_x T n a)) = (pf_chk T n (lx_x T n (lx_x T n a)) 0 99, lx_x T n (lx_x T n a)) := by
            unfold fr_w
            rw [if_pos rfl, if_neg q3]
          have p3 := pf_chk_p q3
          rw [ew] at g3
          have eP : pf_rule T n a dr fl = (pf_chk T n (lx_x T n (lx_x T n a)) 0 99, lx_x T n (lx_x T n a), dr, ab_ui fl (pf_rsd T n (lx_x T n a)) 1) := by
            unfold pf_rule
            rw [if_neg q1, if_pos q2', if_neg q3]
          have v23 := rt_G_0 g3
          dsimp only at v23
          rw [if_neg t0, eP]
          exact ⟨fun y => absurd y (by omega), fun _ => ab_lv1 ⟨rt_F_f f, g3, fun y => absurd y q3⟩⟩
      · have q2' : ¬ fl (pf_rsd T n (lx_x T n a)) = 0 := by omega
        have eP : pf_rule T n a dr fl = (3, lx_x T n a, dr, fl) := by
          unfold pf_rule
          rw [if_neg q1, if_neg q2']
        obtain ⟨Q, c, k⟩ := bad v1 (0, lx_x T n a) 3 (rt_F_f hv1.1) g1 (by decide) (fun u F G => by
          rw [if_neg t0, eP]
          have e5 : fr_f 3 ((0 : Int), lx_x T n a) = (3, lx_x T n a) := if_pos rfl
          rw [e5] at G
          exact ⟨F, G, fun y => absurd y (by show ¬ (3 : Int) = 0; decide)⟩)
        refine ⟨Q, c, fun v2 hv2 => ?_⟩
        obtain ⟨Q3, c3, k3⟩ := k v2 hv2
        refine ⟨Q3, c3, fun v5 hv5 => ?_⟩
        obtain ⟨Q6, c6, k6⟩ := k3 v5 hv5
        refine ⟨Q6, c6, fun r7 v8 hv8 => ?_⟩
        obtain ⟨y1, y2⟩ := k6 r7 v8 hv8
        exact ⟨fun y => absurd y y1, fun _ => ab_lv1 y2⟩
    · have eP : pf_rule T n a dr fl = (1, lx_x T n a, dr, fl) := by
        unfold pf_rule
        rw [if_pos q1]
      obtain ⟨Q, c, k⟩ := bad v1 (0, lx_x T n a) 1 (rt_F_f hv1.1) g1 (by decide) (fun u F G => by
        rw [if_neg t0, eP]
        have e5 : fr_f 1 ((0 : Int), lx_x T n a) = (1, lx_x T n a) := if_pos rfl
        rw [e5] at G
        exact ⟨F, G, fun y => absurd y (by show ¬ (1 : Int) = 0; decide)⟩)
      refine ⟨Q, c, fun v2 hv2 => ?_⟩
      obtain ⟨Q3, c3, k3⟩ := k v2 hv2
      refine ⟨Q3, c3, fun v5 hv5 => ?_⟩
      obtain ⟨Q6, c6, k6⟩ := k3 v5 hv5
      refine ⟨Q6, c6, fun r7 v8 hv8 => ?_⟩
      obtain ⟨y1, y2⟩ := k6 r7 v8 hv8
      exact ⟨fun y => absurd y y1, fun _ => ab_lv1 y2⟩
theorem c9_readLine (d : Nat) {m : ab_Ob} {T : Int → Int} {n a : Int} {dr : ab_Ob} {tl : Int} {fl : Int → Int} (h : rt_st m T n a) (hD : rp_D m dr tl fl) (h4 : (m.2 4).1 = 55) : ab_Ct (d + 8) 0 0 mX9_readLine [ab_O 0] [m] (ab_V1 (fun v => rl_ok m v T n (pf_line T n a dr tl fl))) := by
  have hG : rt_G m T n (0, a) := Or.inl ⟨rfl, h⟩
  refine ab_ct kX9_readLine rfl rfl (fun x hx => vX9_readLine_0 hx m 0 0 (ab_xb (c9_isW (d + 2) hG (by decide : 0 < 12)) (fun p0 => ⟨fun g => absurd g (by decide), fun _ => ab_xv1 (c9_readPiece d h hD h4) (fun v hv => ab_lv1 ?_)⟩) (fun p0 => ⟨fun _ => ab_xb (c9_isW (d + 2) hG (by decide : 1 < 12)) (fun p1 => ⟨fun g => absurd g (by decide), fun _ => ab_xv1 (c9_readNote d h hD h4) (fun v hv => ab_lv1 ?_)⟩) (fun p1 => ⟨fun _ => ab_xb (c9_isW (d + 2) hG (by decide : 2 < 12)) (fun p2 => ⟨fun g => absurd g (by decide), fun _ => ab_xv1 (c9_readRule d h hD h4) (fun v hv => ab_lv1 ?_)⟩) (fun p2 => ⟨fun _ => ab_xv1 (c9_flaw (d + 6) m 1) (fun v hv => ab_lv1 ?_), fun g => absurd rfl g⟩), fun g => absurd rfl g⟩), fun g => absurd rfl g⟩)))
  · have e : pf_line T n a dr tl fl = if tl = 0 then ((pf_piece T n a dr).1, (pf_piece T n a dr).2.1, (pf_piece T n a dr).2.2, 1, fl) else (3, a, dr, tl, fl) := if_pos p0.2
    rw [e]
    exact hv
  · have e : pf_line T n a dr tl fl = if tl = 0 then (5, a, dr, tl, fl) else if dr.1 3 < 24 then ((pf_note T n a dr).1, (pf_note T n a dr).2.1, (pf_note T n a dr).2.2, tl, fl) else (4, a, dr, tl, fl) := by
      unfold pf_line
      rw [if_neg (fun y => p0 ⟨rfl, y⟩), if_pos p1.2]
    rw [e]
    exact hv
  · have e : pf_line T n a dr tl fl = if tl = 0 then (5, a, dr, tl, fl) else ((pf_rule T n a dr fl).1, (pf_rule T n a dr fl).2.1, (pf_rule T n a dr fl).2.2.1, tl, (pf_rule T n a dr fl).2.2.2) := by
      unfold pf_line
      rw [if_neg (fun y => p0 ⟨rfl, y⟩), if_neg (fun y => p1 ⟨rfl, y⟩), if_pos p2.2]
    rw [e]
    exact hv
  · have e : pf_line T n a dr tl fl = (1, a, dr, tl, fl) := by
      unfold pf_line
      rw [if_neg (fun y => p0 ⟨rfl, y⟩), if_neg (fun y => p1 ⟨rfl, y⟩), if_neg (fun y => p2 ⟨rfl, y⟩)]
    obtain ⟨f, g, _⟩ := rt_flaw hG (by decide : (1 : Int) ≤ 1) hv
    have e1 : fr_f 1 ((0 : Int), a) = (1, a) := if_pos rfl
    rw [e1] at g
    rw [e]
    exact ⟨rt_F_f f, g, fun y => absurd y (by show ¬ (1 : Int) = 0; decide)⟩
