theorem s_undo (d : Nat) {x rd dr b ac sp cn wh sw swc swt kp t1 t2 ly wi m : ab_Ob} (h : hR x rd dr b ac sp cn wh sw swc swt kp t1 t2 ly wi m) : sim ab_I (d + 12) (d + 12) mX8_undo mX9_undo [] x rd dr b ac sp cn wh sw swc swt kp t1 t2 ly wi m := by
  obtain ⟨h1, h2, h3, h4, h5, h6, h7, h8, ⟨L, a1, a2, a3⟩, h11⟩ := id h
  have hn := h1.1.2.1
  rcases List.eq_nil_or_concat L with e | ⟨R, e, hL⟩
  · subst e
    have c0 : ac.1 0 = 0 := a1.2.1
    refine ⟨0, 0, hkb0, _, h_undo0 (d + 3) x rd dr b ac sp cn wh sw swc swt kp t1 t2 ly wi h2 c0, fun r ws hq => ?_⟩
    obtain ⟨er, q⟩ := hq
    cases er
    have e9 : m.1 14 = 0 ∨ m.1 9 = 0 := by
      by_cases y : m.1 14 = 0
      · exact Or.inl y
      · exact Or.inr (a3 y).1
    refine ⟨_, c9_undo0 (d + 10) e9, fun r' w' hw => ?_⟩
    obtain ⟨e1, e2⟩ := hw
    cases e1
    exact ⟨rfl, _, e2, hR_sm (t := 1) h (sm_an m 1) (mi_S_an h5 _) rfl rfl (by decide) q⟩
  · rw [List.concat_eq_append] at hL
    subst hL
    have i1 : ¬ m.1 14 = 0 := fun y => by have := a2 y; simp at this
    have mi : mi_I b m := by
      rcases h5 with ⟨y, _⟩ | y
      · exact absurd y i1
      · exact y
    obtain ⟨n9, ah9⟩ := a3 i1
    have l10 := a1.2.2.1
    rw [List.length_append] at n9 l10
    have z1 : [e].length = 1 := rfl
    rw [z1] at n9 l10
    push_cast at n9
    rw [List.reverse_append] at ah9
    have ah9' : ah (b.1 3) (hrow m) (e :: R.reverse) (m.2 3).2 := ah9
    obtain ⟨b1, b2, b3, b4⟩ := ah9'
    have lr : R.reverse.length = R.length := List.length_reverse
    rw [lr] at b2 b3 b4
    have hp := mi.2.2.2.2.1
    have hx := (md_p_x.mp hp).2
    refine ⟨0, 0, hkb0, _, h_undo (d + 3) x rd dr b ac sp cn wh sw swc swt kp t1 t2 ly wi h1 h2 a1 b1 hx (nb_rl (fun k hk => (b3 k hk).symm) b2), fun r ws hq => ?_⟩
    obtain ⟨er, b', ac', x', sp', cn', wh', sw', swc', swt', t1', t2', ly', wi', e1, hC', _, hac, hI', x0, x12, k1, k2⟩ := hq
    cases er
    have e3 := hC'.2.1
    have hxr : md_x b' (hrow m R.length) := md_x_rl (fun k hk => b3 k (by rw [← e3]; exact hk)) hC'.2.2.2.2
    have hxr' : md_x b' (fun k => (m.2 5).2 (55 * (m.1 9 - 1) + k)) := by
      rw [show m.1 9 - 1 = R.length by omega]
      exact hxr
    refine ⟨_, c9_undo (d + 4) mi (by omega) h6.2.2.2.2.1 hC'.1.1 hC'.1.2 e3 hC'.2.2.1 hC'.2.2.2.1 hxr', fun r' w' hw => ?_⟩
    obtain ⟨er, z, ez, f1, z9, f2, f3, miz, q0, q1, q2⟩ := hw
    cases er
    have e14 : z.1 14 = m.1 14 := f1 14 (by decide) (by decide) (by decide) (by decide) (by decide) (by decide)
    have xz : md_x b' (z.2 3).2 := (md_p_x.mp miz.2.2.2.2.1).2
    have zY := md_x_eq xz hxr
    rw [e3] at zY
    have e5 : z.2 5 = m.2 5 := f2 5 (by decide) (by decide)
    refine ⟨rfl, z, ez, x', rd, dr, b', ac', sp', cn', wh', sw', swc', swt', kp, t1', t2', ly', wi', e1, ⟨hC'.1, hI', h3, h4, Or.inr miz, mb_l_of f3 h6, ?_, ⟨by rw [q1, x0], by rw [q2, x0]; rfl⟩, ⟨R, hac, fun y => absurd (e14.symm.trans y) i1, fun _ => ⟨by rw [z9]; omega, ?_⟩⟩, ?_⟩, k1, k2⟩
    · unfold hM
      rw [f1 17 (by decide) (by decide) (by decide) (by decide) (by decide) (by decide), f1 23 (by decide) (by decide) (by decide) (by decide) (by decide) (by decide), f2 16 (by decide) (by decide)]
      exact h7
    · rw [e3]
      refine ah_congr (fun t _ k _ => ?_) zY b4
      unfold hrow
      rw [e5]
    · obtain ⟨c', j1, j2⟩ := h11
      unfold hKp
      rw [x12, e3]
      exact ⟨c', mk_S_b e3 e14 (f1 15 (by decide) (by decide) (by decide) (by decide) (by decide) (by decide)) (f1 51 (by decide) (by decide) (by decide) (by decide) (by decide) (by decide)) (fun f hf => f2 f (by omega) (by omega)) j1, j2⟩
theorem s_keep (d : Nat) {x rd dr b ac sp cn wh sw swc swt kp t1 t2 ly wi m : ab_Ob} (h : hR x rd dr b ac sp cn wh sw swc swt kp t1 t2 ly wi m) : sim ab_I (d + 12) (d + 12) mX8_keep mX9_keep [] x rd dr b ac sp cn wh sw swc swt kp t1 t2 ly wi m := by
  obtain ⟨h1, h2, h3, h4, h5, h6, h7, h8, h9, h11⟩ := id h
  by_cases p : 1 ≤ b.1 3
  · have mi := mi_S_I h5 p
    refine ⟨_, _, hkb1, _, h_keep (d + 3) x rd dr b ac sp cn wh sw swc swt kp t1 t2 ly wi h1 p h2 h3, fun r ws hq => ?_⟩
    obtain ⟨er, kp', x', sp', cn', wh', sw', swc', swt', t1', t2', ly', wi', e1, hk', hI', x0, x12, k1, k2⟩ := hq
    cases er
    refine ⟨_, c9_keep (d + 9) mi h6.2.2.1, fun r' w' hw => ?_⟩
    obtain ⟨er, v, ev', ⟨f1, f2, f3⟩, mK, v0, v1, v2, v15⟩ := hw
    cases er
    have e14 : v.1 14 = m.1 14 := f1 14 (by decide) (by decide) (by decide) (by decide) (by decide)
    have miv : mi_I b v := mi_I_of (fun f hf => f1 f (by omega) (by omega) (by omega) (by omega) (by omega)) (fun f hf => f2 f (by omega)) f3 mi
    refine ⟨rfl, v, ev', x', rd, dr, b, ac, sp', cn', wh', sw', swc', swt', kp', t1', t2', ly', wi', e1, ⟨h1, hI', hk'.1, h4, Or.inr miv, mb_l_of f3 h6, ?_, ⟨by rw [v1, x0], by rw [v2, x0]; rfl⟩, ?_, ⟨sc_br b, Or.inr ⟨⟨fun y => mi.1 (e14.symm.trans y), by rw [v15]; decide⟩, x12, ?_, mK⟩, fun _ => ⟨p, hk'⟩⟩⟩, k1, k2⟩
    · unfold hM
      rw [f1 17 (by decide) (by decide) (by decide) (by decide) (by decide), f1 23 (by decide) (by decide) (by decide) (by decide) (by decide), f2 16 (by decide)]
      exact h7
    · unfold hL hrow
      rw [e14, f1 9 (by decide) (by decide) (by decide) (by decide) (by decide), f2 3 (by decide), f2 5 (by decide)]
      exact h9
    · unfold md_kl
      simp only [f3]
      exact h6.2.2.1
  · have e14 : m.1 14 = 0 := by
      rcases h5 with ⟨y, _⟩ | y
      · exact y
      · exact absurd y.2.2.2.1 p
    exact sim_0 h (h_keep0 (d + 3) x rd dr b ac sp cn wh sw swc swt kp t1 t2 ly wi p h2) (c9_keep0 (d + 10) e14) (by decide)
/-- told, and nothing changed -/
theorem hR_0 {x rd dr b ac sp cn wh sw swc swt kp t1 t2 ly wi m : ab_Ob} (h : hR x rd dr b ac sp cn wh sw swc swt kp t1 t2 ly wi m) : hR x rd dr b ac sp cn wh sw swc swt kp t1 t2 ly wi (ab_pf m 0 0) := h
theorem sim_t {d8 d9 : Nat} {M8 M9 : ab_M} {as : List ab_V} {x rd dr b ac sp cn wh sw swc swt kp t1 t2 ly wi m : ab_Ob} {r : Int} (h : hR x rd dr b ac sp cn wh sw swc swt kp t1 t2 ly wi m) (h8 : ab_Ct d8 0 0 M8 (ab_O 0 :: as) [x, rd, dr, b, ac, sp, cn, wh, sw, swc, swt, kp, t1, t2, ly, wi] (ab_Is r [x, rd, dr, b, ac, sp, cn, wh, sw, swc, swt, kp, t1, t2, ly, wi])) (h9 : ab_Ct d9 0 0 M9 (ab_O 0 :: as) [m] (ab_Is r [ab_pf m 0 0])) : sim ab_I d8 d9 M8 M9 as x rd dr b ac sp cn wh sw swc swt kp t1 t2 ly wi m := by
  refine ⟨0, 0, hkb0, _, h8, fun r1 ws hq => ⟨_, h9, fun r' w' hw => ?_⟩⟩
  obtain ⟨e1, e2⟩ := hq
  obtain ⟨e3, e4⟩ := hw
  cases e1
  cases e3
  exact ⟨rfl, _, e4, _, _, _, _, _, _, _, _, _, _, _, _, _, _, _, _, e2, hR_0 h, by omega, by omega⟩
theorem s_trouble (d : Nat) {x rd dr b ac sp cn wh sw swc swt kp t1 t2 ly wi m : ab_Ob} (h : hR x rd dr b ac sp cn wh sw swc swt kp t1 t2 ly wi m) : sim ab_I (d + 12) (d + 12) mX8_trouble mX9_trouble [] x rd dr b ac sp cn wh sw swc swt kp t1 t2 ly wi m := by
  have c := c9_trouble (d + 11) m
  rw [h.2.2.2.2.2.2.2.1.1] at c
  exact sim_t h (h_trouble (d + 3) x rd dr b ac sp cn wh sw swc swt kp t1 t2 ly wi) c
theorem s_fault (d : Nat) {x rd dr b ac sp cn wh sw swc swt kp t1 t2 ly wi m : ab_Ob} (h : hR x rd dr b ac sp cn wh sw swc swt kp t1 t2 ly wi m) : sim ab_I (d + 12) (d + 12) mX8_fault mX9_fault [] x rd dr b ac sp cn wh sw swc swt kp t1 t2 ly wi m := by
  have c := c9_fault (d + 11) m
  rw [h.2.2.2.2.2.2.1.2.2.2.2.2.2] at c
  exact sim_t h (h_fault (d + 3) x rd dr b ac sp cn wh sw swc swt kp t1 t2 ly wi) c
theorem s_where (d : Nat) {x rd dr b ac sp cn wh sw swc swt kp t1 t2 ly wi m : ab_Ob} (h : hR x rd dr b ac sp cn wh sw swc swt kp t1 t2 ly wi m) : sim ab_I (d + 12) (d + 12) mX8_where mX9_where [] x rd dr b ac sp cn wh sw swc swt kp t1 t2 ly wi m := by
  have c := c9_where (d + 11) m
  rw [h.2.2.2.2.2.2.2.1.2] at c
  exact sim_t h (h_where (d + 3) x rd dr b ac sp cn wh sw swc swt kp t1 t2 ly wi) c
theorem s_size (d : Nat) {x rd dr b ac sp cn wh sw swc swt kp t1 t2 ly wi m : ab_Ob} (h : hR x rd dr b ac sp cn wh sw swc swt kp t1 t2 ly wi m) (what : Int) : sim ab_I (d + 12) (d + 12) mX8_size mX9_size [ab_I what] x rd dr b ac sp cn wh sw swc swt kp t1 t2 ly wi m := by
  have c := c9_size (d + 11) m what
  have e : an_size m what = (if what = 0 then rd.1 0 else if what = 1 then ac.1 0 else if what = 2 then (if x.1 12 = 0 then 0 else 1) else -1) := by
    obtain ⟨h1, h2, h3, h4, h5, h6, h7, h8, ⟨L, a1, a2, a3⟩, ⟨c', k1, k2⟩⟩ := h
    have e1 : (if m.1 14 = 0 then 0 else m.1 9) = ac.1 0 := by
      rw [a1.2.1]
      by_cases y : m.1 14 = 0
      · rw [if_pos y, a2 y]; rfl
      · rw [if_neg y, (a3 y).1]
    have e2 : (if m.1 14 = 0 then (0 : Int) else if m.1 15 = 0 then 0 else 1) = if x.1 12 = 0 then 0 else 1 := by
      rcases k1 with ⟨y, z⟩ | ⟨⟨y1, y2⟩, z, _⟩
      · rw [if_pos (Classical.not_not.mp z)]
        rcases y with y | y
        · rw [if_pos y]
        · rw [if_pos y]
          split <;> rfl
      · rw [if_neg y1, if_neg y2, if_neg z]
    unfold an_size
    rw [e1, e2, h7.2.2.1]
  rw [e] at c
  exact sim_t h (h_size (d + 3) x rd dr b ac sp cn wh sw swc swt kp t1 t2 ly wi what) c
theorem fe_s_b (a b c d e j : Int) : -128 ≤ fe_s a b c d e j ∧ fe_s a b c d e j ≤ 127 := ab_i8_ok _
theorem s_feed (d : Nat) {x rd dr b ac sp cn wh sw swc swt kp t1 t2 ly wi m : ab_Ob} (h : hR x rd dr b ac sp cn wh sw swc swt kp t1 t2 ly wi m) (a1 a2 a3 a4 a5 : Int) : sim ab_I (d + 12) (d + 12) mX8_feed mX9_feed [ab_I a1, ab_I a2, ab_I a3, ab_I a4, ab_I a5] x rd dr b ac sp cn wh sw swc swt kp t1 t2 ly wi m := by
  obtain ⟨h1, h2, h3, h4, h5, h6, h7, h8, h9, h11⟩ := id h
  obtain ⟨t1', t2', t3, t4, t5, t6, t7⟩ := h7
  by_cases p : rd.1 0 ≤ 680
  · refine ⟨0, 0, hkb0, _, h_feed (d + 3) x rd dr b ac sp cn wh sw swc swt kp t1 t2 ly wi t1' ⟨t4.1, p⟩ a1 a2 a3 a4 a5, fun r ws hq => ?_⟩
    obtain ⟨er, rd', e1, g0, g1, g2, g3, g4⟩ := hq
    cases er
    refine ⟨_, c9_feed (d + 11) (by omega) h6.2.2.2.2.2.1 a1 a2 a3 a4 a5, fun r' w' hw => ?_⟩
    obtain ⟨er, z, ez, z0, z17, f1, f2, f16, f4⟩ := hw
    cases er
    have ln : ∀ f, (z.2 f).1 = (m.2 f).1 := fun f => by
      by_cases y : f = 16
      · rw [y, f16, h6.2.2.2.2.2.1]
      · rw [f2 f y]
    refine ⟨by rw [t3], z, ez, x, rd', dr, b, ac, sp, cn, wh, sw, swc, swt, kp, t1, t2, ly, wi, e1, ⟨h1, h2, h3, h4, ?_, mb_l_of ln h6, ⟨g3, by rw [g2 5 (by decide)]; exact t2', by rw [z17, g0, t3], by omega, fun q => ?_, ?_, by rw [f1 23 (by decide) (by decide), g1 10 (by decide)]; exact t7⟩, ?_, ?_, ?_⟩, by omega, by omega⟩
    · rcases h5 with ⟨y1, y2, y3⟩ | mi
      · exact Or.inl ⟨by rw [f1 14 (by decide) (by decide)]; exact y1, y2, by rw [f1 8 (by decide) (by decide)]; exact y3⟩
      · right
        obtain ⟨i1, hb, hdd, n1, hp, hq, hT⟩ := mi
        unfold mi_I md_p md_d md_T md_len md_len2 md_all md_ce mt_ok mt_pt at *
        simp only [f1 14 (by decide) (by decide), f1 6 (by decide) (by decide), f1 7 (by decide) (by decide), f1 8 (by decide) (by decide), f1 40 (by decide) (by decide), f2 3 (by decide), f2 25 (by decide), f2 26 (by decide), f2 27 (by decide), f2 28 (by decide), f2 29 (by decide), f2 30 (by decide), f2 31 (by decide), f2 32 (by decide), f2 33 (by decide), f2 34 (by decide), f2 35 (by decide), f2 36 (by decide), f2 37 (by decide), f2 38 (by decide), f2 39 (by decide)]
        exact ⟨i1, hb, hdd, n1, hp, hq, hT⟩
    · rw [g4]
      split
      · exact fe_s_b _ _ _ _ _ _
      · exact t5 q
    · funext q
      rw [f4, g4, t3, t6]
    · refine ⟨by rw [f1 1 (by decide) (by decide)]; exact h8.1, by rw [f1 2 (by decide) (by decide), g1 7 (by decide)]; exact h8.2⟩
    · unfold hL hrow
      rw [f1 14 (by decide) (by decide), f1 9 (by decide) (by decide), f2 3 (by decide), f2 5 (by decide)]
      exact h9
    · obtain ⟨c', j1, j2⟩ := h11
      exact ⟨c', mk_S_b rfl (f1 14 (by decide) (by decide)) (f1 15 (by decide) (by decide)) (f1 51 (by decide) (by decide)) (fun f hf => f2 f (by omega)) j1, j2⟩
  · exact sim_t h (h_feed0 (d + 3) x rd dr b ac sp cn wh sw swc swt kp t1 t2 ly wi (by omega) a1 a2 a3 a4 a5) (c9_feed0 (d + 11) (by omega) a1 a2 a3 a4 a5)
