/-! THE REFERENCE: lines of the text -/
def rt_F (m v : ab_Ob) : Prop := (∀ f, f ≠ 10 → f ≠ 11 → f ≠ 12 → f ≠ 13 → f ≠ 19 → f ≠ 20 → f ≠ 21 → f ≠ 22 → f ≠ 23 → f ≠ 24 → v.1 f = m.1 f) ∧ (∀ f, f ≠ 4 → v.2 f = m.2 f) ∧ (v.2 4).1 = (m.2 4).1
theorem rt_F_f {m v : ab_Ob} (h : rt_f m v) : rt_F m v := ⟨fun f _ _ _ _ f19 f20 f21 f22 f23 f24 => h.1 f f19 f20 f21 f22 f23 f24, fun f _ => by rw [h.2], by rw [h.2]⟩
theorem rt_F_t {u v w : ab_Ob} (h1 : rt_F u v) (h2 : rt_F v w) : rt_F u w := ⟨fun f a b c d e g i j k l => by rw [h2.1 f a b c d e g i j k l]; exact h1.1 f a b c d e g i j k l, fun f hf => by rw [h2.2.1 f hf]; exact h1.2.1 f hf, by rw [h2.2.2]; exact h1.2.2⟩
theorem rt_F_pf {m v : ab_Ob} (h : rt_F m v) {f : Nat} (hf : f = 10 ∨ f = 11 ∨ f = 12 ∨ f = 13) (z : Int) : rt_F m (ab_pf v f z) := ⟨fun g a b c d e i j k l o => by rw [hd_pf_ne (by omega)]; exact h.1 g a b c d e i j k l o, h.2.1, h.2.2⟩
theorem rt_F_pa {m v : ab_Ob} (h : rt_F m v) (q z : Int) : rt_F m (ab_pa v 4 q z) := ⟨h.1, fun f hf => by rw [hd_pa_ne hf]; exact h.2.1 f hf, by rw [hd_pa_len]; exact h.2.2⟩
/-- the rules told, as bits -/
def rr_b (x r : Int) : Int := (Int32.ofInt ((Int32.ofInt x >>> (Int32.ofInt r &&& 31)).toInt) &&& Int32.ofInt 1).toInt
def rr_u (x r : Int) : Int := (Int32.ofInt x ||| Int32.ofInt ((Int32.ofInt 1 <<< (Int32.ofInt r &&& 31)).toInt)).toInt
theorem rr_f : ∀ (x : Fin 64) (r s : Fin 6), (0 ≤ rr_u (x.val : Int) (r.val : Int) ∧ rr_u (x.val : Int) (r.val : Int) < 64) ∧ rr_b (rr_u (x.val : Int) (r.val : Int)) (s.val : Int) = (if (s.val : Int) = (r.val : Int) then 1 else rr_b (x.val : Int) (s.val : Int)) ∧ (rr_b (x.val : Int) (s.val : Int) = 0 ∨ rr_b (x.val : Int) (s.val : Int) = 1) := by decide +kernel
theorem rr_i {x r s : Int} (hx : 0 ≤ x ∧ x < 64) (hr : 0 ≤ r ∧ r < 6) (hs : 0 ≤ s ∧ s < 6) : (0 ≤ rr_u x r ∧ rr_u x r < 64) ∧ rr_b (rr_u x r) s = (if s = r then 1 else rr_b x s) ∧ (rr_b x s = 0 ∨ rr_b x s = 1) := by
  have := rr_f ⟨x.toNat, by omega⟩ ⟨r.toNat, by omega⟩ ⟨s.toNat, by omega⟩
  have ex : ((x.toNat : Nat) : Int) = x := by omega
  have er : ((r.toNat : Nat) : Int) = r := by omega
  have es : ((s.toNat : Nat) : Int) = s := by omega
  simp only [ex, er, es] at this
  exact this
theorem rr_0 : ∀ s : Fin 6, rr_b 0 (s.val : Int) = 0 := by decide +kernel
/-- what has been read is the draft -/
def rp_D (m dr : ab_Ob) (tl : Int) (fl : Int → Int) : Prop := ((tl = 0 ∧ m.1 10 = 0) ∨ (¬ tl = 0 ∧ m.1 10 = dr.1 0 ∧ 1 ≤ dr.1 0 ∧ m.1 11 = dr.1 1 ∧ (m.2 4).2 54 = dr.1 2)) ∧ m.1 12 = dr.1 3 ∧ (0 ≤ dr.1 3 ∧ dr.1 3 ≤ 24) ∧ (∀ k : Int, 0 ≤ k → k < dr.1 3 → (m.2 4).2 k = (dr.2 4).2 k ∧ (m.2 4).2 (24 + k) = (dr.2 5).2 k) ∧ (∀ r : Int, 0 ≤ r → r < 6 → (m.2 4).2 (48 + r) = (dr.2 6).2 r) ∧ ((0 ≤ m.1 13 ∧ m.1 13 < 64) ∧ ∀ r : Int, 0 ≤ r → r < 6 → fl r = rr_b (m.1 13) r) ∧ (0 < dr.1 3 → ¬ tl = 0)
theorem rp_D_f {m v dr : ab_Ob} {tl : Int} {fl : Int → Int} (f : rt_f m v) (h : rp_D m dr tl fl) : rp_D v dr tl fl := by
  unfold rp_D at h ⊢
  rw [f.2, f.1 10 (by decide) (by decide) (by decide) (by decide) (by decide) (by decide), f.1 11 (by decide) (by decide) (by decide) (by decide) (by decide) (by decide), f.1 12 (by decide) (by decide) (by decide) (by decide) (by decide) (by decide), f.1 13 (by decide) (by decide) (by decide) (by decide) (by decide) (by decide)]
  exact h
theorem pf_named_2 {T : Int → Int} {n a : Int} {s : List Int} {lo hi : Int} (h : (pf_named T n s lo hi a).1 = 0) : (pf_named T n s lo hi a).2 = lx_x T n a := by
  unfold pf_named at h ⊢
  by_cases g : ps_w T n a s = true
  · rw [if_pos g]
  · rw [if_neg g] at h
    have : (1 : Int) = 0 := h
    omega
theorem pf_named_p {T : Int → Int} {n a : Int} {s : List Int} {lo hi : Int} (h : ¬ (pf_named T n s lo hi a).1 = 0) : 1 ≤ (pf_named T n s lo hi a).1 := by
  unfold pf_named pf_chk at h ⊢
  repeat' split
  all_goals first | (dsimp only; omega) | skip
  all_goals (simp_all)
theorem fr_p_b {T : Int → Int} {n : Int} {s : List Int} {lo hi : Int} {R : Int × Int} (h : ¬ R.1 = 0) : fr_p T n s lo hi R = R := if_neg h
theorem c9_ruleHere (d : Nat) {m : ab_Ob} {T : Int → Int} {n : Int} {R : Int × Int} (h : rt_G m T n R) : ab_Ct (d + 6) 0 0 mX9_ruleHere [ab_O 0] [m] (ab_Is (if R.1 = 0 then pf_rsd T n R.2 else -1) [m]) := by
  refine ab_ct kX9_ruleHere rfl rfl (fun x hx => vX9_ruleHere_0 hx m 0 0 (ab_xb (c9_isW d h (by decide : 7 < 12)) (fun p0 => ⟨fun g => absurd g (by decide), fun _ => ab_lf rfl ?_⟩) (fun p0 => ⟨fun _ => ab_xb (c9_isW d h (by decide : 6 < 12)) (fun p1 => ⟨fun g => absurd g (by decide), fun _ => ab_lf rfl ?_⟩) (fun p1 => ⟨fun _ => ab_xb (c9_isW d h (by decide : 8 < 12)) (fun p2 => ⟨fun g => absurd g (by decide), fun _ => ab_lf rfl ?_⟩) (fun p2 => ⟨fun _ => ab_xb (c9_isW d h (by decide : 9 < 12)) (fun p3 => ⟨fun g => absurd g (by decide), fun _ => ab_lf rfl ?_⟩) (fun p3 => ⟨fun _ => ab_xb (c9_isW d h (by decide : 10 < 12)) (fun p4 => ⟨fun g => absurd g (by decide), fun _ => ab_lf rfl ?_⟩) (fun p4 => ⟨fun _ => ab_xb (c9_isW d h (by decide : 11 < 12)) (fun p5 => ⟨fun g => absurd g (by decide), fun _ => ab_lf rfl ?_⟩) (fun p5 => ⟨fun _ => ab_lf rfl ?_, fun g => absurd rfl g⟩), fun g => absurd rfl g⟩), fun g => absurd rfl g⟩), fun g => absurd rfl g⟩), fun g => absurd rfl g⟩), fun g => absurd rfl g⟩)))
  · unfold pf_rsd; rw [if_pos p0.1, if_pos p0.2]
  · unfold pf_rsd; rw [if_pos p1.1, if_neg (fun y => p0 ⟨p1.1, y⟩), if_pos p1.2]
  · unfold pf_rsd; rw [if_pos p2.1, if_neg (fun y => p0 ⟨p2.1, y⟩), if_neg (fun y => p1 ⟨p2.1, y⟩), if_pos p2.2]
  · unfold pf_rsd; rw [if_pos p3.1, if_neg (fun y => p0 ⟨p3.1, y⟩), if_neg (fun y => p1 ⟨p3.1, y⟩), if_neg (fun y => p2 ⟨p3.1, y⟩), if_pos p3.2]
  · unfold pf_rsd; rw [if_pos p4.1, if_neg (fun y => p0 ⟨p4.1, y⟩), if_neg (fun y => p1 ⟨p4.1, y⟩), if_neg (fun y => p2 ⟨p4.1, y⟩), if_neg (fun y => p3 ⟨p4.1, y⟩), if_pos p4.2]
  · unfold pf_rsd; rw [if_pos p5.1, if_neg (fun y => p0 ⟨p5.1, y⟩), if_neg (fun y => p1 ⟨p5.1, y⟩), if_neg (fun y => p2 ⟨p5.1, y⟩), if_neg (fun y => p3 ⟨p5.1, y⟩), if_neg (fun y => p4 ⟨p5.1, y⟩), if_pos p5.2]
  · by_cases g : R.1 = 0
    · unfold pf_rsd; rw [if_pos g, if_neg (fun y => p0 ⟨g, y⟩), if_neg (fun y => p1 ⟨g, y⟩), if_neg (fun y => p2 ⟨g, y⟩), if_neg (fun y => p3 ⟨g, y⟩), if_neg (fun y => p4 ⟨g, y⟩), if_neg (fun y => p5 ⟨g, y⟩)]
    · rw [if_neg g]
/-- a line begins: is it full, is there a piece -/
def fr_b (full bar : Int) (T : Int → Int) (n : Int) (R : Int × Int) : Int × Int := fr_x T n (if bar = 0 then fr_f 5 (if full = 0 then R else fr_f 4 R) else (if full = 0 then R else fr_f 4 R))
theorem c9_begins (d : Nat) {m : ab_Ob} {T : Int → Int} {n : Int} {R : Int × Int} (h : rt_G m T n R) (full : Int) : ab_Ct (d + 4) 0 0 mX9_begins [ab_O 0, ab_I full] [m] (ab_V1 (fun v => rt_f m v ∧ rt_G v T n (fr_b full (m.1 10) T n R))) := by
  refine ab_ct kX9_begins rfl rfl (fun x hx => vX9_begins_0 hx full m 0 0 ⟨fun g => ⟨fun g2 => ab_xv1 (c9_next d h) (fun v hv => ab_lv1 ?_), fun g2 => ab_xv1 (c9_flaw (d + 2) m 5) (fun v hv => ?_)⟩, fun g => ab_xv1 (c9_flaw (d + 2) m 4) (fun v hv => ?_)⟩)
  · unfold fr_b
    rw [if_neg g2, if_pos g]
    exact hv
  · obtain ⟨f, hg, g1⟩ := rt_flaw h (by decide : (1 : Int) ≤ 5) hv
    refine ab_xv1 (c9_next d hg) (fun v2 hv2 => ab_lv1 ⟨rt_f_t f hv2.1, ?_⟩)
    unfold fr_b
    rw [if_pos g2, if_pos g]
    exact hv2.2
  · obtain ⟨f, hg, g1⟩ := rt_flaw h (by decide : (1 : Int) ≤ 4) hv
    have e10 : v.1 10 = m.1 10 := f.1 10 (by decide) (by decide) (by decide) (by decide) (by decide) (by decide)
    rw [e10]
    refine ⟨fun g2 => ab_xv1 (c9_next d hg) (fun v2 hv2 => ab_lv1 ⟨rt_f_t f hv2.1, ?_⟩), fun g2 => ab_xv1 (c9_flaw (d + 2) v 5) (fun v2 hv2 => ?_)⟩
    · unfold fr_b
      rw [if_neg g2, if_neg g]
      exact hv2.2
    · obtain ⟨f2, hg2, g12⟩ := rt_flaw hg (by decide : (1 : Int) ≤ 5) hv2
      refine ab_xv1 (c9_next d hg2) (fun v3 hv3 => ab_lv1 ⟨rt_f_t (rt_f_t f f2) hv3.1, ?_⟩)
      unfold fr_b
      rw [if_pos g2, if_neg g]
      exact hv3.2
/-- what a line leaves -/
def rl_ok (m v : ab_Ob) (T : Int → Int) (n : Int) (L : Int × Int × ab_Ob × Int × (Int → Int)) : Prop := rt_F m v ∧ rt_G v T n (L.1, L.2.1) ∧ (L.1 = 0 → rp_D v L.2.2.1 L.2.2.2.1 L.2.2.2.2)
theorem c9_readPiece (d : Nat) {m : ab_Ob} {T : Int → Int} {n a : Int} {dr : ab_Ob} {tl : Int} {fl : Int → Int} (h : rt_st m T n a) (hD : rp_D m dr tl fl) (h4 : (m.2 4).1 = 55) : ab_Ct (d + 7) 0 0 mX9_readPiece [ab_O 0] [m] (ab_V1 (fun v => rl_ok m v T n (if tl = 0 then ((pf_piece T n a dr).1, (pf_piece T n a dr).2.1, (pf_piece T n a dr).2.2, 1, fl) else (3, a, dr, tl, fl)))) := by
  have hG : rt_G m T n (0, a) := Or.inl ⟨rfl, h⟩
  refine ab_ct kX9_readPiece rfl rfl (fun x hx => vX9_readPiece_0 hx m 0 0 ⟨fun g => ?_, fun g => ?_⟩)
  · have t0 : tl = 0 := by
      rcases hD.1 with y | y
      · exact y.1
      · omega
    rw [if_pos t0]
    refine ab_xv1 (c9_next (d + 3) hG) (fun v1 hv1 => ⟨_, c9_readPart d hv1.2 (by decide : 3 < 12) 1 64, fun r1 v2 hr1 => ?_⟩)
    have ex : fr_x T n (0, a) = (0, lx_x T n a) := if_pos rfl
    obtain ⟨er1, u, eu, f2, g2⟩ := hr1
    cases eu
    have f2 := rt_f_t hv1.1 f2
    rw [ex] at er1 g2
    rw [fr_p_named] at er1 g2
    obtain ⟨bv, hbv⟩ : ∃ bv : Int, r1 = bv := ⟨r1, rfl⟩
    refine ⟨_, c9_readPart d g2 (by decide : 4 < 12) 1 r1, fun r2 v3 hr2 => ?_⟩
    obtain ⟨er2, u, eu, f3, g3⟩ := hr2
    cases eu
    have f3 := rt_f_t f2 f3
    have g3' : rt_G (ab_pf v3 11 r2) T n _ := g3
    refine ⟨_, c9_readPart d g3' (by decide : 5 < 12) 0 11, fun r3 v4 hr3 => ?_⟩
    obtain ⟨er3, u, eu, f4, g4⟩ := hr3
    cases eu
    have F4 : rt_F m v4 := rt_F_t (rt_F_pf (rt_F_f f3) (Or.inr (Or.inl rfl)) r2) (rt_F_f f4)
    have l4 : (v4.2 4).1 = 55 := by rw [F4.2.2]; exact h4
    refine ⟨by rw [l4]; decide, ?_⟩
    -- what has been read
    by_cases q1 : (pf_named T n (ab_str 3) 1 64 (lx_x T n a)).1 = 0
    · have w1 := pf_named_2 q1
      have b1 := pf_chk_b (pf_named_chk q1)
      rw [if_pos q1] at er1 g2 er2 g3 er3 g4
      rw [if_pos rfl] at er1
      have e1 : r1 = lx_n T n (pf_named T n (ab_str 3) 1 64 (lx_x T n a)).2 := by
        have := Option.some.inj er1
        rw [w1]
        exact Sum.inl.inj this
      rw [fr_p_named, e1] at er2 g3 er3 g4
      by_cases q2 : (pf_named T n (ab_str 4) 1 (lx_n T n (pf_named T n (ab_str 3) 1 64 (lx_x T n a)).2) (lx_x T n (pf_named T n (ab_str 3) 1 64 (lx_x T n a)).2)).1 = 0
      · have w2 := pf_named_2 q2
        rw [if_pos q2] at er2 g3 er3 g4
        rw [if_pos rfl] at er2
        have e2 : r2 = lx_n T n (pf_named T n (ab_str 4) 1 (lx_n T n (pf_named T n (ab_str 3) 1 64 (lx_x T n a)).2) (lx_x T n (pf_named T n (ab_str 3) 1 64 (lx_x T n a)).2)).2 := by
          have := Option.some.inj er2
          rw [w2]
          exact Sum.inl.inj this
        rw [fr_p_named] at er3 g4
        by_cases q3 : (pf_named T n (ab_str 5) 0 11 (lx_x T n (pf_named T n (ab_str 4) 1 (lx_n T n (pf_named T n (ab_str 3) 1 64 (lx_x T n a)).2) (lx_x T n (pf_named T n (ab_str 3) 1 64 (lx_x T n a)).2)).2)).1 = 0
        · have w3 := pf_named_2 q3
          rw [if_pos q3] at er3 g4
          rw [if_pos rfl] at er3
          have e3 : r3 = lx_n T n (pf_named T n (ab_str 5) 0 11 (lx_x T n (pf_named T n (ab_str 4) 1 (lx_n T n (pf_named T n (ab_str 3) 1 64 (lx_x T n a)).2) (lx_x T n (pf_named T n (ab_str 3) 1 64 (lx_x T n a)).2)).2)).2 := by
            have := Option.some.inj er3
            rw [w3]
            exact Sum.inl.inj this
          have eP : pf_piece T n a dr = (0, lx_x T n (pf_named T n (ab_str 5) 0 11 (lx_x T n (pf_named T n (ab_str 4) 1 (lx_n T n (pf_named T n (ab_str 3) 1 64 (lx_x T n a)).2) (lx_x T n (pf_named T n (ab_str 3) 1 64 (lx_x T n a)).2)).2)).2, ab_pf (ab_pf (ab_pf dr 0 r1) 1 r2) 2 r3) := by
            unfold pf_piece
            rw [if_pos q1, if_pos q2, if_pos q3, e1, e2, e3]
          have v23 : v4.1 23 = 0 := by
            rcases g4 with ⟨_, y⟩ | ⟨y, _⟩
            · exact y.2.2.2.2.2.1
            · have : (1 : Int) ≤ 0 := y
              omega
          rw [eP]
          refine ⟨fun y => absurd v23 y, fun _ => ab_lv1 ⟨rt_F_pf (rt_F_pa F4 54 r3) (Or.inl rfl) r1, g4, fun _ => ?_⟩⟩
          obtain ⟨d1, d2, d3, d4, d5, d6, d7⟩ := hD
          have v12 : v4.1 12 = m.1 12 := by
            rw [f4.1 12 (by decide) (by decide) (by decide) (by decide) (by decide) (by decide)]
            exact f3.1 12 (by decide) (by decide) (by decide) (by decide) (by decide) (by decide)
          have v13 : v4.1 13 = m.1 13 := by
            rw [f4.1 13 (by decide) (by decide) (by decide) (by decide) (by decide) (by decide)]
            exact f3.1 13 (by decide) (by decide) (by decide) (by decide) (by decide) (by decide)
          have v11 : v4.1 11 = r2 := f4.1 11 (by decide) (by decide) (by decide) (by decide) (by decide) (by decide)
          have x4 : v4.2 = m.2 := by rw [f4.2]; exact f3.2
          have y4 : ((ab_pf (ab_pa v4 4 54 r3) 10 r1).2 4).2 = ab_ui (m.2 4).2 54 r3 := by rw [hd_pf_2, hd_pa_eq, x4]
          refine ⟨Or.inr ⟨by show ¬ (1 : Int) = 0; decide, rfl, ?_, v11, ?_⟩, ?_, d3, fun k k0 k1 => ?_, fun r r0 r1' => ?_, ?_, fun _ => by show ¬ (1 : Int) = 0; decide⟩
          · show 1 ≤ r1
            rw [e1]; exact b1.2.1
          · rw [y4, hd_ui_eq]; rfl
          · show v4.1 12 = _
            rw [v12]; exact d2
          · have k2 : k < dr.1 3 := k1
            rw [y4, hd_ui_ne (by omega), hd_ui_ne (by omega)]
            exact d4 k k0 k1
          · rw [y4, hd_ui_ne (by omega)]
            exact d5 r r0 r1'
          · show (0 ≤ v4.1 13 ∧ v4.1 13 < 64) ∧ _
            rw [v13]
            refine ⟨d6.1, fun r r0 r1' => ?_⟩
            show fl r = rr_b (v4.1 13) r
            rw [v13]
            exact d6.2 r r0 r1'
        · rw [if_neg q3] at g4
          have eP : pf_piece T n a dr = ((pf_named T n (ab_str 5) 0 11 (lx_x T n (pf_named T n (ab_str 4) 1 (lx_n T n (pf_named T n (ab_str 3) 1 64 (lx_x T n a)).2) (lx_x T n (pf_named T n (ab_str 3) 1 64 (lx_x T n a)).2)).2)).1, (pf_named T n (ab_str 5) 0 11 (lx_x T n (pf_named T n (ab_str 4) 1 (lx_n T n (pf_named T n (ab_str 3) 1 64 (lx_x T n a)).2) (lx_x T n (pf_named T n (ab_str 3) 1 64 (lx_x T n a)).2)).2)).2, ab_pf (ab_pf dr 0 (lx_n T n (pf_named T n (ab_str 3) 1 64 (lx_x T n a)).2)) 1 (lx_n T n (pf_named T n (ab_str 4) 1 (lx_n T n (pf_named T n (ab_str 3) 1 64 (lx_x T n a)).2) (lx_x T n (pf_named T n (ab_str 3) 1 64 (lx_x T n a)).2)).2)) := by
            unfold pf_piece
            rw [if_pos q1, if_pos q2, if_neg q3]
          have v23 : ¬ v4.1 23 = 0 := by
            rcases g4 with ⟨y, _⟩ | ⟨y, z⟩
            · exact absurd y q3
            · rw [z.1]; omega
          rw [eP]
          exact ⟨fun _ => ab_lv1 ⟨rt_F_pa F4 54 r3, g4, fun y => absurd y q3⟩, fun y => absurd y v23⟩
      · rw [if_neg q2] at g3 er3 g4
        rw [fr_p_b q2] at g4
        have eP : pf_piece T n a dr = ((pf_named T n (ab_str 4) 1 (lx_n T n (pf_named T n (ab_str 3) 1 64 (lx_x T n a)).2) (lx_x T n (pf_named T n (ab_str 3) 1 64 (lx_x T n a)).2)).1, (pf_named T n (ab_str 4) 1 (lx_n T n (pf_named T n (ab_str 3) 1 64 (lx_x T n a)).2) (lx_x T n (pf_named T n (ab_str 3) 1 64 (lx_x T n a)).2)).2, ab_pf dr 0 (lx_n T n (pf_named T n (ab_str 3) 1 64 (lx_x T n a)).2)) := by
          unfold pf_piece
          rw [if_pos q1, if_neg q2]
        have v23 : ¬ v4.1 23 = 0 := by
          rcases g4 with ⟨y, _⟩ | ⟨y, z⟩
          · exact absurd y q2
          · rw [z.1]; omega
        rw [eP]
        exact ⟨fun _ => ab_lv1 ⟨rt_F_pa F4 54 r3, g4, fun y => absurd y q2⟩, fun y => absurd y v23⟩
    · rw [if_neg q1] at g2 er2 g3 er3 g4
      rw [fr_p_b q1] at g3 er3 g4
      rw [fr_p_b q1] at g4
      have eP : pf_piece T n a dr = ((pf_named T n (ab_str 3) 1 64 (lx_x T n a)).1, (pf_named T n (ab_str 3) 1 64 (lx_x T n a)).2, dr) := by
        unfold pf_piece
        rw [if_neg q1]
      have v23 : ¬ v4.1 23 = 0 := by
        rcases g4 with ⟨y, _⟩ | ⟨y, z⟩
        · exact absurd y q1
        · rw [z.1]; omega
      rw [eP]
      exact ⟨fun _ => ab_lv1 ⟨rt_F_pa F4 54 r3, g4, fun y => absurd y q1⟩, fun y => absurd y v23⟩
  · have t1 : ¬ tl = 0 := by
      rcases hD.1 with y | y
      · omega
      · exact y.1
    rw [if_neg t1]
    refine ab_xv1 (c9_flaw (d + 5) m 3) (fun v0 hv0 => ?_)
    obtain ⟨f0, g0, _⟩ := rt_flaw hG (by decide : (1 : Int) ≤ 3) hv0
    have e3 : fr_f 3 ((0 : Int), a) = (3, a) := if_pos rfl
    rw [e3] at g0
    have n3 : ¬ ((3 : Int), a).1 = 0 := by show ¬ (3 : Int) = 0; decide
    have ex : fr_x T n (3, a) = (3, a) := if_neg n3
    refine ab_xv1 (c9_next (d + 3) g0) (fun v1 hv1 => ?_)
    rw [ex] at hv1
    refine ⟨_, c9_readPart d hv1.2 (by decide : 3 < 12) 1 64, fun r1 v2 hr1 => ?_⟩
    rw [fr_p_b n3] at hr1
    obtain ⟨er1, u, eu, f2, g2⟩ := hr1
    cases eu
    refine ⟨_, c9_readPart d g2 (by decide : 4 < 12) 1 r1, fun r2 v3 hr2 => ?_⟩
    rw [fr_p_b n3] at hr2
    obtain ⟨er2, u, eu, f3, g3⟩ := hr2
    cases eu
    have g3' : rt_G (ab_pf v3 11 r2) T n (3, a) := g3
    refine ⟨_, c9_readPart d g3' (by decide : 5 < 12) 0 11, fun r3 v4 hr3 => ?_⟩
    rw [fr_p_b n3] at hr3
    obtain ⟨er3, u, eu, f4, g4⟩ := hr3
    cases eu
    have F4 : rt_F m v4 := rt_F_t (rt_F_pf (rt_F_f (rt_f_t (rt_f_t (rt_f_t f0 hv1.1) f2) f3)) (Or.inr (Or.inl rfl)) r2) (rt_F_f f4)
    have l4 : (v4.2 4).1 = 55 := by rw [F4.2.2]; exact h4
    have v23 : ¬ v4.1 23 = 0 := by
      rcases g4 with ⟨y, _⟩ | ⟨y, z⟩
      · exact absurd y n3
      · rw [z.1]; exact n3
    exact ⟨by rw [l4]; decide, fun _ => ab_lv1 ⟨rt_F_pa F4 54 r3, g4, fun y => absurd y n3⟩, fun y => absurd y v23⟩
