/-! THE TEXT: bounds of what it tells -/
theorem pf_chk_b {T : Int → Int} {n a lo hi : Int} (hc : pf_chk T n a lo hi = 0) : lx_k T n a = 3 ∧ lo ≤ lx_n T n a ∧ lx_n T n a ≤ hi := by
  unfold pf_chk at hc
  by_cases g : lx_k T n a = 3
  · rw [if_pos g] at hc
    by_cases g1 : lx_n T n a < lo
    · rw [if_pos g1] at hc; omega
    · rw [if_neg g1] at hc
      by_cases g2 : lx_n T n a ≤ hi
      · exact ⟨g, by omega, g2⟩
      · rw [if_neg g2] at hc; omega
  · rw [if_neg g] at hc; omega
theorem lx_x_m {T : Int → Int} {n a : Int} (h : a ≤ n) : a ≤ lx_x T n a ∧ lx_x T n a ≤ n := by
  have h1 := lx_e_b (T := T) h
  have h2 := lx_x_b (T := T) h
  omega
theorem pf_named_m {T : Int → Int} {n a : Int} {s : List Int} {lo hi : Int} (h : a ≤ n) : a ≤ (pf_named T n s lo hi a).2 ∧ (pf_named T n s lo hi a).2 ≤ n := by
  have := lx_x_m (T := T) h
  unfold pf_named
  split
  · exact this
  · exact ⟨Int.le_refl _, h⟩
theorem sc_ok_pf {b : ab_Ob} (hb : sc_ok b) {f : Nat} {z : Int} (hf : (f = 0 ∧ 1 ≤ z ∧ z ≤ 64) ∨ (f = 1 ∧ 1 ≤ z ∧ z ≤ 64) ∨ (f = 2 ∧ 0 ≤ z ∧ z ≤ 11)) : sc_ok (ab_pf b f z) := by
  obtain ⟨h1, h2, h3, h4, h5, h6, h7⟩ := hb
  rcases hf with ⟨rfl, hz⟩ | ⟨rfl, hz⟩ | ⟨rfl, hz⟩
  · exact ⟨h1, h2, hz, h4, h5, h6, h7⟩
  · exact ⟨h1, h2, h3, hz, h5, h6, h7⟩
  · exact ⟨h1, h2, h3, h4, hz, h6, h7⟩
theorem pf_piece_ok {T : Int → Int} {n a : Int} {dr : ab_Ob} (hb : sc_ok dr) : sc_ok (pf_piece T n a dr).2.2 := by
  unfold pf_piece
  by_cases g1 : (pf_named T n (ab_str 3) 1 64 (lx_x T n a)).1 = 0
  · have b1 := pf_chk_b (pf_named_chk g1)
    have k1 := sc_ok_pf hb (f := 0) (Or.inl ⟨rfl, b1.2⟩)
    rw [if_pos g1]
    by_cases g2 : (pf_named T n (ab_str 4) 1 (lx_n T n (pf_named T n (ab_str 3) 1 64 (lx_x T n a)).2) (lx_x T n (pf_named T n (ab_str 3) 1 64 (lx_x T n a)).2)).1 = 0
    · have b2 := pf_chk_b (pf_named_chk g2)
      have k2 := sc_ok_pf k1 (f := 1) (Or.inr (Or.inl ⟨rfl, b2.2.1, by omega⟩))
      rw [if_pos g2]
      split
      · rename_i g3
        have b3 := pf_chk_b (pf_named_chk g3)
        exact sc_ok_pf k2 (f := 2) (Or.inr (Or.inr ⟨rfl, b3.2⟩))
      · exact k2
    · rw [if_neg g2]
      exact k1
  · rw [if_neg g1]
    exact hb
theorem pf_add_ok {dr : ab_Ob} (hb : sc_ok dr) (hc : dr.1 3 < 24) {p l : Int} (hp : 0 ≤ p ∧ p ≤ 99) (hl : 1 ≤ l ∧ l ≤ 64) : sc_ok (pf_add dr p l) := by
  obtain ⟨⟨n4, n5, n6, n7, n8, n9⟩, h2, h3, h4, h5, h6, h7⟩ := hb
  unfold pf_add
  refine ⟨⟨?_, ?_, ?_, ?_, ?_, ?_⟩, ?_, h3, h4, h5, fun k k0 k1 => ?_, fun r r0 r1 => ?_⟩
  · rw [hd_pf_2, hd_pa_len, hd_pa_len]; exact n4
  · rw [hd_pf_2, hd_pa_len, hd_pa_len]; exact n5
  · rw [hd_pf_2, hd_pa_len, hd_pa_len]; exact n6
  · rw [hd_pf_2, hd_pa_len, hd_pa_len]; exact n7
  · rw [hd_pf_2, hd_pa_len, hd_pa_len]; exact n8
  · rw [hd_pf_2, hd_pa_len, hd_pa_len]; exact n9
  · rw [hd_pf_eq]; omega
  · rw [hd_pf_eq] at k1
    have e4 : ((ab_pf (ab_pa (ab_pa dr 4 (dr.1 3) p) 5 (dr.1 3) l) 3 (dr.1 3 + 1)).2 4).2 = ab_ui (dr.2 4).2 (dr.1 3) p := by simp [ab_pf, ab_pa, ab_ua]
    have e5 : ((ab_pf (ab_pa (ab_pa dr 4 (dr.1 3) p) 5 (dr.1 3) l) 3 (dr.1 3 + 1)).2 5).2 = ab_ui (dr.2 5).2 (dr.1 3) l := by simp [ab_pf, ab_pa, ab_ua]
    rw [e4, e5]
    by_cases e : k = dr.1 3
    · subst e
      rw [hd_ui_eq, hd_ui_eq]
      exact ⟨hp, hl⟩
    · rw [hd_ui_ne e, hd_ui_ne e]
      exact h6 k k0 (by omega)
  · rw [hd_pf_2, hd_pa_ne (by decide), hd_pa_ne (by decide)]
    exact h7 r r0 r1
theorem pf_note_ok {T : Int → Int} {n a : Int} {dr : ab_Ob} (hb : sc_ok dr) (hc : dr.1 3 < 24) : sc_ok (pf_note T n a dr).2.2 := by
  unfold pf_note
  split
  · rename_i g1
    have b1 := pf_chk_b g1
    split
    · rename_i g2
      have b2 := pf_chk_b (pf_named_chk g2)
      exact pf_add_ok hb hc b1.2 b2.2
    · exact hb
  · exact hb
theorem pf_rule_ok {T : Int → Int} {n a : Int} {dr : ab_Ob} {fl : Int → Int} (hb : sc_ok dr) : sc_ok (pf_rule T n a dr fl).2.2.1 := by
  unfold pf_rule
  split
  · exact hb
  · split
    · split
      · rename_i g3
        have b3 := pf_chk_b g3
        exact sc_ok_w hb b3.2
      · exact hb
    · exact hb
theorem pf_line_ok {T : Int → Int} {n a : Int} {dr : ab_Ob} {tl : Int} {fl : Int → Int} (hb : sc_ok dr) : sc_ok (pf_line T n a dr tl fl).2.2.1 := by
  unfold pf_line
  split
  · split
    · exact pf_piece_ok hb
    · exact hb
  · split
    · split
      · exact hb
      · split
        · rename_i g
          exact pf_note_ok hb g
        · exact hb
    · split
      · split
        · exact hb
        · exact pf_rule_ok hb
      · exact hb
theorem pf_lines_ok {T : Int → Int} {n : Int} : ∀ (k : Nat) {a : Int} {dr : ab_Ob} {tl : Int} {fl : Int → Int}, sc_ok dr → sc_ok (pf_lines T n k a dr tl fl).2.2
  | 0, _, _, _, _, h => h
  | k + 1, a, dr, tl, fl, h => by
    have h1 := pf_line_ok (T := T) (n := n) (a := a) (tl := tl) (fl := fl) h
    simp only [pf_lines]
    split
    · split
      · exact h1
      · split
        · exact pf_lines_ok k h1
        · exact h1
    · exact h1
theorem pf_line_m {T : Int → Int} {n a : Int} {dr : ab_Ob} {tl : Int} {fl : Int → Int} (h : a ≤ n) : a ≤ (pf_line T n a dr tl fl).2.1 ∧ (pf_line T n a dr tl fl).2.1 ≤ n := by
  have x1 := lx_x_m (T := T) h
  have x2 := lx_x_m (T := T) x1.2
  have x3 := lx_x_m (T := T) x2.2
  unfold pf_line
  split
  · split
    · show a ≤ (pf_piece T n a dr).2.1 ∧ (pf_piece T n a dr).2.1 ≤ n
      have m1 := pf_named_m (T := T) (s := ab_str 3) (lo := 1) (hi := 64) x1.2
      have y1 := lx_x_m (T := T) m1.2
      have m2 := pf_named_m (T := T) (s := ab_str 4) (lo := 1) (hi := lx_n T n (pf_named T n (ab_str 3) 1 64 (lx_x T n a)).2) y1.2
      have y2 := lx_x_m (T := T) m2.2
      have m3 := pf_named_m (T := T) (s := ab_str 5) (lo := 0) (hi := 11) y2.2
      have y3 := lx_x_m (T := T) m3.2
      unfold pf_piece
      split
      · split
        · split
          · dsimp only; omega
          · dsimp only; omega
        · dsimp only; omega
      · dsimp only; omega
    · exact ⟨Int.le_refl _, h⟩
  · split
    · split
      · exact ⟨Int.le_refl _, h⟩
      · split
        · show a ≤ (pf_note T n a dr).2.1 ∧ (pf_note T n a dr).2.1 ≤ n
          have m1 := pf_named_m (T := T) (s := ab_str 6) (lo := 1) (hi := 64) x2.2
          have y1 := lx_x_m (T := T) m1.2
          unfold pf_note
          split
          · split
            · dsimp only; omega
            · dsimp only; omega
          · dsimp only; omega
        · exact ⟨Int.le_refl _, h⟩
    · split
      · split
        · exact ⟨Int.le_refl _, h⟩
        · show a ≤ (pf_rule T n a dr fl).2.1 ∧ (pf_rule T n a dr fl).2.1 ≤ n
          unfold pf_rule
          split
          · dsimp only; omega
          · split
            · split
              · dsimp only; omega
              · dsimp only; omega
            · dsimp only; omega
      · exact ⟨Int.le_refl _, h⟩
/-! the class reads lines -/
abbrev ab_Rl (w : ab_Ob) (T : Int → Int) (n : Int) (R : Int × Int × ab_Ob × Int × (Int → Int)) : Option ab_V → List ab_Ob → Prop := fun rv ws => rv = some (ab_I R.1) ∧ ∃ v, ws = [v, R.2.2.1] ∧ rd_st v T n R.2.1 ∧ (∀ f, f ≠ 4 → f ≠ 6 → f ≠ 7 → f ≠ 8 → f ≠ 9 → v.1 f = w.1 f) ∧ v.1 4 = R.2.2.2.1 ∧ v.2 1 = w.2 1 ∧ (v.2 5).2 = R.2.2.2.2
theorem c_readLine (d : Nat) {w : ab_Ob} {T : Int → Int} {n a : Int} (b : ab_Ob) (h : rd_st w T n a) (hb : sc_ok b) : ab_Ct (d + 8) 0 0 mX4_readLine [ab_O 0] [w, b] (ab_Rl w T n (pf_line T n a b (w.1 4) (w.2 5).2)) := by
  have hc := hb.2.1
  have same : ∀ r : Int, pf_line T n a b (w.1 4) (w.2 5).2 = (r, a, b, w.1 4, (w.2 5).2) → (((∃ z : Int, some (ab_I r) = some (ab_I z)) ∧ ab_shw [true, true] [w, b] [w, b]) ∧ ab_Rl w T n (pf_line T n a b (w.1 4) (w.2 5).2) (some (ab_I r)) [w, b]) := fun r e => by
    rw [e]
    exact ⟨⟨⟨_, rfl⟩, _, _, rfl, _, _, rfl, rfl⟩, rfl, w, rfl, h, fun _ _ _ _ _ _ => rfl, rfl, rfl, rfl⟩
  refine ab_ct kX4_readLine rfl rfl (fun x hx => vX4_readLine_0 hx w b 0 0 (ab_xb (c_says (d + 2) b h (by decide : 0 < 12)) (fun p0 => ⟨fun g => absurd g (by decide), fun _ => ⟨fun g => ?_, fun g => same 3 ?_⟩⟩) (fun p0 => ⟨fun _ => ab_xb (c_says (d + 2) b h (by decide : 1 < 12)) (fun p1 => ⟨fun g => absurd g (by decide), fun _ => ⟨fun g => ⟨fun g2 => ?_, fun g2 => same 4 ?_⟩, fun g => same 5 ?_⟩⟩) (fun p1 => ⟨fun _ => ab_xb (c_says (d + 2) b h (by decide : 2 < 12)) (fun p2 => ⟨fun g => absurd g (by decide), fun _ => ⟨fun g => ?_, fun g => same 5 ?_⟩⟩) (fun p2 => ⟨fun _ => same 1 ?_, fun g => absurd rfl g⟩), fun g => absurd rfl g⟩), fun g => absurd rfl g⟩)))
  · refine ⟨_, c_readPiece d b h, fun r v u hr => ?_⟩
    obtain ⟨e1, v', e2, st, f1, f4, f2, f5⟩ := hr
    cases e1
    cases e2
    have e : pf_line T n a b (w.1 4) (w.2 5).2 = ((pf_piece T n a b).1, (pf_piece T n a b).2.1, (pf_piece T n a b).2.2, 1, (w.2 5).2) := by
      unfold pf_line
      rw [if_pos p0, if_pos g]
    rw [e]
    exact ⟨⟨⟨_, rfl⟩, _, _, rfl, _, _, rfl, rfl⟩, rfl, v, rfl, st, f1, f4, f2, f5⟩
  · unfold pf_line
    rw [if_pos p0, if_neg g]
  · refine ⟨_, c_readNote d b h hb.1 (by omega), fun r v u hr => ?_⟩
    obtain ⟨e1, v', e2, st, f1, f4, f2, f5⟩ := hr
    cases e1
    cases e2
    have e : pf_line T n a b (w.1 4) (w.2 5).2 = ((pf_note T n a b).1, (pf_note T n a b).2.1, (pf_note T n a b).2.2, w.1 4, (w.2 5).2) := by
      unfold pf_line
      rw [if_neg p0, if_pos p1, if_neg g, if_pos g2]
    rw [e]
    exact ⟨⟨⟨_, rfl⟩, _, _, rfl, _, _, rfl, rfl⟩, rfl, v, rfl, st, f1, f4, f2, f5⟩
  · unfold pf_line
    rw [if_neg p0, if_pos p1, if_neg g, if_neg g2]
  · unfold pf_line
    rw [if_neg p0, if_pos p1, if_pos g]
  · refine ⟨_, c_readRule d b h hb.1, fun r v u hr => ?_⟩
    obtain ⟨e1, v', e2, st, f1, f4, f2, f5⟩ := hr
    cases e1
    cases e2
    have e : pf_line T n a b (w.1 4) (w.2 5).2 = ((pf_rule T n a b (w.2 5).2).1, (pf_rule T n a b (w.2 5).2).2.1, (pf_rule T n a b (w.2 5).2).2.2.1, w.1 4, (pf_rule T n a b (w.2 5).2).2.2.2) := by
      unfold pf_line
      rw [if_neg p0, if_neg p1, if_pos p2, if_neg g]
    rw [e]
    exact ⟨⟨⟨_, rfl⟩, _, _, rfl, _, _, rfl, rfl⟩, rfl, v, rfl, st, f1, f4, f2, f5⟩
  · unfold pf_line
    rw [if_neg p0, if_neg p1, if_pos p2, if_pos g]
  · unfold pf_line
    rw [if_neg p0, if_neg p1, if_neg p2]
theorem c_readLines (d : Nat) {w : ab_Ob} {T : Int → Int} {n : Int} (b : ab_Ob) (hl : rd_l w) (e1 : (w.2 1).2 = T) (e2 : w.1 2 = n) (hT : ∀ q : Int, -128 ≤ T q ∧ T q ≤ 127) (h8 : w.1 8 = 0) (hb : sc_ok b) : ab_Ct (d + 9) 0 0 mX4_readLines [ab_O 0] [w, b] (fun rv ws => rv = some (ab_I (pf_lines T n (n + 1).toNat (lx_sk T lx_sp n 0) b (w.1 4) (w.2 5).2).1) ∧ ∃ v, ws = [v, (pf_lines T n (n + 1).toNat (lx_sk T lx_sp n 0) b (w.1 4) (w.2 5).2).2.2] ∧ rd_st v T n (pf_lines T n (n + 1).toNat (lx_sk T lx_sp n 0) b (w.1 4) (w.2 5).2).2.1 ∧ (∀ f, f ≠ 4 → f ≠ 6 → f ≠ 7 → f ≠ 8 → f ≠ 9 → v.1 f = w.1 f) ∧ v.2 1 = w.2 1) := by
  generalize hR : pf_lines T n (n + 1).toNat (lx_sk T lx_sp n 0) b (w.1 4) (w.2 5).2 = R
  refine ab_ct kX4_readLines rfl rfl (fun x hx => vX4_readLines_0 hx w b 0 0 ?_)
  have key : ∀ (q : Nat) (u b' : ab_Ob) (p ln : Int), n - p < q → rd_l u → (u.2 1).2 = T → u.1 2 = n → u.1 8 = p → 0 ≤ p → p ≤ n → 0 ≤ ln → ln ≤ p → sc_ok b' → (∀ f, f ≠ 4 → f ≠ 6 → f ≠ 7 → f ≠ 8 → f ≠ 9 → u.1 f = w.1 f) → u.2 1 = w.2 1 → pf_lines T n q (lx_sk T lx_sp n p) b' (u.1 4) (u.2 5).2 = R → ab_J x 2 [some (ab_O 0), some (ab_I ln), none] [] [u, b'] 0 0 := by
    intro q
    induction q with
    | zero =>
      intro u b' p ln hq
      intros
      omega
    | succ q ih =>
      intro u b' p ln hq ul u1 u2 u8 p0 p1 l0 l1 ub uf uf2 hE
      push_cast at hq
      have n7 := ul.2.2
      have sb := lx_sk_b (T := T) (P := lx_sp) p1
      have ca := c_advance (d + 5) u b' ul (by rw [u1]; exact hT) (by omega)
      rw [u1, u2, u8] at ca
      refine vX4_readLines_2 hx _ u b' 0 0 ⟨fun g => absurd g (by omega), fun _ => ab_xv2 ca (fun v hv => ?_)⟩
      have st : rd_st v T n (lx_sk T lx_sp n p) := ⟨rd_f_l hv.1 ul, by rw [hv.1.2]; exact u1, by rw [hv.1.1 2 (by decide) (by decide) (by decide) (by decide)]; exact u2, hT, by omega, hv.2⟩
      have v4 : v.1 4 = u.1 4 := hv.1.1 4 (by decide) (by decide) (by decide) (by decide)
      have v5 : (v.2 5).2 = (u.2 5).2 := by rw [hv.1.2]
      refine ⟨_, c_readLine d b' st ub, fun r y z hr => ?_⟩
      rw [v4, v5] at hr
      obtain ⟨er, y', ey, ys, yf, y4, y1, y5⟩ := hr
      cases er
      cases ey
      have mono := pf_line_m (T := T) (n := n) (a := lx_sk T lx_sp n p) (dr := b') (tl := u.1 4) (fl := (u.2 5).2) sb.2.1
      have ok1 := pf_line_ok (T := T) (n := n) (a := lx_sk T lx_sp n p) (tl := u.1 4) (fl := (u.2 5).2) ub
      simp only [pf_lines] at hE
      have yf' : ∀ f, f ≠ 4 → f ≠ 6 → f ≠ 7 → f ≠ 8 → f ≠ 9 → y.1 f = w.1 f := fun f f4 f6 f7 f8 f9 => by rw [yf f f4 f6 f7 f8 f9, hv.1.1 f f6 f7 f8 f9]; exact uf f f4 f6 f7 f8 f9
      have y1' : y.2 1 = w.2 1 := by rw [y1, hv.1.2]; exact uf2
      generalize pf_line T n (lx_sk T lx_sp n p) b' (u.1 4) (u.2 5).2 = L at *
      have k6 : y.1 6 = lx_k T n L.2.1 := ys.2.2.2.2.2.2.2.1
      rw [k6]
      refine ⟨fun g1 => ⟨fun g2 => ⟨fun g3 => ⟨by omega, ?_⟩, fun g3 => ?_⟩, fun g2 => ⟨fun g3 => ?_, fun g3 => ?_⟩⟩, fun g1 => ?_⟩
      · rw [if_pos g1, if_neg g2, if_pos g3] at hE
        have eb := lx_e_b (T := T) (n := n) (a := L.2.1) mono.2
        have lt : L.2.1 < n := by
          rcases Int.lt_or_le L.2.1 n with g | g
          · exact g
          · exact absurd (if_pos (by omega)) g2
        have y8 : y.1 8 = lx_e T n L.2.1 := ys.2.2.2.2.2.2.1
        refine ih y L.2.2.1 (lx_e T n L.2.1) (ln + 1) (by omega) ys.1 ys.2.1 ys.2.2.1 y8 (by omega) (by omega) (by omega) (by omega) ok1 yf' y1' ?_
        rw [y4, y5]
        exact hE
      · rw [if_pos g1, if_neg g2, if_neg g3] at hE
        rw [← hE]
        exact ⟨⟨⟨_, rfl⟩, _, _, rfl, _, _, rfl, rfl⟩, rfl, y, rfl, ys, yf', y1'⟩
      · rw [if_pos g1, if_pos g2, if_pos g3] at hE
        rw [← hE]
        exact ⟨⟨⟨_, rfl⟩, _, _, rfl, _, _, rfl, rfl⟩, rfl, y, rfl, ys, yf', y1'⟩
      · rw [if_pos g1, if_pos g2, if_neg g3] at hE
        rw [← hE]
        exact ⟨⟨⟨_, rfl⟩, _, _, rfl, _, _, rfl, rfl⟩, rfl, y, rfl, ys, yf', y1'⟩
      · rw [if_neg g1] at hE
        rw [← hE]
        exact ⟨⟨⟨_, rfl⟩, _, _, rfl, _, _, rfl, rfl⟩, rfl, y, rfl, ys, yf', y1'⟩
  have n7 := hl.2.2
  exact key (n + 1).toNat w b 0 0 (by omega) hl e1 e2 h8 (by omega) (by omega) (by omega) (by omega) hb (fun _ _ _ _ _ _ => rfl) rfl hR
/-- a fresh draft -/
theorem sc_em_ok {w v : ab_Ob} (h : sc_em w v 6) (hl : sc_len w) : sc_ok v := by
  obtain ⟨h0, h1, h2, h3, h4, h5, h6⟩ := h
  obtain ⟨n4, n5, n6, n7, n8, n9⟩ := hl
  refine ⟨⟨by rw [h4 4 (by decide)]; exact n4, by rw [h4 5 (by decide)]; exact n5, by rw [h5]; exact n6, by rw [h4 7 (by decide)]; exact n7, by rw [h4 8 (by decide)]; exact n8, by rw [h4 9 (by decide)]; exact n9⟩, by omega, by omega, by omega, by omega, fun k k0 k1 => by omega, fun r r0 r1 => by rw [h6 r r0 r1]; omega⟩
/-- what a text tells, read from its beginning -/
def pf_all (T : Int → Int) (n : Int) (dr : ab_Ob) : Int × Int × ab_Ob := pf_lines T n (n + 1).toNat (lx_sk T lx_sp n 0) dr 0 (fun _ => 0)
/-- what reading leaves -/
def rd_ok (w b : ab_Ob) (N : Int) (v b' : ab_Ob) : Prop := ∃ dr, sc_em b dr 6 ∧ v.1 10 = (pf_all (w.2 1).2 N dr).1 ∧ v.1 7 = (pf_all (w.2 1).2 N dr).2.1 ∧ v.1 0 = 0 ∧ v.2 1 = w.2 1 ∧ (v.2 5).1 = 6 ∧ sc_ok (pf_all (w.2 1).2 N dr).2.2 ∧ sc_dv (pf_all (w.2 1).2 N dr).2.2 b' ((pf_all (w.2 1).2 N dr).2.2.1 3)
theorem pf_lines_fl {T : Int → Int} {n : Int} : ∀ (k : Nat) {a : Int} {dr : ab_Ob} {tl : Int} {fl fl' : Int → Int}, (∀ r : Int, 0 ≤ r → r < 6 → fl r = fl' r) → pf_lines T n k a dr tl fl = pf_lines T n k a dr tl fl'
  | 0, _, _, _, _, _, _ => rfl
  | k + 1, a, dr, tl, fl, fl', h => by
    have hr := pf_rsd_b T n (lx_x T n a)
    have hrule : (pf_rule T n a dr fl).1 = (pf_rule T n a dr fl').1 ∧ (pf_rule T n a dr fl).2.1 = (pf_rule T n a dr fl').2.1 ∧ (pf_rule T n a dr fl).2.2.1 = (pf_rule T n a dr fl').2.2.1 ∧ ∀ r : Int, 0 ≤ r → r < 6 → (pf_rule T n a dr fl).2.2.2 r = (pf_rule T n a dr fl').2.2.2 r := by
      have up : ∀ r : Int, 0 ≤ r → r < 6 → ab_ui fl (pf_rsd T n (lx_x T n a)) 1 r = ab_ui fl' (pf_rsd T n (lx_x T n a)) 1 r := fun r r0 r1 => by
        by_cases e : r = pf_rsd T n (lx_x T n a)
        · rw [e, hd_ui_eq, hd_ui_eq]
        · rw [hd_ui_ne e, hd_ui_ne e]; exact h r r0 r1
      unfold pf_rule
      by_cases g : pf_rsd T n (lx_x T n a) = -1
      · rw [if_pos g, if_pos g]
        exact ⟨rfl, rfl, rfl, h⟩
      · rw [if_neg g, if_neg g, h _ (by omega) (by omega)]
        split
        · split
          · exact ⟨rfl, rfl, rfl, up⟩
          · exact ⟨rfl, rfl, rfl, up⟩
        · exact ⟨rfl, rfl, rfl, h⟩
    have hline : (pf_line T n a dr tl fl).1 = (pf_line T n a dr tl fl').1 ∧ (pf_line T n a dr tl fl).2.1 = (pf_line T n a dr tl fl').2.1 ∧ (pf_line T n a dr tl fl).2.2.1 = (pf_line T n a dr tl fl').2.2.1 ∧ (pf_line T n a dr tl fl).2.2.2.1 = (pf_line T n a dr tl fl').2.2.2.1 ∧ ∀ r : Int, 0 ≤ r → r < 6 → (pf_line T n a dr tl fl).2.2.2.2 r = (pf_line T n a dr tl fl').2.2.2.2 r := by
      unfold pf_line
      split
      · split
        · exact ⟨rfl, rfl, rfl, rfl, h⟩
        · exact ⟨rfl, rfl, rfl, rfl, h⟩
      · split
        · split
          · exact ⟨rfl, rfl, rfl, rfl, h⟩
          · split
            · exact ⟨rfl, rfl, rfl, rfl, h⟩
            · exact ⟨rfl, rfl, rfl, rfl, h⟩
        · split
          · split
            · exact ⟨rfl, rfl, rfl, rfl, h⟩
            · exact ⟨hrule.1, hrule.2.1, hrule.2.2.1, rfl, hrule.2.2.2⟩
          · exact ⟨rfl, rfl, rfl, rfl, h⟩
    obtain ⟨y1, y2, y3, y4, y5⟩ := hline
    simp only [pf_lines]
    rw [y1, y2, y3, y4, pf_lines_fl k y5]
theorem c_read (d : Nat) {w : ab_Ob} (b : ab_Ob) (hl : (w.2 1).1 = 700 ∧ (w.2 5).1 = 6) (h0 : 0 ≤ w.1 0 ∧ w.1 0 ≤ 700) (hT : ∀ q : Int, -128 ≤ (w.2 1).2 q ∧ (w.2 1).2 q ≤ 127) (hb : sc_len b) {N : Int} (hN : 0 ≤ N ∧ N ≤ w.1 0) : ab_Ct (d + 10) 0 0 mX4_read [ab_O 0, ab_I N] [w, b] (fun rv ws => rv = none ∧ ∃ v b', ws = [v, b'] ∧ rd_ok w b N v b') := by
  refine ab_ct kX4_read rfl rfl (fun x hx => ?_)
  have key : ∀ (q : Nat) (t : Int) (u : ab_Ob), t + q = 6 → 0 ≤ t → u.1 2 = N → u.1 0 = 0 → u.1 8 = 0 → u.1 4 = 0 → u.2 1 = w.2 1 → (u.2 5).1 = 6 → (∀ r : Int, 0 ≤ r → r < t → (u.2 5).2 r = 0) → ab_J x 29 [some (ab_O 0), none, some (ab_I t)] [] [u, b] 0 0 := by
    intro q
    induction q with
    | zero =>
      intro t u ht t0 u2 u0 u8 u4 u1 u5 hr
      refine vX4_read_29 hx _ u b 0 0 ⟨fun _ => ab_xv1 (c_empty (d + 8) b hb.2.2.1) (fun dr hdr => ?_), fun g => absurd (by omega) g⟩
      have ok := sc_em_ok hdr hb
      refine ⟨_, c_readLines d (T := (w.2 1).2) (n := N) dr ⟨by rw [u1]; exact hl.1, u5, by omega, by omega⟩ (by rw [u1]) u2 hT u8 ok, fun r v b1 hr' => ?_⟩
      obtain ⟨er, v', ev, st, vf, v1⟩ := hr'
      have efl : pf_lines (w.2 1).2 N (N + 1).toNat (lx_sk (w.2 1).2 lx_sp N 0) dr (u.1 4) (u.2 5).2 = pf_all (w.2 1).2 N dr := by
        unfold pf_all
        rw [u4]
        exact pf_lines_fl _ (fun r r0 r1 => hr r r0 (by omega))
      rw [efl] at er ev st
      cases er
      cases ev
      have ok2 : sc_ok (pf_all (w.2 1).2 N dr).2.2 := pf_lines_ok _ ok
      refine ab_xv1 (c_derive (d + 6) _ ok2) (fun b' hb' => ⟨⟨rfl, _, _, rfl, _, _, rfl, rfl⟩, rfl, _, b', rfl, dr, hdr, rfl, st.2.2.2.2.2.1, ?_, by show v.2 1 = _; rw [v1]; exact u1, st.1.2.1, ok2, hb'⟩)
      show v.1 0 = 0
      rw [vf 0 (by decide) (by decide) (by decide) (by decide) (by decide)]
      exact u0
    | succ q ih =>
      intro t u ht t0 u2 u0 u8 u4 u1 u5 hr
      push_cast at ht
      refine vX4_read_29 hx _ u b 0 0 ⟨fun g => absurd g (by omega), fun _ => ⟨by omega, ab_i01, by omega, ih (t + 1) _ (by omega) (by omega) u2 u0 u8 u4 (by rw [hd_pa_ne (by decide)]; exact u1) (by rw [hd_pa_len]; exact u5) (fun r r0 r1 => ?_)⟩⟩
      rw [hd_pa_eq]
      show ab_ui (u.2 5).2 t 0 r = 0
      by_cases e : r = t
      · subst e; rw [hd_ui_eq]
      · rw [hd_ui_ne e]; exact hr r r0 (by omega)
  refine vX4_read_0 hx N w b 0 0 ⟨ab_i01, key 6 0 _ (by omega) (by omega) ?_ rfl rfl rfl rfl hl.2 (fun r r0 r1 => absurd r1 (by omega))⟩
  show (if w.1 0 < N then w.1 0 else N) = N
  rw [if_neg (by omega)]
theorem c_take (d : Nat) {w : ab_Ob} (b : ab_Ob) (hl : (w.2 1).1 = 700) (h0 : 0 ≤ w.1 0 ∧ w.1 0 ≤ 696) (a : Int) : ab_Ct (d + 1) 0 0 mX4_take [ab_O 0, ab_I a] [w, b] (ab_V2 b (fun v => v.1 0 = w.1 0 + 4 ∧ (∀ f, f ≠ 0 → v.1 f = w.1 f) ∧ (∀ f, f ≠ 1 → v.2 f = w.2 f) ∧ (v.2 1).1 = 700 ∧ ∀ q : Int, (v.2 1).2 q = if w.1 0 ≤ q ∧ q < w.1 0 + 4 then fe_by a (24 - 8 * (q - w.1 0)) else (w.2 1).2 q)) := by
  refine ab_ct kX4_take rfl rfl (fun x hx => vX4_take_0 hx a w b 0 0 ?_)
  have key : ∀ (q : Nat) (t : Int) (v : ab_Ob), t + q = 4 → 0 ≤ t → v.1 0 = w.1 0 + t → (∀ f, f ≠ 0 → v.1 f = w.1 f) → (∀ f, f ≠ 1 → v.2 f = w.2 f) → (v.2 1).1 = 700 → (∀ q : Int, (v.2 1).2 q = if w.1 0 ≤ q ∧ q < w.1 0 + t then fe_by a (24 - 8 * (q - w.1 0)) else (w.2 1).2 q) → ab_J x 3 [some (ab_O 0), some (ab_I a), some (ab_I (24 - 8 * t))] [] [v, b] 0 0 := by
    intro q
    induction q with
    | zero =>
      intro t v ht t0 v0 v1 v2 vl hq
      have et : t = 4 := by omega
      subst et
      exact vX4_take_3 hx _ _ v b 0 0 ⟨fun _ => ab_lv2 ⟨v0, v1, v2, vl, hq⟩, fun g => absurd (by omega) g⟩
    | succ q ih =>
      intro t v ht t0 v0 v1 v2 vl hq
      push_cast at ht
      refine vX4_take_3 hx _ _ v b 0 0 ⟨fun g => absurd g (by omega), fun _ => ⟨fun g => absurd g (by omega), fun _ => ⟨by omega, by omega, by omega, ?_⟩⟩⟩
      rw [show 24 - 8 * t + -8 = 24 - 8 * (t + 1) by omega]
      refine ih (t + 1) _ (by omega) (by omega) ?_ (fun f hf => ?_) (fun f hf => ?_) ?_ (fun y => ?_)
      · rw [hd_pf_eq, v0]; omega
      · rw [hd_pf_ne hf]; exact v1 f hf
      · rw [hd_pf_2, hd_pa_ne hf]; exact v2 f hf
      · rw [hd_pf_2, hd_pa_len]; exact vl
      · rw [hd_pf_2, hd_pa_eq]
        show ab_ui (v.2 1).2 (v.1 0) _ y = _
        by_cases ey : y = v.1 0
        · rw [ey, hd_ui_eq, if_pos (by omega)]
          have : v.1 0 - w.1 0 = t := by omega
          rw [this]
          rfl
        · rw [hd_ui_ne ey, hq y]
          by_cases g : w.1 0 ≤ y ∧ y < w.1 0 + t
          · rw [if_pos g, if_pos (by omega)]
          · rw [if_neg g, if_neg (by omega)]
  exact key 4 0 w (by omega) (by omega) (by omega) (fun _ _ => rfl) (fun _ _ => rfl) hl (fun q => by rw [if_neg (by omega)])
