/-! PIECE: class and reference -/
def pc_Post (x rd dr b ac sp cn wh sw swc swt kp t1 t2 ly wi : ab_Ob) (N : Int) (rv : Option ab_V) (ws : List ab_Ob) : Prop := (¬ (0 ≤ N ∧ N ≤ rd.1 0) ∧ rv = some (ab_I (-1)) ∧ ws = [ab_pf x 0 2, rd, dr, b, ac, sp, cn, wh, sw, swc, swt, kp, t1, t2, ly, wi]) ∨ ((0 ≤ N ∧ N ≤ rd.1 0) ∧ ∃ v b', rd_ok rd dr N v b' ∧ ((¬ v.1 10 = 0 ∧ rv = some (ab_I (-1)) ∧ ws = [ab_pf x 0 4, v, b', b, ac, sp, cn, wh, sw, swc, swt, kp, t1, t2, ly, wi]) ∨ (v.1 10 = 0 ∧ rv = some (ab_I (b'.1 3)) ∧ ∃ sw', ws = [ab_pf (ab_pf (ab_pf (ab_pf (ab_pf x 12 0) 5 0) 7 0) 9 0) 0 0, v, b, b', ab_pf ac 0 0, sp, cn, wh, sw', swc, swt, kp, t1, t2, ly, wi] ∧ hI b' (ab_pf (ab_pf (ab_pf (ab_pf x 12 0) 5 0) 7 0) 9 0) sp cn wh sw' swc swt t1 t2 ly wi ∧ sw_k sw' = sw_k sw ∧ sw_s sw' = sw_s sw)))
theorem h_piece (d : Nat) (x rd dr b ac sp cn wh sw swc swt kp t1 t2 ly wi : ab_Ob) (h : hI b x sp cn wh sw swc swt t1 t2 ly wi) (hl : (rd.2 1).1 = 700 ∧ (rd.2 5).1 = 6) (h0 : 0 ≤ rd.1 0 ∧ rd.1 0 ≤ 700) (hT : ∀ q : Int, -128 ≤ (rd.2 1).2 q ∧ (rd.2 1).2 q ≤ 127) (hdr : sc_len dr) (N : Int) : ab_W0 (d + 12) 0 0 mX8_piece [ab_O 0, ab_I N] [x, rd, dr, b, ac, sp, cn, wh, sw, swc, swt, kp, t1, t2, ly, wi] (pc_Post x rd dr b ac sp cn wh sw swc swt kp t1 t2 ly wi N) := by
  refine ab_intro0 kX8_piece.1.1 kX8_piece.1.2 (fun v hv => ?_) (Nat.le_of_ble_eq_true rfl) (fun c hc => ?_)
  · simp only [List.mem_cons, List.not_mem_nil, or_false] at hv
    rcases hv with rfl | rfl <;> rfl
  · refine vX8_piece_0 hc.at N x rd dr b ac sp cn wh sw swc swt kp t1 t2 ly wi 0 0 ⟨fun g => hl_rf (d := d + 10) (Or.inl ⟨by omega, rfl, rfl⟩), fun g => ⟨fun g2 => ⟨_, c_read (d + 1) dr hl h0 hT hdr (N := N) ⟨by omega, g2⟩, fun v5 v6 hq => ?_⟩, fun g2 => hl_rf (d := d + 10) (Or.inl ⟨by omega, rfl, rfl⟩)⟩⟩
    obtain ⟨_, v, b', e, hr⟩ := hq
    cases e
    refine ⟨fun g3 => pc_54 hc ?_, fun g3 => hl_rf (d := d + 10) (Or.inr ⟨⟨by omega, g2⟩, _, _, hr, Or.inl ⟨g3, rfl, rfl⟩⟩)⟩
    refine vX8_piece_60 (sx_at hc) x v5 b v6 ac sp cn wh sw swc swt kp t1 t2 ly wi 0 0 ⟨ab_i01, _, h_renew (d + 9) (ab_pf x 12 0) v5 b v6 (ab_pf ac 0 0) sp cn wh sw swc swt kp t1 t2 ly wi (b0 := b) h, fun v2 v3 hq => ?_⟩
    obtain ⟨_, sw', e, hI', k1, k2⟩ := hq
    cases e
    exact hl_gd (d := d + 10) (Or.inr ⟨⟨by omega, g2⟩, _, _, hr, Or.inr ⟨g3, rfl, _, rfl, hI', k1, k2⟩⟩)
theorem sc_dv_ok {w b' : ab_Ob} (h : sc_ok w) (hd : sc_dv w b' (w.1 3)) : sc_ok b' ∧ sc_dd b' := by
  obtain ⟨⟨n4, n5, n6, n7, n8, n9⟩, h2, h3, h4, h5, h6, h7⟩ := h
  obtain ⟨e1, e2, e7, e8, e9, ed⟩ := hd
  have a4 := e2 4 (by decide) (by decide) (by decide)
  have a5 := e2 5 (by decide) (by decide) (by decide)
  have a6 := e2 6 (by decide) (by decide) (by decide)
  refine ⟨⟨⟨by rw [a4]; exact n4, by rw [a5]; exact n5, by rw [a6]; exact n6, by rw [e7]; exact n7, by rw [e8]; exact n8, by rw [e9]; exact n9⟩, by rw [e1]; exact h2, by rw [e1]; exact h3, by rw [e1]; exact h4, by rw [e1]; exact h5, ?_, ?_⟩, ?_⟩
  · rw [e1, a4, a5]; exact h6
  · rw [a6]; exact h7
  · unfold sc_dd
    rw [e1, a4, a5]
    exact ed
theorem s_piece (d : Nat) {x rd dr b ac sp cn wh sw swc swt kp t1 t2 ly wi m : ab_Ob} (h : hR x rd dr b ac sp cn wh sw swc swt kp t1 t2 ly wi m) (N : Int) : ∃ Q8 : Option ab_V → List ab_Ob → Prop, ab_W0 (d + 12) 0 0 mX8_piece [ab_O 0, ab_I N] [x, rd, dr, b, ac, sp, cn, wh, sw, swc, swt, kp, t1, t2, ly, wi] Q8 ∧ ∀ rv ws, Q8 rv ws → ∃ r : Int, rv = some (ab_I r) ∧ ws.length = 16 ∧ ∃ Q9 : Option ab_V → List ab_Ob → Prop, ab_Ct (d + 12) 0 0 mX9_piece [ab_O 0, ab_I N] [m] Q9 ∧ ∀ r' w', Q9 (some (ab_I r')) w' → r' = r ∧ ∃ m', w' = [m'] ∧ hRw ws m' 0 0 (hk sp cn sw swc) (hs sp cn sw swc) := by
  obtain ⟨h1, h2, h3, h4, h5, h6, ⟨s1, s2, s3, s4, s5, s6, s7⟩, h8, h9, h10⟩ := id h
  refine ⟨_, h_piece d x rd dr b ac sp cn wh sw swc swt kp t1 t2 ly wi h2 ⟨s1, s2⟩ s4 s5 h4 N, fun rv ws hq => ?_⟩
  rcases hq with ⟨g, rfl, rfl⟩ | ⟨g, v, b', hr, hq⟩
  · refine ⟨-1, rfl, rfl, _, c9_piece0 (d + 10) (m := m) (N := N) (by rw [s3]; omega), fun r' w' hw => ?_⟩
    obtain ⟨e1, e2⟩ := hw
    cases e1
    exact ⟨rfl, _, e2, hR_sm h (sm_an m 2) (mi_S_an h5 2) rfl rfl (show (2 : Int) ≠ 4 by decide) ⟨_, _, _, _, _, _, _, _, _, _, _, rfl, h2, hd_pf_eq x 0 2, rfl, by omega, by omega⟩⟩
  · obtain ⟨dr', e1, e2, e3, e4, e5, e6, e7, e8⟩ := hr
    obtain ⟨hb1, hb2⟩ := sc_dv_ok e7 e8
    have c9 := c9_piece (d + 2) (m := m) (dr := dr') (b := b') (N := N) h6 (by rw [s3]; exact g) (by rw [s3]; exact s4.2) (by rw [s6]; exact s5) e1.2.2.2.1 e1.2.2.2.2.2.2 hb1 hb2 (by rw [s6]; exact e8.1) (by rw [s6]; exact e8.2.1 4 (by decide) (by decide) (by decide)) (by rw [s6]; exact e8.2.1 5 (by decide) (by decide) (by decide)) (by rw [s6]; exact e8.2.1 6 (by decide) (by decide) (by decide))
    rw [s6] at c9
    rcases hq with ⟨f, rfl, rfl⟩ | ⟨f, rfl, sw', rfl, hI', k1, k2⟩
    · refine ⟨-1, rfl, rfl, _, c9, fun r' w' hw => ?_⟩
      obtain ⟨v9, e, hw⟩ := hw
      rcases hw with ⟨_, er, F1, F2, F3, f0, f1, f2, f17, f23⟩ | ⟨z, _⟩
      · cases er
        have F1' : ∀ f, (f = 6 ∨ f = 7 ∨ f = 8 ∨ f = 9 ∨ f = 14 ∨ f = 15 ∨ f = 40 ∨ f = 51) → v9.1 f = m.1 f := fun f hf => F1 f (by omega) (by omega) (by omega) (by omega) (by omega) (by omega) (by omega) (by omega) (by omega) (by omega) (by omega) (by omega) (by omega) (by omega) (by omega)
        have Fl : ∀ f, (v9.2 f).1 = (m.2 f).1 := fun f => by
          by_cases e : f = 4
          · subst e; exact F3
          · rw [F2 f e]
        have e14 := F1' 14 (by omega)
        refine ⟨rfl, v9, e, _, _, _, _, _, _, _, _, _, _, _, _, _, _, _, _, rfl, ⟨h1, h2, h3, hb1.1, ?_, mb_l_of Fl h6, ⟨by rw [e5]; exact s1, e6, by rw [f17, e4], by rw [e4]; exact ⟨by decide, by decide⟩, by rw [e5]; exact s5, by rw [F2 16 (by decide), e5]; exact s6, by rw [f23, e2]⟩, ⟨by rw [f1]; exact (hd_pf_eq x 0 4).symm, ?_⟩, ?_, ?_⟩, by omega, by omega⟩
        · rcases h5 with ⟨a1, a2, a3⟩ | mi
          · exact Or.inl ⟨by rw [e14]; exact a1, a2, by rw [F1' 8 (by omega)]; exact a3⟩
          · refine Or.inr (mi_I_of (m := (m.1, ab_ua m.2 4 (v9.2 4))) (fun f hf => F1' f (by omega)) (fun f hf => ?_) (fun f => ?_) mi)
            · by_cases e : f = 4
              · subst e; rfl
              · rw [F2 f e]
                show _ = (if f = 4 then v9.2 4 else m.2 f)
                rw [if_neg e]
            · by_cases e : f = 4
              · subst e; rfl
              · rw [F2 f e]
                show _ = (if f = 4 then v9.2 4 else m.2 f).1
                rw [if_neg e]
        · rw [f2, hd_pf_eq, if_pos rfl, e3]
        · unfold hL hrow
          rw [e14, F1' 9 (by omega), F2 5 (by decide), F2 3 (by decide)]
          exact h9
        · obtain ⟨c', j1, j2⟩ := h10
          exact ⟨c', mk_S_b rfl e14 (F1' 15 (by omega)) (F1' 51 (by omega)) (fun f hf => F2 f (by omega)) j1, j2⟩
      · exact absurd (by rw [e2]; exact z) f
    · refine ⟨b'.1 3, rfl, rfl, _, c9, fun r' w' hw => ?_⟩
      obtain ⟨v9, e, hw⟩ := hw
      rcases hw with ⟨z, _⟩ | ⟨_, n1, er, G1, G2, mi, g9, g15, g0, g1, g2, g17, g23⟩
      · exact absurd (by rw [← e2]; exact f) z
      · cases er
        obtain ⟨La, ac1, _⟩ := h9
        refine ⟨rfl, v9, e, _, _, _, _, _, _, _, _, _, _, _, _, _, _, _, _, rfl, ⟨⟨hb1, hb2⟩, hI', h3, h1.1.1, Or.inr mi, mb_l_of G2 h6, ⟨by rw [e5]; exact s1, e6, by rw [g17, e4], by rw [e4]; exact ⟨by decide, by decide⟩, by rw [e5]; exact s5, by rw [G1 16 (by omega) (by decide) (by decide), e5]; exact s6, by rw [g23, f]⟩, ⟨by rw [g1]; rfl, by rw [g2]; rfl⟩, ⟨[], ⟨ac1.1, rfl, by decide, fun t e he => by simp at he⟩, fun _ => rfl, fun _ => ⟨by rw [g9]; rfl, trivial⟩⟩, ⟨fun _ _ _ _ => 0, Or.inl ⟨Or.inr g15, fun y => y rfl⟩, fun y => absurd rfl y⟩⟩, ?_, ?_⟩
        · unfold hk
          rw [k1]
          omega
        · unfold hs
          rw [k2]
          omega
