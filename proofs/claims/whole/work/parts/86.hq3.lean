theorem hl_fs2 {d mc ms kc ks : Nat} {x rd dr b ac sp cn wh sw swc swt kp t1 t2 ly wi : ab_Ob} {K : Nat → Nat → ab_Ob → ab_Ob → Prop} (hb : hB b) (h : hF x b sp cn wh) (hc : kc + ch_k sp ≤ mc) (hs' : ks + ch_s sp ≤ ms) (k : ∀ x' sp', hF x' b sp' cn wh → ch_ok sp' (sc_br b) (b.1 3) ((b.2 6).2 4) → ¬ x'.1 5 = 0 → (∀ f, f ≠ 5 → x'.1 f = x.1 f) → K (ch_k sp) (ch_s sp) x' sp') : ∃ mc6 ms7 : Nat, (kc + mc6 ≤ mc ∧ ks + ms7 ≤ ms) ∧ ∃ Q : Option ab_V → List ab_Ob → Prop, ab_Ct (d + 5) mc6 ms7 mX8_freshSpans [ab_O 0] [x, rd, dr, b, ac, sp, cn, wh, sw, swc, swt, kp, t1, t2, ly, wi] Q ∧ ∀ v9 v10 : ab_Ob, Q (some (ab_O 5)) [v9, rd, dr, b, ac, v10, cn, wh, sw, swc, swt, kp, t1, t2, ly, wi] → K mc6 ms7 v9 v10 :=
  ⟨_, _, ⟨hc, hs'⟩, _, h_freshSpans d x rd dr b ac sp cn wh sw swc swt kp t1 t2 ly wi hb h, fun v9 v10 hq => by
    obtain ⟨_, x', sp', e, q1, q2, q3, q4⟩ := hq
    cases e
    exact k _ _ q1 q2 q3 q4⟩
theorem h_breaksOf (d : Nat) {x rd dr b ac sp cn wh sw swc swt kp t1 t2 ly wi : ab_Ob} (hb : hB b) (h : hI b x sp cn wh sw swc swt t1 t2 ly wi) (r : Int) : hE (d + 9) mX8_breaksOf [ab_O 0, ab_I r] (fun RT => RT = an_breaksOf b r) x rd dr b ac sp cn wh sw swc swt kp t1 t2 ly wi := by
  have hn := hb.1.2.1
  have n6 := hb.1.1.2.2.1
  by_cases p : 1 ≤ b.1 3 ∧ 0 ≤ r ∧ r < 6
  · have hn1 := p.1
    have bw := hb.1.2.2.2.2.2.2 r p.2.1 p.2.2
    have bu := tq_sm_b (f := tq_un b (sc_br b) r) (B := 99) (L := tr_B (sc_br b) (b.1 3)) (fun e he => by
      rw [tr_B_eq] at he
      obtain ⟨h1, h2⟩ := List.mem_filter.mp he
      exact tq_un_B hb.1 (sc_dd_db hb.2) hn1 _ r h1 (of_decide_eq_true h2))
    have ln := tr_B_len (sc_br b) hn1
    have bm := Int.mul_le_mul bw.2 bu.2 bu.1 (by decide)
    have bm0 := Int.mul_nonneg bw.1 bu.1
    refine ⟨ch_k sp, ch_s sp, hkb1, ab_ct kX8_breaksOf rfl rfl (fun c hc => vX8_breaksOf_0 hc r x rd dr b ac sp cn wh sw swc swt kp t1 t2 ly wi 0 0 (ab_xb (h_hasRule (d + 6) r x rd dr b ac sp cn wh sw swc swt kp t1 t2 ly wi) (fun _ => ⟨fun _ => ⟨by omega, hl_ft (d := d + 1) hb hn1 h.1 (Nat.le_of_eq (Nat.zero_add _)) (Nat.le_of_eq (Nat.zero_add _)) (fun x' sp' wh' q1 q2 q3 q4 q5 =>  ab_x1 (R := tq_sm (tq_un b (sc_br b) r) (tr_B (sc_br b) (b.1 3))) (c_unitsOf (d + 4) hb.1 (sc_dd_db hb.2) q3 (by decide) (by omega) (by omega)) ⟨by omega, hl_gd (hz_s h q1 q2.1.1 (q5 12 (by decide) (by decide)) h.2.2.1 h.2.2.2.1 h.2.2.2.2.1 h.2.2.2.2.2 ?_ (by repeat' first | exact rfl | refine ⟨_, rfl, ?_⟩ | refine ⟨_, _, rfl, ?_⟩))⟩)⟩, fun g => absurd g (by decide)⟩) (fun q => absurd p q)))⟩
    unfold an_breaksOf
    rw [if_pos p]
  · refine ⟨0, 0, hkb0, ab_ct kX8_breaksOf rfl rfl (fun c hc => vX8_breaksOf_0 hc r x rd dr b ac sp cn wh sw swc swt kp t1 t2 ly wi 0 0 (ab_xb (h_hasRule (d + 6) r x rd dr b ac sp cn wh sw swc swt kp t1 t2 ly wi) (fun q => absurd q p) (fun _ => ⟨fun g => absurd rfl g, fun _ => hl_rf (hz_r h ?_ rfl)⟩)))⟩
    unfold an_breaksOf
    rw [if_neg p]
theorem h_note (d : Nat) {x rd dr b ac sp cn wh sw swc swt kp t1 t2 ly wi : ab_Ob} (hb : hB b) (h : hI b x sp cn wh sw swc swt t1 t2 ly wi) (k what : Int) : hE (d + 9) mX8_note [ab_O 0, ab_I k, ab_I what] (fun RT => RT = an_note b k what) x rd dr b ac sp cn wh sw swc swt kp t1 t2 ly wi := by
  have hn := hb.1.2.1
  obtain ⟨l4, l5, l6, l7, l8, l9⟩ := hb.1.1
  by_cases p : 0 ≤ k ∧ k < b.1 3
  · have hn1 : 1 ≤ b.1 3 := by omega
    by_cases w5 : what = 5
    · subst w5
      refine ⟨ch_k sp, ch_s sp, hkb1, ab_ct kX8_note rfl rfl (fun c hc => vX8_note_0 hc k 5 x rd dr b ac sp cn wh sw swc swt kp t1 t2 ly wi 0 0 (ab_xb (h_hasNote (d + 7) k x rd dr b ac sp cn wh sw swc swt kp t1 t2 ly wi) (fun _ => ⟨fun _ => ⟨fun g => by omega, fun g => by omega, fun g => by omega, fun g => by omega, fun g => by omega, fun g => by omega, fun _ => hl_ft (d := d + 1) hb hn1 h.1 (Nat.le_of_eq (Nat.zero_add _)) (Nat.le_of_eq (Nat.zero_add _)) (fun x' sp' wh' q1 q2 q3 q4 q5 =>  ab_x1 (c_rank' (d + 7) ⟨hn1, hn.2⟩ q3 p.1 p.2) (hl_gd (hz_s h q1 q2.1.1 (q5 12 (by decide) (by decide)) h.2.2.1 h.2.2.2.1 h.2.2.2.2.1 h.2.2.2.2.2 ?_ (by repeat' first | exact rfl | refine ⟨_, rfl, ?_⟩ | refine ⟨_, _, rfl, ?_⟩)))), trivial⟩, fun g => absurd g (by decide)⟩) (fun q => absurd p q)))⟩
      unfold an_note
      rw [if_pos p]
      rfl
    · refine ⟨0, 0, hkb0, ab_ct kX8_note rfl rfl (fun c hc => vX8_note_0 hc k what x rd dr b ac sp cn wh sw swc swt kp t1 t2 ly wi 0 0 (ab_xb (h_hasNote (d + 7) k x rd dr b ac sp cn wh sw swc swt kp t1 t2 ly wi) (fun _ => ⟨fun _ => ⟨fun g => hl_rf (hz_r h ?_ rfl), fun g => ⟨by omega, hl_gd (hz_0 h ?_ rfl)⟩, fun g => ⟨by omega, hl_gd (hz_0 h ?_ rfl)⟩, fun g => ⟨by omega, hl_gd (hz_0 h ?_ rfl)⟩, fun g => ⟨by omega, hl_gd (hz_0 h ?_ rfl)⟩, fun g => ⟨by omega, hl_gd (hz_0 h ?_ rfl)⟩, fun g => absurd g w5, trivial⟩, fun g => absurd g (by decide)⟩) (fun q => absurd p q)))⟩
      · unfold an_note
        rw [if_pos p, if_neg (by omega), if_neg (by omega), if_neg (by omega), if_neg (by omega), if_neg (by omega), if_neg (by omega)]
      all_goals (subst g; unfold an_note; rw [if_pos p]; rfl)
  · refine ⟨0, 0, hkb0, ab_ct kX8_note rfl rfl (fun c hc => vX8_note_0 hc k what x rd dr b ac sp cn wh sw swc swt kp t1 t2 ly wi 0 0 (ab_xb (h_hasNote (d + 7) k x rd dr b ac sp cn wh sw swc swt kp t1 t2 ly wi) (fun q => absurd q p) (fun _ => ⟨fun g => absurd rfl g, fun _ => hl_rf (hz_r h ?_ rfl)⟩)))⟩
    unfold an_note
    rw [if_neg p]
/-- a question answered by a long -/
def hEL (d : Nat) (M : ab_M) (args : List ab_V) (P : Int × Int → Prop) (x rd dr b ac sp cn wh sw swc swt kp t1 t2 ly wi : ab_Ob) : Prop := ∃ mc ms, (mc ≤ hk sp cn sw swc ∧ ms ≤ hs sp cn sw swc) ∧ ab_Ct d mc ms M args [x, rd, dr, b, ac, sp, cn, wh, sw, swc, swt, kp, t1, t2, ly, wi] (fun rv w => ∃ RT : Int × Int, P RT ∧ rv = some (ab_L RT.1) ∧ hQ x rd dr b ac kp RT.2 mc ms (hk sp cn sw swc) (hs sp cn sw swc) w)
theorem cn_k_0 {w : ab_Ob} (h : (w.2 0).1 = 7200) : cn_k w = 0 := if_pos (by rw [h]; decide)
theorem cn_s_0 {w : ab_Ob} (h : (w.2 0).1 = 7200) : cn_s w = 0 := if_pos (by rw [h]; decide)
theorem h_ways (d : Nat) {x rd dr b ac sp cn wh sw swc swt kp t1 t2 ly wi : ab_Ob} (hb : hB b) (h : hI b x sp cn wh sw swc swt t1 t2 ly wi) (i j : Int) : hEL (d + 9) mX8_ways [ab_O 0, ab_I i, ab_I j] (fun RT => RT = an_ways b i j) x rd dr b ac sp cn wh sw swc swt kp t1 t2 ly wi := by
  have hn := hb.1.2.1
  by_cases p : 0 ≤ i ∧ i ≤ j ∧ j < b.1 3
  · refine ⟨ch_k sp + cn_k cn, ch_s sp + cn_s cn, hkb2, ab_ct kX8_ways rfl rfl (fun c hc => vX8_ways_0 hc i j x rd dr b ac sp cn wh sw swc swt kp t1 t2 ly wi 0 0 (ab_xb (h_hasSpan (d + 7) i j x rd dr b ac sp cn wh sw swc swt kp t1 t2 ly wi) (fun _ => ⟨fun _ => hl_fs2 (d := d + 3) hb h.1 (by omega) (by omega) (fun x' sp' q1 q2 q3 q4 => ?_), fun g => absurd g (by decide)⟩) (fun q => absurd p q)))⟩
    have an : ∀ v : ab_Ob, cn_ok v (sc_br b) (b.1 3) → ab_Ct (d + 8) 0 0 mX2_ofBest [ab_O 0, ab_O 1, ab_I i, ab_I j] [v, sp'] (ab_IsL (an_wsum b i j) [v, sp']) := fun v hv => by
      have cc := c_ofBest (d + 4) v sp' hn.2 q2 hv.1 p.1 p.2.1 p.2.2 (fun u u0 u1 => by
        rw [hv.2 i j u p.1 p.2.1 p.2.2 (by omega) (by omega)]
        exact if_pos ⟨u0, u1⟩)
      have e : hd_sm (fun h => if dp_B (sc_br b) i j h = hd_mn (fun h => dp_B (sc_br b) i j h) i (j - i).toNat then dw_W (sc_br b) i j h else 0) i (j - i + 1).toNat = an_wsum b i j := by
        rw [← hd_am_val (fun h => dp_B (sc_br b) i j h)]
        rfl
      rw [e] at cc
      exact cc
    have x12 : x'.1 12 = x.1 12 := q4 12 (by decide)
    have x0 : x'.1 0 = 0 := (q4 0 (by decide)).trans (hd_pf_eq x 0 0)
    have ea : (if 1000000000000 < an_wsum b i j then 1000000000000 else an_wsum b i j, (0 : Int)) = an_ways b i j := by
      unfold an_ways
      rw [if_pos p]
      rfl
    refine ⟨fun g => ab_xl (an cn (q1.2.2.2.2.1 g)) ?_, fun g => ⟨_, _, ⟨by omega, by omega⟩, _, c_cfill (d + 2) cn sp' hn (hB_cb hb) (sc_br_ev b) (hB_ev hb) q2 h.1.2.1, fun v hv => ?_⟩⟩
    · have c7 := (q1.2.2.2.2.1 g).1
      refine ⟨⟨⟨_, rfl⟩, (by repeat' first | exact rfl | refine ⟨_, rfl, ?_⟩ | refine ⟨_, _, rfl, ?_⟩)⟩, _, ea, rfl, _, _, _, _, _, _, _, _, _, _, _, rfl, ⟨q1, h.2⟩, x0, x12, ?_, ?_⟩
      · unfold hk
        rw [ch_k_0 q2.1.1, cn_k_0 c7]
        omega
      · unfold hs
        rw [ch_s_0 q2.1.1, cn_s_0 c7]
        omega
    · obtain ⟨_, u, e, hu⟩ := hv
      cases e
      refine ⟨ab_i11, ab_xl (an v hu) ⟨⟨⟨_, rfl⟩, (by repeat' first | exact rfl | refine ⟨_, rfl, ?_⟩ | refine ⟨_, _, rfl, ?_⟩)⟩, _, ea, rfl, _, _, _, _, _, _, _, _, _, _, _, rfl, ⟨⟨q1.1, Or.inl hu.1, q1.2.2.1, q1.2.2.2.1, fun _ => hu, q1.2.2.2.2.2⟩, h.2⟩, x0, x12, ?_, ?_⟩⟩
      · unfold hk
        rw [ch_k_0 q2.1.1, cn_k_0 hu.1]
        omega
      · unfold hs
        rw [ch_s_0 q2.1.1, cn_s_0 hu.1]
        omega
  · have e : ((-1 : Int), (1 : Int)) = an_ways b i j := by
      unfold an_ways
      rw [if_neg p]
    exact ⟨0, 0, hkb0, ab_ct kX8_ways rfl rfl (fun c hc => vX8_ways_0 hc i j x rd dr b ac sp cn wh sw swc swt kp t1 t2 ly wi 0 0 (ab_xb (h_hasSpan (d + 7) i j x rd dr b ac sp cn wh sw swc swt kp t1 t2 ly wi) (fun q => absurd q p) (fun _ => ⟨fun g => absurd rfl g, fun _ => hl_rf ⟨⟨⟨_, rfl⟩, _, _, rfl, ab_shw_self (ab_beq rfl)⟩, _, e, rfl, _, _, _, _, _, _, _, _, _, _, _, rfl, h, hd_pf_eq x 0 1, rfl, by omega, by omega⟩⟩)))⟩
