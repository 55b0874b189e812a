/-! THE CLASS, asked about a level -/
def an_lv (b : ab_Ob) (dd : Int) : Prop := 0 ≤ dd ∧ dd ≤ tq_dp (tr_A (sc_br b) (b.1 3))
def hc_r (b : ab_Ob) (dd r : Int) (v : ab_Ob) : Prop := ly_len v ∧ ((r = 0 ∧ an_lv b dd ∧ ly_ok v (an_L b dd)) ∨ (r = 2 ∧ ¬ an_lv b dd))
theorem h_cut14 (d : Nat) (x rd dr b ac sp cn wh sw swc swt kp t1 t2 ly wi : ab_Ob) (hb : hB b) (hn1 : 1 ≤ b.1 3) (h : hF x b sp cn wh) (hl : ly_len ly) (dd : Int) : ab_Ct (d + 8) (ch_k sp) (ch_s sp) mX8_cutLayerB [ab_O 0, ab_O 14, ab_I dd] [x, rd, dr, b, ac, sp, cn, wh, sw, swc, swt, kp, t1, t2, ly, wi] (fun rv w => ∃ r x' sp' wh' ly', rv = some (ab_I r) ∧ w = [x', rd, dr, b, ac, sp', cn, wh', sw, swc, swt, kp, t1, t2, ly', wi] ∧ hF x' b sp' cn wh' ∧ ch_ok sp' (sc_br b) (b.1 3) ((b.2 6).2 4) ∧ (∀ f, f ≠ 5 → f ≠ 9 → x'.1 f = x.1 f) ∧ hc_r b dd r ly') := by
  have hn := hb.1.2.1
  refine ab_ct kX8_cutLayerB rfl rfl (fun c hc => vX8_cutLayerB_14_0 hc dd x rd dr b ac sp cn wh sw swc swt kp t1 t2 ly wi 0 0 (ab_xb (h_hasPiece (d + 6) x rd dr b ac sp cn wh sw swc swt kp t1 t2 ly wi) (fun _ => ⟨fun _ => hl_ft (d := d) hb hn1 h (Nat.le_of_eq (Nat.zero_add _)) (Nat.le_of_eq (Nat.zero_add _)) (fun x' sp' wh' q1 q2 q3 q4 q5 => ⟨fun g => ?_, fun g => ab_x1 (c_greatestDepth (d + 6) q3 (by decide) (by omega) (by omega)) ?_⟩), fun g => absurd g (by decide)⟩) (fun q => absurd hn1 q)))
  · exact ⟨⟨⟨_, rfl⟩, (by repeat' first | exact rfl | refine ⟨_, rfl, ?_⟩ | refine ⟨_, _, rfl, ?_⟩)⟩, 2, x', sp', wh', ly, rfl, rfl, q1, q2, q5, hl, Or.inr ⟨rfl, fun y => by have := y.1; omega⟩⟩
  · have eD : tq_mx (tr_J (sc_br b) 0 (b.1 3 - 1) (dp_H (sc_br b) 0 (b.1 3 - 1)) 0) = tq_dp (tr_A (sc_br b) (b.1 3)) := (tq_deep _ hn1).symm
    rw [eD]
    refine ⟨fun g2 => ab_xv2 (c_cut (d + 6) ⟨hn1, hn.2⟩ hl q3 (by omega)) (fun v hv => ?_), fun g2 => ?_⟩
    · exact ⟨⟨⟨_, rfl⟩, (by repeat' first | exact rfl | refine ⟨_, rfl, ?_⟩ | refine ⟨_, _, rfl, ?_⟩)⟩, 0, x', sp', wh', v, rfl, rfl, q1, q2, q5, hv.1, Or.inl ⟨rfl, ⟨by omega, g2⟩, hv⟩⟩
    · exact ⟨⟨⟨_, rfl⟩, (by repeat' first | exact rfl | refine ⟨_, rfl, ?_⟩ | refine ⟨_, _, rfl, ?_⟩)⟩, 2, x', sp', wh', ly, rfl, rfl, q1, q2, q5, hl, Or.inr ⟨rfl, fun y => g2 y.2⟩⟩
theorem h_cut15 (d : Nat) (x rd dr b ac sp cn wh sw swc swt kp t1 t2 ly wi : ab_Ob) (hb : hB b) (hn1 : 1 ≤ b.1 3) (h : hF x b sp cn wh) (hl : ly_len wi) (dd : Int) : ab_Ct (d + 8) (ch_k sp) (ch_s sp) mX8_cutLayerB [ab_O 0, ab_O 15, ab_I dd] [x, rd, dr, b, ac, sp, cn, wh, sw, swc, swt, kp, t1, t2, ly, wi] (fun rv w => ∃ r x' sp' wh' wi', rv = some (ab_I r) ∧ w = [x', rd, dr, b, ac, sp', cn, wh', sw, swc, swt, kp, t1, t2, ly, wi'] ∧ hF x' b sp' cn wh' ∧ ch_ok sp' (sc_br b) (b.1 3) ((b.2 6).2 4) ∧ (∀ f, f ≠ 5 → f ≠ 9 → x'.1 f = x.1 f) ∧ hc_r b dd r wi') := by
  have hn := hb.1.2.1
  refine ab_ct kX8_cutLayerB rfl rfl (fun c hc => vX8_cutLayerB_15_0 hc dd x rd dr b ac sp cn wh sw swc swt kp t1 t2 ly wi 0 0 (ab_xb (h_hasPiece (d + 6) x rd dr b ac sp cn wh sw swc swt kp t1 t2 ly wi) (fun _ => ⟨fun _ => hl_ft (d := d) hb hn1 h (Nat.le_of_eq (Nat.zero_add _)) (Nat.le_of_eq (Nat.zero_add _)) (fun x' sp' wh' q1 q2 q3 q4 q5 => ⟨fun g => ?_, fun g => ab_x1 (c_greatestDepth (d + 6) q3 (by decide) (by omega) (by omega)) ?_⟩), fun g => absurd g (by decide)⟩) (fun q => absurd hn1 q)))
  · exact ⟨⟨⟨_, rfl⟩, (by repeat' first | exact rfl | refine ⟨_, rfl, ?_⟩ | refine ⟨_, _, rfl, ?_⟩)⟩, 2, x', sp', wh', wi, rfl, rfl, q1, q2, q5, hl, Or.inr ⟨rfl, fun y => by have := y.1; omega⟩⟩
  · have eD : tq_mx (tr_J (sc_br b) 0 (b.1 3 - 1) (dp_H (sc_br b) 0 (b.1 3 - 1)) 0) = tq_dp (tr_A (sc_br b) (b.1 3)) := (tq_deep _ hn1).symm
    rw [eD]
    refine ⟨fun g2 => ab_xv2 (c_cut (d + 6) ⟨hn1, hn.2⟩ hl q3 (by omega)) (fun v hv => ?_), fun g2 => ?_⟩
    · exact ⟨⟨⟨_, rfl⟩, (by repeat' first | exact rfl | refine ⟨_, rfl, ?_⟩ | refine ⟨_, _, rfl, ?_⟩)⟩, 0, x', sp', wh', v, rfl, rfl, q1, q2, q5, hv.1, Or.inl ⟨rfl, ⟨by omega, g2⟩, hv⟩⟩
    · exact ⟨⟨⟨_, rfl⟩, (by repeat' first | exact rfl | refine ⟨_, rfl, ?_⟩ | refine ⟨_, _, rfl, ?_⟩)⟩, 2, x', sp', wh', wi, rfl, rfl, q1, q2, q5, hl, Or.inr ⟨rfl, fun y => g2 y.2⟩⟩
theorem h_cut0 (d : Nat) (x rd dr b ac sp cn wh sw swc swt kp t1 t2 ly wi : ab_Ob) (hn1 : ¬ 1 ≤ b.1 3) (dd : Int) : ab_Ct (d + 2) 0 0 mX8_cutLayerB [ab_O 0, ab_O 14, ab_I dd] [x, rd, dr, b, ac, sp, cn, wh, sw, swc, swt, kp, t1, t2, ly, wi] (ab_Is 1 [x, rd, dr, b, ac, sp, cn, wh, sw, swc, swt, kp, t1, t2, ly, wi]) :=
  ab_ct kX8_cutLayerB rfl rfl (fun c hc => vX8_cutLayerB_14_0 hc dd x rd dr b ac sp cn wh sw swc swt kp t1 t2 ly wi 0 0 (ab_xb (h_hasPiece d x rd dr b ac sp cn wh sw swc swt kp t1 t2 ly wi) (fun q => absurd q hn1) (fun _ => ⟨fun g => absurd rfl g, fun _ => ab_lf rfl rfl⟩)))
theorem hl_c14 {d mc ms kc ks : Nat} {x rd dr b ac sp cn wh sw swc swt kp t1 t2 ly wi : ab_Ob} {K : Nat → Nat → Int → ab_Ob → ab_Ob → ab_Ob → ab_Ob → ab_Ob → Prop} {dd : Int} (hb : hB b) (hn1 : 1 ≤ b.1 3) (h : hF x b sp cn wh) (hl : ly_len ly) (hc : kc + ch_k sp ≤ mc) (hs' : ks + ch_s sp ≤ ms) (k : ∀ r x' sp' wh' ly', hF x' b sp' cn wh' → ch_ok sp' (sc_br b) (b.1 3) ((b.2 6).2 4) → (∀ f, f ≠ 5 → f ≠ 9 → x'.1 f = x.1 f) → hc_r b dd r ly' → K (ch_k sp) (ch_s sp) r x' sp' wh' ly' wi) : ∃ mc6 ms7 : Nat, (kc + mc6 ≤ mc ∧ ks + ms7 ≤ ms) ∧ ∃ Q : Option ab_V → List ab_Ob → Prop, ab_Ct (d + 8) mc6 ms7 mX8_cutLayerB [ab_O 0, ab_O 14, ab_I dd] [x, rd, dr, b, ac, sp, cn, wh, sw, swc, swt, kp, t1, t2, ly, wi] Q ∧ ∀ (r : Int) (v9 v10 v11 v12 v13 : ab_Ob), Q (some (ab_I r)) [v9, rd, dr, b, ac, v10, cn, v11, sw, swc, swt, kp, t1, t2, v12, v13] → K mc6 ms7 r v9 v10 v11 v12 v13 :=
  ⟨_, _, ⟨hc, hs'⟩, _, h_cut14 d x rd dr b ac sp cn wh sw swc swt kp t1 t2 ly wi hb hn1 h hl dd, fun r v9 v10 v11 v12 v13 hq => by
    obtain ⟨r', x', sp', wh', ly', e0, e, q1, q2, q3, q4⟩ := hq
    cases e0
    cases e
    exact k _ _ _ _ _ q1 q2 q3 q4⟩
theorem hl_c15 {d mc ms kc ks : Nat} {x rd dr b ac sp cn wh sw swc swt kp t1 t2 ly wi : ab_Ob} {K : Nat → Nat → Int → ab_Ob → ab_Ob → ab_Ob → ab_Ob → ab_Ob → Prop} {dd : Int} (hb : hB b) (hn1 : 1 ≤ b.1 3) (h : hF x b sp cn wh) (hl : ly_len wi) (hc : kc + ch_k sp ≤ mc) (hs' : ks + ch_s sp ≤ ms) (k : ∀ r x' sp' wh' wi', hF x' b sp' cn wh' → ch_ok sp' (sc_br b) (b.1 3) ((b.2 6).2 4) → (∀ f, f ≠ 5 → f ≠ 9 → x'.1 f = x.1 f) → hc_r b dd r wi' → K (ch_k sp) (ch_s sp) r x' sp' wh' ly wi') : ∃ mc6 ms7 : Nat, (kc + mc6 ≤ mc ∧ ks + ms7 ≤ ms) ∧ ∃ Q : Option ab_V → List ab_Ob → Prop, ab_Ct (d + 8) mc6 ms7 mX8_cutLayerB [ab_O 0, ab_O 15, ab_I dd] [x, rd, dr, b, ac, sp, cn, wh, sw, swc, swt, kp, t1, t2, ly, wi] Q ∧ ∀ (r : Int) (v9 v10 v11 v12 v13 : ab_Ob), Q (some (ab_I r)) [v9, rd, dr, b, ac, v10, cn, v11, sw, swc, swt, kp, t1, t2, v12, v13] → K mc6 ms7 r v9 v10 v11 v12 v13 :=
  ⟨_, _, ⟨hc, hs'⟩, _, h_cut15 d x rd dr b ac sp cn wh sw swc swt kp t1 t2 ly wi hb hn1 h hl dd, fun r v9 v10 v11 v12 v13 hq => by
    obtain ⟨r', x', sp', wh', wi', e0, e, q1, q2, q3, q4⟩ := hq
    cases e0
    cases e
    exact k _ _ _ _ _ q1 q2 q3 q4⟩
theorem hl_c0 {d mc ms kc ks : Nat} {x rd dr b ac sp cn wh sw swc swt kp t1 t2 ly wi : ab_Ob} {K : Nat → Nat → Int → ab_Ob → ab_Ob → ab_Ob → ab_Ob → ab_Ob → Prop} {dd : Int} (hn1 : ¬ 1 ≤ b.1 3) (hc : kc ≤ mc) (hs' : ks ≤ ms) (k : K 0 0 1 x sp wh ly wi) : ∃ mc6 ms7 : Nat, (kc + mc6 ≤ mc ∧ ks + ms7 ≤ ms) ∧ ∃ Q : Option ab_V → List ab_Ob → Prop, ab_Ct (d + 2) mc6 ms7 mX8_cutLayerB [ab_O 0, ab_O 14, ab_I dd] [x, rd, dr, b, ac, sp, cn, wh, sw, swc, swt, kp, t1, t2, ly, wi] Q ∧ ∀ (r : Int) (v9 v10 v11 v12 v13 : ab_Ob), Q (some (ab_I r)) [v9, rd, dr, b, ac, v10, cn, v11, sw, swc, swt, kp, t1, t2, v12, v13] → K mc6 ms7 r v9 v10 v11 v12 v13 :=
  ⟨0, 0, ⟨hc, hs'⟩, _, h_cut0 d x rd dr b ac sp cn wh sw swc swt kp t1 t2 ly wi hn1 dd, fun r v9 v10 v11 v12 v13 hq => by
    obtain ⟨e0, e⟩ := hq
    cases e0
    cases e
    exact k⟩
theorem an_lvl_0 {b : ab_Ob} (hb : sc_ok b) (n : ¬ 1 ≤ b.1 3) (dd : Int) (f : List (Int × Int × Int × Int) → Int × Int) : ((-1 : Int), (1 : Int)) = an_lvl b dd f := by
  have := hb.2.1
  unfold an_lvl
  rw [if_pos (by omega)]
theorem h_level (d : Nat) {x rd dr b ac sp cn wh sw swc swt kp t1 t2 ly wi : ab_Ob} (hb : hB b) (h : hI b x sp cn wh sw swc swt t1 t2 ly wi) (dd : Int) : hE (d + 9) mX8_levelB [ab_O 0, ab_I dd] (fun RT => RT = an_level b dd) x rd dr b ac sp cn wh sw swc swt kp t1 t2 ly wi := by
  by_cases hn1 : 1 ≤ b.1 3
  · refine ⟨ch_k sp, ch_s sp, hkb1, ab_ct kX8_levelB rfl rfl (fun c hc => vX8_levelB_0 hc dd x rd dr b ac sp cn wh sw swc swt kp t1 t2 ly wi 0 0 (hl_c14 (d := d) hb hn1 h.1 h.2.2.2.2.1 (Nat.le_of_eq (Nat.zero_add _)) (Nat.le_of_eq (Nat.zero_add _)) (fun r x' sp' wh' ly' q1 q2 q5 q6 => ?_)))⟩
    obtain ⟨ll, ⟨r0, hv, ok⟩ | ⟨r2, nv⟩⟩ := q6
    · subst r0
      refine ⟨fun g => absurd rfl g, fun _ => hl_gd (hz_s h q1 q2.1.1 (q5 12 (by decide) (by decide)) h.2.2.1 h.2.2.2.1 ll h.2.2.2.2.2 ?_ (by repeat' first | exact rfl | refine ⟨_, rfl, ?_⟩ | refine ⟨_, _, rfl, ?_⟩))⟩
      unfold an_level
      rw [an_lvl_f hn1 hv, ok.2.1]
    · subst r2
      exact ⟨fun _ => hl_rf (hz_s h q1 q2.1.1 (q5 12 (by decide) (by decide)) h.2.2.1 h.2.2.2.1 ll h.2.2.2.2.2 (an_lvl_2 hn1 nv).symm (by repeat' first | exact rfl | refine ⟨_, rfl, ?_⟩ | refine ⟨_, _, rfl, ?_⟩)), fun g => absurd g (by decide)⟩
  · exact ⟨0, 0, hkb0, ab_ct kX8_levelB rfl rfl (fun c hc => vX8_levelB_0 hc dd x rd dr b ac sp cn wh sw swc swt kp t1 t2 ly wi 0 0 (hl_c0 (d := d + 6) hn1 (Nat.le_refl _) (Nat.le_refl _) ⟨fun _ => hl_rf (hz_r h (an_lvl_0 hb.1 hn1 dd _) rfl), fun g => absurd g (by decide)⟩))⟩
theorem h_levelNote (d : Nat) {x rd dr b ac sp cn wh sw swc swt kp t1 t2 ly wi : ab_Ob} (hb : hB b) (h : hI b x sp cn wh sw swc swt t1 t2 ly wi) (dd k what : Int) : hE (d + 9) mX8_levelNoteB [ab_O 0, ab_I dd, ab_I k, ab_I what] (fun RT => RT = an_levelNote b dd k what) x rd dr b ac sp cn wh sw swc swt kp t1 t2 ly wi := by
  by_cases hn1 : 1 ≤ b.1 3
  · refine ⟨ch_k sp, ch_s sp, hkb1, ab_ct kX8_levelNoteB rfl rfl (fun c hc => vX8_levelNoteB_0 hc dd k what x rd dr b ac sp cn wh sw swc swt kp t1 t2 ly wi 0 0 (hl_c14 (d := d) hb hn1 h.1 h.2.2.2.2.1 (Nat.le_of_eq (Nat.zero_add _)) (Nat.le_of_eq (Nat.zero_add _)) (fun r x' sp' wh' ly' q1 q2 q5 q6 => ?_)))⟩
    obtain ⟨ll, ⟨r0, hv, ok⟩ | ⟨r2, nv⟩⟩ := q6
    · subst r0
      have len := an_L_len hb.1 hn1 hv.1
      have hln := ok.2.1
      obtain ⟨l1, l2, l3⟩ := id ll
      obtain ⟨b4, b5, b6, b7, b8, b9⟩ := hb.1.1
      have hn := hb.1.2.1
      have no : ¬ (0 ≤ k ∧ k < (an_L b dd).length) → ((-1 : Int), (1 : Int)) = an_levelNote b dd k what := fun p => by
        unfold an_levelNote
        rw [an_lvl_f hn1 hv, if_neg p]
      refine ⟨fun _ => ⟨fun g => hl_rf (hz_s h q1 q2.1.1 (q5 12 (by decide) (by decide)) h.2.2.1 h.2.2.2.1 ll h.2.2.2.2.2 (no (by omega)) (by repeat' first | exact rfl | refine ⟨_, rfl, ?_⟩ | refine ⟨_, _, rfl, ?_⟩)), fun g => ⟨fun g2 => ?_, fun g2 => hl_rf (hz_s h q1 q2.1.1 (q5 12 (by decide) (by decide)) h.2.2.1 h.2.2.2.1 ll h.2.2.2.2.2 (no (by omega)) (by repeat' first | exact rfl | refine ⟨_, rfl, ?_⟩ | refine ⟨_, _, rfl, ?_⟩))⟩⟩, fun g => absurd rfl g⟩
      have hk : 0 ≤ k ∧ k < (an_L b dd).length := by omega
      have he : (an_L b dd)[k.toNat]? = some ((an_L b dd)[k.toNat]'(by omega)) := List.getElem?_eq_getElem (by omega)
      generalize (an_L b dd)[k.toNat]'(by omega) = e at he
      have eA : an_levelNote b dd k what = an_lnE b what e := by
        unfold an_levelNote
        rw [an_lvl_f hn1 hv, if_pos hk, he]
      rw [eA]
      obtain ⟨s1, s2, s3⟩ := ok.2.2 k.toNat e he
      have ek : ((k.toNat : Nat) : Int) = k := by omega
      rw [ek] at s1 s2 s3
      obtain ⟨_, e0, e1, e2, e3⟩ := an_L_in hb.1 hn1 e (List.mem_of_getElem? he)
      have cl := c_lasting (d + 7) b hb.1 (i := e.1) (j := e.2.1) e0 (by omega) e3
      rw [s1, s2, s3]
      refine ⟨fun g => hl_rf (hz_s h q1 q2.1.1 (q5 12 (by decide) (by decide)) h.2.2.1 h.2.2.2.1 ll h.2.2.2.2.2 ?_ (by repeat' first | exact rfl | refine ⟨_, rfl, ?_⟩ | refine ⟨_, _, rfl, ?_⟩)), fun g => ⟨by omega, hl_gd (hz_s h q1 q2.1.1 (q5 12 (by decide) (by decide)) h.2.2.1 h.2.2.2.1 ll h.2.2.2.2.2 ?_ (by repeat' first | exact rfl | refine ⟨_, rfl, ?_⟩ | refine ⟨_, _, rfl, ?_⟩))⟩, fun g => ⟨by omega, by omega, hl_gd (hz_s h q1 q2.1.1 (q5 12 (by decide) (by decide)) h.2.2.1 h.2.2.2.1 ll h.2.2.2.2.2 ?_ (by repeat' first | exact rfl | refine ⟨_, rfl, ?_⟩ | refine ⟨_, _, rfl, ?_⟩))⟩, fun g => ⟨by omega, by omega, ab_x1 cl (hl_gd (hz_s h q1 q2.1.1 (q5 12 (by decide) (by decide)) h.2.2.1 h.2.2.2.1 ll h.2.2.2.2.2 ?_ (by repeat' first | exact rfl | refine ⟨_, rfl, ?_⟩ | refine ⟨_, _, rfl, ?_⟩)))⟩, trivial⟩
      · unfold an_lnE
        rw [if_neg (by omega), if_neg (by omega), if_neg (by omega)]
      · subst g; rfl
      · subst g; rw [(hb.2 e.1 e0 (by omega)).1]; rfl
      · subst g; rfl
    · subst r2
      exact ⟨fun g => absurd g (by decide), fun _ => hl_rf (hz_s h q1 q2.1.1 (q5 12 (by decide) (by decide)) h.2.2.1 h.2.2.2.1 ll h.2.2.2.2.2 (an_lvl_2 hn1 nv).symm (by repeat' first | exact rfl | refine ⟨_, rfl, ?_⟩ | refine ⟨_, _, rfl, ?_⟩))⟩
  · exact ⟨0, 0, hkb0, ab_ct kX8_levelNoteB rfl rfl (fun c hc => vX8_levelNoteB_0 hc dd k what x rd dr b ac sp cn wh sw swc swt kp t1 t2 ly wi 0 0 (hl_c0 (d := d + 6) hn1 (Nat.le_refl _) (Nat.le_refl _) ⟨fun g => absurd g (by decide), fun _ => hl_rf (hz_r h (an_lvl_0 hb.1 hn1 dd _) rfl)⟩))⟩
theorem an_L_n {b : ab_Ob} (hb : sc_ok b) (n1 : 1 ≤ b.1 3) {dd : Int} : ∀ e ∈ an_L b dd, 0 ≤ e.2.2.1 ∧ e.2.2.1 < b.1 3 := fun e he => by
  obtain ⟨_, e0, e1, e2, e3⟩ := an_L_in hb n1 e he
  omega
theorem h_path (d : Nat) {x rd dr b ac sp cn wh sw swc swt kp t1 t2 ly wi : ab_Ob} (hb : hB b) (h : hI b x sp cn wh sw swc swt t1 t2 ly wi) (dd : Int) : hE (d + 9) mX8_pathB [ab_O 0, ab_I dd] (fun RT => RT = an_path b dd) x rd dr b ac sp cn wh sw swc swt kp t1 t2 ly wi := by
  by_cases hn1 : 1 ≤ b.1 3
  · refine ⟨ch_k sp, ch_s sp, hkb1, ab_ct kX8_pathB rfl rfl (fun c hc => vX8_pathB_0 hc dd x rd dr b ac sp cn wh sw swc swt kp t1 t2 ly wi 0 0 (hl_c14 (d := d) hb hn1 h.1 h.2.2.2.2.1 (Nat.le_of_eq (Nat.zero_add _)) (Nat.le_of_eq (Nat.zero_add _)) (fun r x' sp' wh' ly' q1 q2 q5 q6 => ?_)))⟩
    obtain ⟨ll, ⟨r0, hv, ok⟩ | ⟨r2, nv⟩⟩ := q6
    · subst r0
      have len := an_L_len hb.1 hn1 hv.1
      have hln := ok.2.1
      refine ⟨fun _ => ?_, fun g => absurd rfl g⟩
      have key : ∀ (q k : Nat), k + 1 + q = (an_L b dd).length → ab_J c 25 [some (ab_O 0), none, none, some (ab_I (ly_pt b (an_L b dd) k)), some (ab_I k)] [] [x', rd, dr, b, ac, sp', cn, wh', sw, swc, swt, kp, t1, t2, ly', wi] (0 + ch_k sp) (0 + ch_s sp) := by
        intro q
        induction q with
        | zero =>
          intro k hk
          refine vX8_pathB_25 hc _ _ x' rd dr b ac sp' cn wh' sw swc swt kp t1 t2 ly' wi _ _ ⟨by omega, fun _ => hl_gd (hz_s h q1 q2.1.1 (q5 12 (by decide) (by decide)) h.2.2.1 h.2.2.2.1 ll h.2.2.2.2.2 ?_ (by repeat' first | exact rfl | refine ⟨_, rfl, ?_⟩ | refine ⟨_, _, rfl, ?_⟩)), fun g => absurd (by omega) g⟩
          unfold an_path
          rw [an_lvl_f hn1 hv, show (an_L b dd).length - 1 = k by omega]
        | succ q ih =>
          intro k hk
          have cs := c_stepFrom' (d + 7) ok hb.1 (an_L_n hb.1 hn1) len.2 (t := k) (by omega)
          have b1 := ly_pt_b hb.1 hn1 (dd := dd) k
          have b2 := ly_st_b hb.1 hn1 (dd := dd) k
          have p1 := ly_p_b hb.1 hn1 (dd := dd) k
          have p2 := ly_p_b hb.1 hn1 (dd := dd) (k + 1)
          have this := ih (k + 1) (by omega)
          simp only [ly_pt] at this
          unfold sc_abs at b2 this
          exact vX8_pathB_25 hc _ _ x' rd dr b ac sp' cn wh' sw swc swt kp t1 t2 ly' wi _ _ ⟨by omega, fun g => by omega, fun _ => ab_x1 cs ⟨by omega, by omega, by omega, this⟩⟩
      exact key ((an_L b dd).length - 1) 0 (by omega)
    · subst r2
      exact ⟨fun g => absurd g (by decide), fun _ => hl_rf (hz_s h q1 q2.1.1 (q5 12 (by decide) (by decide)) h.2.2.1 h.2.2.2.1 ll h.2.2.2.2.2 (an_lvl_2 hn1 nv).symm (by repeat' first | exact rfl | refine ⟨_, rfl, ?_⟩ | refine ⟨_, _, rfl, ?_⟩))⟩
  · exact ⟨0, 0, hkb0, ab_ct kX8_pathB rfl rfl (fun c hc => vX8_pathB_0 hc dd x rd dr b ac sp cn wh sw swc swt kp t1 t2 ly wi 0 0 (hl_c0 (d := d + 6) hn1 (Nat.le_refl _) (Nat.le_refl _) ⟨fun g => absurd g (by decide), fun _ => hl_rf (hz_r h (an_lvl_0 hb.1 hn1 dd _) rfl)⟩))⟩
theorem h_widest (d : Nat) {x rd dr b ac sp cn wh sw swc swt kp t1 t2 ly wi : ab_Ob} (hb : hB b) (h : hI b x sp cn wh sw swc swt t1 t2 ly wi) (dd : Int) : hE (d + 9) mX8_widestB [ab_O 0, ab_I dd] (fun RT => RT = an_widest b dd) x rd dr b ac sp cn wh sw swc swt kp t1 t2 ly wi := by
  by_cases hn1 : 1 ≤ b.1 3
  · refine ⟨ch_k sp, ch_s sp, hkb1, ab_ct kX8_widestB rfl rfl (fun c hc => vX8_widestB_0 hc dd x rd dr b ac sp cn wh sw swc swt kp t1 t2 ly wi 0 0 (hl_c14 (d := d) hb hn1 h.1 h.2.2.2.2.1 (Nat.le_of_eq (Nat.zero_add _)) (Nat.le_of_eq (Nat.zero_add _)) (fun r x' sp' wh' ly' q1 q2 q5 q6 => ?_)))⟩
    obtain ⟨ll, ⟨r0, hv, ok⟩ | ⟨r2, nv⟩⟩ := q6
    · subst r0
      have len := an_L_len hb.1 hn1 hv.1
      have hln := ok.2.1
      refine ⟨fun _ => ?_, fun g => absurd rfl g⟩
      have key : ∀ (q k : Nat), k + 1 + q = (an_L b dd).length → ab_J c 25 [some (ab_O 0), none, none, some (ab_I (ly_wd b (an_L b dd) k)), some (ab_I k)] [] [x', rd, dr, b, ac, sp', cn, wh', sw, swc, swt, kp, t1, t2, ly', wi] (0 + ch_k sp) (0 + ch_s sp) := by
        intro q
        induction q with
        | zero =>
          intro k hk
          refine vX8_widestB_25 hc _ _ x' rd dr b ac sp' cn wh' sw swc swt kp t1 t2 ly' wi _ _ ⟨by omega, fun _ => hl_gd (hz_s h q1 q2.1.1 (q5 12 (by decide) (by decide)) h.2.2.1 h.2.2.2.1 ll h.2.2.2.2.2 ?_ (by repeat' first | exact rfl | refine ⟨_, rfl, ?_⟩ | refine ⟨_, _, rfl, ?_⟩)), fun g => absurd (by omega) g⟩
          unfold an_widest
          rw [an_lvl_f hn1 hv, show (an_L b dd).length - 1 = k by omega]
        | succ q ih =>
          intro k hk
          have cs := c_stepFrom' (d + 7) ok hb.1 (an_L_n hb.1 hn1) len.2 (t := k) (by omega)
          have b1 := ly_wd_b hb.1 hn1 (dd := dd) k
          have b2 := ly_st_b hb.1 hn1 (dd := dd) k
          have p1 := ly_p_b hb.1 hn1 (dd := dd) k
          have p2 := ly_p_b hb.1 hn1 (dd := dd) (k + 1)
          have this := ih (k + 1) (by omega)
          simp only [ly_wd] at this
          unfold sc_abs at b2 this
          exact vX8_widestB_25 hc _ _ x' rd dr b ac sp' cn wh' sw swc swt kp t1 t2 ly' wi _ _ ⟨by omega, fun g => by omega, fun _ => ab_x1 cs ⟨by omega, by omega, this⟩⟩
      exact key ((an_L b dd).length - 1) 0 (by omega)
    · subst r2
      exact ⟨fun g => absurd g (by decide), fun _ => hl_rf (hz_s h q1 q2.1.1 (q5 12 (by decide) (by decide)) h.2.2.1 h.2.2.2.1 ll h.2.2.2.2.2 (an_lvl_2 hn1 nv).symm (by repeat' first | exact rfl | refine ⟨_, rfl, ?_⟩ | refine ⟨_, _, rfl, ?_⟩))⟩
  · exact ⟨0, 0, hkb0, ab_ct kX8_widestB rfl rfl (fun c hc => vX8_widestB_0 hc dd x rd dr b ac sp cn wh sw swc swt kp t1 t2 ly wi 0 0 (hl_c0 (d := d + 6) hn1 (Nat.le_refl _) (Nat.le_refl _) ⟨fun g => absurd g (by decide), fun _ => hl_rf (hz_r h (an_lvl_0 hb.1 hn1 dd _) rfl)⟩))⟩
theorem ly_at {v b : ab_Ob} {dd : Int} (ok : ly_ok v (an_L b dd)) {k : Nat} (hk : k < (an_L b dd).length) : (v.2 1).2 k = ly_n (an_L b dd) k ∧ ly_p b (an_L b dd) k = (b.2 4).2 (ly_n (an_L b dd) k) := by
  have he : (an_L b dd)[k]? = some ((an_L b dd)[k]'hk) := List.getElem?_eq_getElem hk
  generalize (an_L b dd)[k]'hk = e at he
  rw [ly_n_some he, ly_p_some he]
  exact ⟨(ok.2.2 k e he).1, rfl⟩
theorem h_climax (d : Nat) {x rd dr b ac sp cn wh sw swc swt kp t1 t2 ly wi : ab_Ob} (hb : hB b) (h : hI b x sp cn wh sw swc swt t1 t2 ly wi) (dd : Int) : hE (d + 9) mX8_climaxB [ab_O 0, ab_I dd] (fun RT => RT = an_climax b dd) x rd dr b ac sp cn wh sw swc swt kp t1 t2 ly wi := by
  by_cases hn1 : 1 ≤ b.1 3
  · refine ⟨ch_k sp, ch_s sp, hkb1, ab_ct kX8_climaxB rfl rfl (fun c hc => vX8_climaxB_0 hc dd x rd dr b ac sp cn wh sw swc swt kp t1 t2 ly wi 0 0 (hl_c14 (d := d) hb hn1 h.1 h.2.2.2.2.1 (Nat.le_of_eq (Nat.zero_add _)) (Nat.le_of_eq (Nat.zero_add _)) (fun r x' sp' wh' ly' q1 q2 q5 q6 => ?_)))⟩
    obtain ⟨ll, ⟨r0, hv, ok⟩ | ⟨r2, nv⟩⟩ := q6
    · subst r0
      have len := an_L_len hb.1 hn1 hv.1
      have hln := ok.2.1
      have l1 := ll.1
      have b4 := hb.1.1.1
      have hn := hb.1.2.1
      have key : ∀ (q k : Nat), k + 1 + q = (an_L b dd).length → ab_J c 33 [some (ab_O 0), none, none, some (ab_I (ly_cx b (an_L b dd) k)), some (ab_I ((k : Int) + 1))] [] [x', rd, dr, b, ac, sp', cn, wh', sw, swc, swt, kp, t1, t2, ly', wi] (0 + ch_k sp) (0 + ch_s sp) := by
        intro q
        induction q with
        | zero =>
          intro k hk
          refine vX8_climaxB_33 hc _ _ x' rd dr b ac sp' cn wh' sw swc swt kp t1 t2 ly' wi _ _ ⟨fun _ => hl_gd (hz_s h q1 q2.1.1 (q5 12 (by decide) (by decide)) h.2.2.1 h.2.2.2.1 ll h.2.2.2.2.2 ?_ (by repeat' first | exact rfl | refine ⟨_, rfl, ?_⟩ | refine ⟨_, _, rfl, ?_⟩)), fun g => absurd (by omega) g⟩
          unfold an_climax
          rw [an_lvl_f hn1 hv, show (an_L b dd).length - 1 = k by omega]
        | succ q ih =>
          intro k hk
          have a1 := ly_at (b := b) ok (k := k + 1) (by omega)
          push_cast at a1
          have c1 := ly_cx_b hb.1 hn1 (dd := dd) hv.1 k (by omega)
          have c2 := ly_n_b hb.1 hn1 (dd := dd) (k := k + 1) (by omega)
          have this := ih (k + 1) (by omega)
          simp only [ly_cx] at this
          push_cast at this
          rw [a1.2] at this
          refine vX8_climaxB_33 hc _ _ x' rd dr b ac sp' cn wh' sw swc swt kp t1 t2 ly' wi _ _ ⟨fun g => by omega, fun _ => ?_⟩
          rw [a1.1]
          refine ⟨by omega, by omega, by omega, fun g => ⟨by omega, ?_⟩, fun g => ⟨by omega, by omega, ?_⟩⟩
          · rw [if_neg (by omega)] at this
            exact this
          · rw [if_pos (by omega)] at this
            exact this
      have k0 := key ((an_L b dd).length - 1) 0 (by omega)
      have a0 := ly_at (b := b) ok (k := 0) (by omega)
      refine ⟨fun _ => ⟨by omega, ?_⟩, fun g => absurd rfl g⟩
      have a1 : (ly'.2 1).2 0 = ly_n (an_L b dd) 0 := a0.1
      rw [a1]
      exact k0
    · subst r2
      exact ⟨fun g => absurd g (by decide), fun _ => hl_rf (hz_s h q1 q2.1.1 (q5 12 (by decide) (by decide)) h.2.2.1 h.2.2.2.1 ll h.2.2.2.2.2 (an_lvl_2 hn1 nv).symm (by repeat' first | exact rfl | refine ⟨_, rfl, ?_⟩ | refine ⟨_, _, rfl, ?_⟩))⟩
  · exact ⟨0, 0, hkb0, ab_ct kX8_climaxB rfl rfl (fun c hc => vX8_climaxB_0 hc dd x rd dr b ac sp cn wh sw swc swt kp t1 t2 ly wi 0 0 (hl_c0 (d := d + 6) hn1 (Nat.le_refl _) (Nat.le_refl _) ⟨fun g => absurd g (by decide), fun _ => hl_rf (hz_r h (an_lvl_0 hb.1 hn1 dd _) rfl)⟩))⟩
