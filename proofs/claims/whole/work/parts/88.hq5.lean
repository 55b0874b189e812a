theorem h_echo (d : Nat) {x rd dr b ac sp cn wh sw swc swt kp t1 t2 ly wi : ab_Ob} (hb : hB b) (h : hI b x sp cn wh sw swc swt t1 t2 ly wi) (dd ee : Int) : hE (d + 9) mX8_echoB [ab_O 0, ab_I dd, ab_I ee] (fun RT => RT = an_echo b dd ee) x rd dr b ac sp cn wh sw swc swt kp t1 t2 ly wi := by
  have hn := hb.1.2.1
  by_cases hn1 : 1 ≤ b.1 3
  · have no : ¬ (an_lv b dd ∧ an_lv b ee) → ((-1 : Int), (2 : Int)) = an_echo b dd ee := fun p => by
      unfold an_echo
      rw [if_neg (by omega)]
      exact (if_neg p).symm
    refine ⟨ch_k sp, ch_s sp, hkb1, ab_ct kX8_echoB rfl rfl (fun c hc => vX8_echoB_0 hc dd ee x rd dr b ac sp cn wh sw swc swt kp t1 t2 ly wi 0 0 (hl_c14 (d := d) hb hn1 h.1 h.2.2.2.2.1 (Nat.le_of_eq (Nat.zero_add _)) (Nat.le_of_eq (Nat.zero_add _)) (fun r x' sp' wh' ly' q1 q2 q5 q6 => ?_)))⟩
    obtain ⟨ll, ⟨r0, hv, ok⟩ | ⟨r2, nv⟩⟩ := q6
    · subst r0
      refine ⟨fun g => absurd rfl g, fun _ => hl_c15 (d := d) hb hn1 q1 h.2.2.2.2.2 (by rw [ch_k_0 q2.1.1]; omega) (by rw [ch_s_0 q2.1.1]; omega) (fun r x3 sp3 wh3 wi3 p1 p2 p5 p6 => ?_)⟩
      have x12 : x3.1 12 = x.1 12 := (p5 12 (by decide) (by decide)).trans (q5 12 (by decide) (by decide))
      obtain ⟨l2, ⟨r0, hv2, ok2⟩ | ⟨r2, nv⟩⟩ := p6
      · subst r0
        refine ⟨fun _ => ?_, fun g => absurd rfl g⟩
        have len := an_L_len hb.1 hn1 hv.1
        have len2 := an_L_len hb.1 hn1 hv2.1
        have hln := ok.2.1
        have hln2 := ok2.2.1
        have key : ∀ (q k : Nat), k + q = (an_L b ee).length + 1 - (an_L b dd).length → ab_J c 40 [some (ab_O 0), none, none, none, some (ab_I (ly_ec b (an_L b dd) (an_L b ee) k)), some (ab_I k)] [] [x3, rd, dr, b, ac, sp3, cn, wh3, sw, swc, swt, kp, t1, t2, ly', wi3] ((0 + ch_k sp) + ch_k sp') ((0 + ch_s sp) + ch_s sp') := by
          intro q
          induction q with
          | zero =>
            intro k hk
            refine vX8_echoB_40 hc _ _ x3 rd dr b ac sp3 cn wh3 sw swc swt kp t1 t2 ly' wi3 _ _ ⟨by omega, fun _ => hl_gd (hz_s h p1 p2.1.1 x12 h.2.2.1 h.2.2.2.1 ll l2 ?_ (by repeat' first | exact rfl | refine ⟨_, rfl, ?_⟩ | refine ⟨_, _, rfl, ?_⟩)), fun g => absurd (by omega) g⟩
            unfold an_echo
            rw [if_neg (by omega), if_pos ⟨hv, hv2⟩, show (an_L b ee).length + 1 - (an_L b dd).length = k by omega]
          | succ q ih =>
            intro k hk
            have cs := c_stepsAsIn (d + 6) ok ok2 hb.1 (an_L_n hb.1 hn1) (an_L_n hb.1 hn1) len.2 len2.2 (f := k) (by omega)
            have eb := ly_ec_b (b := b) (L := an_L b dd) (L' := an_L b ee) k
            have this := ih (k + 1) (by omega)
            push_cast at this
            refine vX8_echoB_40 hc _ _ x3 rd dr b ac sp3 cn wh3 sw swc swt kp t1 t2 ly' wi3 _ _ ⟨by omega, fun g => by omega, fun _ => ab_xb cs (fun y => ⟨fun g => absurd g (by decide), fun _ => ⟨by omega, by omega, ?_⟩⟩) (fun y => ⟨fun _ => ⟨by omega, ?_⟩, fun g => absurd rfl g⟩)⟩
            · rw [ly_ec_y y] at this
              exact this
            · rw [ly_ec_n y] at this
              exact this
        exact key ((an_L b ee).length + 1 - (an_L b dd).length) 0 (by omega)
      · subst r2
        exact ⟨fun g => absurd g (by decide), fun _ => hl_rf (hz_s h p1 p2.1.1 x12 h.2.2.1 h.2.2.2.1 ll l2 (no (fun y => nv y.2)) (by repeat' first | exact rfl | refine ⟨_, rfl, ?_⟩ | refine ⟨_, _, rfl, ?_⟩))⟩
    · subst r2
      exact ⟨fun _ => ⟨fun g => absurd g (by decide), fun _ => hl_rf (hz_s h q1 q2.1.1 (q5 12 (by decide) (by decide)) h.2.2.1 h.2.2.2.1 ll h.2.2.2.2.2 (no (fun y => nv y.1)) (by repeat' first | exact rfl | refine ⟨_, rfl, ?_⟩ | refine ⟨_, _, rfl, ?_⟩))⟩, fun g => absurd g (by decide)⟩
  · have e : ((-1 : Int), (1 : Int)) = an_echo b dd ee := by
      unfold an_echo
      rw [if_pos (by omega)]
    exact ⟨0, 0, hkb0, ab_ct kX8_echoB rfl rfl (fun c hc => vX8_echoB_0 hc dd ee x rd dr b ac sp cn wh sw swc swt kp t1 t2 ly wi 0 0 (hl_c0 (d := d + 6) hn1 (Nat.le_refl _) (Nat.le_refl _) ⟨fun _ => ⟨fun g => absurd g (by decide), fun _ => hl_rf (hz_r h e rfl)⟩, fun g => absurd g (by decide)⟩))⟩
