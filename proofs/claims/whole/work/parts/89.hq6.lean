/-! THE CLASS: twins, likeness, what was kept, other weights -/
theorem h_twins (d : Nat) {x rd dr b ac sp cn wh sw swc swt kp t1 t2 ly wi : ab_Ob} (hb : hB b) (h : hI b x sp cn wh sw swc swt t1 t2 ly wi) (i j n : Int) : hE (d + 9) mX8_twins [ab_O 0, ab_I i, ab_I j, ab_I n] (fun RT => an_twins b i j n RT) x rd dr b ac sp cn wh sw swc swt kp t1 t2 ly wi := by
  refine ⟨0, 0, hkb0, ab_ct kX8_twins rfl rfl (fun c hc => vX8_twins_0 hc i j n x rd dr b ac sp cn wh sw swc swt kp t1 t2 ly wi 0 0 (ab_xb (h_hasNotesFrom (d + 7) i n x rd dr b ac sp cn wh sw swc swt kp t1 t2 ly wi hb.1) (fun p => ⟨fun g => absurd g (by decide), fun _ => ab_xb (h_hasNotesFrom (d + 7) j n x rd dr b ac sp cn wh sw swc swt kp t1 t2 ly wi hb.1) (fun q => ⟨fun _ => ?_, fun g => absurd g (by decide)⟩) (fun q => ⟨fun g => absurd rfl g, fun _ => hl_rf (hz_r h (Or.inl ⟨fun y => q ⟨y.1, y.2.2⟩, rfl⟩) rfl)⟩)⟩) (fun p => ⟨fun _ => hl_rf (hz_r h (Or.inl ⟨fun y => p ⟨y.1, y.2.1⟩, rfl⟩) rfl), fun g => absurd rfl g⟩)))⟩
  have sp' : an_sps b i j n := ⟨p.1, p.2, q.2⟩
  exact ab_xb (c_areTwins (d + 7) b hb.1 (by omega) (by omega) (by omega) (by omega) (by omega)) (fun y => ⟨fun g => absurd g (by decide), fun _ => hl_gd (hz_0 h (Or.inr ⟨sp', Or.inl ⟨y, rfl⟩⟩) rfl)⟩) (fun y => ⟨fun _ => hl_gd (hz_0 h (Or.inr ⟨sp', Or.inr ⟨y, rfl⟩⟩) rfl), fun g => absurd rfl g⟩)
theorem h_twin (d : Nat) {x rd dr b ac sp cn wh sw swc swt kp t1 t2 ly wi : ab_Ob} (hb : hB b) (h : hI b x sp cn wh sw swc swt t1 t2 ly wi) (what : Int) : hE (d + 9) mX8_twin [ab_O 0, ab_I what] (fun RT => an_twin b what RT) x rd dr b ac sp cn wh sw swc swt kp t1 t2 ly wi := by
  have hn := hb.1.2.1
  have no : ¬ (1 ≤ b.1 3 ∧ 0 ≤ what ∧ what ≤ 2) → an_twin b what (-1, 1) := fun y => Or.inl ⟨y, rfl⟩
  refine ⟨0, 0, hkb0, ab_ct kX8_twin rfl rfl (fun c hc => vX8_twin_0 hc what x rd dr b ac sp cn wh sw swc swt kp t1 t2 ly wi 0 0 (ab_xb (h_hasPiece (d + 7) x rd dr b ac sp cn wh sw swc swt kp t1 t2 ly wi) (fun p => ⟨fun g => absurd g (by decide), fun _ => ⟨fun g => hl_rf (hz_r h (no (by omega)) rfl), fun g => ⟨fun g2 => ?_, fun g2 => hl_rf (hz_r h (no (by omega)) rfl)⟩⟩⟩) (fun p => ⟨fun _ => hl_rf (hz_r h (no (by omega)) rfl), fun g => absurd rfl g⟩)))⟩
  have yes : 1 ≤ b.1 3 ∧ 0 ≤ what ∧ what ≤ 2 := by omega
  have out : ∀ (N : Nat), 2 * (N : Int) ≤ b.1 3 → (∀ n' i' j' : Int, (N : Int) < n' → ¬ tw_at b n' i' j') → ab_J c 32 [some (ab_O 0), some (ab_I what), some (ab_I N), none, none] [] [x, rd, dr, b, ac, sp, cn, wh, sw, swc, swt, kp, t1, t2, ly, wi] 0 0 := by
    intro N
    induction N with
    | zero =>
      intro _ H
      have none' : ∀ n i j, ¬ tw_at b n i j := fun n i j y => H n i j (by have := y.1; push_cast; omega) y
      refine vX8_twin_32 hc _ _ x rd dr b ac sp cn wh sw swc swt kp t1 t2 ly wi 0 0 ⟨fun _ => ⟨fun g => hl_gd (hz_0 h (Or.inr ⟨yes, Or.inr ⟨none', ?_⟩⟩) rfl), fun g => hl_gd (hz_0 h (Or.inr ⟨yes, Or.inr ⟨none', ?_⟩⟩) rfl)⟩, fun g => absurd (by decide) g⟩
      · rw [if_neg g]
      · rw [if_pos g]
    | succ N ih =>
      intro hN H
      push_cast at hN H
      have inn : ∀ (q : Nat) (i : Int), 0 ≤ i → i + q = b.1 3 → (∀ i' j' : Int, i' < i → ¬ tw_at b ((N : Int) + 1) i' j') → ab_J c 39 [some (ab_O 0), some (ab_I what), some (ab_I ((N : Int) + 1)), some (ab_I i), none] [] [x, rd, dr, b, ac, sp, cn, wh, sw, swc, swt, kp, t1, t2, ly, wi] 0 0 := by
        intro q
        induction q with
        | zero =>
          intro i i0 hi Hi
          push_cast at hi
          refine vX8_twin_39 hc _ _ _ x rd dr b ac sp cn wh sw swc swt kp t1 t2 ly wi 0 0 ⟨by omega, by omega, fun g => ⟨by omega, ?_⟩, fun g => absurd (by omega) g⟩
          have := ih (by omega) (fun n' i' j' hn' y => by
            rcases Int.lt_or_le ((N : Int) + 1) n' with z | z
            · exact H n' i' j' z y
            · have e : n' = (N : Int) + 1 := by omega
              subst e
              have y1 := y.2.2.1
              have y2 := y.2.2.2.1
              exact Hi i' j' (by omega) y)
          rw [show (N : Int) + 1 + (-1) = N by omega]
          exact this
        | succ q ihq =>
          intro i i0 hi Hi
          push_cast at hi
          refine vX8_twin_39 hc _ _ _ x rd dr b ac sp cn wh sw swc swt kp t1 t2 ly wi 0 0 ⟨by omega, by omega, fun g => ⟨by omega, ?_⟩, fun g => ⟨_, c_nextTwin (d + 6) b hb.1 i0 (by omega) (by omega), fun r hr => ?_⟩⟩
          · have := ih (by omega) (fun n' i' j' hn' y => by
              rcases Int.lt_or_le ((N : Int) + 1) n' with z | z
              · exact H n' i' j' z y
              · have e : n' = (N : Int) + 1 := by omega
                subst e
                have y1 := y.2.2.1
                have y2 := y.2.2.2.1
                exact Hi i' j' (by omega) y)
            rw [show (N : Int) + 1 + (-1) = N by omega]
            exact this
          · obtain ⟨_, r', er, nt⟩ := hr
            cases er
            rcases nt with ⟨r1, nt⟩ | ⟨r0, r1, tw, nt⟩
            · refine ⟨fun _ => ⟨by omega, ihq (i + 1) (by omega) (by omega) (fun i' j' hi' y => ?_)⟩, fun g => absurd r1 g⟩
              rcases Int.lt_or_le i' i with z | z
              · exact Hi i' j' z y
              · have e : i' = i := by omega
                subst e
                exact nt j' y.2.2.1 y.2.2.2.1 y.2.2.2.2
            · have at' : tw_at b ((N : Int) + 1) i r := ⟨by omega, i0, r0, r1, tw⟩
              have bf : ∀ n' i' j', tw_bf ((N : Int) + 1) i r n' i' j' → ¬ tw_at b n' i' j' := fun n' i' j' hbf y => by
                rcases hbf with z | ⟨z, z2 | ⟨z2, z3⟩⟩
                · exact H n' i' j' z y
                · subst z
                  exact Hi i' j' z2 y
                · subst z
                  subst z2
                  exact nt j' y.2.2.1 z3 y.2.2.2.2
              have lf : an_twin b what (if what = 0 then (N : Int) + 1 else if what = 1 then i else r, 0) := Or.inr ⟨yes, Or.inl ⟨_, _, _, at', bf, rfl⟩⟩
              refine ⟨fun g => by omega, fun _ => ⟨fun g => ⟨fun g3 => hl_gd (hz_0 h ?_ rfl), fun g3 => hl_gd (hz_0 h ?_ rfl)⟩, fun g => hl_gd (hz_0 h ?_ rfl)⟩⟩
              · rw [if_neg g, if_neg g3] at lf
                exact lf
              · rw [if_neg g, if_pos g3] at lf
                exact lf
              · rw [if_pos g] at lf
                exact lf
      refine vX8_twin_32 hc _ _ x rd dr b ac sp cn wh sw swc swt kp t1 t2 ly wi 0 0 ⟨fun g => ?_, fun _ => ?_⟩
      · push_cast at g
        omega
      · have := inn (b.1 3).toNat 0 (by decide) (by omega) (fun i' j' hi' y => by have := y.2.1; omega)
        push_cast
        exact this
  have e2 : Int.tdiv (b.1 3) 2 = (((b.1 3).toNat / 2 : Nat) : Int) := by
    rw [Int.tdiv_eq_ediv_of_nonneg hn.1]
    omega
  refine ⟨by decide, ?_, ?_⟩
  · rw [e2]
    omega
  · rw [e2]
    exact out _ (by omega) (fun n' i' j' hn' y => by
      have y0 := y.2.1
      have y1 := y.2.2.1
      have y2 := y.2.2.2.1
      omega)
theorem h_alike (d : Nat) {x rd dr b ac sp cn wh sw swc swt kp t1 t2 ly wi : ab_Ob} (hb : hB b) (h : hI b x sp cn wh sw swc swt t1 t2 ly wi) (i j n : Int) : hE (d + 9) mX8_alike [ab_O 0, ab_I i, ab_I j, ab_I n] (fun RT => an_alike b i j n RT) x rd dr b ac sp cn wh sw swc swt kp t1 t2 ly wi := by
  have hn := hb.1.2.1
  by_cases p : an_sps b i j n
  · obtain ⟨p1, p2, p3⟩ := id p
    refine ⟨ch_k sp, ch_s sp, hkb1, ab_ct kX8_alike rfl rfl (fun c hc => vX8_alike_0 hc i j n x rd dr b ac sp cn wh sw swc swt kp t1 t2 ly wi 0 0 (ab_xb (h_hasNotesFrom (d + 7) i n x rd dr b ac sp cn wh sw swc swt kp t1 t2 ly wi hb.1) (fun _ => ⟨fun g => absurd g (by decide), fun _ => ab_xb (h_hasNotesFrom (d + 7) j n x rd dr b ac sp cn wh sw swc swt kp t1 t2 ly wi hb.1) (fun _ => ⟨fun _ => hl_fs (d := d + 3) hb h.1 (Nat.le_of_eq (Nat.zero_add _)) (Nat.le_of_eq (Nat.zero_add _)) (fun x' sp' q1 q2 q3 q4 =>  ⟨by omega, by omega, ab_xv2 (c_build (d + 2) t1 sp' hn.2 (hB_cb hb) (sc_br_ev b) (hB_ev hb) q2 h.2.2.1 (by omega) (by omega) (by omega)) (fun v hv => ⟨by omega, by omega, ab_xv2 (c_build (d + 2) t2 sp' hn.2 (hB_cb hb) (sc_br_ev b) (hB_ev hb) q2 h.2.2.2.1 (by omega) (by omega) (by omega)) (fun u hu => ⟨by omega, ?_⟩)⟩)⟩), fun g => absurd g (by decide)⟩) (fun q => absurd ⟨p1, p3⟩ q)⟩) (fun q => absurd ⟨p1, p2⟩ q)))⟩
    have e1 : i + (j - i) = j := by omega
    have e2 : i + n - 1 + (j - i) = j + n - 1 := by omega
    have cl := c_isLike (d + 7) (v := v) (w := u) (c := sc_br b) (i := i) (j := i + n - 1) (f := j - i) (by omega) (by omega) (by omega) (by omega) (by omega) hv (by rw [e1, e2]; exact hu)
    have hH := dp_H_in (c := sc_br b) (i := i) (j := i + n - 1) (by omega)
    have hH' := dp_H_in (c := sc_br b) (i := j) (j := j + n - 1) (by omega)
    have iff := al_iff (sc_br b) (j - i) i (i + n - 1) (dp_H (sc_br b) i (i + n - 1)) 0 hH.1 hH.2 (dp_H (sc_br b) j (j + n - 1)) (by omega) (by omega)
    rw [e1, e2] at cl iff
    refine ab_xb cl (fun y => ⟨fun g => absurd g (by decide), fun _ => hl_gd (hz_s h q1 q2.1.1 (q4 12 (by decide)) hv.1 hu.1 h.2.2.2.2.1 h.2.2.2.2.2 (Or.inr ⟨p, Or.inl ⟨iff.mp y, rfl⟩⟩) (by repeat' first | exact rfl | refine ⟨_, rfl, ?_⟩ | refine ⟨_, _, rfl, ?_⟩))⟩) (fun y => ⟨fun _ => hl_gd (hz_s h q1 q2.1.1 (q4 12 (by decide)) hv.1 hu.1 h.2.2.2.2.1 h.2.2.2.2.2 (Or.inr ⟨p, Or.inr ⟨fun z => y (iff.mpr z), rfl⟩⟩) (by repeat' first | exact rfl | refine ⟨_, rfl, ?_⟩ | refine ⟨_, _, rfl, ?_⟩)), fun g => absurd rfl g⟩)
  · exact ⟨0, 0, hkb0, ab_ct kX8_alike rfl rfl (fun c hc => vX8_alike_0 hc i j n x rd dr b ac sp cn wh sw swc swt kp t1 t2 ly wi 0 0 (ab_xb (h_hasNotesFrom (d + 7) i n x rd dr b ac sp cn wh sw swc swt kp t1 t2 ly wi hb.1) (fun q1 => ⟨fun g => absurd g (by decide), fun _ => ab_xb (h_hasNotesFrom (d + 7) j n x rd dr b ac sp cn wh sw swc swt kp t1 t2 ly wi hb.1) (fun q2 => absurd ⟨q1.1, q1.2, q2.2⟩ p) (fun q2 => ⟨fun g => absurd rfl g, fun _ => hl_rf (hz_r h (Or.inl ⟨p, rfl⟩) rfl)⟩)⟩) (fun q1 => ⟨fun _ => hl_rf (hz_r h (Or.inl ⟨p, rfl⟩) rfl), fun g => absurd rfl g⟩)))⟩
theorem h_unlike (d : Nat) {x rd dr b ac sp cn wh sw swc swt kp t1 t2 ly wi : ab_Ob} {c' : Int → Int → Int → Int → Int} (hb : hB b) (h : hI b x sp cn wh sw swc swt t1 t2 ly wi) (hk : ¬ x.1 12 = 0 → 1 ≤ b.1 3 ∧ tb_ok kp c' 0 (b.1 3 - 1)) (what : Int) : hE (d + 9) mX8_unlike [ab_O 0, ab_I what] (fun RT => an_unlike b (¬ x.1 12 = 0) c' what RT) x rd dr b ac sp cn wh sw swc swt kp t1 t2 ly wi := by
  have hn := hb.1.2.1
  by_cases p : ¬ x.1 12 = 0 ∧ 0 ≤ what ∧ what ≤ 2
  · obtain ⟨hn1, kt⟩ := hk p.1
    refine ⟨ch_k sp, ch_s sp, hkb1, ab_ct kX8_unlike rfl rfl (fun c hc => vX8_unlike_0 hc what x rd dr b ac sp cn wh sw swc swt kp t1 t2 ly wi 0 0 ⟨fun _ => ⟨fun g => by omega, fun g => hl_ft (d := d + 1) hb hn1 h.1 (Nat.le_of_eq (Nat.zero_add _)) (Nat.le_of_eq (Nat.zero_add _)) (fun x' sp' wh' q1 q2 q3 q4 q5 =>  ab_x1 (c_spansNotIn (d + 6) q3 (by decide) (by omega) (by omega) kt (by decide) (by omega) (by omega)) (hl_gd (hz_s h q1 q2.1.1 (q5 12 (by decide) (by decide)) h.2.2.1 h.2.2.2.1 h.2.2.2.2.1 h.2.2.2.2.2 (Or.inr ⟨p, ?_⟩) (by repeat' first | exact rfl | refine ⟨_, rfl, ?_⟩ | refine ⟨_, _, rfl, ?_⟩)))), fun g => hl_ft (d := d + 1) hb hn1 h.1 (Nat.le_of_eq (Nat.zero_add _)) (Nat.le_of_eq (Nat.zero_add _)) (fun x' sp' wh' q1 q2 q3 q4 q5 =>  ab_x1 (c_headsUnlike (d + 6) q3 (by decide) (by omega) (by omega) kt (by decide) (by omega) (by omega)) (hl_gd (hz_s h q1 q2.1.1 (q5 12 (by decide) (by decide)) h.2.2.1 h.2.2.2.1 h.2.2.2.2.1 h.2.2.2.2.2 (Or.inr ⟨p, ?_⟩) (by repeat' first | exact rfl | refine ⟨_, rfl, ?_⟩ | refine ⟨_, _, rfl, ?_⟩)))), fun g => hl_ft (d := d + 1) hb hn1 h.1 (Nat.le_of_eq (Nat.zero_add _)) (Nat.le_of_eq (Nat.zero_add _)) (fun x' sp' wh' q1 q2 q3 q4 q5 =>  ab_x1 (c_ranksUnlike (d + 6) ⟨hn1, hn.2⟩ q3 kt) (hl_gd (hz_s h q1 q2.1.1 (q5 12 (by decide) (by decide)) h.2.2.1 h.2.2.2.1 h.2.2.2.2.1 h.2.2.2.2.2 (Or.inr ⟨p, ?_⟩) (by repeat' first | exact rfl | refine ⟨_, rfl, ?_⟩ | refine ⟨_, _, rfl, ?_⟩)))), trivial⟩, fun g => absurd g p.1⟩)⟩
    · subst g; rfl
    · subst g; rfl
    · subst g; rfl
  · refine ⟨0, 0, hkb0, ab_ct kX8_unlike rfl rfl (fun c hc => vX8_unlike_0 hc what x rd dr b ac sp cn wh sw swc swt kp t1 t2 ly wi 0 0 ⟨fun k => ⟨fun g => hl_rf (hz_r h (Or.inl ⟨p, rfl⟩) rfl), fun g => absurd ⟨k, by omega, by omega⟩ p, fun g => absurd ⟨k, by omega, by omega⟩ p, fun g => absurd ⟨k, by omega, by omega⟩ p, trivial⟩, fun g => hl_rf (hz_r h (Or.inl ⟨p, rfl⟩) rfl)⟩)⟩
theorem h_keptBreaks (d : Nat) {x rd dr b ac sp cn wh sw swc swt kp t1 t2 ly wi : ab_Ob} {c' : Int → Int → Int → Int → Int} (hb : hB b) (h : hI b x sp cn wh sw swc swt t1 t2 ly wi) (hk : ¬ x.1 12 = 0 → 1 ≤ b.1 3 ∧ tb_ok kp c' 0 (b.1 3 - 1)) : hE (d + 9) mX8_keptBreaks [ab_O 0] (fun RT => an_keptBreaks b (¬ x.1 12 = 0) c' RT) x rd dr b ac sp cn wh sw swc swt kp t1 t2 ly wi := by
  refine ⟨0, 0, hkb0, ab_ct kX8_keptBreaks rfl rfl (fun c hc => vX8_keptBreaks_0 hc x rd dr b ac sp cn wh sw swc swt kp t1 t2 ly wi 0 0 ⟨fun g => hl_rf (hz_r h (Or.inl ⟨fun y => y g, rfl⟩) rfl), fun g => ab_x1 (c_breaksOfAll (d + 3) hb.1 (sc_dd_db hb.2) (hk g).2 (by decide) (by have := (hk g).1; omega) (by omega)) (hl_gd (hz_0 h (Or.inr ⟨g, rfl⟩) rfl))⟩)⟩
/-- answered with other weights learned -/
theorem hz_w {bs : List Bool} {P : Int × Int → Prop} {a : Int} {x rd dr b ac sp cn wh sw swc swt kp t1 t2 ly wi sw' swc' swt' : ab_Ob} (h : hI b x sp cn wh sw swc swt t1 t2 ly wi) (h' : sw_ok b sw' swc' swt') (hl : sw_ln sw') (hc : ch_len swc') (e : P (a, (0 : Int))) (m : ab_shw bs [x, rd, dr, b, ac, sp, cn, wh, sw, swc, swt, kp, t1, t2, ly, wi] [ab_pf x 0 0, rd, dr, b, ac, sp, cn, wh, sw', swc', swt', kp, t1, t2, ly, wi]) : ((∃ z : Int, some (ab_I a) = some (ab_I z)) ∧ ab_shw bs [x, rd, dr, b, ac, sp, cn, wh, sw, swc, swt, kp, t1, t2, ly, wi] [ab_pf x 0 0, rd, dr, b, ac, sp, cn, wh, sw', swc', swt', kp, t1, t2, ly, wi]) ∧ (∃ RT : Int × Int, P RT ∧ some (ab_I a) = some (ab_I RT.1) ∧ hQ x rd dr b ac kp RT.2 (sw_k sw + ch_k swc) (sw_s sw + ch_s swc) (hk sp cn sw swc) (hs sp cn sw swc) [ab_pf x 0 0, rd, dr, b, ac, sp, cn, wh, sw', swc', swt', kp, t1, t2, ly, wi]) := by
  refine ⟨⟨⟨_, rfl⟩, m⟩, _, e, rfl, _, _, _, _, _, _, _, _, _, _, _, rfl, ⟨h.1, h', h.2.2⟩, hd_pf_eq x 0 0, rfl, ?_, ?_⟩
  · unfold hk
    rw [ch_k_0 hc, sw_k_0 hl]
    omega
  · unfold hs
    rw [ch_s_0 hc, sw_s_0 hl]
    omega
theorem h_firm (d : Nat) {x rd dr b ac sp cn wh sw swc swt kp t1 t2 ly wi : ab_Ob} (hb : hB b) (h : hI b x sp cn wh sw swc swt t1 t2 ly wi) (r up : Int) : hE (d + 9) mX8_firm [ab_O 0, ab_I r, ab_I up] (fun RT => an_firm b r up RT) x rd dr b ac sp cn wh sw swc swt kp t1 t2 ly wi := by
  by_cases p : 1 ≤ b.1 3 ∧ 0 ≤ r ∧ r < 6
  · refine ⟨sw_k sw + ch_k swc, sw_s sw + ch_s swc, hkb3, ab_ct kX8_firm rfl rfl (fun c hc => vX8_firm_0 hc r up x rd dr b ac sp cn wh sw swc swt kp t1 t2 ly wi 0 0 (ab_xb (h_hasRule (d + 6) r x rd dr b ac sp cn wh sw swc swt kp t1 t2 ly wi) (fun _ => ⟨fun _ => ⟨fun g => ⟨_, _, ⟨Nat.le_of_eq (Nat.zero_add _), Nat.le_of_eq (Nat.zero_add _)⟩, _, c_firmDownTo d b sw swc swt hb.1 hb.2 p.1 h.2.1 p.2, fun r6 v7 v8 v9 v10 hq => ?_⟩, fun g => ⟨_, _, ⟨Nat.le_of_eq (Nat.zero_add _), Nat.le_of_eq (Nat.zero_add _)⟩, _, c_firmUpTo d b sw swc swt hb.1 hb.2 p.1 h.2.1 p.2, fun r6 v7 v8 v9 v10 hq => ?_⟩⟩, fun g => absurd g (by decide)⟩) (fun q => absurd p q)))⟩
    · obtain ⟨u0, u1, u2, e, ⟨o1, o2, o3⟩, z, ez, hz⟩ := hq
      cases ez
      cases e
      exact hl_gd (hz_w h o1 o2 o3 (Or.inr ⟨p, rfl, fun y => absurd g y, fun _ => hz⟩) (by repeat' first | exact rfl | refine ⟨_, rfl, ?_⟩ | refine ⟨_, _, rfl, ?_⟩))
    · obtain ⟨u0, u1, u2, e, ⟨o1, o2, o3⟩, z, ez, hz⟩ := hq
      cases ez
      cases e
      exact hl_gd (hz_w h o1 o2 o3 (Or.inr ⟨p, rfl, fun _ => hz, fun y => absurd y g⟩) (by repeat' first | exact rfl | refine ⟨_, rfl, ?_⟩ | refine ⟨_, _, rfl, ?_⟩))
  · exact ⟨0, 0, hkb0, ab_ct kX8_firm rfl rfl (fun c hc => vX8_firm_0 hc r up x rd dr b ac sp cn wh sw swc swt kp t1 t2 ly wi 0 0 (ab_xb (h_hasRule (d + 6) r x rd dr b ac sp cn wh sw swc swt kp t1 t2 ly wi) (fun q => absurd q p) (fun _ => ⟨fun g => absurd rfl g, fun _ => hl_rf (hz_r h (Or.inl ⟨p, rfl⟩) rfl)⟩)))⟩
theorem h_swayed (d : Nat) {x rd dr b ac sp cn wh sw swc swt kp t1 t2 ly wi : ab_Ob} (hb : hB b) (h : hI b x sp cn wh sw swc swt t1 t2 ly wi) (r v : Int) : hE (d + 9) mX8_swayed [ab_O 0, ab_I r, ab_I v] (fun RT => an_swayed b r v RT) x rd dr b ac sp cn wh sw swc swt kp t1 t2 ly wi := by
  by_cases p : 1 ≤ b.1 3 ∧ 0 ≤ r ∧ r < 6
  · by_cases pv : 0 ≤ v ∧ v ≤ 99
    · refine ⟨sw_k sw + ch_k swc, sw_s sw + ch_s swc, hkb3, ab_ct kX8_swayed rfl rfl (fun c hc => vX8_swayed_0 hc r v x rd dr b ac sp cn wh sw swc swt kp t1 t2 ly wi 0 0 (ab_xb (h_hasRule (d + 6) r x rd dr b ac sp cn wh sw swc swt kp t1 t2 ly wi) (fun _ => ⟨fun _ => ⟨fun g => by omega, fun g => ⟨fun g2 => ⟨_, _, ⟨Nat.le_of_eq (Nat.zero_add _), Nat.le_of_eq (Nat.zero_add _)⟩, _, c_breaksWith d b sw swc swt hb.1 hb.2 p.1 h.2.1 p.2 pv, fun r6 v7 v8 v9 v10 hq => ?_⟩, fun g2 => by omega⟩⟩, fun g => absurd g (by decide)⟩) (fun q => absurd p q)))⟩
      obtain ⟨u0, u1, u2, e, ⟨o1, o2, o3, _⟩, ez⟩ := hq
      cases ez
      cases e
      exact hl_gd (hz_w h o1 o2 o3 (Or.inr ⟨p, Or.inr ⟨pv, rfl⟩⟩) (by repeat' first | exact rfl | refine ⟨_, rfl, ?_⟩ | refine ⟨_, _, rfl, ?_⟩))
    · exact ⟨0, 0, hkb0, ab_ct kX8_swayed rfl rfl (fun c hc => vX8_swayed_0 hc r v x rd dr b ac sp cn wh sw swc swt kp t1 t2 ly wi 0 0 (ab_xb (h_hasRule (d + 6) r x rd dr b ac sp cn wh sw swc swt kp t1 t2 ly wi) (fun _ => ⟨fun _ => ⟨fun g => hl_rf (hz_r h (Or.inr ⟨p, Or.inl ⟨pv, rfl⟩⟩) rfl), fun g => ⟨fun g2 => by omega, fun g2 => hl_rf (hz_r h (Or.inr ⟨p, Or.inl ⟨pv, rfl⟩⟩) rfl)⟩⟩, fun g => absurd g (by decide)⟩) (fun q => absurd p q)))⟩
  · exact ⟨0, 0, hkb0, ab_ct kX8_swayed rfl rfl (fun c hc => vX8_swayed_0 hc r v x rd dr b ac sp cn wh sw swc swt kp t1 t2 ly wi 0 0 (ab_xb (h_hasRule (d + 6) r x rd dr b ac sp cn wh sw swc swt kp t1 t2 ly wi) (fun q => absurd q p) (fun _ => ⟨fun g => absurd rfl g, fun _ => hl_rf (hz_r h (Or.inl ⟨p, rfl⟩) rfl)⟩)))⟩
theorem h_sways (d : Nat) {x rd dr b ac sp cn wh sw swc swt kp t1 t2 ly wi : ab_Ob} (hb : hB b) (h : hI b x sp cn wh sw swc swt t1 t2 ly wi) (r k : Int) : hE (d + 9) mX8_sways [ab_O 0, ab_I r, ab_I k] (fun RT => an_sways b r k RT) x rd dr b ac sp cn wh sw swc swt kp t1 t2 ly wi := by
  by_cases p : (0 ≤ k ∧ k < b.1 3) ∧ 0 ≤ r ∧ r < 6
  · have n1 : 1 ≤ b.1 3 := by omega
    refine ⟨sw_k sw + ch_k swc, sw_s sw + ch_s swc, hkb3, ab_ct kX8_sways rfl rfl (fun c hc => vX8_sways_0 hc r k x rd dr b ac sp cn wh sw swc swt kp t1 t2 ly wi 0 0 (ab_xb (h_hasRule (d + 6) r x rd dr b ac sp cn wh sw swc swt kp t1 t2 ly wi) (fun _ => ⟨fun g => absurd g (by decide), fun _ => ab_xb (h_hasNote (d + 7) k x rd dr b ac sp cn wh sw swc swt kp t1 t2 ly wi) (fun _ => ⟨fun _ => ⟨_, _, ⟨Nat.le_of_eq (Nat.zero_add _), Nat.le_of_eq (Nat.zero_add _)⟩, _, c_learnAll d b sw swc swt hb.1 hb.2 n1 h.2.1 p.2, fun v7 v8 v9 v10 hq => ?_⟩, fun g => absurd g (by decide)⟩) (fun q => absurd p.1 q)⟩) (fun q => absurd ⟨n1, p.2⟩ q)))⟩
    obtain ⟨_, u0, u1, u2, e, o1, o2, o3, o4⟩ := hq
    cases e
    refine ⟨_, c_leastWeightFor (d + 7) b v7 v8 v9 o1 o2 p.2 o4 (k := k), fun z hz => ?_⟩
    obtain ⟨_, z', ez, lw⟩ := hz
    cases ez
    exact hl_gd (hz_w h o1 o2 o3 (Or.inr ⟨p, rfl, lw⟩) (by repeat' first | exact rfl | refine ⟨_, rfl, ?_⟩ | refine ⟨_, _, rfl, ?_⟩))
  · exact ⟨0, 0, hkb0, ab_ct kX8_sways rfl rfl (fun c hc => vX8_sways_0 hc r k x rd dr b ac sp cn wh sw swc swt kp t1 t2 ly wi 0 0 (ab_xb (h_hasRule (d + 6) r x rd dr b ac sp cn wh sw swc swt kp t1 t2 ly wi) (fun q1 => ⟨fun g => absurd g (by decide), fun _ => ab_xb (h_hasNote (d + 7) k x rd dr b ac sp cn wh sw swc swt kp t1 t2 ly wi) (fun q2 => absurd ⟨q2, q1.2⟩ p) (fun q2 => ⟨fun g => absurd rfl g, fun _ => hl_rf (hz_r h (Or.inl ⟨p, rfl⟩) rfl)⟩)⟩) (fun q1 => ⟨fun _ => hl_rf (hz_r h (Or.inl ⟨p, rfl⟩) rfl), fun g => absurd rfl g⟩)))⟩
