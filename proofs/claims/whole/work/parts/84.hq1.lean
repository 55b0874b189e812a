/-! THE CLASS, asked -/
theorem h_about (d : Nat) {x rd dr b ac sp cn wh sw swc swt kp t1 t2 ly wi : ab_Ob} (hb : hB b) (h : hI b x sp cn wh sw swc swt t1 t2 ly wi) (what : Int) : hE (d + 9) mX8_about [ab_O 0, ab_I what] (fun RT => RT = an_about b what) x rd dr b ac sp cn wh sw swc swt kp t1 t2 ly wi := by
  have hn := hb.1.2.1
  refine ⟨0, 0, hkb0, ab_ct kX8_about rfl rfl (fun c hc => vX8_about_0 hc what x rd dr b ac sp cn wh sw swc swt kp t1 t2 ly wi 0 0 (ab_xb (h_hasPiece (d + 7) x rd dr b ac sp cn wh sw swc swt kp t1 t2 ly wi) (fun p => ?_) (fun p => ⟨fun g => absurd rfl g, fun _ => hl_rf (hz_r h ?_ rfl)⟩)))⟩
  · have n0 : ¬ b.1 3 = 0 := by omega
    refine ⟨fun _ => ⟨fun g => hl_rf (hz_r h ?_ rfl), fun g => hl_gd (hz_0 h ?_ rfl), fun g => hl_gd (hz_0 h ?_ rfl), fun g => hl_gd (hz_0 h ?_ rfl), fun g => hl_gd (hz_0 h ?_ rfl), fun g => ⟨by omega, ab_x1 (c_lasting (d + 7) b hb.1 (by decide) (by omega) (by omega)) (hl_gd (hz_0 h ?_ rfl))⟩, fun g => ab_x1 (c_weighted (d + 7) b hb.1) (hl_gd (hz_0 h ?_ rfl)), trivial⟩, fun g => absurd g (by decide)⟩
    · unfold an_about
      rw [if_neg n0, if_neg (by omega), if_neg (by omega), if_neg (by omega), if_neg (by omega), if_neg (by omega), if_neg (by omega)]
    · subst g; unfold an_about; rw [if_neg n0]; rfl
    · subst g; unfold an_about; rw [if_neg n0]; rfl
    · subst g; unfold an_about; rw [if_neg n0]; rfl
    · subst g; unfold an_about; rw [if_neg n0]; rfl
    · subst g; unfold an_about; rw [if_neg n0, show b.1 3 - 1 + 1 - 0 = b.1 3 by omega]; rfl
    · subst g; unfold an_about; rw [if_neg n0]; rfl
  · unfold an_about
    rw [if_pos (by omega)]
theorem h_weight (d : Nat) {x rd dr b ac sp cn wh sw swc swt kp t1 t2 ly wi : ab_Ob} (hb : hB b) (h : hI b x sp cn wh sw swc swt t1 t2 ly wi) (r : Int) : hE (d + 9) mX8_weight [ab_O 0, ab_I r] (fun RT => RT = an_weight b r) x rd dr b ac sp cn wh sw swc swt kp t1 t2 ly wi := by
  have n6 := hb.1.1.2.2.1
  refine ⟨0, 0, hkb0, ab_ct kX8_weight rfl rfl (fun c hc => vX8_weight_0 hc r x rd dr b ac sp cn wh sw swc swt kp t1 t2 ly wi 0 0 (ab_xb (h_hasRule (d + 6) r x rd dr b ac sp cn wh sw swc swt kp t1 t2 ly wi) (fun p => ⟨fun g => absurd g (by decide), fun _ => ⟨by omega, hl_gd (hz_0 h ?_ rfl)⟩⟩) (fun p => ⟨fun _ => hl_rf (hz_r h ?_ rfl), fun g => absurd rfl g⟩)))⟩
  · unfold an_weight; rw [if_pos p]
  · unfold an_weight; rw [if_neg p]
theorem h_broken (d : Nat) {x rd dr b ac sp cn wh sw swc swt kp t1 t2 ly wi : ab_Ob} (hb : hB b) (h : hI b x sp cn wh sw swc swt t1 t2 ly wi) (r hd u l q : Int) : hE (d + 9) mX8_broken [ab_O 0, ab_I r, ab_I hd, ab_I u, ab_I l, ab_I q] (fun RT => RT = an_broken b r hd u l q) x rd dr b ac sp cn wh sw swc swt kp t1 t2 ly wi := by
  have n6 := hb.1.1.2.2.1
  have n1 : ∀ p : ¬ (((0 ≤ hd ∧ hd < b.1 3) ∧ (0 ≤ u ∧ u < b.1 3)) ∧ ¬ hd = u ∧ 0 ≤ r ∧ r < 6), ((-1 : Int), (1 : Int)) = an_broken b r hd u l q := fun p => by
    unfold an_broken; rw [if_neg p]
  have n2 : ∀ (_ : ((0 ≤ hd ∧ hd < b.1 3) ∧ (0 ≤ u ∧ u < b.1 3)) ∧ ¬ hd = u ∧ 0 ≤ r ∧ r < 6) (_ : ¬ ((1 ≤ l ∧ l ≤ 23) ∧ 1 ≤ q ∧ q ≤ 23)), ((-1 : Int), (2 : Int)) = an_broken b r hd u l q := fun p p2 => by
    unfold an_broken; rw [if_pos p, if_neg p2]
  refine ⟨0, 0, hkb0, ab_ct kX8_broken rfl rfl (fun c hc => vX8_broken_0 hc r hd u l q x rd dr b ac sp cn wh sw swc swt kp t1 t2 ly wi 0 0 (ab_xb (h_hasRule (d + 6) r x rd dr b ac sp cn wh sw swc swt kp t1 t2 ly wi) (fun p1 => ⟨fun g => absurd g (by decide), fun _ => ab_xb (h_hasNote (d + 7) hd x rd dr b ac sp cn wh sw swc swt kp t1 t2 ly wi) (fun p2 => ⟨fun g => absurd g (by decide), fun _ => ab_xb (h_hasNote (d + 7) u x rd dr b ac sp cn wh sw swc swt kp t1 t2 ly wi) (fun p3 => ⟨fun g => absurd g (by decide), fun _ => ⟨fun g => ⟨fun g1 => hl_rf (hz_r h (n2 (by omega) (by omega)) rfl), fun g1 => ⟨fun g2 => hl_rf (hz_r h (n2 (by omega) (by omega)) rfl), fun g2 => ⟨fun g3 => hl_rf (hz_r h (n2 (by omega) (by omega)) rfl), fun g3 => ⟨fun g4 => ?_, fun g4 => hl_rf (hz_r h (n2 (by omega) (by omega)) rfl)⟩⟩⟩⟩, fun g => hl_rf (hz_r h (n1 (by omega)) rfl)⟩⟩) (fun p3 => ⟨fun _ => hl_rf (hz_r h (n1 (by omega)) rfl), fun g => absurd rfl g⟩)⟩) (fun p2 => ⟨fun _ => hl_rf (hz_r h (n1 (by omega)) rfl), fun g => absurd rfl g⟩)⟩) (fun p1 => ⟨fun _ => hl_rf (hz_r h (n1 (by omega)) rfl), fun g => absurd rfl g⟩)))⟩
  have bw := hb.1.2.2.2.2.2.2 r p1.2.1 p1.2.2
  have bu := sc_un_b hb.1 (sc_dd_db hb.2) (rule := r) p2 p3 (l := l) (r := q) (by omega) (by omega)
  have bm := Int.mul_le_mul bw.2 bu.2 bu.1 (by decide)
  have bm0 := Int.mul_nonneg bw.1 bu.1
  refine ⟨by omega, ab_x1 (c_units (d + 6) b hb.1 (sc_dd_db hb.2) p2 p3 (by omega) (by omega)) ⟨by omega, hl_gd (hz_0 h ?_ rfl)⟩⟩
  unfold an_broken; rw [if_pos (by omega), if_pos (by omega)]
theorem h_breaks (d : Nat) {x rd dr b ac sp cn wh sw swc swt kp t1 t2 ly wi : ab_Ob} (hb : hB b) (h : hI b x sp cn wh sw swc swt t1 t2 ly wi) (i j : Int) : hE (d + 9) mX8_breaks [ab_O 0, ab_I i, ab_I j] (fun RT => RT = an_breaks b i j) x rd dr b ac sp cn wh sw swc swt kp t1 t2 ly wi := by
  have hn := hb.1.2.1
  by_cases p : 0 ≤ i ∧ i ≤ j ∧ j < b.1 3
  · refine ⟨ch_k sp, ch_s sp, hkb1, ab_ct kX8_breaks rfl rfl (fun c hc => vX8_breaks_0 hc i j x rd dr b ac sp cn wh sw swc swt kp t1 t2 ly wi 0 0 (ab_xb (h_hasSpan (d + 7) i j x rd dr b ac sp cn wh sw swc swt kp t1 t2 ly wi) (fun _ => ⟨fun g => absurd g (by decide), fun _ => hl_fs (d := d + 3) hb h.1 (Nat.le_of_eq (Nat.zero_add _)) (Nat.le_of_eq (Nat.zero_add _)) (fun x' sp' q1 q2 q3 q4 => ab_x1 (c_least (d + 5) sp' q2.1.1 p.1 p.2.1 (by omega)) (hl_gd (hz_s h q1 q2.1.1 (q4 12 (by decide)) h.2.2.1 h.2.2.2.1 h.2.2.2.2.1 h.2.2.2.2.2 ?_ ?_)))⟩) (fun q => absurd p q)))⟩
    · unfold an_breaks an_B
      rw [if_pos p, ch_least q2 p.1 p.2.1 p.2.2, ← hd_am_val (fun h => dp_B (sc_br b) i j h)]
      rfl
    · repeat' first | exact rfl | refine ⟨_, rfl, ?_⟩ | refine ⟨_, _, rfl, ?_⟩
  · refine ⟨0, 0, hkb0, ab_ct kX8_breaks rfl rfl (fun c hc => vX8_breaks_0 hc i j x rd dr b ac sp cn wh sw swc swt kp t1 t2 ly wi 0 0 (ab_xb (h_hasSpan (d + 7) i j x rd dr b ac sp cn wh sw swc swt kp t1 t2 ly wi) (fun q => absurd q p) (fun _ => ⟨fun _ => hl_rf (hz_r h ?_ rfl), fun g => absurd rfl g⟩)))⟩
    unfold an_breaks
    rw [if_neg p]
theorem h_head (d : Nat) {x rd dr b ac sp cn wh sw swc swt kp t1 t2 ly wi : ab_Ob} (hb : hB b) (h : hI b x sp cn wh sw swc swt t1 t2 ly wi) (i j : Int) : hE (d + 9) mX8_head [ab_O 0, ab_I i, ab_I j] (fun RT => RT = an_head b i j) x rd dr b ac sp cn wh sw swc swt kp t1 t2 ly wi := by
  have hn := hb.1.2.1
  by_cases p : 0 ≤ i ∧ i ≤ j ∧ j < b.1 3
  · refine ⟨ch_k sp, ch_s sp, hkb1, ab_ct kX8_head rfl rfl (fun c hc => vX8_head_0 hc i j x rd dr b ac sp cn wh sw swc swt kp t1 t2 ly wi 0 0 (ab_xb (h_hasSpan (d + 7) i j x rd dr b ac sp cn wh sw swc swt kp t1 t2 ly wi) (fun _ => ⟨fun g => absurd g (by decide), fun _ => hl_fs (d := d + 3) hb h.1 (Nat.le_of_eq (Nat.zero_add _)) (Nat.le_of_eq (Nat.zero_add _)) (fun x' sp' q1 q2 q3 q4 =>  ab_x1 (c_bestHead (d + 6) sp' q2.1.1 p.1 p.2.1 (by omega)) (hl_gd (hz_s h q1 q2.1.1 (q4 12 (by decide)) h.2.2.1 h.2.2.2.1 h.2.2.2.2.1 h.2.2.2.2.2 ?_ (by repeat' first | exact rfl | refine ⟨_, rfl, ?_⟩ | refine ⟨_, _, rfl, ?_⟩))))⟩) (fun q => absurd p q)))⟩
    unfold an_head
    rw [if_pos p, ch_best q2 p.1 p.2.1 p.2.2]
  · refine ⟨0, 0, hkb0, ab_ct kX8_head rfl rfl (fun c hc => vX8_head_0 hc i j x rd dr b ac sp cn wh sw swc swt kp t1 t2 ly wi 0 0 (ab_xb (h_hasSpan (d + 7) i j x rd dr b ac sp cn wh sw swc swt kp t1 t2 ly wi) (fun q => absurd q p) (fun _ => ⟨fun _ => hl_rf (hz_r h ?_ rfl), fun g => absurd rfl g⟩)))⟩
    unfold an_head
    rw [if_neg p]
theorem h_split (d : Nat) {x rd dr b ac sp cn wh sw swc swt kp t1 t2 ly wi : ab_Ob} (hb : hB b) (h : hI b x sp cn wh sw swc swt t1 t2 ly wi) (i j : Int) : hE (d + 9) mX8_split [ab_O 0, ab_I i, ab_I j] (fun RT => RT = an_split b i j) x rd dr b ac sp cn wh sw swc swt kp t1 t2 ly wi := by
  have hn := hb.1.2.1
  by_cases p : 0 ≤ i ∧ i ≤ j ∧ j < b.1 3
  · by_cases e : i = j
    · refine ⟨0, 0, hkb0, ab_ct kX8_split rfl rfl (fun c hc => vX8_split_0 hc i j x rd dr b ac sp cn wh sw swc swt kp t1 t2 ly wi 0 0 (ab_xb (h_hasSpan (d + 7) i j x rd dr b ac sp cn wh sw swc swt kp t1 t2 ly wi) (fun _ => ⟨fun _ => ⟨fun g => absurd e g, fun _ => hl_gd (hz_0 h ?_ rfl)⟩, fun g => absurd g (by decide)⟩) (fun q => absurd p q)))⟩
      unfold an_split
      rw [if_pos p, if_neg (by omega)]
    · have hH := dp_H_in (c := sc_br b) p.2.1
      refine ⟨ch_k sp, ch_s sp, hkb1, ab_ct kX8_split rfl rfl (fun c hc => vX8_split_0 hc i j x rd dr b ac sp cn wh sw swc swt kp t1 t2 ly wi 0 0 (ab_xb (h_hasSpan (d + 7) i j x rd dr b ac sp cn wh sw swc swt kp t1 t2 ly wi) (fun _ => ⟨fun _ => ⟨fun _ => hl_fs (d := d + 3) hb h.1 (Nat.le_of_eq (Nat.zero_add _)) (Nat.le_of_eq (Nat.zero_add _)) (fun x' sp' q1 q2 q3 q4 =>  ab_x1 (c_bestHead (d + 6) sp' q2.1.1 p.1 p.2.1 (by omega)) ?_), fun g => absurd g e⟩, fun g => absurd g (by decide)⟩) (fun q => absurd p q)))⟩
      rw [ch_best q2 p.1 p.2.1 p.2.2]
      refine ab_x1 (c_bestSplit' (d + 4) sp' hn.2 (hB_cb hb) (sc_br_ev b) (hB_ev hb) q2 p.1 (by omega) p.2.2 hH.1 hH.2) (hl_gd (hz_s h q1 q2.1.1 (q4 12 (by decide)) h.2.2.1 h.2.2.2.1 h.2.2.2.2.1 h.2.2.2.2.2 ?_ (by repeat' first | exact rfl | refine ⟨_, rfl, ?_⟩ | refine ⟨_, _, rfl, ?_⟩)))
      unfold an_split
      rw [if_pos p, if_pos (by omega)]
  · refine ⟨0, 0, hkb0, ab_ct kX8_split rfl rfl (fun c hc => vX8_split_0 hc i j x rd dr b ac sp cn wh sw swc swt kp t1 t2 ly wi 0 0 (ab_xb (h_hasSpan (d + 7) i j x rd dr b ac sp cn wh sw swc swt kp t1 t2 ly wi) (fun q => absurd q p) (fun _ => ⟨fun g => absurd rfl g, fun _ => hl_rf (hz_r h ?_ rfl)⟩)))⟩
    unfold an_split
    rw [if_neg p]
theorem h_breaksBy (d : Nat) {x rd dr b ac sp cn wh sw swc swt kp t1 t2 ly wi : ab_Ob} (hb : hB b) (h : hI b x sp cn wh sw swc swt t1 t2 ly wi) (i j k : Int) : hE (d + 9) mX8_breaksBy [ab_O 0, ab_I i, ab_I j, ab_I k] (fun RT => RT = an_breaksBy b i j k) x rd dr b ac sp cn wh sw swc swt kp t1 t2 ly wi := by
  have hn := hb.1.2.1
  by_cases p : (0 ≤ i ∧ i ≤ j ∧ j < b.1 3) ∧ i ≤ k ∧ k ≤ j
  · refine ⟨ch_k sp, ch_s sp, hkb1, ab_ct kX8_breaksBy rfl rfl (fun c hc => vX8_breaksBy_0 hc i j k x rd dr b ac sp cn wh sw swc swt kp t1 t2 ly wi 0 0 (ab_xb (h_hasSpan (d + 7) i j x rd dr b ac sp cn wh sw swc swt kp t1 t2 ly wi) (fun _ => ⟨fun g => absurd g (by decide), fun _ => ⟨fun g => by omega, fun _ => ⟨fun _ => hl_fs (d := d + 3) hb h.1 (Nat.le_of_eq (Nat.zero_add _)) (Nat.le_of_eq (Nat.zero_add _)) (fun x' sp' q1 q2 q3 q4 =>  ab_x1 (c_cell (d + 6) sp' q2.1.1 p.1.1 p.1.2.1 (by omega) (by omega) (by omega)) (hl_gd (hz_s h q1 q2.1.1 (q4 12 (by decide)) h.2.2.1 h.2.2.2.1 h.2.2.2.2.1 h.2.2.2.2.2 ?_ (by repeat' first | exact rfl | refine ⟨_, rfl, ?_⟩ | refine ⟨_, _, rfl, ?_⟩)))), fun g => by omega⟩⟩⟩) (fun q => absurd p.1 q)))⟩
    have e := q2.2 i j p.1.1 p.1.2.1 p.1.2.2 k (by omega) (by omega)
    unfold ch_val at e
    rw [if_pos p.2] at e
    unfold an_breaksBy
    rw [if_pos p, e]
  · have e : ((-1 : Int), (1 : Int)) = an_breaksBy b i j k := by
      unfold an_breaksBy
      rw [if_neg p]
    exact ⟨0, 0, hkb0, ab_ct kX8_breaksBy rfl rfl (fun c hc => vX8_breaksBy_0 hc i j k x rd dr b ac sp cn wh sw swc swt kp t1 t2 ly wi 0 0 (ab_xb (h_hasSpan (d + 7) i j x rd dr b ac sp cn wh sw swc swt kp t1 t2 ly wi) (fun q => ⟨fun g => absurd g (by decide), fun _ => ⟨fun g => hl_rf (hz_r h e rfl), fun _ => ⟨fun _ => by omega, fun g => hl_rf (hz_r h e rfl)⟩⟩⟩) (fun q => ⟨fun _ => hl_rf (hz_r h e rfl), fun g => absurd rfl g⟩)))⟩
theorem h_splitCost (d : Nat) {x rd dr b ac sp cn wh sw swc swt kp t1 t2 ly wi : ab_Ob} (hb : hB b) (h : hI b x sp cn wh sw swc swt t1 t2 ly wi) (i j k : Int) : hE (d + 9) mX8_splitCost [ab_O 0, ab_I i, ab_I j, ab_I k] (fun RT => RT = an_splitCost b i j k) x rd dr b ac sp cn wh sw swc swt kp t1 t2 ly wi := by
  have hn := hb.1.2.1
  by_cases p : (0 ≤ i ∧ i ≤ j ∧ j < b.1 3) ∧ i ≤ k ∧ k < j
  · refine ⟨ch_k sp, ch_s sp, hkb1, ab_ct kX8_splitCost rfl rfl (fun c hc => vX8_splitCost_0 hc i j k x rd dr b ac sp cn wh sw swc swt kp t1 t2 ly wi 0 0 (ab_xb (h_hasSpan (d + 7) i j x rd dr b ac sp cn wh sw swc swt kp t1 t2 ly wi) (fun _ => ⟨fun g => absurd g (by decide), fun _ => ⟨fun g => by omega, fun _ => ⟨fun _ => hl_fs (d := d + 3) hb h.1 (Nat.le_of_eq (Nat.zero_add _)) (Nat.le_of_eq (Nat.zero_add _)) (fun x' sp' q1 q2 q3 q4 =>  ?_), fun g => by omega⟩⟩⟩) (fun q => absurd p.1 q)))⟩
    have w0 : sp'.1 0 = b.1 3 := q2.1.2.1
    have sm := ch_ok_sm hn.2 (hB_cb hb) (hB_ev hb) q2
    have eX : hd_mn (fun q => ch_sv sp' i j k q) i (j - i).toNat = an_X b i j k := hd_mn_congr fun q a c => ch_sv_dp (sc_br_ev b) q2.1 p.2.1 p.2.2 (by omega) (by omega) (by omega) (by omega) (q2.2 i k p.1.1 p.2.1 (by omega)) (q2.2 (k + 1) j (by omega) (by omega) p.1.2.2)
    have eB : hd_mn (fun q => ch_c sp' i j q) i (j - i).toNat = an_B b i j := by
      rw [ch_least q2 p.1.1 p.1.2.1 p.1.2.2, ← hd_am_val (fun h => dp_B (sc_br b) i j h)]
      rfl
    have bX : 0 ≤ an_X b i j k ∧ an_X b i j k ≤ 20000000 := by
      obtain ⟨q, q0, q1', e⟩ := hd_mn_ex (fun q => ch_sv sp' i j k q) i (j - i).toNat
      rw [eX] at e
      have c1 := sm.2.1 i k q p.1.1 p.2.1 (by omega) (by omega) (by omega)
      have c2 := sm.2.1 (k + 1) j q (by omega) (by omega) (by omega) (by omega) (by omega)
      have c3 : 0 ≤ sc_abs ((k + 1 - i) - (j - k)) ∧ sc_abs ((k + 1 - i) - (j - k)) ≤ 24 := by unfold sc_abs; split <;> omega
      have c4 := Int.mul_le_mul sm.1.2 c3.2 c3.1 (by decide)
      have c5 := Int.mul_nonneg sm.1.1 c3.1
      have e' : an_X b i j k = ch_c sp' i k q + ch_c sp' (k + 1) j q + sp'.1 1 * sc_abs ((k + 1 - i) - (j - k)) := e
      omega
    have bB : 0 ≤ an_B b i j ∧ an_B b i j ≤ 3000000 := by
      obtain ⟨q, q0, q1', e⟩ := hd_mn_ex (fun q => ch_c sp' i j q) i (j - i).toNat
      rw [eB] at e
      have c1 := sm.2.1 i j q p.1.1 p.1.2.1 (by omega) (by omega) (by omega)
      have e' : an_B b i j = ch_c sp' i j q := e
      omega
    have cA := c_leastSplitAt (d + 4) sp' q2.1.1 sm p.1.1 p.2.1 p.2.2 (by omega) (by omega)
    have cB := c_least (d + 5) sp' q2.1.1 p.1.1 p.1.2.1 (by omega)
    rw [eX] at cA
    rw [eB] at cB
    refine ab_x1 cA (ab_x1 cB ⟨by omega, hl_gd (hz_s h q1 q2.1.1 (q4 12 (by decide)) h.2.2.1 h.2.2.2.1 h.2.2.2.2.1 h.2.2.2.2.2 ?_ (by repeat' first | exact rfl | refine ⟨_, rfl, ?_⟩ | refine ⟨_, _, rfl, ?_⟩))⟩)
    unfold an_splitCost
    rw [if_pos p]
  · have e : ((-1 : Int), (1 : Int)) = an_splitCost b i j k := by
      unfold an_splitCost
      rw [if_neg p]
    exact ⟨0, 0, hkb0, ab_ct kX8_splitCost rfl rfl (fun c hc => vX8_splitCost_0 hc i j k x rd dr b ac sp cn wh sw swc swt kp t1 t2 ly wi 0 0 (ab_xb (h_hasSpan (d + 7) i j x rd dr b ac sp cn wh sw swc swt kp t1 t2 ly wi) (fun q => ⟨fun g => absurd g (by decide), fun _ => ⟨fun g => hl_rf (hz_r h e rfl), fun _ => ⟨fun _ => by omega, fun g => hl_rf (hz_r h e rfl)⟩⟩⟩) (fun q => ⟨fun _ => hl_rf (hz_r h e rfl), fun g => absurd rfl g⟩)))⟩
theorem h_second (d : Nat) {x rd dr b ac sp cn wh sw swc swt kp t1 t2 ly wi : ab_Ob} (hb : hB b) (h : hI b x sp cn wh sw swc swt t1 t2 ly wi) (i j : Int) : hE (d + 9) mX8_second [ab_O 0, ab_I i, ab_I j] (fun RT => an_sec b i j RT) x rd dr b ac sp cn wh sw swc swt kp t1 t2 ly wi := by
  have hn := hb.1.2.1
  by_cases p : 0 ≤ i ∧ i ≤ j ∧ j < b.1 3
  · by_cases e : i = j
    · exact ⟨0, 0, hkb0, ab_ct kX8_second rfl rfl (fun c hc => vX8_second_0 hc i j x rd dr b ac sp cn wh sw swc swt kp t1 t2 ly wi 0 0 (ab_xb (h_hasSpan (d + 7) i j x rd dr b ac sp cn wh sw swc swt kp t1 t2 ly wi) (fun _ => ⟨fun _ => ⟨fun g => absurd e g, fun _ => hl_gd (hz_0 h (Or.inr ⟨p, Or.inl ⟨e, rfl⟩⟩) rfl)⟩, fun g => absurd g (by decide)⟩) (fun q => absurd p q)))⟩
    · refine ⟨ch_k sp, ch_s sp, hkb1, ab_ct kX8_second rfl rfl (fun c hc => vX8_second_0 hc i j x rd dr b ac sp cn wh sw swc swt kp t1 t2 ly wi 0 0 (ab_xb (h_hasSpan (d + 7) i j x rd dr b ac sp cn wh sw swc swt kp t1 t2 ly wi) (fun _ => ⟨fun _ => ⟨fun _ => hl_fs (d := d + 3) hb h.1 (Nat.le_of_eq (Nat.zero_add _)) (Nat.le_of_eq (Nat.zero_add _)) (fun x' sp' q1 q2 q3 q4 =>  ⟨_, c_nextHead (d + 5) sp' q2.1.1 p.1 (by omega) (by omega), fun r hr => ?_⟩), fun g => absurd g e⟩, fun g => absurd g (by decide)⟩) (fun q => absurd p q)))⟩
      obtain ⟨_, r', er, nx⟩ := hr
      cases er
      rw [ch_best q2 p.1 p.2.1 p.2.2] at nx
      have ce : ∀ k : Int, i ≤ k → k ≤ j → ch_c sp' i j k = dp_B (sc_br b) i j k := fun k k0 k1 => by
        have e := q2.2 i j p.1 p.2.1 p.2.2 k (by omega) (by omega)
        unfold ch_val at e
        rwa [if_pos ⟨k0, k1⟩] at e
      refine hl_gd (hz_s h q1 q2.1.1 (q4 12 (by decide)) h.2.2.1 h.2.2.2.1 h.2.2.2.2.1 h.2.2.2.2.2 (Or.inr ⟨p, Or.inr ⟨by omega, rfl, nx.1, nx.2.1, nx.2.2.1, fun k k0 k1 k2 => ?_, fun k k0 k1 k2 => ?_⟩⟩) (by repeat' first | exact rfl | refine ⟨_, rfl, ?_⟩ | refine ⟨_, _, rfl, ?_⟩))
      · have y := nx.2.2.2.1 k k0 k1 k2
        dsimp only at y
        rw [ce k k0 k1, ce r nx.1 nx.2.1] at y
        exact y
      · have y := nx.2.2.2.2 k k0 k1 k2
        have n2 := nx.2.1
        dsimp only at y
        rw [ce k k0 (by omega), ce r nx.1 nx.2.1] at y
        exact y
  · exact ⟨0, 0, hkb0, ab_ct kX8_second rfl rfl (fun c hc => vX8_second_0 hc i j x rd dr b ac sp cn wh sw swc swt kp t1 t2 ly wi 0 0 (ab_xb (h_hasSpan (d + 7) i j x rd dr b ac sp cn wh sw swc swt kp t1 t2 ly wi) (fun q => absurd q p) (fun _ => ⟨fun g => absurd rfl g, fun _ => hl_rf (hz_r h (Or.inl ⟨p, rfl⟩) rfl)⟩)))⟩
