/-! THE CLASS, asked about its tree -/
theorem h_joinings (d : Nat) {x rd dr b ac sp cn wh sw swc swt kp t1 t2 ly wi : ab_Ob} (hb : hB b) (h : hI b x sp cn wh sw swc swt t1 t2 ly wi) : hE (d + 9) mX8_joinings [ab_O 0] (fun RT => RT = an_joinings b) x rd dr b ac sp cn wh sw swc swt kp t1 t2 ly wi := by
  have hn := hb.1.2.1
  by_cases hn1 : 1 ≤ b.1 3
  · refine ⟨ch_k sp, ch_s sp, hkb1, ab_ct kX8_joinings rfl rfl (fun c hc => vX8_joinings_0 hc x rd dr b ac sp cn wh sw swc swt kp t1 t2 ly wi 0 0 (ab_xb (h_hasPiece (d + 7) x rd dr b ac sp cn wh sw swc swt kp t1 t2 ly wi) (fun _ => ⟨fun g => absurd g (by decide), fun _ => hl_ft (d := d + 1) hb hn1 h.1 (Nat.le_of_eq (Nat.zero_add _)) (Nat.le_of_eq (Nat.zero_add _)) (fun x' sp' wh' q1 q2 q3 q4 q5 =>  hl_gd (hz_s h q1 q2.1.1 (q5 12 (by decide) (by decide)) h.2.2.1 h.2.2.2.1 h.2.2.2.2.1 h.2.2.2.2.2 ?_ (by repeat' first | exact rfl | refine ⟨_, rfl, ?_⟩ | refine ⟨_, _, rfl, ?_⟩)))⟩) (fun q => absurd hn1 q)))⟩
    have e2 : wh'.1 2 = b.1 3 - 1 - 0 := q3.2.2.2.1
    unfold an_joinings
    rw [if_neg (by omega), e2, Int.sub_zero]
  · refine ⟨0, 0, hkb0, ab_ct kX8_joinings rfl rfl (fun c hc => vX8_joinings_0 hc x rd dr b ac sp cn wh sw swc swt kp t1 t2 ly wi 0 0 (ab_xb (h_hasPiece (d + 7) x rd dr b ac sp cn wh sw swc swt kp t1 t2 ly wi) (fun q => absurd q hn1) (fun _ => ⟨fun _ => hl_rf (hz_r h ?_ rfl), fun g => absurd rfl g⟩)))⟩
    unfold an_joinings
    rw [if_pos (by omega)]
theorem h_deepest (d : Nat) {x rd dr b ac sp cn wh sw swc swt kp t1 t2 ly wi : ab_Ob} (hb : hB b) (h : hI b x sp cn wh sw swc swt t1 t2 ly wi) : hE (d + 9) mX8_deepest [ab_O 0] (fun RT => RT = an_deepest b) x rd dr b ac sp cn wh sw swc swt kp t1 t2 ly wi := by
  have hn := hb.1.2.1
  by_cases hn1 : 1 ≤ b.1 3
  · refine ⟨ch_k sp, ch_s sp, hkb1, ab_ct kX8_deepest rfl rfl (fun c hc => vX8_deepest_0 hc x rd dr b ac sp cn wh sw swc swt kp t1 t2 ly wi 0 0 (ab_xb (h_hasPiece (d + 7) x rd dr b ac sp cn wh sw swc swt kp t1 t2 ly wi) (fun _ => ⟨fun g => absurd g (by decide), fun _ => hl_ft (d := d + 1) hb hn1 h.1 (Nat.le_of_eq (Nat.zero_add _)) (Nat.le_of_eq (Nat.zero_add _)) (fun x' sp' wh' q1 q2 q3 q4 q5 =>  ab_x1 (c_greatestDepth (d + 7) q3 (by decide) (by omega) (by omega)) (hl_gd (hz_s h q1 q2.1.1 (q5 12 (by decide) (by decide)) h.2.2.1 h.2.2.2.1 h.2.2.2.2.1 h.2.2.2.2.2 ?_ (by repeat' first | exact rfl | refine ⟨_, rfl, ?_⟩ | refine ⟨_, _, rfl, ?_⟩))))⟩) (fun q => absurd hn1 q)))⟩
    unfold an_deepest
    rw [if_neg (by omega), tq_deep _ hn1]
    rfl
  · refine ⟨0, 0, hkb0, ab_ct kX8_deepest rfl rfl (fun c hc => vX8_deepest_0 hc x rd dr b ac sp cn wh sw swc swt kp t1 t2 ly wi 0 0 (ab_xb (h_hasPiece (d + 7) x rd dr b ac sp cn wh sw swc swt kp t1 t2 ly wi) (fun q => absurd q hn1) (fun _ => ⟨fun _ => hl_rf (hz_r h ?_ rfl), fun g => absurd rfl g⟩)))⟩
    unfold an_deepest
    rw [if_pos (by omega)]
theorem h_joining (d : Nat) {x rd dr b ac sp cn wh sw swc swt kp t1 t2 ly wi : ab_Ob} (hb : hB b) (h : hI b x sp cn wh sw swc swt t1 t2 ly wi) (i what : Int) : hE (d + 9) mX8_joining [ab_O 0, ab_I i, ab_I what] (fun RT => RT = an_joining b i what) x rd dr b ac sp cn wh sw swc swt kp t1 t2 ly wi := by
  have hn := hb.1.2.1
  by_cases hn1 : 1 ≤ b.1 3
  · refine ⟨ch_k sp, ch_s sp, hkb1, ab_ct kX8_joining rfl rfl (fun c hc => vX8_joining_0 hc i what x rd dr b ac sp cn wh sw swc swt kp t1 t2 ly wi 0 0 (ab_xb (h_hasPiece (d + 7) x rd dr b ac sp cn wh sw swc swt kp t1 t2 ly wi) (fun _ => ⟨fun _ => hl_ft (d := d + 1) hb hn1 h.1 (Nat.le_of_eq (Nat.zero_add _)) (Nat.le_of_eq (Nat.zero_add _)) (fun x' sp' wh' q1 q2 q3 q4 q5 =>  ?_), fun g => absurd g (by decide)⟩) (fun q => absurd hn1 q)))⟩
    have e2 : wh'.1 2 = b.1 3 - 1 - 0 := q3.2.2.2.1
    have no : ¬ (0 ≤ i ∧ i < b.1 3 - 1) → ((-1 : Int), (1 : Int)) = an_joining b i what := fun p => by
      unfold an_joining
      rw [if_neg p]
    refine ⟨fun g => hl_rf (hz_s h q1 q2.1.1 (q5 12 (by decide) (by decide)) h.2.2.1 h.2.2.2.1 h.2.2.2.2.1 h.2.2.2.2.2 (no (by omega)) (by repeat' first | exact rfl | refine ⟨_, rfl, ?_⟩ | refine ⟨_, _, rfl, ?_⟩)), fun g => ⟨fun g2 => ?_, fun g2 => hl_rf (hz_s h q1 q2.1.1 (q5 12 (by decide) (by decide)) h.2.2.1 h.2.2.2.1 h.2.2.2.2.1 h.2.2.2.2.2 (no (by omega)) (by repeat' first | exact rfl | refine ⟨_, rfl, ?_⟩ | refine ⟨_, _, rfl, ?_⟩))⟩⟩
    have hi : 0 ≤ i ∧ i < b.1 3 - 1 := by omega
    have ln := tr_B_len (sc_br b) hn1
    have he : (tr_B (sc_br b) (b.1 3))[i.toNat]? = some ((tr_B (sc_br b) (b.1 3))[i.toNat]'(by omega)) := List.getElem?_eq_getElem (by omega)
    generalize (tr_B (sc_br b) (b.1 3))[i.toNat]'(by omega) = e at he
    rw [an_joining_some hi he]
    obtain ⟨⟨s1, s2, s3, s4⟩, s5, s6, s7⟩ := q3.2.2.2.2.1 i.toNat e he
    have ei : ((i.toNat : Nat) : Int) = i := by omega
    rw [ei] at s1 s2 s3 s4 s5 s6
    obtain ⟨l3, l4, l5, l6, l7, l8, l9⟩ := q3.1
    have cb := c_breaksAt (d + 4) hb.1 (sc_dd_db hb.2) q3 (by decide) (by omega) (by omega) (t := i.toNat) he
    rw [ei] at cb
    refine ⟨fun g => hl_rf (hz_s h q1 q2.1.1 (q5 12 (by decide) (by decide)) h.2.2.1 h.2.2.2.1 h.2.2.2.2.1 h.2.2.2.2.2 ?_ (by repeat' first | exact rfl | refine ⟨_, rfl, ?_⟩ | refine ⟨_, _, rfl, ?_⟩)), fun g => ⟨by omega, hl_gd (hz_s h q1 q2.1.1 (q5 12 (by decide) (by decide)) h.2.2.1 h.2.2.2.1 h.2.2.2.2.1 h.2.2.2.2.2 ?_ (by repeat' first | exact rfl | refine ⟨_, rfl, ?_⟩ | refine ⟨_, _, rfl, ?_⟩))⟩, fun g => ⟨by omega, hl_gd (hz_s h q1 q2.1.1 (q5 12 (by decide) (by decide)) h.2.2.1 h.2.2.2.1 h.2.2.2.2.1 h.2.2.2.2.2 ?_ (by repeat' first | exact rfl | refine ⟨_, rfl, ?_⟩ | refine ⟨_, _, rfl, ?_⟩))⟩, fun g => ⟨by omega, hl_gd (hz_s h q1 q2.1.1 (q5 12 (by decide) (by decide)) h.2.2.1 h.2.2.2.1 h.2.2.2.2.1 h.2.2.2.2.2 ?_ (by repeat' first | exact rfl | refine ⟨_, rfl, ?_⟩ | refine ⟨_, _, rfl, ?_⟩))⟩, fun g => ⟨by omega, hl_gd (hz_s h q1 q2.1.1 (q5 12 (by decide) (by decide)) h.2.2.1 h.2.2.2.1 h.2.2.2.2.1 h.2.2.2.2.2 ?_ (by repeat' first | exact rfl | refine ⟨_, rfl, ?_⟩ | refine ⟨_, _, rfl, ?_⟩))⟩, fun g => ⟨by omega, hl_gd (hz_s h q1 q2.1.1 (q5 12 (by decide) (by decide)) h.2.2.1 h.2.2.2.1 h.2.2.2.2.1 h.2.2.2.2.2 ?_ (by repeat' first | exact rfl | refine ⟨_, rfl, ?_⟩ | refine ⟨_, _, rfl, ?_⟩))⟩, fun g => ab_x1 cb (hl_gd (hz_s h q1 q2.1.1 (q5 12 (by decide) (by decide)) h.2.2.1 h.2.2.2.1 h.2.2.2.2.1 h.2.2.2.2.2 ?_ (by repeat' first | exact rfl | refine ⟨_, rfl, ?_⟩ | refine ⟨_, _, rfl, ?_⟩))), fun g => ⟨by omega, hl_gd (hz_s h q1 q2.1.1 (q5 12 (by decide) (by decide)) h.2.2.1 h.2.2.2.1 h.2.2.2.2.1 h.2.2.2.2.2 ?_ (by repeat' first | exact rfl | refine ⟨_, rfl, ?_⟩ | refine ⟨_, _, rfl, ?_⟩))⟩, trivial⟩
    · unfold an_joinE
      rw [if_neg (by omega), if_neg (by omega), if_neg (by omega), if_neg (by omega), if_neg (by omega), if_neg (by omega), if_neg (by omega)]
    · subst g; rw [s1]; rfl
    · subst g; rw [s2]; rfl
    · subst g; rw [s5]; rfl
    · subst g; rw [s3]; rfl
    · subst g; rw [s6]; rfl
    · subst g; rfl
    · subst g; rw [s4]; rfl
  · refine ⟨0, 0, hkb0, ab_ct kX8_joining rfl rfl (fun c hc => vX8_joining_0 hc i what x rd dr b ac sp cn wh sw swc swt kp t1 t2 ly wi 0 0 (ab_xb (h_hasPiece (d + 7) x rd dr b ac sp cn wh sw swc swt kp t1 t2 ly wi) (fun q => absurd q hn1) (fun _ => ⟨fun g => absurd rfl g, fun _ => hl_rf (hz_r h ?_ rfl)⟩)))⟩
    unfold an_joining
    rw [if_neg (by omega)]
theorem h_under (d : Nat) {x rd dr b ac sp cn wh sw swc swt kp t1 t2 ly wi : ab_Ob} (hb : hB b) (h : hI b x sp cn wh sw swc swt t1 t2 ly wi) (k : Int) : hE (d + 9) mX8_under [ab_O 0, ab_I k] (fun RT => an_under b k RT) x rd dr b ac sp cn wh sw swc swt kp t1 t2 ly wi := by
  have hn := hb.1.2.1
  by_cases p : 0 ≤ k ∧ k < b.1 3
  · have hn1 : 1 ≤ b.1 3 := by omega
    obtain ⟨f, o, hf⟩ := tp_ex (sc_br b) (i := 0) (j := b.1 3 - 1) p.1 (by omega)
    exact ⟨ch_k sp, ch_s sp, hkb1, ab_ct kX8_under rfl rfl (fun c hc => vX8_under_0 hc k x rd dr b ac sp cn wh sw swc swt kp t1 t2 ly wi 0 0 (ab_xb (h_hasNote (d + 7) k x rd dr b ac sp cn wh sw swc swt kp t1 t2 ly wi) (fun _ => ⟨fun g => absurd g (by decide), fun _ => hl_ft (d := d + 1) hb hn1 h.1 (Nat.le_of_eq (Nat.zero_add _)) (Nat.le_of_eq (Nat.zero_add _)) (fun x' sp' wh' q1 q2 q3 q4 q5 =>  ab_x1 (c_notesUnder (d + 6) q3 (by decide) p.1 (by omega) (by omega) hf) (hl_gd (hz_s h q1 q2.1.1 (q5 12 (by decide) (by decide)) h.2.2.1 h.2.2.2.1 h.2.2.2.2.1 h.2.2.2.2.2 (Or.inr ⟨p, f, o, hf, rfl⟩) (by repeat' first | exact rfl | refine ⟨_, rfl, ?_⟩ | refine ⟨_, _, rfl, ?_⟩))))⟩) (fun q => absurd p q)))⟩
  · exact ⟨0, 0, hkb0, ab_ct kX8_under rfl rfl (fun c hc => vX8_under_0 hc k x rd dr b ac sp cn wh sw swc swt kp t1 t2 ly wi 0 0 (ab_xb (h_hasNote (d + 7) k x rd dr b ac sp cn wh sw swc swt kp t1 t2 ly wi) (fun q => absurd q p) (fun _ => ⟨fun _ => hl_rf (hz_r h (Or.inl ⟨p, rfl⟩) rfl), fun g => absurd rfl g⟩)))⟩
theorem h_reach (d : Nat) {x rd dr b ac sp cn wh sw swc swt kp t1 t2 ly wi : ab_Ob} (hb : hB b) (h : hI b x sp cn wh sw swc swt t1 t2 ly wi) (k what : Int) : hE (d + 9) mX8_reach [ab_O 0, ab_I k, ab_I what] (fun RT => an_reach b k what RT) x rd dr b ac sp cn wh sw swc swt kp t1 t2 ly wi := by
  have hn := hb.1.2.1
  by_cases p : 0 ≤ k ∧ k < b.1 3
  · have hn1 : 1 ≤ b.1 3 := by omega
    obtain ⟨f, o, hf⟩ := tp_ex (sc_br b) (i := 0) (j := b.1 3 - 1) p.1 (by omega)
    refine ⟨ch_k sp, ch_s sp, hkb1, ab_ct kX8_reach rfl rfl (fun c hc => vX8_reach_0 hc k what x rd dr b ac sp cn wh sw swc swt kp t1 t2 ly wi 0 0 (ab_xb (h_hasNote (d + 7) k x rd dr b ac sp cn wh sw swc swt kp t1 t2 ly wi) (fun _ => ⟨fun _ => hl_ft (d := d + 1) hb hn1 h.1 (Nat.le_of_eq (Nat.zero_add _)) (Nat.le_of_eq (Nat.zero_add _)) (fun x' sp' wh' q1 q2 q3 q4 q5 =>  ⟨fun g => hl_rf (hz_s h q1 q2.1.1 (q5 12 (by decide) (by decide)) h.2.2.1 h.2.2.2.1 h.2.2.2.2.1 h.2.2.2.2.2 (Or.inl ⟨by omega, rfl⟩) (by repeat' first | exact rfl | refine ⟨_, rfl, ?_⟩ | refine ⟨_, _, rfl, ?_⟩)), fun g => ab_x1 (c_partFirst (d + 7) q3 (by decide) p.1 (by omega) (by omega) hf) (hl_gd (hz_s h q1 q2.1.1 (q5 12 (by decide) (by decide)) h.2.2.1 h.2.2.2.1 h.2.2.2.2.1 h.2.2.2.2.2 (Or.inr ⟨⟨p, by omega, by omega⟩, f, o, hf, ?_⟩) (by repeat' first | exact rfl | refine ⟨_, rfl, ?_⟩ | refine ⟨_, _, rfl, ?_⟩))), fun g => ab_x1 (c_partLast (d + 7) q3 (by decide) p.1 (by omega) (by omega) hf) (hl_gd (hz_s h q1 q2.1.1 (q5 12 (by decide) (by decide)) h.2.2.1 h.2.2.2.1 h.2.2.2.2.1 h.2.2.2.2.2 (Or.inr ⟨⟨p, by omega, by omega⟩, f, o, hf, ?_⟩) (by repeat' first | exact rfl | refine ⟨_, rfl, ?_⟩ | refine ⟨_, _, rfl, ?_⟩))), fun g => ab_x1 (c_noteOver (d + 7) q3 (by decide) p.1 (by omega) (by omega) hf) (hl_gd (hz_s h q1 q2.1.1 (q5 12 (by decide) (by decide)) h.2.2.1 h.2.2.2.1 h.2.2.2.2.1 h.2.2.2.2.2 (Or.inr ⟨⟨p, by omega, by omega⟩, f, o, hf, ?_⟩) (by repeat' first | exact rfl | refine ⟨_, rfl, ?_⟩ | refine ⟨_, _, rfl, ?_⟩))), trivial⟩), fun g => absurd g (by decide)⟩) (fun q => absurd p q)))⟩
    · subst g; rfl
    · subst g; rfl
    · subst g; rfl
  · exact ⟨0, 0, hkb0, ab_ct kX8_reach rfl rfl (fun c hc => vX8_reach_0 hc k what x rd dr b ac sp cn wh sw swc swt kp t1 t2 ly wi 0 0 (ab_xb (h_hasNote (d + 7) k x rd dr b ac sp cn wh sw swc swt kp t1 t2 ly wi) (fun q => absurd q p) (fun _ => ⟨fun g => absurd rfl g, fun _ => hl_rf (hz_r h (Or.inl ⟨fun q => p q.1, rfl⟩) rfl)⟩)))⟩
theorem hd_lmax {α : Type} (f : α → Int) (P : α → Prop) : ∀ L : List α, (∃ e ∈ L, P e) → ∃ e ∈ L, P e ∧ ∀ e' ∈ L, P e' → f e' ≤ f e
  | [], h => by obtain ⟨e, he, _⟩ := h; cases he
  | a :: L, h => by
    by_cases q : ∃ e ∈ L, P e
    · obtain ⟨e, he, pe, hm⟩ := hd_lmax f P L q
      by_cases pa : P a ∧ f e ≤ f a
      · refine ⟨a, List.mem_cons_self, pa.1, fun e' he' pe' => ?_⟩
        rcases List.mem_cons.mp he' with y | y
        · rw [y]; exact Int.le_refl _
        · exact Int.le_trans (hm e' y pe') pa.2
      · refine ⟨e, List.mem_cons_of_mem _ he, pe, fun e' he' pe' => ?_⟩
        rcases List.mem_cons.mp he' with y | y
        · subst y
          rcases Int.le_total (f e') (f e) with z | z
          · exact z
          · exact absurd ⟨pe', z⟩ pa
        · exact hm e' y pe'
    · obtain ⟨e, he, pe⟩ := h
      rcases List.mem_cons.mp he with y | y
      · subst y
        refine ⟨e, List.mem_cons_self, pe, fun e' he' pe' => ?_⟩
        rcases List.mem_cons.mp he' with z | z
        · rw [z]; exact Int.le_refl _
        · exact absurd ⟨e', z, pe'⟩ q
      · exact absurd ⟨e, y, pe⟩ q
theorem ov_ex (c : Int → Int → Int → Int → Int) {n k o : Int} (hk : 0 ≤ k ∧ k < n) (ho : 0 ≤ o ∧ o < n) : ∃ e, ov_is (tr_A c n) k o e := by
  obtain ⟨r, hr⟩ := tr_Q_cons c 0 (n - 1) (dp_H c 0 (n - 1)) 0
  obtain ⟨e, he, pe, hm⟩ := hd_lmax (fun e : Int × Int × Int × Int => e.2.2.2) (fun e => (e.1 ≤ k ∧ k ≤ e.2.1) ∧ (e.1 ≤ o ∧ o ≤ e.2.1)) (tr_A c n) ⟨(0, n - 1, dp_H c 0 (n - 1), 0), by unfold tr_A; rw [hr]; exact List.mem_cons_self, by show (0 ≤ k ∧ k ≤ n - 1) ∧ (0 ≤ o ∧ o ≤ n - 1); omega⟩
  exact ⟨e, he, pe.1, pe.2, fun e' he' a1 a2 a3 a4 => hm e' he' ⟨⟨a1, a2⟩, a3, a4⟩⟩
theorem h_over (d : Nat) {x rd dr b ac sp cn wh sw swc swt kp t1 t2 ly wi : ab_Ob} (hb : hB b) (h : hI b x sp cn wh sw swc swt t1 t2 ly wi) (k o : Int) : hE (d + 9) mX8_over [ab_O 0, ab_I k, ab_I o] (fun RT => an_over b k o RT) x rd dr b ac sp cn wh sw swc swt kp t1 t2 ly wi := by
  have hn := hb.1.2.1
  by_cases p : (0 ≤ k ∧ k < b.1 3) ∧ 0 ≤ o ∧ o < b.1 3
  · have hn1 : 1 ≤ b.1 3 := by omega
    obtain ⟨e, he⟩ := ov_ex (sc_br b) p.1 p.2
    exact ⟨ch_k sp, ch_s sp, hkb1, ab_ct kX8_over rfl rfl (fun c hc => vX8_over_0 hc k o x rd dr b ac sp cn wh sw swc swt kp t1 t2 ly wi 0 0 (ab_xb (h_hasNote (d + 7) k x rd dr b ac sp cn wh sw swc swt kp t1 t2 ly wi) (fun _ => ⟨fun g => absurd g (by decide), fun _ => ab_xb (h_hasNote (d + 7) o x rd dr b ac sp cn wh sw swc swt kp t1 t2 ly wi) (fun _ => ⟨fun _ => hl_ft (d := d + 1) hb hn1 h.1 (Nat.le_of_eq (Nat.zero_add _)) (Nat.le_of_eq (Nat.zero_add _)) (fun x' sp' wh' q1 q2 q3 q4 q5 =>  ab_x1 (c_headOverBoth (d + 7) q3 (by decide) (by omega) (by omega) (by omega) (by omega) he) (hl_gd (hz_s h q1 q2.1.1 (q5 12 (by decide) (by decide)) h.2.2.1 h.2.2.2.1 h.2.2.2.2.1 h.2.2.2.2.2 (Or.inr ⟨p, e, he, rfl⟩) (by repeat' first | exact rfl | refine ⟨_, rfl, ?_⟩ | refine ⟨_, _, rfl, ?_⟩)))), fun g => absurd g (by decide)⟩) (fun q => absurd p.2 q)⟩) (fun q => absurd p.1 q)))⟩
  · exact ⟨0, 0, hkb0, ab_ct kX8_over rfl rfl (fun c hc => vX8_over_0 hc k o x rd dr b ac sp cn wh sw swc swt kp t1 t2 ly wi 0 0 (ab_xb (h_hasNote (d + 7) k x rd dr b ac sp cn wh sw swc swt kp t1 t2 ly wi) (fun q1 => ⟨fun g => absurd g (by decide), fun _ => ab_xb (h_hasNote (d + 7) o x rd dr b ac sp cn wh sw swc swt kp t1 t2 ly wi) (fun q2 => absurd ⟨q1, q2⟩ p) (fun q2 => ⟨fun g => absurd rfl g, fun _ => hl_rf (hz_r h (Or.inl ⟨p, rfl⟩) rfl)⟩)⟩) (fun q1 => ⟨fun _ => hl_rf (hz_r h (Or.inl ⟨p, rfl⟩) rfl), fun g => absurd rfl g⟩)))⟩
