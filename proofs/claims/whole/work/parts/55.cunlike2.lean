/-! two trees beside one another: the class, counting -/
theorem jo_no_iff {L : List (Int × Int × Int × Int)} {e : Int × Int × Int × Int} : jo_no L e = true ↔ ∀ e' ∈ L, ¬ (e'.1 = e.1 ∧ e'.2.1 = e.2.1) := by
  unfold jo_no
  simp
theorem jo_hd_iff {L : List (Int × Int × Int × Int)} {e : Int × Int × Int × Int} : jo_hd L e = true ↔ ∃ e' ∈ L, e'.1 = e.1 ∧ e'.2.1 = e.2.1 ∧ ¬ e'.2.2.1 = e.2.2.1 := by
  unfold jo_hd
  simp
theorem tq_01 {f : Int × Int × Int × Int → Int} (hf : ∀ e, f e = 0 ∨ f e = 1) (L : List (Int × Int × Int × Int)) : 0 ≤ tq_sm f L ∧ tq_sm f L ≤ L.length := by
  have := tq_sm_b (f := f) (B := 1) (L := L) (fun e _ => by have := hf e; omega)
  omega
theorem c_spansNotIn (d : Nat) {v w : ab_Ob} {c c' : Int → Int → Int → Int → Int} {i j i' j' : Int} (hv : tb_ok v c i j) (h0 : 0 ≤ i) (h1 : i ≤ j) (h3 : j ≤ 23) (hw : tb_ok w c' i' j') (h0' : 0 ≤ i') (h1' : i' ≤ j') (h3' : j' ≤ 23) : ab_Ct (d + 2) 0 0 mX7_spansNotIn [ab_O 0, ab_O 1] [v, w] (ab_Is (tq_sm (fun e => if jo_no (tr_J c' i' j' (dp_H c' i' j') 0) e = true then 1 else 0) (tr_J c i j (dp_H c i j) 0)) [v, w]) := by
  have e2 := hv.2.2.2.1
  have len := tb_at hv h1
  obtain ⟨n3, n4, n5, n6, n7, n8, n9⟩ := hv.1
  refine ab_ct kX7_spansNotIn rfl rfl (fun x hx => vX7_spansNotIn_0 hx v w 0 0 ?_)
  have key : ∀ (q t : Nat), t + q = (j - i).toNat → ab_J x 4 [some (ab_O 0), some (ab_O 1), some (ab_I (tq_sm (fun e => if jo_no (tr_J c' i' j' (dp_H c' i' j') 0) e = true then 1 else 0) ((tr_J c i j (dp_H c i j) 0).take t))), some (ab_I t)] [] [v, w] 0 0 := by
    intro q
    induction q with
    | zero =>
      intro t ht
      refine vX7_spansNotIn_4 hx _ _ v w 0 0 ⟨fun _ => ab_lf rfl ?_, fun g => absurd (by omega) g⟩
      rw [List.take_of_length_le (by omega)]
    | succ q ih =>
      intro t ht
      have tl : t < (tr_J c i j (dp_H c i j) 0).length := by omega
      have het := List.getElem?_eq_getElem tl
      generalize (tr_J c i j (dp_H c i j) 0)[t] = e at het
      obtain ⟨a1, ⟨r1, r2, r3, r4⟩, a3, a4, a5, a6, a7, a8⟩ := tb_e hv h0 h1 h3 het
      have nx := ih (t + 1) (by omega)
      rw [tq_sm_s _ het] at nx
      have b1 := tq_01 (f := fun e => if jo_no (tr_J c' i' j' (dp_H c' i' j') 0) e = true then 1 else 0) (fun e => by split <;> omega) ((tr_J c i j (dp_H c i j) 0).take t)
      have bl : (((tr_J c i j (dp_H c i j) 0).take t).length : Int) ≤ 24 := by rw [List.length_take]; omega
      refine vX7_spansNotIn_4 hx _ _ v w 0 0 ⟨fun g => absurd g (by omega), fun _ => ⟨by omega, by omega, ?_⟩⟩
      rw [r1, r2]
      refine ⟨_, c_joiningOf d hw h0' h1' h3', fun r hr => ?_⟩
      obtain ⟨_, r', er, hj⟩ := hr
      cases er
      rcases hj with ⟨j1, j2⟩ | ⟨t', e', j1, j2, j3, j4⟩
      · have : jo_no (tr_J c' i' j' (dp_H c' i' j') 0) e = true := jo_no_iff.mpr j2
        rw [if_pos this] at nx
        exact ⟨fun g => absurd j1 g, fun _ => ⟨by omega, by omega, nx⟩⟩
      · have : ¬ jo_no (tr_J c' i' j' (dp_H c' i' j') 0) e = true := fun h => jo_no_iff.mp h e' (List.mem_of_getElem? j2) ⟨j3, j4⟩
        rw [if_neg this] at nx
        exact ⟨fun _ => ⟨by omega, by omega, nx⟩, fun g => absurd g (by omega)⟩
  exact key (j - i).toNat 0 (by omega)
theorem c_headsUnlike (d : Nat) {v w : ab_Ob} {c c' : Int → Int → Int → Int → Int} {i j i' j' : Int} (hv : tb_ok v c i j) (h0 : 0 ≤ i) (h1 : i ≤ j) (h3 : j ≤ 23) (hw : tb_ok w c' i' j') (h0' : 0 ≤ i') (h1' : i' ≤ j') (h3' : j' ≤ 23) : ab_Ct (d + 2) 0 0 mX7_headsUnlike [ab_O 0, ab_O 1] [v, w] (ab_Is (tq_sm (fun e => if jo_hd (tr_J c' i' j' (dp_H c' i' j') 0) e = true then 1 else 0) (tr_J c i j (dp_H c i j) 0)) [v, w]) := by
  have e2 := hv.2.2.2.1
  have len := tb_at hv h1
  have hH' := dp_H_in (c := c') h1'
  obtain ⟨n3, n4, n5, n6, n7, n8, n9⟩ := hv.1
  have m6 := hw.1.2.2.2.1
  refine ab_ct kX7_headsUnlike rfl rfl (fun x hx => vX7_headsUnlike_0 hx v w 0 0 ?_)
  have key : ∀ (q t : Nat), t + q = (j - i).toNat → ab_J x 4 [some (ab_O 0), some (ab_O 1), some (ab_I (tq_sm (fun e => if jo_hd (tr_J c' i' j' (dp_H c' i' j') 0) e = true then 1 else 0) ((tr_J c i j (dp_H c i j) 0).take t))), some (ab_I t), none] [] [v, w] 0 0 := by
    intro q
    induction q with
    | zero =>
      intro t ht
      refine vX7_headsUnlike_4 hx _ _ v w 0 0 ⟨fun _ => ab_lf rfl ?_, fun g => absurd (by omega) g⟩
      rw [List.take_of_length_le (by omega)]
    | succ q ih =>
      intro t ht
      have tl : t < (tr_J c i j (dp_H c i j) 0).length := by omega
      have het := List.getElem?_eq_getElem tl
      generalize (tr_J c i j (dp_H c i j) 0)[t] = e at het
      obtain ⟨a1, ⟨r1, r2, r3, r4⟩, a3, a4, a5, a6, a7, a8⟩ := tb_e hv h0 h1 h3 het
      have nx := ih (t + 1) (by omega)
      rw [tq_sm_s _ het] at nx
      have b1 := tq_01 (f := fun e => if jo_hd (tr_J c' i' j' (dp_H c' i' j') 0) e = true then 1 else 0) (fun e => by split <;> omega) ((tr_J c i j (dp_H c i j) 0).take t)
      have bl : (((tr_J c i j (dp_H c i j) 0).take t).length : Int) ≤ 24 := by rw [List.length_take]; omega
      refine vX7_headsUnlike_4 hx _ _ v w 0 0 ⟨fun g => absurd g (by omega), fun _ => ⟨by omega, by omega, ?_⟩⟩
      rw [r1, r2]
      refine ⟨_, c_joiningOf d hw h0' h1' h3', fun r hr => ?_⟩
      obtain ⟨_, r', er, hj⟩ := hr
      cases er
      rcases hj with ⟨j1, j2⟩ | ⟨t', e', j1, j2, j3, j4⟩
      · have : ¬ jo_hd (tr_J c' i' j' (dp_H c' i' j') 0) e = true := fun h => by
          obtain ⟨e', y1, y2, y3, _⟩ := jo_hd_iff.mp h
          exact j2 e' y1 ⟨y2, y3⟩
        rw [if_neg this] at nx
        exact ⟨fun _ => ⟨by omega, by omega, nx⟩, fun g => absurd j1 g⟩
      · obtain ⟨z1, ⟨s1, s2, s3, s4⟩, z3, z4, z5, z6, z7, z8⟩ := tb_e hw h0' h1' h3' j2
        subst j1
        refine ⟨fun g => absurd g (by omega), fun _ => ⟨by omega, by omega, ?_⟩⟩
        rw [r3, s3]
        refine ⟨fun g => ?_, fun g => ?_⟩
        · have : ¬ jo_hd (tr_J c' i' j' (dp_H c' i' j') 0) e = true := fun h => by
            obtain ⟨y, y1, y2, y3, y4⟩ := jo_hd_iff.mp h
            have := jo_uni hH'.1 hH'.2 y y1 e' (List.mem_of_getElem? j2) (by omega) (by omega)
            subst this
            exact y4 g
          rw [if_neg this] at nx
          exact ⟨by omega, by omega, nx⟩
        · have : jo_hd (tr_J c' i' j' (dp_H c' i' j') 0) e = true := jo_hd_iff.mpr ⟨e', List.mem_of_getElem? j2, j3, j4, g⟩
          rw [if_pos this] at nx
          exact ⟨by omega, by omega, nx⟩
  exact key (j - i).toNat 0 (by omega)
theorem c_rank' (d : Nat) {v : ab_Ob} {c : Int → Int → Int → Int → Int} {n k : Int} (hn : 1 ≤ n ∧ n ≤ 24) (hv : tb_ok v c 0 (n - 1)) (h1 : 0 ≤ k) (h2 : k < n) : ab_Ct (d + 1) 0 0 mX7_rank [ab_O 0, ab_I k] [v] (ab_Is (mt_rk (tr_A c n) k) [v]) := by
  obtain ⟨f, o, hf⟩ := tp_ex c (i := 0) (j := n - 1) h1 (by omega)
  have := c_rank d hv (by omega) h1 (by omega) (by omega) hf
  rw [(tp_A hn h1 h2 hf).2.1]
  exact this
theorem c_ranksUnlike (d : Nat) {v w : ab_Ob} {c c' : Int → Int → Int → Int → Int} {n : Int} (hn : 1 ≤ n ∧ n ≤ 24) (hv : tb_ok v c 0 (n - 1)) (hw : tb_ok w c' 0 (n - 1)) : ab_Ct (d + 2) 0 0 mX7_ranksUnlike [ab_O 0, ab_O 1, ab_I n] [v, w] (ab_Is (hd_sm (fun k => if mt_rk (tr_A c n) k = mt_rk (tr_A c' n) k then 0 else 1) 0 n.toNat) [v, w]) := by
  refine ab_ct kX7_ranksUnlike rfl rfl (fun x hx => vX7_ranksUnlike_0 hx n v w 0 0 ?_)
  have key : ∀ (q k : Nat), (k : Int) + q = n → ab_J x 5 [some (ab_O 0), some (ab_O 1), some (ab_I n), some (ab_I (hd_sm (fun k => if mt_rk (tr_A c n) k = mt_rk (tr_A c' n) k then 0 else 1) 0 k)), some (ab_I k)] [] [v, w] 0 0 := by
    intro q
    induction q with
    | zero =>
      intro k hk
      have : k = n.toNat := by omega
      subst this
      exact vX7_ranksUnlike_5 hx _ _ _ v w 0 0 ⟨fun _ => ab_lf rfl rfl, fun g => absurd (by omega) g⟩
    | succ q ih =>
      intro k hk
      have nx := ih (k + 1) (by push_cast; omega)
      simp only [hd_sm, Int.zero_add] at nx
      have b1 := hd_sm_b (f := fun k => if mt_rk (tr_A c n) k = mt_rk (tr_A c' n) k then 0 else 1) (i := 0) (B := 1) (m := k) (fun k _ _ => by split <;> omega)
      refine vX7_ranksUnlike_5 hx _ _ _ v w 0 0 ⟨fun g => absurd g (by omega), fun _ => ab_x1 (c_rank' d hn hv (by omega) (by omega)) (ab_x1 (c_rank' d hn hw (by omega) (by omega)) ⟨fun g => ⟨by omega, by omega, ?_⟩, fun g => ⟨by omega, by omega, ?_⟩⟩)⟩
      · rw [if_pos g] at nx; exact nx
      · rw [if_neg g] at nx; exact nx
  exact key n.toNat 0 (by omega)
theorem c_isLike (d : Nat) {v w : ab_Ob} {c : Int → Int → Int → Int → Int} {i j f : Int} (h0 : 0 ≤ i) (h1 : i ≤ j) (h3 : j ≤ 23) (g0 : 0 ≤ i + f) (g3 : j + f ≤ 23) (hv : tb_ok v c i j) (hw : tb_ok w c (i + f) (j + f)) : ab_Ct (d + 1) 0 0 mX7_isLike [ab_O 0, ab_O 1, ab_I f] [v, w] (ab_Bo (∀ (t : Nat) e e', (tr_J c i j (dp_H c i j) 0)[t]? = some e → (tr_J c (i + f) (j + f) (dp_H c (i + f) (j + f)) 0)[t]? = some e' → tq_sp c e + f = tq_sp c e' ∧ e.2.2.1 + f = e'.2.2.1) [v, w]) := by
  have e2 := hv.2.2.2.1
  have e2' := hw.2.2.2.1
  have len := tb_at hv h1
  have len' := tb_at hw (by omega)
  obtain ⟨n3, n4, n5, n6, n7, n8, n9⟩ := hv.1
  obtain ⟨m3, m4, m5, m6, m7, m8, m9⟩ := hw.1
  refine ab_ct kX7_isLike rfl rfl (fun x hx => ?_)
  have key : ∀ (q t : Nat), t + q = (j - i).toNat → (∀ (t' : Nat) e e', t' < t → (tr_J c i j (dp_H c i j) 0)[t']? = some e → (tr_J c (i + f) (j + f) (dp_H c (i + f) (j + f)) 0)[t']? = some e' → tq_sp c e + f = tq_sp c e' ∧ e.2.2.1 + f = e'.2.2.1) → ab_J x 15 [some (ab_O 0), some (ab_O 1), some (ab_I f), some (ab_I t)] [] [v, w] 0 0 := by
    intro q
    induction q with
    | zero =>
      intro t ht hall
      refine vX7_isLike_15 hx _ _ v w 0 0 ⟨fun _ => ⟨ab_i11, ab_l1b rfl (fun t' e e' y1 y2 => ?_)⟩, fun g => absurd (by omega) g⟩
      obtain ⟨wl, _⟩ := List.getElem?_eq_some_iff.mp y1
      exact hall t' e e' (by omega) y1 y2
    | succ q ih =>
      intro t ht hall
      have tl : t < (tr_J c i j (dp_H c i j) 0).length := by omega
      have tl' : t < (tr_J c (i + f) (j + f) (dp_H c (i + f) (j + f)) 0).length := by omega
      have het := List.getElem?_eq_getElem tl
      have het' := List.getElem?_eq_getElem tl'
      generalize (tr_J c i j (dp_H c i j) 0)[t] = e at het
      generalize (tr_J c (i + f) (j + f) (dp_H c (i + f) (j + f)) 0)[t] = e' at het'
      obtain ⟨a1, ⟨r1, r2, r3, r4⟩, a3, a4, a5, a6, a7, a8⟩ := tb_e hv h0 h1 h3 het
      obtain ⟨z1, ⟨s1, s2, s3, s4⟩, z3, z4, z5, z6, z7, z8⟩ := tb_e hw g0 (by omega) g3 het'
      have r5 : (v.2 5).2 t = tq_sp c e := a3.1
      have s5 : (w.2 5).2 t = tq_sp c e' := z3.1
      refine vX7_isLike_15 hx _ _ v w 0 0 ⟨fun g => absurd g (by omega), fun _ => ⟨by omega, by omega, by omega, ?_⟩⟩
      rw [r5, s5, r3, s3]
      refine ⟨fun g => ⟨ab_i01, ab_l0b rfl (fun h => g (h t e e' het het').1)⟩, fun g => ⟨by omega, by omega, by omega, fun g2 => ⟨by omega, ih (t + 1) (by omega) (fun t' y y' h1 h2 h3 => ?_)⟩, fun g2 => ⟨ab_i01, ab_l0b rfl (fun h => g2 (h t e e' het het').2)⟩⟩⟩
      by_cases eq : t' = t
      · subst eq
        rw [het] at h2
        rw [het'] at h3
        cases h2; cases h3
        exact ⟨g, g2⟩
      · exact hall t' y y' (by omega) h2 h3
  refine vX7_isLike_0 hx f v w 0 0 ⟨fun _ => key (j - i).toNat 0 (by omega) (fun t' e e' h => absurd h (by omega)), fun g => absurd (by omega) g⟩
