/-! THE REFERENCE, asked of levels -/
def an_L (b : ab_Ob) (dd : Int) : List (Int × Int × Int × Int) := lq_L (sc_br b) (b.1 3) dd
def an_lvl (b : ab_Ob) (dd : Int) (f : List (Int × Int × Int × Int) → Int × Int) : Int × Int := if b.1 3 = 0 then (-1, 1) else if 0 ≤ dd ∧ dd ≤ tq_dp (tr_A (sc_br b) (b.1 3)) then f (an_L b dd) else (-1, 2)
theorem an_lvl_f {b : ab_Ob} {dd : Int} {f : List (Int × Int × Int × Int) → Int × Int} (n1 : 1 ≤ b.1 3) (hd : 0 ≤ dd ∧ dd ≤ tq_dp (tr_A (sc_br b) (b.1 3))) : an_lvl b dd f = f (an_L b dd) := by
  unfold an_lvl
  rw [if_neg (by omega), if_pos hd]
theorem an_lvl_2 {b : ab_Ob} {dd : Int} {f : List (Int × Int × Int × Int) → Int × Int} (n1 : 1 ≤ b.1 3) (hd : ¬ (0 ≤ dd ∧ dd ≤ tq_dp (tr_A (sc_br b) (b.1 3)))) : an_lvl b dd f = (-1, 2) := by
  unfold an_lvl
  rw [if_neg (by omega), if_neg hd]
theorem an_L_in {b : ab_Ob} (hb : sc_ok b) (n1 : 1 ≤ b.1 3) {dd : Int} : (∀ e ∈ an_L b dd, e ∈ tr_A (sc_br b) (b.1 3) ∧ 0 ≤ e.1 ∧ e.1 ≤ e.2.2.1 ∧ e.2.2.1 ≤ e.2.1 ∧ e.2.1 < b.1 3) := by
  have hn := hb.2.1
  have hH := dp_H_in (c := sc_br b) (i := 0) (j := b.1 3 - 1) (by omega)
  intro e he
  have h1 : e ∈ tr_A (sc_br b) (b.1 3) := (List.mem_filter.mp he).1
  have ok := tr_Q_ok (sc_br b) 0 (b.1 3 - 1) _ 0 hH.1 hH.2 e h1
  unfold tr_ok at ok
  exact ⟨h1, by omega, by omega, by omega, by omega⟩
theorem an_L_len {b : ab_Ob} (hb : sc_ok b) (n1 : 1 ≤ b.1 3) {dd : Int} (hd : 0 ≤ dd) : 1 ≤ (an_L b dd).length ∧ (an_L b dd).length ≤ 24 := by
  have hn := hb.2.1
  have hH := dp_H_in (c := sc_br b) (i := 0) (j := b.1 3 - 1) (by omega)
  have cov : lq_cv 0 (an_L b dd) (b.1 3 - 1) := lq_cover (sc_br b) 0 (b.1 3 - 1) (dp_H (sc_br b) 0 (b.1 3 - 1)) 0 hH.1 hH.2 dd hd
  have := lq_cv_len cov
  refine ⟨?_, by omega⟩
  cases hL : an_L b dd with
  | nil =>
    rw [hL] at cov
    have : (0 : Int) = b.1 3 - 1 + 1 := cov
    omega
  | cons e l => simp
/-- the k-th of a level is met -/
theorem c9_levelN (d : Nat) {b m : ab_Ob} (h : mi_I b m) (dd : Int) : ab_Ct (d + 3) 0 0 mX9_levelAt [ab_O 0, ab_I dd, ab_I (-1)] [m] (ab_Is (an_L b dd).length [m]) := by
  have c := c9_levelAt d (dd := dd) h.2.2.2.2.2.2 (i := -1) (by omega)
  refine ⟨c.1, fun l E ad sz hok => ?_⟩
  have c2 := c.2 l E ad sz hok
  have e : (fun (r : Option ab_V) (w : List ab_Ob) => (ab_shr (ab_rt mX9_levelAt) (ab_rp mX9_levelAt) r ∧ ab_shw (ab_wr mX9_levelAt) [m] w) ∧ (w = [m] ∧ (((-1 : Int) = -1 ∧ r = some (ab_I (lq_L (sc_br b) (b.1 3) dd).length)) ∨ (((lq_L (sc_br b) (b.1 3) dd).length : Int) ≤ -1 ∧ (0 : Int) ≤ -1 ∧ r = some (ab_I (-1))) ∨ ∃ (p : Nat) (e : Int × Int × Int × Int), r = some (ab_I p) ∧ (0 : Int) ≤ -1 ∧ (tr_A (sc_br b) (b.1 3))[p]? = some e ∧ (lq_L (sc_br b) (b.1 3) dd)[(-1 : Int).toNat]? = some e))) = (fun r w => (ab_shr (ab_rt mX9_levelAt) (ab_rp mX9_levelAt) r ∧ ab_shw (ab_wr mX9_levelAt) [m] w) ∧ ab_Is (an_L b dd).length [m] r w) := by
    funext r w
    refine propext ⟨fun q => ⟨q.1, ?_⟩, fun q => ⟨q.1, q.2.2, Or.inl ⟨rfl, q.2.1⟩⟩⟩
    rcases q.2.2 with ⟨_, e⟩ | ⟨_, e, _⟩ | ⟨_, _, _, e, _⟩
    · exact ⟨e, q.2.1⟩
    · omega
    · omega
  rw [e] at c2
  exact c2
theorem c9_levelK (d : Nat) {b m : ab_Ob} (h : mi_I b m) (dd : Int) {k : Nat} {e : Int × Int × Int × Int} (hk : (an_L b dd)[k]? = some e) : ab_Ct (d + 3) 0 0 mX9_levelAt [ab_O 0, ab_I dd, ab_I k] [m] (fun rv v => v = [m] ∧ ∃ p : Nat, rv = some (ab_I p) ∧ (tr_A (sc_br b) (b.1 3))[p]? = some e) := by
  have c := c9_levelAt d (dd := dd) h.2.2.2.2.2.2 (i := k) (by omega)
  refine ⟨c.1, fun l E ad sz hok => ?_⟩
  have c2 := c.2 l E ad sz hok
  obtain ⟨wl, _⟩ := List.getElem?_eq_some_iff.mp hk
  have wl' : k < (lq_L (sc_br b) (b.1 3) dd).length := wl
  have tn : ((k : Int)).toNat = k := by omega
  have e : (fun (r : Option ab_V) (w : List ab_Ob) => (ab_shr (ab_rt mX9_levelAt) (ab_rp mX9_levelAt) r ∧ ab_shw (ab_wr mX9_levelAt) [m] w) ∧ (w = [m] ∧ (((k : Int) = -1 ∧ r = some (ab_I (lq_L (sc_br b) (b.1 3) dd).length)) ∨ (((lq_L (sc_br b) (b.1 3) dd).length : Int) ≤ k ∧ (0 : Int) ≤ k ∧ r = some (ab_I (-1))) ∨ ∃ (p : Nat) (e : Int × Int × Int × Int), r = some (ab_I p) ∧ (0 : Int) ≤ k ∧ (tr_A (sc_br b) (b.1 3))[p]? = some e ∧ (lq_L (sc_br b) (b.1 3) dd)[((k : Int)).toNat]? = some e))) = (fun r w => (ab_shr (ab_rt mX9_levelAt) (ab_rp mX9_levelAt) r ∧ ab_shw (ab_wr mX9_levelAt) [m] w) ∧ (w = [m] ∧ ∃ p : Nat, r = some (ab_I p) ∧ (tr_A (sc_br b) (b.1 3))[p]? = some e)) := by
    funext r w
    refine propext ⟨fun q => ⟨q.1, q.2.1, ?_⟩, fun q => ⟨q.1, q.2.1, ?_⟩⟩
    · rcases q.2.2 with ⟨e, _⟩ | ⟨e, _, _⟩ | ⟨p, e1, er, _, e2, e3⟩
      · omega
      · omega
      · rw [tn] at e3
        have : (an_L b dd)[k]? = some e1 := e3
        rw [hk] at this
        cases this
        exact ⟨p, er, e2⟩
    · obtain ⟨p, er, e2⟩ := q.2.2
      exact Or.inr (Or.inr ⟨p, e, er, by omega, e2, by rw [tn]; exact hk⟩)
  rw [e] at c2
  exact c2
theorem c9_levelPitch (d : Nat) {b m : ab_Ob} (h : mi_I b m) (dd : Int) {k : Nat} (hk : k < (an_L b dd).length) : ab_Ct (d + 4) 0 0 mX9_levelPitch [ab_O 0, ab_I dd, ab_I k] [m] (ab_Is (ly_p b (an_L b dd) k) [m]) := by
  have he := List.getElem?_eq_getElem hk
  generalize (an_L b dd)[k] = e at he
  obtain ⟨i1, hb, hdd, n1, hp, hq, hT⟩ := id h
  have hn := hb.2.1
  have ein := an_L_in hb n1 e (List.mem_of_getElem? he)
  refine ab_ct kX9_levelPitch rfl rfl (fun x hx => vX9_levelPitch_0 hx dd k m 0 0 ⟨_, c9_levelK d h dd he, fun r hr => ?_⟩)
  obtain ⟨_, p, er, hpp⟩ := hr
  cases er
  obtain ⟨a1, ⟨q1, q2, q3, q4⟩, a3, a4⟩ := md_e hT hpp
  have m33 := hT.2.1.2.2.1
  refine ⟨by omega, ?_⟩
  rw [q3, ly_p_some he]
  refine ab_x1 (c9_pitchOf (d + 2) m hT.1.1 (by omega) (by omega)) (ab_lf rfl ?_)
  exact (hp.2.2.2.2.1 e.2.2.1 (by omega) (by omega)).1
def an_level (b : ab_Ob) (dd : Int) : Int × Int := an_lvl b dd (fun L => (L.length, 0))
theorem c9_level (d : Nat) {b m : ab_Ob} (h : mi_S b m) (dd : Int) : ab_Ct (d + 4) 0 0 mX9_level [ab_O 0, ab_I dd] [m] (ab_Is (an_level b dd).1 [md_an m (an_level b dd).2]) := by
  refine ab_ct kX9_level rfl rfl (fun x hx => vX9_level_0 hx dd m 0 0 ?_)
  rcases h with ⟨h1, h2, h3⟩ | h
  · exact ⟨fun g => absurd h1 g, fun _ => md_rf (if_pos h2).symm⟩
  · have n1 := h.2.2.2.1
    exact ⟨fun _ => ab_xb (c9_isLevel (d + 1) (m := ab_pf m 0 0) h.2.2.2.2.2.2) (fun p => ⟨fun g => absurd g (by decide), fun _ => ab_x1 (c9_levelN d (mi_I_0 h) dd) (md_gd (an_lvl_f (f := fun L => ((L.length : Int), (0 : Int))) n1 p).symm)⟩) (fun p => ⟨fun _ => md_rf (an_lvl_2 n1 p).symm, fun g => absurd rfl g⟩), fun g => absurd g h.1⟩
def an_lnE (b : ab_Ob) (what : Int) (e : Int × Int × Int × Int) : Int × Int := if what = 0 then (e.2.2.1, 0) else if what = 1 then (hd_sm (b.2 5).2 0 e.1.toNat, 0) else if what = 2 then (hd_sm (b.2 5).2 e.1 (e.2.1 + 1 - e.1).toNat, 0) else (-1, 1)
def an_levelNote (b : ab_Ob) (dd k what : Int) : Int × Int := an_lvl b dd (fun L => if 0 ≤ k ∧ k < L.length then (match L[k.toNat]? with
  | some e => an_lnE b what e
  | none => (-1, 1)) else (-1, 1))
theorem hd_sm_split (f : Int → Int) (a : Nat) : ∀ m : Nat, hd_sm f 0 (a + m) = hd_sm f 0 a + hd_sm f a m
  | 0 => by simp [hd_sm]
  | m + 1 => by
    have := hd_sm_split f a m
    show hd_sm f 0 (a + m) + f (0 + ((a + m : Nat) : Int)) = hd_sm f 0 a + (hd_sm f a m + f (a + m))
    rw [this, show (0 : Int) + ((a + m : Nat) : Int) = a + m by push_cast; omega]
    omega
theorem c9_levelNote (d : Nat) {b m : ab_Ob} (h : mi_S b m) (dd k what : Int) : ab_Ct (d + 4) 0 0 mX9_levelNote [ab_O 0, ab_I dd, ab_I k, ab_I what] [m] (ab_Is (an_levelNote b dd k what).1 [md_an m (an_levelNote b dd k what).2]) := by
  refine ab_ct kX9_levelNote rfl rfl (fun x hx => vX9_levelNote_0 hx dd k what m 0 0 ?_)
  rcases h with ⟨h1, h2, h3⟩ | h
  · exact ⟨fun g => absurd h1 g, fun _ => md_rf (if_pos h2).symm⟩
  · obtain ⟨i1, hb, hdd, n1, hp, hq, hT⟩ := id h
    have hn := hb.2.1
    refine ⟨fun _ => ab_xb (c9_isLevel (d + 1) (m := ab_pf m 0 0) hT) (fun p => ⟨fun _ => ab_x1 (c9_levelN d (mi_I_0 h) dd) ?_, fun g => absurd g (by decide)⟩) (fun p => ⟨fun g => absurd rfl g, fun _ => md_rf (an_lvl_2 n1 p).symm⟩), fun g => absurd g i1⟩
    have ll := an_L_len hb n1 p.1
    have e0 : an_levelNote b dd k what = _ := an_lvl_f n1 p
    rw [e0]
    refine ⟨by omega, ab_xb (c9_in (d + 2) k 0 _) (fun p2 => ⟨fun _ => ?_, fun g => absurd g (by decide)⟩) (fun p2 => ⟨fun g => absurd rfl g, fun _ => md_rf (if_neg (by omega)).symm⟩)⟩
    obtain ⟨kn, hkn⟩ : ∃ kn : Nat, k = kn := ⟨k.toNat, by omega⟩
    subst hkn
    have he := List.getElem?_eq_getElem (l := an_L b dd) (i := kn) (by omega)
    generalize (an_L b dd)[kn] = e at he
    have ein := an_L_in hb n1 e (List.mem_of_getElem? he)
    have eE : (if 0 ≤ (kn : Int) ∧ (kn : Int) < (an_L b dd).length then (match (an_L b dd)[((kn : Int)).toNat]? with
      | some e => an_lnE b what e
      | none => (-1, 1)) else (-1, 1)) = an_lnE b what e := by
      rw [if_pos (by omega), show ((kn : Int)).toNat = kn by omega, he]
    rw [eE]
    refine ⟨_, c9_levelK d (mi_I_0 h) dd he, fun r hr => ?_⟩
    obtain ⟨_, pp, er, hpp⟩ := hr
    cases er
    obtain ⟨a1, ⟨q1, q2, q3, q4⟩, a3, a4⟩ := md_e hT hpp
    obtain ⟨m31, m32, m33, m34, m35, _⟩ := hT.2.1
    refine ⟨fun g => md_rf ?_, fun g => ⟨by omega, md_gd ?_⟩, fun g => ⟨by omega, ?_⟩, fun g => ⟨by omega, ?_⟩, trivial⟩
    · unfold an_lnE
      rw [if_neg (by omega), if_neg (by omega), if_neg (by omega)]
    · rw [q3]
      exact (if_pos g).symm
    · rw [q1]
      refine ab_x1 (c9_beginOf (d + 1) b (ab_pf m 0 0) hb hp hT.1.1 (by omega) (by omega)) (md_gd ?_)
      unfold an_lnE
      rw [if_neg (by omega), if_pos g]
    · rw [q1, q2]
      have s1 := hd_sm_b (f := (b.2 5).2) (i := 0) (B := 64) (m := e.1.toNat) (fun z a c => by have := (hb.2.2.2.2.2.1 z (by omega) (by omega)).2; omega)
      have s2 := hd_sm_b (f := (b.2 5).2) (i := 0) (B := 64) (m := (e.2.1 + 1).toNat) (fun z a c => by have := (hb.2.2.2.2.2.1 z (by omega) (by omega)).2; omega)
      refine ⟨by omega, ab_x1 (c9_beginOf (d + 1) b (ab_pf m 0 0) hb hp hT.1.1 (by omega) (by omega)) ⟨by omega, ab_x1 (c9_beginOf (d + 1) b (ab_pf m 0 0) hb hp hT.1.1 (by omega) (by omega)) ⟨by omega, md_gd ?_⟩⟩⟩
      have sp := hd_sm_split (b.2 5).2 e.1.toNat (e.2.1 + 1 - e.1).toNat
      rw [show e.1.toNat + (e.2.1 + 1 - e.1).toNat = (e.2.1 + 1).toNat by omega, show ((e.1.toNat : Nat) : Int) = e.1 by omega] at sp
      unfold an_lnE
      rw [if_neg (by omega), if_neg (by omega), if_pos g, sp]
      exact congrArg (fun z => (z, (0 : Int))) (by omega)
/-! paths, climaxes, widths -/
def ly_pt (b : ab_Ob) (L : List (Int × Int × Int × Int)) : Nat → Int
  | 0 => 0
  | k + 1 => ly_pt b L k + sc_abs (ly_p b L (k + 1) - ly_p b L k)
def ly_wd (b : ab_Ob) (L : List (Int × Int × Int × Int)) : Nat → Int
  | 0 => 0
  | k + 1 => if ly_wd b L k < sc_abs (ly_p b L (k + 1) - ly_p b L k) then sc_abs (ly_p b L (k + 1) - ly_p b L k) else ly_wd b L k
def ly_n (L : List (Int × Int × Int × Int)) (k : Nat) : Int := match L[k]? with
  | some e => e.2.2.1
  | none => 0
theorem ly_n_some {L : List (Int × Int × Int × Int)} {k : Nat} {e : Int × Int × Int × Int} (h : L[k]? = some e) : ly_n L k = e.2.2.1 := by
  unfold ly_n
  rw [h]
def ly_cx (b : ab_Ob) (L : List (Int × Int × Int × Int)) : Nat → Int
  | 0 => ly_n L 0
  | k + 1 => if (b.2 4).2 (ly_cx b L k) < ly_p b L (k + 1) then ly_n L (k + 1) else ly_cx b L k
theorem ly_p_b {b : ab_Ob} (hb : sc_ok b) (n1 : 1 ≤ b.1 3) {dd : Int} (k : Nat) : 0 ≤ ly_p b (an_L b dd) k ∧ ly_p b (an_L b dd) k ≤ 99 := by
  unfold ly_p
  cases h : (an_L b dd)[k]? with
  | none => simp
  | some e =>
    have ein := an_L_in hb n1 e (List.mem_of_getElem? h)
    exact (hb.2.2.2.2.2.1 e.2.2.1 (by omega) (by omega)).1
theorem sc_abs_b {x : Int} (h : -99 ≤ x ∧ x ≤ 99) : 0 ≤ sc_abs x ∧ sc_abs x ≤ 99 := by
  unfold sc_abs
  split <;> omega
theorem ly_st_b {b : ab_Ob} (hb : sc_ok b) (n1 : 1 ≤ b.1 3) {dd : Int} (k : Nat) : 0 ≤ sc_abs (ly_p b (an_L b dd) (k + 1) - ly_p b (an_L b dd) k) ∧ sc_abs (ly_p b (an_L b dd) (k + 1) - ly_p b (an_L b dd) k) ≤ 99 := by
  have h1 := ly_p_b hb n1 (dd := dd) k
  have h2 := ly_p_b hb n1 (dd := dd) (k + 1)
  exact sc_abs_b (by omega)
theorem ly_pt_b {b : ab_Ob} (hb : sc_ok b) (n1 : 1 ≤ b.1 3) {dd : Int} : ∀ k : Nat, 0 ≤ ly_pt b (an_L b dd) k ∧ ly_pt b (an_L b dd) k ≤ 99 * k
  | 0 => by simp [ly_pt]
  | k + 1 => by
    have h1 := ly_pt_b hb n1 (dd := dd) k
    have h2 := ly_st_b hb n1 (dd := dd) k
    simp only [ly_pt]
    push_cast
    omega
theorem ly_wd_b {b : ab_Ob} (hb : sc_ok b) (n1 : 1 ≤ b.1 3) {dd : Int} : ∀ k : Nat, 0 ≤ ly_wd b (an_L b dd) k ∧ ly_wd b (an_L b dd) k ≤ 99
  | 0 => by simp [ly_wd]
  | k + 1 => by
    have h1 := ly_wd_b hb n1 (dd := dd) k
    have h2 := ly_st_b hb n1 (dd := dd) k
    simp only [ly_wd]
    split <;> omega
theorem ly_n_b {b : ab_Ob} (hb : sc_ok b) (n1 : 1 ≤ b.1 3) {dd : Int} {k : Nat} (hk : k < (an_L b dd).length) : 0 ≤ ly_n (an_L b dd) k ∧ ly_n (an_L b dd) k < b.1 3 := by
  have he := List.getElem?_eq_getElem hk
  have ein := an_L_in hb n1 _ (List.mem_of_getElem? he)
  rw [ly_n_some he]
  omega
theorem ly_cx_b {b : ab_Ob} (hb : sc_ok b) (n1 : 1 ≤ b.1 3) {dd : Int} (hd : 0 ≤ dd) : ∀ k : Nat, k < (an_L b dd).length → 0 ≤ ly_cx b (an_L b dd) k ∧ ly_cx b (an_L b dd) k < b.1 3
  | 0, hk => ly_n_b hb n1 hk
  | k + 1, hk => by
    have h1 := ly_cx_b hb n1 hd k (by omega)
    have h2 := ly_n_b hb n1 hk
    simp only [ly_cx]
    split
    · exact h2
    · exact h1
def an_path (b : ab_Ob) (dd : Int) : Int × Int := an_lvl b dd (fun L => (ly_pt b L (L.length - 1), 0))
def an_widest (b : ab_Ob) (dd : Int) : Int × Int := an_lvl b dd (fun L => (ly_wd b L (L.length - 1), 0))
def an_climax (b : ab_Ob) (dd : Int) : Int × Int := an_lvl b dd (fun L => (ly_cx b L (L.length - 1), 0))
theorem c9_path (d : Nat) {b m : ab_Ob} (h : mi_S b m) (dd : Int) : ab_Ct (d + 4) 0 0 mX9_path [ab_O 0, ab_I dd] [m] (ab_Is (an_path b dd).1 [md_an m (an_path b dd).2]) := by
  refine ab_ct kX9_path rfl rfl (fun x hx => vX9_path_0 hx dd m 0 0 ?_)
  rcases h with ⟨h1, h2, h3⟩ | h
  · exact ⟨fun g => absurd h1 g, fun _ => md_rf (if_pos h2).symm⟩
  · obtain ⟨i1, hb, hdd, n1, hp, hq, hT⟩ := id h
    have hn := hb.2.1
    refine ⟨fun _ => ab_xb (c9_isLevel (d + 1) (m := ab_pf m 0 0) hT) (fun p => ⟨fun _ => ab_x1 (c9_levelN d (mi_I_0 h) dd) ?_, fun g => absurd g (by decide)⟩) (fun p => ⟨fun g => absurd rfl g, fun _ => md_rf (an_lvl_2 n1 p).symm⟩), fun g => absurd g i1⟩
    have ll := an_L_len hb n1 p.1
    have e0 : an_path b dd = _ := an_lvl_f n1 p
    have m33 := hT.2.1.2.2.1
    have key : ∀ (q t : Nat), t + 1 + q = (an_L b dd).length → ab_J x 44 [some (ab_O 0), some (ab_I dd), some (ab_I (ly_pt b (an_L b dd) t)), some (ab_I (an_L b dd).length), some (ab_I (t + 1 : Nat))] [] [ab_pf m 0 0] 0 0 := by
      intro q
      induction q with
      | zero =>
        intro t ht
        refine vX9_path_44 hx _ _ _ _ _ 0 0 ⟨fun _ => md_gd ?_, fun g => absurd (by omega) g⟩
        rw [e0]
        rw [show (an_L b dd).length - 1 = t by omega]
      | succ q ih =>
        intro t ht
        have he := List.getElem?_eq_getElem (l := an_L b dd) (i := t + 1) (by omega)
        have he0 := List.getElem?_eq_getElem (l := an_L b dd) (i := t) (by omega)
        generalize (an_L b dd)[t + 1] = e at he
        generalize (an_L b dd)[t] = e' at he0
        have ein := an_L_in hb n1 e (List.mem_of_getElem? he)
        have ein0 := an_L_in hb n1 e' (List.mem_of_getElem? he0)
        have sb := ly_st_b hb n1 (dd := dd) t
        have pb := ly_pt_b hb n1 (dd := dd) t
        have pp := ly_p_b hb n1 (dd := dd) t
        have pp1 := ly_p_b hb n1 (dd := dd) (t + 1)
        refine vX9_path_44 hx _ _ _ _ _ 0 0 ⟨fun g => absurd g (by omega), fun _ => ⟨_, c9_levelK d (mi_I_0 h) dd he, fun r hr => ?_⟩⟩
        obtain ⟨_, p1, er, hp1⟩ := hr
        cases er
        obtain ⟨a1, ⟨q1, q2, q3, q4⟩, a3, a4⟩ := md_e hT hp1
        refine ⟨by rw [hd_pf_2, m33]; omega, ?_⟩
        have r3 : ((ab_pf m 0 0).2 33).2 p1 = e.2.2.1 := q3
        rw [r3]
        refine ab_x1 (c9_pitchOf (d + 2) (ab_pf m 0 0) hT.1.1 (by omega) (by omega)) ⟨by omega, ?_⟩
        rw [show (((t + 1 : Nat) : Int) - 1) = ((t : Nat) : Int) by push_cast; omega]
        refine ⟨_, c9_levelK d (mi_I_0 h) dd he0, fun r hr => ?_⟩
        obtain ⟨_, p2, er, hp2⟩ := hr
        cases er
        obtain ⟨b1, ⟨s1, s2, s3, s4⟩, b3, b4⟩ := md_e hT hp2
        refine ⟨by rw [hd_pf_2, m33]; omega, ?_⟩
        have r4 : ((ab_pf m 0 0).2 33).2 p2 = e'.2.2.1 := s3
        rw [r4]
        have x1 : ((ab_pf m 0 0).2 3).2 e.2.2.1 = ly_p b (an_L b dd) (t + 1) := by rw [ly_p_some he]; exact (hp.2.2.2.2.1 _ (by omega) (by omega)).1
        have x2 : ((ab_pf m 0 0).2 3).2 e'.2.2.1 = ly_p b (an_L b dd) t := by rw [ly_p_some he0]; exact (hp.2.2.2.2.1 _ (by omega) (by omega)).1
        refine ab_x1 (c9_pitchOf (d + 2) (ab_pf m 0 0) hT.1.1 (by omega) (by omega)) ?_
        rw [x1, x2]
        exact ab_x1 (c9_apart (d + 2) _ _ (by omega) (by omega)) ⟨by omega, by omega, ih (t + 1) (by omega)⟩
    exact key ((an_L b dd).length - 1) 0 (by omega)
theorem c9_widest (d : Nat) {b m : ab_Ob} (h : mi_S b m) (dd : Int) : ab_Ct (d + 5) 0 0 mX9_widest [ab_O 0, ab_I dd] [m] (ab_Is (an_widest b dd).1 [md_an m (an_widest b dd).2]) := by
  refine ab_ct kX9_widest rfl rfl (fun x hx => vX9_widest_0 hx dd m 0 0 ?_)
  rcases h with ⟨h1, h2, h3⟩ | h
  · exact ⟨fun g => absurd h1 g, fun _ => md_rf (if_pos h2).symm⟩
  · obtain ⟨i1, hb, hdd, n1, hp, hq, hT⟩ := id h
    have hn := hb.2.1
    refine ⟨fun _ => ab_xb (c9_isLevel (d + 2) (m := ab_pf m 0 0) hT) (fun p => ⟨fun _ => ab_x1 (c9_levelN (d + 1) (mi_I_0 h) dd) ?_, fun g => absurd g (by decide)⟩) (fun p => ⟨fun g => absurd rfl g, fun _ => md_rf (an_lvl_2 n1 p).symm⟩), fun g => absurd g i1⟩
    have ll := an_L_len hb n1 p.1
    have e0 : an_widest b dd = _ := an_lvl_f n1 p
    have key : ∀ (q t : Nat), t + 1 + q = (an_L b dd).length → ab_J x 44 [some (ab_O 0), some (ab_I dd), some (ab_I (ly_wd b (an_L b dd) t)), some (ab_I (an_L b dd).length), some (ab_I (t + 1 : Nat))] [] [ab_pf m 0 0] 0 0 := by
      intro q
      induction q with
      | zero =>
        intro t ht
        refine vX9_widest_44 hx _ _ _ _ _ 0 0 ⟨fun _ => md_gd ?_, fun g => absurd (by omega) g⟩
        rw [e0]
        rw [show (an_L b dd).length - 1 = t by omega]
      | succ q ih =>
        intro t ht
        have pp := ly_p_b hb n1 (dd := dd) t
        have pp1 := ly_p_b hb n1 (dd := dd) (t + 1)
        have c1 := c9_levelPitch d (mi_I_0 h) dd (k := t + 1) (by omega)
        have c0 := c9_levelPitch d (mi_I_0 h) dd (k := t) (by omega)
        have ca := c9_apart (d + 3) (ly_p b (an_L b dd) (t + 1)) (ly_p b (an_L b dd) t) (by omega) (by omega)
        have ec : (((t + 1 : Nat) : Int) - 1) = ((t : Nat) : Int) := by push_cast; omega
        have this := ih (t + 1) (by omega)
        simp only [ly_wd] at this
        refine vX9_widest_44 hx _ _ _ _ _ 0 0 ⟨fun g => absurd g (by omega), fun _ => ab_x1 c1 ⟨by omega, ?_⟩⟩
        rw [ec]
        refine ab_x1 c0 (ab_x1 ca ⟨fun g => ⟨by omega, ?_⟩, fun g => ab_x1 c1 ⟨by omega, ab_x1 c0 (ab_x1 ca ⟨by omega, ?_⟩)⟩⟩)
        · rw [if_neg (by omega)] at this
          exact this
        · rw [if_pos (by omega)] at this
          exact this
    exact key ((an_L b dd).length - 1) 0 (by omega)
theorem c9_climax (d : Nat) {b m : ab_Ob} (h : mi_S b m) (dd : Int) : ab_Ct (d + 4) 0 0 mX9_climax [ab_O 0, ab_I dd] [m] (ab_Is (an_climax b dd).1 [md_an m (an_climax b dd).2]) := by
  refine ab_ct kX9_climax rfl rfl (fun x hx => vX9_climax_0 hx dd m 0 0 ?_)
  rcases h with ⟨h1, h2, h3⟩ | h
  · exact ⟨fun g => absurd h1 g, fun _ => md_rf (if_pos h2).symm⟩
  · obtain ⟨i1, hb, hdd, n1, hp, hq, hT⟩ := id h
    have hn := hb.2.1
    refine ⟨fun _ => ab_xb (c9_isLevel (d + 1) (m := ab_pf m 0 0) hT) (fun p => ⟨fun _ => ?_, fun g => absurd g (by decide)⟩) (fun p => ⟨fun g => absurd rfl g, fun _ => md_rf (an_lvl_2 n1 p).symm⟩), fun g => absurd g i1⟩
    have ll := an_L_len hb n1 p.1
    have e0 : an_climax b dd = _ := an_lvl_f n1 p
    have m33 := hT.2.1.2.2.1
    have key : ∀ (q t : Nat), t + 1 + q = (an_L b dd).length → ab_J x 54 [some (ab_O 0), some (ab_I dd), some (ab_I (ly_cx b (an_L b dd) t)), some (ab_I (an_L b dd).length), some (ab_I (t + 1 : Nat))] [] [ab_pf m 0 0] 0 0 := by
      intro q
      induction q with
      | zero =>
        intro t ht
        refine vX9_climax_54 hx _ _ _ _ _ 0 0 ⟨fun _ => md_gd ?_, fun g => absurd (by omega) g⟩
        rw [e0]
        rw [show (an_L b dd).length - 1 = t by omega]
      | succ q ih =>
        intro t ht
        have he := List.getElem?_eq_getElem (l := an_L b dd) (i := t + 1) (by omega)
        generalize (an_L b dd)[t + 1] = e at he
        have ein := an_L_in hb n1 e (List.mem_of_getElem? he)
        have cb := ly_cx_b hb n1 p.1 t (by omega)
        have this := ih (t + 1) (by omega)
        simp only [ly_cx] at this
        refine vX9_climax_54 hx _ _ _ _ _ 0 0 ⟨fun g => absurd g (by omega), fun _ => ⟨_, c9_levelK d (mi_I_0 h) dd he, fun r hr => ?_⟩⟩
        obtain ⟨_, p1, er, hp1⟩ := hr
        cases er
        obtain ⟨a1, ⟨q1, q2, q3, q4⟩, a3, a4⟩ := md_e hT hp1
        refine ⟨by rw [hd_pf_2, m33]; omega, ?_⟩
        have r3 : ((ab_pf m 0 0).2 33).2 p1 = e.2.2.1 := q3
        rw [r3]
        have x1 : ((ab_pf m 0 0).2 3).2 e.2.2.1 = ly_p b (an_L b dd) (t + 1) := by rw [ly_p_some he]; exact (hp.2.2.2.2.1 _ (by omega) (by omega)).1
        have x2 : ((ab_pf m 0 0).2 3).2 (ly_cx b (an_L b dd) t) = (b.2 4).2 (ly_cx b (an_L b dd) t) := (hp.2.2.2.2.1 _ cb.1 cb.2).1
        refine ab_x1 (c9_pitchOf (d + 2) (ab_pf m 0 0) hT.1.1 (by omega) (by omega)) (ab_x1 (c9_pitchOf (d + 2) (ab_pf m 0 0) hT.1.1 (by omega) (by omega)) ?_)
        rw [x1, x2]
        refine ⟨fun g => ⟨by omega, ?_⟩, fun g => ⟨_, c9_levelK d (mi_I_0 h) dd he, fun r hr => ?_⟩⟩
        · rw [if_neg (by omega)] at this
          exact this
        · obtain ⟨_, p2, er, hp2⟩ := hr
          cases er
          obtain ⟨b1, ⟨s1, s2, s3, s4⟩, b3, b4⟩ := md_e hT hp2
          have r4 : ((ab_pf m 0 0).2 33).2 p2 = e.2.2.1 := s3
          refine ⟨by rw [hd_pf_2, m33]; omega, by omega, ?_⟩
          rw [r4]
          rw [if_pos (by omega), ly_n_some he] at this
          exact this
    have he := List.getElem?_eq_getElem (l := an_L b dd) (i := 0) (by omega)
    generalize (an_L b dd)[0] = e at he
    refine ⟨_, c9_levelK d (mi_I_0 h) dd he, fun r hr => ?_⟩
    obtain ⟨_, p1, er, hp1⟩ := hr
    cases er
    obtain ⟨a1, ⟨q1, q2, q3, q4⟩, a3, a4⟩ := md_e hT hp1
    refine ⟨by omega, ab_x1 (c9_levelN d (mi_I_0 h) dd) ?_⟩
    have fin := key ((an_L b dd).length - 1) 0 (by omega)
    simp only [ly_cx] at fin
    rw [ly_n_some he] at fin
    rw [q3]
    exact fin
