/-! THE REFERENCE, asked of the tree -/
def an_joinings (b : ab_Ob) : Int × Int := if b.1 3 = 0 then (-1, 1) else (b.1 3 - 1, 0)
theorem c9_joinings (d : Nat) {b m : ab_Ob} (h : mi_S b m) : ab_Ct (d + 3) 0 0 mX9_joinings [ab_O 0] [m] (ab_Is (an_joinings b).1 [md_an m (an_joinings b).2]) := by
  refine ab_ct kX9_joinings rfl rfl (fun x hx => vX9_joinings_0 hx m 0 0 ?_)
  rcases h with ⟨h1, h2, h3⟩ | h
  · exact ⟨fun _ => md_rf (if_pos h2).symm, fun g => absurd h1 g⟩
  · refine ⟨fun g => absurd g h.1, fun _ => ⟨_, c9_joiningAt d (m := ab_pf m 0 0) h.2.2.2.2.2.2 (i := -1) (by omega), fun r hr => ?_⟩⟩
    have n1 := h.2.2.2.1
    rcases hr with ⟨_, ⟨_, e⟩ | ⟨_, e, _⟩ | ⟨p, e, _, e2, _⟩⟩
    · cases e
      exact md_gd (if_neg (by omega)).symm
    · omega
    · omega
def an_joinE (b : ab_Ob) (what : Int) (e : Int × Int × Int × Int) : Int × Int := if what = 0 then (e.1, 0) else if what = 1 then (e.2.1, 0) else if what = 2 then (tq_sp (sc_br b) e, 0) else if what = 3 then (e.2.2.1, 0) else if what = 4 then (tr_un (sc_br b) e, 0) else if what = 5 then (tq_br b (sc_br b) e, 0) else if what = 6 then (e.2.2.2, 0) else (-1, 1)
def an_joining (b : ab_Ob) (i what : Int) : Int × Int := if 0 ≤ i ∧ i < b.1 3 - 1 then (match (tr_B (sc_br b) (b.1 3))[i.toNat]? with
  | some e => an_joinE b what e
  | none => (-1, 1)) else (-1, 1)
theorem an_joining_some {b : ab_Ob} {i what : Int} {e : Int × Int × Int × Int} (hi : 0 ≤ i ∧ i < b.1 3 - 1) (he : (tr_B (sc_br b) (b.1 3))[i.toNat]? = some e) : an_joining b i what = an_joinE b what e := by
  unfold an_joining
  rw [if_pos hi, he]
theorem c9_joining (d : Nat) {b m : ab_Ob} (h : mi_S b m) (i what : Int) : ab_Ct (d + 5) 0 0 mX9_joining [ab_O 0, ab_I i, ab_I what] [m] (ab_Is (an_joining b i what).1 [md_an m (an_joining b i what).2]) := by
  refine ab_ct kX9_joining rfl rfl (fun x hx => vX9_joining_0 hx i what m 0 0 ?_)
  rcases h with ⟨h1, h2, h3⟩ | h
  · exact ⟨fun _ => md_rf (if_neg (by omega)).symm, fun g => absurd h1 g⟩
  · obtain ⟨i1, hb, hdd, n1, hp, hq, hT⟩ := id h
    have hn := hb.2.1
    have lenB := tr_B_len (sc_br b) (n := b.1 3) n1
    refine ⟨fun g => absurd g i1, fun _ => ⟨fun g => ⟨_, c9_joiningAt (d + 2) (m := ab_pf m 0 0) hT (i := i) (by omega), fun r hr => ?_⟩, fun g => md_rf (if_neg (by omega)).symm⟩⟩
    rcases hr with ⟨_, ⟨e, _⟩ | ⟨e1, e2, e⟩ | ⟨p, e, er, _, e2, e3⟩⟩
    · omega
    · cases e
      exact ⟨fun g => absurd rfl g, fun _ => md_rf (if_neg (by omega)).symm⟩
    · cases er
      obtain ⟨wl, _⟩ := List.getElem?_eq_some_iff.mp e3
      have hi : 0 ≤ i ∧ i < b.1 3 - 1 := by omega
      rw [an_joining_some hi e3]
      obtain ⟨a1, ⟨q1, q2, q3, q4⟩, a3, a4⟩ := md_e hT e2
      obtain ⟨m31, m32, m33, m34, m35, _⟩ := hT.2.1
      have ej : e.1 < e.2.1 := by
        have : e ∈ tr_B (sc_br b) (b.1 3) := List.mem_of_getElem? e3
        rw [tr_B_eq, List.mem_filter] at this
        unfold tr_jn at this
        simpa using this.2
      refine ⟨fun g => ⟨fun g => md_rf ?_, fun g => ⟨by omega, md_gd ?_⟩, fun g => ⟨by omega, md_gd ?_⟩, fun g => ab_x1 (c9_splitAt (d + 2) (m := ab_pf m 0 0) hT e2 ej) (md_gd ?_), fun g => ⟨by omega, md_gd ?_⟩, fun g => ab_x1 (c9_underAt (d + 2) (m := ab_pf m 0 0) hT e2 ej) (md_gd ?_), fun g => ab_x1 (c9_breaksAt d (m := ab_pf m 0 0) hb (sc_dd_db hdd) hp hq hT e2 ej (Or.inl rfl)) (md_gd ?_), fun g => ⟨by omega, md_gd ?_⟩, trivial⟩, fun g => absurd g (by omega)⟩
      · unfold an_joinE
        rw [if_neg (by omega), if_neg (by omega), if_neg (by omega), if_neg (by omega), if_neg (by omega), if_neg (by omega), if_neg (by omega)]
      · subst g
        rw [q1]
        exact (if_pos rfl).symm
      · subst g
        rw [q2]
        unfold an_joinE
        rw [if_neg (by omega), if_pos rfl]
      · subst g
        unfold an_joinE
        rw [if_neg (by omega), if_neg (by omega), if_pos rfl]
      · subst g
        rw [q3]
        unfold an_joinE
        rw [if_neg (by omega), if_neg (by omega), if_neg (by omega), if_pos rfl]
      · subst g
        unfold an_joinE
        rw [if_neg (by omega), if_neg (by omega), if_neg (by omega), if_neg (by omega), if_pos rfl]
      · subst g
        unfold an_joinE
        rw [if_pos rfl, if_neg (by omega), if_neg (by omega), if_neg (by omega), if_neg (by omega), if_neg (by omega), if_pos rfl]
      · subst g
        rw [q4]
        unfold an_joinE
        rw [if_neg (by omega), if_neg (by omega), if_neg (by omega), if_neg (by omega), if_neg (by omega), if_neg (by omega), if_pos rfl]
theorem tq_sm_mul (k : Int) (f : Int × Int × Int × Int → Int) : ∀ L : List (Int × Int × Int × Int), tq_sm (fun e => k * f e) L = k * tq_sm f L
  | [] => by simp [tq_sm]
  | e :: L => by
    have := tq_sm_mul k f L
    show k * f e + tq_sm (fun e => k * f e) L = k * (f e + tq_sm f L)
    rw [this, Int.mul_add]
def an_breaksOf (b : ab_Ob) (rule : Int) : Int × Int := if 1 ≤ b.1 3 ∧ 0 ≤ rule ∧ rule < 6 then ((b.2 6).2 rule * tq_sm (tq_un b (sc_br b) rule) (tr_B (sc_br b) (b.1 3)), 0) else (-1, 1)
theorem fl_tk {α : Type} {L : List α} {q : α → Bool} {p : Nat} {e : α} (h : L[p]? = some e) : (L.take (p + 1)).filter q = (L.take p).filter q ++ (if q e = true then [e] else []) := by
  rw [List.take_succ, h, List.filter_append]
  by_cases g : q e = true
  · simp [g]
  · simp [g]
/-- bounds of what joinings break -/
theorem tq_un_B {b : ab_Ob} (hb : sc_ok b) (hd : sc_db b) (n1 : 1 ≤ b.1 3) (c : Int → Int → Int → Int → Int) (rule : Int) {e : Int × Int × Int × Int} (he : e ∈ tr_A c (b.1 3)) (lt : e.1 < e.2.1) : 0 ≤ tq_un b c rule e ∧ tq_un b c rule e ≤ 99 := by
  have hn := hb.2.1
  have hH := dp_H_in (c := c) (i := 0) (j := b.1 3 - 1) (by omega)
  have ok := tr_Q_ok c 0 (b.1 3 - 1) _ 0 hH.1 hH.2 e he
  unfold tr_ok at ok
  have s := dp_sp_in (c := c) (h := e.2.2.1) lt
  have u := dp_un_in (c := c) (h := e.2.2.1) lt
  refine sc_un_b hb hd (by omega) ?_ ?_ ?_
  · unfold tr_un
    by_cases g : e.2.2.1 ≤ dp_sp c e.1 e.2.1 e.2.2.1
    · have := u.1 g; omega
    · have := u.2 g; omega
  · unfold tq_l tq_sp; omega
  · unfold tq_r tq_sp; omega
theorem c9_breaksOf (d : Nat) {b m : ab_Ob} (h : mi_S b m) (rule : Int) : ab_Ct (d + 5) 0 0 mX9_breaksOf [ab_O 0, ab_I rule] [m] (ab_Is (an_breaksOf b rule).1 [md_an m (an_breaksOf b rule).2]) := by
  refine ab_ct kX9_breaksOf rfl rfl (fun x hx => vX9_breaksOf_0 hx rule m 0 0 ?_)
  rcases h with ⟨h1, h2, h3⟩ | h
  · exact ⟨fun _ => md_rf (if_neg (by omega)).symm, fun g => absurd h1 g⟩
  · obtain ⟨i1, hb, hdd, n1, hp, hq, hT⟩ := id h
    have hn := hb.2.1
    have hd := sc_dd_db hdd
    refine ⟨fun g => absurd g i1, fun _ => ab_xb (c9_isRule (d + 2) rule) (fun p => ⟨fun _ => ?_, fun g => absurd g (by decide)⟩) (fun p => ⟨fun g => absurd rfl g, fun _ => md_rf (if_neg (fun q => p q.2)).symm⟩)⟩
    have lenA := tr_A_len (sc_br b) n1
    have e40 : m.1 40 = 2 * b.1 3 - 1 := hT.2.2.2.1.1
    have hwt := hb.2.2.2.2.2.2 rule p.1 p.2
    have fb : ∀ e ∈ tr_A (sc_br b) (b.1 3), e.1 < e.2.1 → 0 ≤ (b.2 6).2 rule * tq_un b (sc_br b) rule e ∧ (b.2 6).2 rule * tq_un b (sc_br b) rule e ≤ 9801 := fun e he lt => sc_mul_b hwt (tq_un_B hb hd n1 _ rule he lt)
    have key : ∀ (q t : Nat), t + q = (tr_A (sc_br b) (b.1 3)).length → ab_J x 29 [some (ab_O 0), some (ab_I rule), some (ab_I (tq_sm (fun e => (b.2 6).2 rule * tq_un b (sc_br b) rule e) (((tr_A (sc_br b) (b.1 3)).take t).filter tr_jn))), some (ab_I t)] [] [ab_pf m 0 0] 0 0 := by
      intro q
      induction q with
      | zero =>
        intro t ht
        refine vX9_breaksOf_29 hx _ _ _ _ 0 0 ⟨fun _ => md_gd ?_, fun g => absurd (by show m.1 40 ≤ _; omega) g⟩
        rw [List.take_of_length_le (by omega), tq_sm_mul, ← tr_B_eq]
        exact (if_pos ⟨n1, p⟩).symm
      | succ q ih =>
        intro t ht
        have he := List.getElem?_eq_getElem (l := tr_A (sc_br b) (b.1 3)) (i := t) (by omega)
        generalize (tr_A (sc_br b) (b.1 3))[t] = e at he
        have sb := tq_sm_b (f := fun e => (b.2 6).2 rule * tq_un b (sc_br b) rule e) (B := 9801) (L := ((tr_A (sc_br b) (b.1 3)).take t).filter tr_jn) (fun e he => by
          rw [List.mem_filter] at he
          refine fb e (List.mem_of_mem_take he.1) ?_
          have := he.2
          unfold tr_jn at this
          simpa using this)
        have sl : (((tr_A (sc_br b) (b.1 3)).take t).filter tr_jn).length ≤ t := Nat.le_trans (List.length_filter_le _ _) (by rw [List.length_take]; omega)
        have this := ih (t + 1) (by omega)
        rw [fl_tk he, tq_sm_app] at this
        refine vX9_breaksOf_29 hx _ _ _ _ 0 0 ⟨fun g => absurd g (by show ¬ m.1 40 ≤ _; omega), fun _ => ab_xb (c9_isJoining (d + 3) (m := ab_pf m 0 0) hT he) (fun p2 => ⟨fun g => absurd g (by decide), fun _ => ?_⟩) (fun p2 => ⟨fun _ => ⟨by omega, by omega, ?_⟩, fun g => absurd rfl g⟩)⟩
        · have lt : e.1 < e.2.1 := by unfold tr_jn at p2; simpa using p2
          have b1 := fb e (List.mem_of_getElem? he) lt
          have cb := c9_breaksAt d (m := ab_pf m 0 0) hb hd hp hq hT (rule := rule) he lt (Or.inr p)
          rw [if_neg (by omega)] at cb
          rw [if_pos p2] at this
          simp only [tq_sm, Int.add_zero] at this
          exact ab_x1 cb ⟨by omega, by omega, this⟩
        · rw [if_neg p2] at this
          exact this
    exact key (tr_A (sc_br b) (b.1 3)).length 0 (by omega)
def an_deepest (b : ab_Ob) : Int × Int := if b.1 3 = 0 then (-1, 1) else (tq_dp (tr_A (sc_br b) (b.1 3)), 0)
theorem c9_deepest (d : Nat) {b m : ab_Ob} (h : mi_S b m) : ab_Ct (d + 2) 0 0 mX9_deepest [ab_O 0] [m] (ab_Is (an_deepest b).1 [md_an m (an_deepest b).2]) := by
  refine ab_ct kX9_deepest rfl rfl (fun x hx => vX9_deepest_0 hx m 0 0 ?_)
  rcases h with ⟨h1, h2, h3⟩ | h
  · exact ⟨fun _ => md_rf (if_pos h2).symm, fun g => absurd h1 g⟩
  · have n1 := h.2.2.2.1
    exact ⟨fun g => absurd g h.1, fun _ => ab_x1 (c9_deep d (m := ab_pf m 0 0) h.2.2.2.2.2.2) (md_gd (if_neg (by omega)).symm)⟩
def an_over (b : ab_Ob) (k o : Int) (RT : Int × Int) : Prop := (¬ ((0 ≤ k ∧ k < b.1 3) ∧ 0 ≤ o ∧ o < b.1 3) ∧ RT = (-1, 1)) ∨ (((0 ≤ k ∧ k < b.1 3) ∧ 0 ≤ o ∧ o < b.1 3) ∧ ∃ e, ov_is (tr_A (sc_br b) (b.1 3)) k o e ∧ RT = (e.2.2.1, 0))
theorem c9_over (d : Nat) {b m : ab_Ob} (h : mi_S b m) (k o : Int) {RT : Int × Int} (hRT : an_over b k o RT) : ab_Ct (d + 3) 0 0 mX9_over [ab_O 0, ab_I k, ab_I o] [m] (ab_Is RT.1 [md_an m RT.2]) := by
  refine ab_ct kX9_over rfl rfl (fun x hx => ?_)
  have no : ¬ ((0 ≤ k ∧ k < b.1 3) ∧ 0 ≤ o ∧ o < b.1 3) → ab_J x 21 [some (ab_O 0), none, none, none, none, none] [] [ab_pf m 0 0] 0 0 := fun g => by
    refine vX9_over_21 hx _ 0 0 (md_rf ?_)
    rcases hRT with ⟨_, e⟩ | ⟨g2, _⟩
    · exact e.symm
    · exact absurd g2 g
  refine vX9_over_0 hx k o m 0 0 (ab_xb (c9_isNote d (mi_S_0 h) k) (fun p => ⟨fun g => absurd g (by decide), fun _ => ab_xb (c9_isNote d (mi_S_0 h) o) (fun p2 => ⟨fun _ => ?_, fun g => absurd g (by decide)⟩) (fun p2 => ⟨fun g => absurd rfl g, fun _ => no (fun q => p2 q.2)⟩)⟩) (fun p => ⟨fun _ => no (fun q => p q.1), fun g => absurd rfl g⟩))
  rcases hRT with ⟨g2, _⟩ | ⟨_, e0, hov, hRT⟩
  · exact absurd ⟨p, p2⟩ g2
  obtain ⟨i1, hb, hdd, n1, hp, hq, hT⟩ := mi_S_I h (by omega)
  have hn := hb.2.1
  have hH := dp_H_in (c := sc_br b) (i := 0) (j := b.1 3 - 1) (by omega)
  have lenA := tr_A_len (sc_br b) n1
  have e40 : m.1 40 = 2 * b.1 3 - 1 := hT.2.2.2.1.1
  obtain ⟨m31, m32, m33, m34, m35, _⟩ := hT.2.1
  have root := tr_Q_root (sc_br b) 0 (b.1 3 - 1) (dp_H (sc_br b) 0 (b.1 3 - 1)) 0
  have key : ∀ (q t lp : Nat) (el : Int × Int × Int × Int), t + q = (tr_A (sc_br b) (b.1 3)).length → (tr_A (sc_br b) (b.1 3))[lp]? = some el → ((el.1 ≤ k ∧ k ≤ el.2.1) ∧ el.1 ≤ o ∧ o ≤ el.2.1) → (∀ (t' : Nat) e', t' < t → (tr_A (sc_br b) (b.1 3))[t']? = some e' → e'.1 ≤ k → k ≤ e'.2.1 → e'.1 ≤ o → o ≤ e'.2.1 → e'.2.2.2 ≤ el.2.2.2) → ab_J x 32 [some (ab_O 0), some (ab_I k), some (ab_I o), some (ab_I lp), some (ab_I t), none] [] [ab_pf m 0 0] 0 0 := by
    intro q
    induction q with
    | zero =>
      intro t lp el ht hlp hin hall
      obtain ⟨a1, ⟨q1, q2, q3, q4⟩, a3, a4⟩ := md_e hT hlp
      refine vX9_over_32 hx _ _ _ _ _ 0 0 ⟨fun _ => ⟨by rw [hd_pf_2, m33]; omega, md_gd ?_⟩, fun g => absurd (by show m.1 40 ≤ _; omega) g⟩
      have own : ov_is (tr_A (sc_br b) (b.1 3)) k o el := ⟨List.mem_of_getElem? hlp, hin.1, hin.2, fun e' he' c1 c2 c3 c4 => by
        obtain ⟨t', ht'⟩ := List.getElem?_of_mem he'
        obtain ⟨wl, _⟩ := List.getElem?_eq_some_iff.mp ht'
        exact hall t' e' (by omega) ht' c1 c2 c3 c4⟩
      have eu := ov_uni hH.1 hH.2 own hov
      rw [hRT, ← eu]
      exact congrArg (fun z => (z, (0 : Int))) q3
    | succ q ih =>
      intro t lp el ht hlp hin hall
      have he := List.getElem?_eq_getElem (l := tr_A (sc_br b) (b.1 3)) (i := t) (by omega)
      generalize (tr_A (sc_br b) (b.1 3))[t] = e at he
      obtain ⟨a1, ⟨q1, q2, q3, q4⟩, a3, a4⟩ := md_e hT he
      obtain ⟨b1, ⟨s1, s2, s3, s4⟩, b3, b4⟩ := md_e hT hlp
      have nx : ∀ (lp' : Nat) el', (tr_A (sc_br b) (b.1 3))[lp']? = some el' → ((el'.1 ≤ k ∧ k ≤ el'.2.1) ∧ el'.1 ≤ o ∧ o ≤ el'.2.1) → el.2.2.2 ≤ el'.2.2.2 → (e.1 ≤ k → k ≤ e.2.1 → e.1 ≤ o → o ≤ e.2.1 → e.2.2.2 ≤ el'.2.2.2) → ab_J x 114 [some (ab_O 0), some (ab_I k), some (ab_I o), some (ab_I lp'), some (ab_I t), none] [] [ab_pf m 0 0] 0 0 := fun lp' el' y1 y2 y3 y4 => vX9_over_114 hx _ _ _ _ _ 0 0 ⟨by omega, ih (t + 1) lp' el' (by omega) y1 y2 (fun t' e' z1 z2 z3 z4 z5 z6 => by
        by_cases et : t' = t
        · subst et
          rw [he] at z2
          cases z2
          exact y4 z3 z4 z5 z6
        · have := hall t' e' (by omega) z2 z3 z4 z5 z6
          omega)⟩
      have nope : ¬ ((e.1 ≤ k ∧ k ≤ e.2.1) ∧ e.1 ≤ o ∧ o ≤ e.2.1) → ab_J x 87 [some (ab_O 0), some (ab_I k), some (ab_I o), some (ab_I lp), some (ab_I t), none] [] [ab_pf m 0 0] 0 0 := fun g => vX9_over_87 hx _ _ _ _ _ 0 0 (vX9_over_88 hx _ _ _ _ _ _ 0 0 ⟨fun _ => nx lp el hlp hin (Int.le_refl _) (fun c1 c2 c3 c4 => absurd ⟨⟨c1, c2⟩, c3, c4⟩ g), fun g => absurd rfl g⟩)
      refine vX9_over_32 hx _ _ _ _ _ 0 0 ⟨fun g => absurd g (by show ¬ m.1 40 ≤ _; omega), fun _ => ⟨by rw [hd_pf_2, m31]; omega, by rw [hd_pf_2, m32]; omega, ?_⟩⟩
      have r1 : ((ab_pf m 0 0).2 31).2 t = e.1 := q1
      have r2 : ((ab_pf m 0 0).2 32).2 t = e.2.1 := q2
      have r4 : ((ab_pf m 0 0).2 34).2 t = e.2.2.2 := q4
      have r5 : ((ab_pf m 0 0).2 34).2 lp = el.2.2.2 := s4
      rw [r1, r2]
      refine ab_xb (c9_in (d + 1) k _ _) (fun c1 => ⟨fun g => absurd g (by decide), fun _ => ⟨by rw [hd_pf_2, m31]; omega, by rw [hd_pf_2, m32]; omega, ab_xb (c9_in (d + 1) o _ _) (fun c2 => ⟨fun g => absurd g (by decide), fun _ => ?_⟩) (fun c2 => ⟨fun _ => nope (fun g => c2 g.2), fun g => absurd rfl g⟩)⟩⟩) (fun c1 => ⟨fun _ => nope (fun g => c1 g.1), fun g => absurd rfl g⟩)
      refine vX9_over_88 hx _ _ _ _ _ _ 0 0 ⟨fun g => absurd g (by decide), fun _ => ⟨by rw [hd_pf_2, m34]; omega, by rw [hd_pf_2, m34]; omega, ?_⟩⟩
      rw [r4, r5]
      exact ⟨fun g => nx lp el hlp hin (Int.le_refl _) (fun _ _ _ _ => by omega), fun g => nx t e he ⟨c1, c2⟩ (by omega) (fun _ _ _ _ => Int.le_refl _)⟩
  exact key (tr_A (sc_br b) (b.1 3)).length 0 0 (0, b.1 3 - 1, dp_H (sc_br b) 0 (b.1 3 - 1), 0) (by omega) root (by dsimp only; omega) (fun t' e' z1 => absurd z1 (by omega))
def an_under (b : ab_Ob) (k : Int) (RT : Int × Int) : Prop := (¬ (0 ≤ k ∧ k < b.1 3) ∧ RT = (-1, 1)) ∨ ((0 ≤ k ∧ k < b.1 3) ∧ ∃ f o, tp_is (sc_br b) 0 (b.1 3 - 1) k f o ∧ RT = (f.2.1 - f.1, 0))
theorem c9_under (d : Nat) {b m : ab_Ob} (h : mi_S b m) (k : Int) {RT : Int × Int} (hRT : an_under b k RT) : ab_Ct (d + 3) 0 0 mX9_under [ab_O 0, ab_I k] [m] (ab_Is RT.1 [md_an m RT.2]) := by
  refine ab_ct kX9_under rfl rfl (fun x hx => vX9_under_0 hx k m 0 0 (ab_xb (c9_isNote d (mi_S_0 h) k) (fun p => ⟨fun g => absurd g (by decide), fun _ => ?_⟩) (fun p => ⟨fun _ => md_rf ?_, fun g => absurd rfl g⟩)))
  · have hI := mi_S_I h (by omega)
    rcases hRT with ⟨g2, _⟩ | ⟨_, f, o, hf, e⟩
    · exact absurd p g2
    · exact ab_x1 (c9_underOne (d + 1) (m := ab_pf m 0 0) hI.2.2.2.2.2.2 p.1 p.2 hf) (md_gd e.symm)
  · rcases hRT with ⟨_, e⟩ | ⟨g2, _⟩
    · exact e.symm
    · exact absurd g2 p
def an_reach (b : ab_Ob) (k what : Int) (RT : Int × Int) : Prop := (¬ ((0 ≤ k ∧ k < b.1 3) ∧ 0 ≤ what ∧ what ≤ 2) ∧ RT = (-1, 1)) ∨ (((0 ≤ k ∧ k < b.1 3) ∧ 0 ≤ what ∧ what ≤ 2) ∧ ∃ f o, tp_is (sc_br b) 0 (b.1 3 - 1) k f o ∧ RT = (if what = 0 then f.1 else if what = 1 then f.2.1 else o, 0))
theorem c9_reach (d : Nat) {b m : ab_Ob} (h : mi_S b m) (k what : Int) {RT : Int × Int} (hRT : an_reach b k what RT) : ab_Ct (d + 3) 0 0 mX9_reach [ab_O 0, ab_I k, ab_I what] [m] (ab_Is RT.1 [md_an m RT.2]) := by
  have no : ¬ ((0 ≤ k ∧ k < b.1 3) ∧ 0 ≤ what ∧ what ≤ 2) → ((-1 : Int), (1 : Int)) = RT := fun g => by
    rcases hRT with ⟨_, e⟩ | ⟨g2, _⟩
    · exact e.symm
    · exact absurd g2 g
  refine ab_ct kX9_reach rfl rfl (fun x hx => vX9_reach_0 hx k what m 0 0 (ab_xb (c9_isNote d (mi_S_0 h) k) (fun p => ⟨fun g => absurd g (by decide), fun _ => ab_xb (c9_in (d + 1) what 0 2) (fun p2 => ⟨fun _ => ?_, fun g => absurd g (by decide)⟩) (fun p2 => ⟨fun g => absurd rfl g, fun _ => md_rf (no (fun q => p2 q.2))⟩)⟩) (fun p => ⟨fun _ => md_rf (no (fun q => p q.1)), fun g => absurd rfl g⟩)))
  have hI := mi_S_I h (by omega)
  have hT := hI.2.2.2.2.2.2
  have hn := hI.2.1.2.1
  obtain ⟨m31, m32, m33, m34, m35, _⟩ := hT.2.1
  rcases hRT with ⟨g2, _⟩ | ⟨_, f, o, hf, e⟩
  · exact absurd ⟨p, p2⟩ g2
  refine ⟨_, c9_partOf (d + 1) (m := ab_pf m 0 0) hT p.1 p.2 hf, fun r hr => ?_⟩
  obtain ⟨_, pp, er, hpp⟩ := hr
  cases er
  obtain ⟨a1, ⟨q1, q2, q3, q4⟩, a3, a4⟩ := md_e hT hpp
  refine ⟨fun g => ⟨_, c9_aboveOf (d + 1) (m := ab_pf m 0 0) hT p.1 p.2 hf hpp, fun r hr => ?_⟩, fun g => ⟨fun g2 => ⟨by omega, md_gd ?_⟩, fun g2 => ⟨by omega, md_gd ?_⟩⟩⟩
  · rcases hr with ⟨_, ⟨eo, er⟩ | ⟨qq, e1, er, hqq, eo⟩⟩
    · cases er
      refine ⟨fun g => absurd rfl g, fun _ => md_gd ?_⟩
      rw [e, if_neg (by omega), if_neg (by omega), eo]
    · cases er
      obtain ⟨b1, ⟨s1, s2, s3, s4⟩, b3, b4⟩ := md_e hT hqq
      refine ⟨fun _ => ⟨by omega, md_gd ?_⟩, fun g => absurd g (by omega)⟩
      rw [s3, e, if_neg (by omega), if_neg (by omega), eo]
  · rw [q2, e, if_neg g2, if_pos (by omega)]
  · rw [q1, e, if_pos g2]
