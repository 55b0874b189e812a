/-! what is asked of the tree: the reference -/
def md_T (m : ab_Ob) (c : Int → Int → Int → Int → Int) (n : Int) : Prop := md_len m ∧ md_len2 m ∧ md_all m c n ∧ mt_ok m c n ∧ 1 ≤ n ∧ n ≤ 24
def tr_A (c : Int → Int → Int → Int → Int) (n : Int) : List (Int × Int × Int × Int) := tr_Q c 0 (n - 1) (dp_H c 0 (n - 1)) 0
def tr_B (c : Int → Int → Int → Int → Int) (n : Int) : List (Int × Int × Int × Int) := tr_J c 0 (n - 1) (dp_H c 0 (n - 1)) 0
def tr_jn (e : Int × Int × Int × Int) : Bool := decide (e.1 < e.2.1)
theorem tr_B_eq (c : Int → Int → Int → Int → Int) (n : Int) : tr_B c n = (tr_A c n).filter tr_jn := rfl
theorem tr_A_len (c : Int → Int → Int → Int → Int) {n : Int} (hn : 1 ≤ n) : ((tr_A c n).length : Int) = 2 * n - 1 := by
  have hH := dp_H_in (c := c) (i := 0) (j := n - 1) (by omega)
  have := tr_Q_len c 0 (n - 1) (dp_H c 0 (n - 1)) 0 hH.1 hH.2
  unfold tr_A
  omega
theorem tr_B_len (c : Int → Int → Int → Int → Int) {n : Int} (hn : 1 ≤ n) : (tr_B c n).length = (n - 1).toNat := by
  have hH := dp_H_in (c := c) (i := 0) (j := n - 1) (by omega)
  have := tr_J_len c 0 (n - 1) (dp_H c 0 (n - 1)) 0 hH.1 hH.2
  unfold tr_B
  rw [this]
  congr 1
  omega
theorem md_e {m : ab_Ob} {c : Int → Int → Int → Int → Int} {n : Int} (hm : md_T m c n) {p : Nat} {e : Int × Int × Int × Int} (he : (tr_A c n)[p]? = some e) : (p : Int) < 2 * n - 1 ∧ mt_pt m p e ∧ (0 ≤ e.1 ∧ e.1 ≤ e.2.2.1 ∧ e.2.2.1 ≤ e.2.1 ∧ e.2.1 < n) ∧ (0 ≤ e.2.2.2 ∧ e.2.2.2 ≤ 23) := by
  obtain ⟨_, _, _, ok, n1, n2⟩ := hm
  have hH := dp_H_in (c := c) (i := 0) (j := n - 1) (by omega)
  have o := tr_Q_ok c 0 (n - 1) (dp_H c 0 (n - 1)) 0 hH.1 hH.2 e (List.mem_of_getElem? he)
  obtain ⟨wl, _⟩ := List.getElem?_eq_some_iff.mp he
  have len := tr_A_len c n1
  unfold tr_ok at o
  exact ⟨by omega, ok.2.1 p e he, by omega, by omega⟩
theorem c9_isJoining (d : Nat) {m : ab_Ob} {c : Int → Int → Int → Int → Int} {n : Int} (hm : md_T m c n) {p : Nat} {e : Int × Int × Int × Int} (he : (tr_A c n)[p]? = some e) : ab_Ct (d + 1) 0 0 mX9_isJoining [ab_O 0, ab_I p] [m] (ab_Bo (tr_jn e = true) [m]) := by
  obtain ⟨a1, a2, a3, a4⟩ := md_e hm he
  obtain ⟨_, ⟨o1, o2, o3, o4, o5, o6, o7, o8, o9⟩, _, _, n1, n2⟩ := hm
  have r1 := a2.1
  have r2 := a2.2.1
  refine ab_ct kX9_isJoining rfl rfl (fun x hx => vX9_isJoining_0 hx p m 0 0 ⟨by omega, by omega, ?_⟩)
  rw [r1, r2]
  refine ⟨fun g => ⟨ab_i01, ab_l0b rfl ?_⟩, fun g => ⟨ab_i11, ab_l1b rfl ?_⟩⟩
  · unfold tr_jn; simp only [decide_eq_true_eq]; omega
  · unfold tr_jn; simp only [decide_eq_true_eq]; omega
theorem c9_splitAt (d : Nat) {m : ab_Ob} {c : Int → Int → Int → Int → Int} {n : Int} (hm : md_T m c n) {p : Nat} {e : Int × Int × Int × Int} (he : (tr_A c n)[p]? = some e) (hj : e.1 < e.2.1) : ab_Ct (d + 2) 0 0 mX9_splitAt [ab_O 0, ab_I p] [m] (ab_Is (tq_sp c e) [m]) := by
  obtain ⟨a1, a2, a3, a4⟩ := md_e hm he
  obtain ⟨⟨_, _, _, _, l28, l29, _⟩, ⟨o1, o2, o3, o4, o5, o6, o7, o8, o9⟩, all, _, n1, n2⟩ := hm
  have ce := all e.1 e.2.1 e.2.2.1 (by omega) (by omega) (by omega) (by omega) (by omega)
  have cu := md_cu_b (i := e.1) (j := e.2.1) (h := e.2.2.1) (by omega) (by omega) (by omega)
  have e28 := ce.2.1
  rw [if_pos hj] at e28
  obtain ⟨r1, r2, r3, r4⟩ := a2
  refine ab_ct kX9_splitAt rfl rfl (fun x hx => vX9_splitAt_0 hx p m 0 0 ⟨by omega, by omega, by omega, ?_⟩)
  rw [r1, r2, r3]
  exact ab_x1 (c9_cube d (by omega) (by omega) (by omega)) ⟨by omega, ab_lf rfl e28⟩
theorem c9_underAt (d : Nat) {m : ab_Ob} {c : Int → Int → Int → Int → Int} {n : Int} (hm : md_T m c n) {p : Nat} {e : Int × Int × Int × Int} (he : (tr_A c n)[p]? = some e) (hj : e.1 < e.2.1) : ab_Ct (d + 2) 0 0 mX9_underAt [ab_O 0, ab_I p] [m] (ab_Is (tr_un c e) [m]) := by
  obtain ⟨a1, a2, a3, a4⟩ := md_e hm he
  obtain ⟨⟨_, _, _, _, l28, l29, _⟩, ⟨o1, o2, o3, o4, o5, o6, o7, o8, o9⟩, all, _, n1, n2⟩ := hm
  have ce := all e.1 e.2.1 e.2.2.1 (by omega) (by omega) (by omega) (by omega) (by omega)
  have cu := md_cu_b (i := e.1) (j := e.2.1) (h := e.2.2.1) (by omega) (by omega) (by omega)
  have e29 := ce.2.2.1
  rw [if_pos hj] at e29
  obtain ⟨r1, r2, r3, r4⟩ := a2
  refine ab_ct kX9_underAt rfl rfl (fun x hx => vX9_underAt_0 hx p m 0 0 ⟨by omega, by omega, by omega, ?_⟩)
  rw [r1, r2, r3]
  exact ab_x1 (c9_cube d (by omega) (by omega) (by omega)) ⟨by omega, ab_lf rfl e29⟩
theorem c9_breaksAt (d : Nat) {b m : ab_Ob} {c : Int → Int → Int → Int → Int} (hb : sc_ok b) (hd : sc_db b) (hp : md_p b m) (hq : md_d b m) (hm : md_T m c (b.1 3)) {p : Nat} {rule : Int} {e : Int × Int × Int × Int} (he : (tr_A c (b.1 3))[p]? = some e) (hj : e.1 < e.2.1) (hr : rule = -1 ∨ (0 ≤ rule ∧ rule < 6)) : ab_Ct (d + 4) 0 0 mX9_breaksAt [ab_O 0, ab_I p, ab_I rule] [m] (ab_Is (if rule = -1 then tq_br b c e else (b.2 6).2 rule * tq_un b c rule e) [m]) := by
  obtain ⟨a1, a2, a3, a4⟩ := md_e hm he
  have cs := c9_splitAt (d + 1) hm he hj
  have cu := c9_underAt (d + 1) hm he hj
  obtain ⟨hl, ⟨o1, o2, o3, o4, o5, o6, o7, o8, o9⟩, all, _, n1, n2⟩ := id hm
  have s1 := dp_sp_in (c := c) (h := e.2.2.1) hj
  have u1 := dp_un_in (c := c) (h := e.2.2.1) hj
  have es : tq_sp c e = dp_sp c e.1 e.2.1 e.2.2.1 := rfl
  have ub : e.1 ≤ tr_un c e ∧ tr_un c e ≤ e.2.1 := by
    unfold tr_un
    by_cases g : e.2.2.1 ≤ dp_sp c e.1 e.2.1 e.2.2.1
    · have := u1.1 g; omega
    · have := u1.2 g; omega
  obtain ⟨r1, r2, r3, r4⟩ := a2
  have el : tq_sp c e - e.1 + 1 = tq_l c e := by unfold tq_l; omega
  have er : e.2.1 - tq_sp c e = tq_r c e := rfl
  have lb : 1 ≤ tq_l c e ∧ tq_l c e ≤ 24 := by unfold tq_l; omega
  have rb : 1 ≤ tq_r c e ∧ tq_r c e ≤ 24 := by unfold tq_r; omega
  refine ab_ct kX9_breaksAt rfl rfl (fun x hx => vX9_breaksAt_0 hx p rule m 0 0 (ab_x1 cs ?_))
  rw [r1, r2, r3, el]
  refine ⟨by omega, by omega, by omega, by omega, ab_x1 cs ?_⟩
  rw [er]
  refine ⟨by omega, fun g => ⟨by omega, ab_x1 cu (ab_x1 (c9_brokenBy (d + 1) b m hb hd hp hq hl (by omega) (by omega) (by omega) lb rb) (ab_lf rfl ?_))⟩, fun g => ⟨by omega, ab_x1 cu (ab_x1 (c9_brokenAll d b m hb hd hp hq hl (by omega) (by omega) lb rb) (ab_lf rfl ?_))⟩⟩
  · rw [if_neg g]; rfl
  · rw [if_pos g]; rfl
/-! the i-th that is so -/
theorem fl_at {α : Type} {L : List α} {q : α → Bool} {p : Nat} {e : α} (h : L[p]? = some e) (hq : q e = true) : (L.filter q)[((L.take p).filter q).length]? = some e := by
  obtain ⟨wl, hw⟩ := List.getElem?_eq_some_iff.mp h
  have e1 : L = L.take p ++ e :: L.drop (p + 1) := by
    rw [← hw, ← List.drop_eq_getElem_cons wl, List.take_append_drop]
  have e2 : L.filter q = (L.take p).filter q ++ e :: (L.drop (p + 1)).filter q := by
    conv => lhs; rw [e1]
    rw [List.filter_append, List.filter_cons_of_pos hq]
  rw [e2, List.getElem?_append_right (Nat.le_refl _), Nat.sub_self]
  rfl
theorem fl_s {α : Type} {L : List α} {q : α → Bool} {p : Nat} {e : α} (h : L[p]? = some e) : ((L.take (p + 1)).filter q).length = ((L.take p).filter q).length + (if q e = true then 1 else 0) := by
  rw [List.take_succ, h, List.filter_append, List.length_append]
  by_cases hq : q e = true
  · rw [if_pos hq]; simp [hq]
  · rw [if_neg hq]; simp [hq]
theorem c9_joiningAt (d : Nat) {m : ab_Ob} {c : Int → Int → Int → Int → Int} {n : Int} (hm : md_T m c n) {i : Int} (hi : -1 ≤ i) : ab_Ct (d + 2) 0 0 mX9_joiningAt [ab_O 0, ab_I i] [m] (fun rv v => v = [m] ∧ ((i = -1 ∧ rv = some (ab_I (n - 1))) ∨ (n - 1 ≤ i ∧ 0 ≤ i ∧ rv = some (ab_I (-1))) ∨ ∃ (p : Nat) (e : Int × Int × Int × Int), rv = some (ab_I p) ∧ 0 ≤ i ∧ (tr_A c n)[p]? = some e ∧ (tr_B c n)[i.toNat]? = some e)) := by
  have n1 := hm.2.2.2.2.1
  have n2 := hm.2.2.2.2.2
  have e40 := hm.2.2.2.1.1
  have lenA := tr_A_len c n1
  have lenB := tr_B_len c n1
  refine ab_ct kX9_joiningAt rfl rfl (fun x hx => vX9_joiningAt_0 hx i m 0 0 ?_)
  have key : ∀ (q p : Nat), p + q = (tr_A c n).length → (i = -1 ∨ (((tr_A c n).take p).filter tr_jn).length ≤ i) → ab_J x 4 [some (ab_O 0), some (ab_I i), some (ab_I (((tr_A c n).take p).filter tr_jn).length), some (ab_I p)] [] [m] 0 0 := by
    intro q
    induction q with
    | zero =>
      intro p hp hc
      have ef : ((tr_A c n).take p).filter tr_jn = tr_B c n := by rw [List.take_of_length_le (by omega)]; rfl
      refine vX9_joiningAt_4 hx _ _ _ m 0 0 ⟨fun _ => ⟨fun g => ⟨⟨⟨_, rfl⟩, _, rfl, rfl⟩, rfl, Or.inr (Or.inl ⟨?_, by omega, rfl⟩)⟩, fun g => ⟨⟨⟨_, rfl⟩, _, rfl, rfl⟩, rfl, Or.inl ⟨g, ?_⟩⟩⟩, fun g => absurd (by omega) g⟩
      · rw [ef, lenB] at hc; omega
      · rw [ef, lenB]
        have : (((n - 1).toNat : Nat) : Int) = n - 1 := by omega
        rw [this]
    | succ q ih =>
      intro p hp hc
      have tl : p < (tr_A c n).length := by omega
      have he := List.getElem?_eq_getElem tl
      generalize (tr_A c n)[p] = e at he
      have nx := ih (p + 1) (by omega)
      have fb : (((tr_A c n).take p).filter tr_jn).length ≤ p := Nat.le_trans (List.length_filter_le _ _) (by rw [List.length_take]; omega)
      rw [fl_s he] at nx
      refine vX9_joiningAt_4 hx _ _ _ m 0 0 ⟨fun g => absurd g (by omega), fun _ => ab_xb (c9_isJoining d hm he) (fun hj => ⟨fun _ => ⟨fun g => ⟨by omega, by omega, ?_⟩, fun g => ⟨⟨⟨_, rfl⟩, _, rfl, rfl⟩, rfl, Or.inr (Or.inr ⟨p, e, rfl, by omega, he, ?_⟩)⟩⟩, fun g => absurd g (by decide)⟩) (fun hj => ⟨fun g => absurd rfl g, fun _ => ⟨by omega, ?_⟩⟩)⟩
      · rw [if_pos hj] at nx
        have := nx (by push_cast; omega)
        push_cast at this
        exact this
      · rw [tr_B_eq]
        have := fl_at he hj
        have ei : i.toNat = (((tr_A c n).take p).filter tr_jn).length := by omega
        rw [ei]
        exact this
      · rw [if_neg hj, Nat.add_zero] at nx
        exact nx hc
  exact key (tr_A c n).length 0 (by omega) (by
    rcases Int.lt_or_le i 0 with g | g
    · exact Or.inl (by omega)
    · exact Or.inr (by simpa using g))
/-- the greatest depth of a list of parts -/
def tq_dp : List (Int × Int × Int × Int) → Int := List.foldl (fun r e => if e.2.2.2 ≤ r then r else e.2.2.2) 0
theorem tq_dp_s {L : List (Int × Int × Int × Int)} {t : Nat} {e : Int × Int × Int × Int} (h : L[t]? = some e) : tq_dp (L.take (t + 1)) = if e.2.2.2 ≤ tq_dp (L.take t) then tq_dp (L.take t) else e.2.2.2 := by
  unfold tq_dp
  rw [List.take_succ, h, List.foldl_append]
  rfl
theorem c9_deep (d : Nat) {m : ab_Ob} {c : Int → Int → Int → Int → Int} {n : Int} (hm : md_T m c n) : ab_Ct (d + 1) 0 0 mX9_deep [ab_O 0] [m] (ab_Is (tq_dp (tr_A c n)) [m]) := by
  have n1 := hm.2.2.2.2.1
  have n2 := hm.2.2.2.2.2
  have e40 := hm.2.2.2.1.1
  have l34 := hm.2.1.2.2.2.1
  have lenA := tr_A_len c n1
  refine ab_ct kX9_deep rfl rfl (fun x hx => vX9_deep_0 hx m 0 0 ?_)
  have key : ∀ (q p : Nat), p + q = (tr_A c n).length → ab_J x 4 [some (ab_O 0), some (ab_I (tq_dp ((tr_A c n).take p))), some (ab_I p)] [] [m] 0 0 := by
    intro q
    induction q with
    | zero =>
      intro p hp
      refine vX9_deep_4 hx _ _ m 0 0 ⟨fun _ => ab_lf rfl ?_, fun g => absurd (by omega) g⟩
      rw [List.take_of_length_le (by omega)]
    | succ q ih =>
      intro p hp
      have tl : p < (tr_A c n).length := by omega
      have he := List.getElem?_eq_getElem tl
      generalize (tr_A c n)[p] = e at he
      obtain ⟨a1, a2, a3, a4⟩ := md_e hm he
      have nx := ih (p + 1) (by omega)
      rw [tq_dp_s he] at nx
      have r4 := a2.2.2.2
      refine vX9_deep_4 hx _ _ m 0 0 ⟨fun g => absurd g (by omega), fun _ => ⟨by omega, ?_⟩⟩
      rw [r4]
      refine ⟨fun g => ⟨by omega, ?_⟩, fun g => ⟨by omega, by omega, ?_⟩⟩
      · rw [if_pos g] at nx; exact nx
      · rw [if_neg g] at nx; exact nx
  exact key (tr_A c n).length 0 (by omega)
