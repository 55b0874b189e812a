/-! levels: the reference -/
def lq_at (dd : Int) (e : Int × Int × Int × Int) : Bool := decide (e.2.2.2 = dd) || (decide (e.2.2.2 < dd) && !(tr_jn e))
def lq_L (c : Int → Int → Int → Int → Int) (n dd : Int) : List (Int × Int × Int × Int) := (tr_A c n).filter (lq_at dd)
theorem c9_isAt (d : Nat) {m : ab_Ob} {c : Int → Int → Int → Int → Int} {n dd : Int} (hm : md_T m c n) {p : Nat} {e : Int × Int × Int × Int} (he : (tr_A c n)[p]? = some e) : ab_Ct (d + 2) 0 0 mX9_isAt [ab_O 0, ab_I p, ab_I dd] [m] (ab_Bo (lq_at dd e = true) [m]) := by
  obtain ⟨a1, a2, a3, a4⟩ := md_e hm he
  have l34 := hm.2.1.2.2.2.1
  have n2 := hm.2.2.2.2.2
  have r4 := a2.2.2.2
  refine ab_ct kX9_isAt rfl rfl (fun x hx => vX9_isAt_0 hx p dd m 0 0 ⟨by omega, ?_⟩)
  rw [r4]
  refine ⟨fun g => ⟨ab_i11, ab_l1b rfl ?_⟩, fun g => ⟨by omega, fun g2 => ⟨ab_i01, ab_l0b rfl ?_⟩, fun g2 => ab_xb (c9_isJoining d hm he) (fun hj => ⟨fun _ => ⟨ab_i01, ab_l0b rfl ?_⟩, fun h => absurd h (by decide)⟩) (fun hj => ⟨fun h => absurd rfl h, fun _ => ⟨ab_i11, ab_l1b rfl ?_⟩⟩)⟩⟩
  · simp [lq_at, g]
  · have : ¬ e.2.2.2 < dd := by omega
    simp [lq_at, g, this]
  · simp [lq_at, g, hj]
  · have : e.2.2.2 < dd := by omega
    simp [lq_at, this, hj]
theorem c9_levelAt (d : Nat) {m : ab_Ob} {c : Int → Int → Int → Int → Int} {n dd : Int} (hm : md_T m c n) {i : Int} (hi : -1 ≤ i) : ab_Ct (d + 3) 0 0 mX9_levelAt [ab_O 0, ab_I dd, ab_I i] [m] (fun rv v => v = [m] ∧ ((i = -1 ∧ rv = some (ab_I (lq_L c n dd).length)) ∨ ((lq_L c n dd).length ≤ i ∧ 0 ≤ i ∧ rv = some (ab_I (-1))) ∨ ∃ (p : Nat) (e : Int × Int × Int × Int), rv = some (ab_I p) ∧ 0 ≤ i ∧ (tr_A c n)[p]? = some e ∧ (lq_L c n dd)[i.toNat]? = some e)) := by
  have n1 := hm.2.2.2.2.1
  have n2 := hm.2.2.2.2.2
  have e40 := hm.2.2.2.1.1
  have lenA := tr_A_len c n1
  refine ab_ct kX9_levelAt rfl rfl (fun x hx => vX9_levelAt_0 hx dd i m 0 0 ?_)
  have key : ∀ (q p : Nat), p + q = (tr_A c n).length → (i = -1 ∨ (((tr_A c n).take p).filter (lq_at dd)).length ≤ i) → ab_J x 5 [some (ab_O 0), some (ab_I dd), some (ab_I i), some (ab_I (((tr_A c n).take p).filter (lq_at dd)).length), some (ab_I p)] [] [m] 0 0 := by
    intro q
    induction q with
    | zero =>
      intro p hp hc
      have ef : ((tr_A c n).take p).filter (lq_at dd) = lq_L c n dd := by rw [List.take_of_length_le (by omega)]; rfl
      refine vX9_levelAt_5 hx _ _ _ _ m 0 0 ⟨fun _ => ⟨fun g => ⟨⟨⟨_, rfl⟩, _, rfl, rfl⟩, rfl, Or.inr (Or.inl ⟨?_, by omega, rfl⟩)⟩, fun g => ⟨⟨⟨_, rfl⟩, _, rfl, rfl⟩, rfl, Or.inl ⟨g, ?_⟩⟩⟩, fun g => absurd (by omega) g⟩
      · rw [ef] at hc; omega
      · rw [ef]
    | succ q ih =>
      intro p hp hc
      have tl : p < (tr_A c n).length := by omega
      have he := List.getElem?_eq_getElem tl
      generalize (tr_A c n)[p] = e at he
      have nx := ih (p + 1) (by omega)
      have fb : (((tr_A c n).take p).filter (lq_at dd)).length ≤ p := Nat.le_trans (List.length_filter_le _ _) (by rw [List.length_take]; omega)
      rw [fl_s he] at nx
      refine vX9_levelAt_5 hx _ _ _ _ m 0 0 ⟨fun g => absurd g (by omega), fun _ => ab_xb (c9_isAt d hm he) (fun hj => ⟨fun _ => ⟨fun g => ⟨by omega, by omega, ?_⟩, fun g => ⟨⟨⟨_, rfl⟩, _, rfl, rfl⟩, rfl, Or.inr (Or.inr ⟨p, e, rfl, by omega, he, ?_⟩)⟩⟩, fun g => absurd g (by decide)⟩) (fun hj => ⟨fun g => absurd rfl g, fun _ => ⟨by omega, ?_⟩⟩)⟩
      · rw [if_pos hj] at nx
        have := nx (by push_cast; omega)
        push_cast at this
        exact this
      · have := fl_at he hj
        have ei : i.toNat = (((tr_A c n).take p).filter (lq_at dd)).length := by omega
        rw [ei]
        exact this
      · rw [if_neg hj, Nat.add_zero] at nx
        exact nx hc
  exact key (tr_A c n).length 0 (by omega) (by
    rcases Int.lt_or_le i 0 with g | g
    · exact Or.inl (by omega)
    · exact Or.inr (by simpa using g))
theorem c9_isLevel (d : Nat) {m : ab_Ob} {c : Int → Int → Int → Int → Int} {n dd : Int} (hm : md_T m c n) : ab_Ct (d + 2) 0 0 mX9_isLevel [ab_O 0, ab_I dd] [m] (ab_Bo (0 ≤ dd ∧ dd ≤ tq_dp (tr_A c n)) [m]) :=
  ab_ct kX9_isLevel rfl rfl (fun x hx => vX9_isLevel_0 hx dd m 0 0 (ab_x1 (c9_deep d hm) (ab_xb (c9_in d _ _ _) (fun h => ⟨ab_i11, ab_l1b rfl h⟩) (fun h => ⟨ab_i01, ab_l0b rfl h⟩))))
/-! levels: the class, steps -/
def ly_len (v : ab_Ob) : Prop := (v.2 1).1 = 24 ∧ (v.2 2).1 = 24 ∧ (v.2 3).1 = 24
/-- a layer object holds a level -/
def ly_ok (v : ab_Ob) (L : List (Int × Int × Int × Int)) : Prop := ly_len v ∧ v.1 0 = L.length ∧ ∀ (t : Nat) e, L[t]? = some e → (v.2 1).2 t = e.2.2.1 ∧ (v.2 2).2 t = e.1 ∧ (v.2 3).2 t = e.2.1
theorem c_stepFrom (d : Nat) {v b : ab_Ob} {L : List (Int × Int × Int × Int)} (hv : ly_ok v L) (hb : sc_ok b) (hL : ∀ e ∈ L, 0 ≤ e.2.2.1 ∧ e.2.2.1 < b.1 3) (hl : L.length ≤ 24) {t : Nat} {e e' : Int × Int × Int × Int} (h1 : L[t]? = some e) (h2 : L[t + 1]? = some e') : ab_Ct (d + 1) 0 0 mX3_stepFrom [ab_O 0, ab_O 1, ab_I t] [v, b] (ab_Is ((b.2 4).2 e'.2.2.1 - (b.2 4).2 e.2.2.1) [v, b]) := by
  have hn := hb.2.1
  have l4 := hb.1.1
  obtain ⟨w1, _⟩ := List.getElem?_eq_some_iff.mp h2
  have a := hL e (List.mem_of_getElem? h1)
  have a' := hL e' (List.mem_of_getElem? h2)
  have p := (hb.2.2.2.2.2.1 e.2.2.1 a.1 a.2).1
  have p' := (hb.2.2.2.2.2.1 e'.2.2.1 a'.1 a'.2).1
  have r := (hv.2.2 t e h1).1
  have r' := (hv.2.2 (t + 1) e' h2).1
  push_cast at r'
  have l1 := hv.1.1
  refine ab_ct kX3_stepFrom rfl rfl (fun x hx => vX3_stepFrom_0 hx t v b 0 0 ⟨by omega, by omega, ?_⟩)
  rw [r, r']
  exact ⟨by omega, by omega, by omega, by omega, ab_lf rfl rfl⟩
