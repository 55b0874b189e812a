/-! what is asked of a tree: the class -/
def tq_sp (c : Int → Int → Int → Int → Int) (e : Int × Int × Int × Int) : Int := dp_sp c e.1 e.2.1 e.2.2.1
def tq_l (c : Int → Int → Int → Int → Int) (e : Int × Int × Int × Int) : Int := tq_sp c e + 1 - e.1
def tq_r (c : Int → Int → Int → Int → Int) (e : Int × Int × Int × Int) : Int := e.2.1 - tq_sp c e
def tq_un (b : ab_Ob) (c : Int → Int → Int → Int → Int) (rule : Int) (e : Int × Int × Int × Int) : Int := sc_un b rule e.2.2.1 (tr_un c e) (tq_l c e) (tq_r c e)
def tq_br (b : ab_Ob) (c : Int → Int → Int → Int → Int) (e : Int × Int × Int × Int) : Int := sc_br b e.2.2.1 (tr_un c e) (tq_l c e) (tq_r c e)
def tq_sm (f : Int × Int × Int × Int → Int) : List (Int × Int × Int × Int) → Int
  | [] => 0
  | e :: l => f e + tq_sm f l
theorem tq_sm_app (f : Int × Int × Int × Int → Int) : ∀ (l l' : List (Int × Int × Int × Int)), tq_sm f (l ++ l') = tq_sm f l + tq_sm f l'
  | [], l' => by simp [tq_sm]
  | e :: l, l' => by
    have := tq_sm_app f l l'
    show f e + tq_sm f (l ++ l') = f e + tq_sm f l + tq_sm f l'
    omega
theorem tq_sm_s (f : Int × Int × Int × Int → Int) {L : List (Int × Int × Int × Int)} {t : Nat} {e : Int × Int × Int × Int} (h : L[t]? = some e) : tq_sm f (L.take (t + 1)) = tq_sm f (L.take t) + f e := by
  rw [List.take_succ, h, tq_sm_app]
  simp [tq_sm]
theorem tq_sm_b {f : Int × Int × Int × Int → Int} {B : Int} : ∀ {L : List (Int × Int × Int × Int)}, (∀ e ∈ L, 0 ≤ f e ∧ f e ≤ B) → 0 ≤ tq_sm f L ∧ tq_sm f L ≤ B * L.length
  | [], _ => by simp [tq_sm]
  | e :: L, h => by
    have h1 := tq_sm_b (L := L) (fun e he => h e (List.mem_cons_of_mem _ he))
    have h2 := h e List.mem_cons_self
    simp only [tq_sm, List.length_cons]
    have : B * ((L.length + 1 : Nat) : Int) = B * L.length + B := by push_cast; rw [Int.mul_add, Int.mul_one]
    omega
theorem tb_e {v : ab_Ob} {c : Int → Int → Int → Int → Int} {i j : Int} (hv : tb_ok v c i j) (h0 : 0 ≤ i) (h1 : i ≤ j) (h2 : j ≤ 23) {t : Nat} {e : Int × Int × Int × Int} (he : (tr_J c i j (dp_H c i j) 0)[t]? = some e) :
    (t : Int) < j - i ∧ tb_sl v t e ∧ tb_dn c v t e ∧ (i ≤ e.1 ∧ e.1 < e.2.1 ∧ e.2.1 ≤ j) ∧ (e.1 ≤ e.2.2.1 ∧ e.2.2.1 ≤ e.2.1) ∧ (0 ≤ e.2.2.2 ∧ e.2.2.2 ≤ 23) ∧ (e.1 ≤ tq_sp c e ∧ tq_sp c e < e.2.1) ∧ (e.1 ≤ tr_un c e ∧ tr_un c e ≤ e.2.1) := by
  have hH := dp_H_in (c := c) h1
  have ok := tr_J_ok hH.1 hH.2 (List.mem_of_getElem? he)
  have len := tr_J_len c i j (dp_H c i j) 0 hH.1 hH.2
  obtain ⟨wl, _⟩ := List.getElem?_eq_some_iff.mp he
  have r := hv.2.2.2.2.1 t e he
  have s1 := dp_sp_in (c := c) (h := e.2.2.1) ok.2
  have u1 := dp_un_in (c := c) (h := e.2.2.1) ok.2
  unfold tr_ok at ok
  refine ⟨by omega, r.1, r.2, by omega, by omega, by omega, s1, ?_⟩
  unfold tr_un
  by_cases g : e.2.2.1 ≤ dp_sp c e.1 e.2.1 e.2.2.1
  · have := u1.1 g; omega
  · have := u1.2 g; omega
theorem c_leftNotes (d : Nat) {v : ab_Ob} {c : Int → Int → Int → Int → Int} {i j : Int} (hv : tb_ok v c i j) (h0 : 0 ≤ i) (h1 : i ≤ j) (h2 : j ≤ 23) {t : Nat} {e : Int × Int × Int × Int} (he : (tr_J c i j (dp_H c i j) 0)[t]? = some e) : ab_Ct (d + 1) 0 0 mX7_leftNotes [ab_O 0, ab_I t] [v] (ab_Is (tq_l c e) [v]) := by
  obtain ⟨a1, a2, a3, a4, a5, a6, a7, a8⟩ := tb_e hv h0 h1 h2 he
  obtain ⟨n3, n4, n5, n6, n7, n8, n9⟩ := hv.1
  have r5 : (v.2 5).2 t = tq_sp c e := a3.1
  have r3 := a2.1
  refine ab_ct kX7_leftNotes rfl rfl (fun x hx => vX7_leftNotes_0 hx t v 0 0 ⟨by omega, by omega, by omega, by omega, ab_lf rfl ?_⟩)
  rw [r5, r3]
  rfl
theorem c_rightNotes (d : Nat) {v : ab_Ob} {c : Int → Int → Int → Int → Int} {i j : Int} (hv : tb_ok v c i j) (h0 : 0 ≤ i) (h1 : i ≤ j) (h2 : j ≤ 23) {t : Nat} {e : Int × Int × Int × Int} (he : (tr_J c i j (dp_H c i j) 0)[t]? = some e) : ab_Ct (d + 1) 0 0 mX7_rightNotes [ab_O 0, ab_I t] [v] (ab_Is (tq_r c e) [v]) := by
  obtain ⟨a1, a2, a3, a4, a5, a6, a7, a8⟩ := tb_e hv h0 h1 h2 he
  obtain ⟨n3, n4, n5, n6, n7, n8, n9⟩ := hv.1
  have r5 : (v.2 5).2 t = tq_sp c e := a3.1
  have r4 := a2.2.1
  refine ab_ct kX7_rightNotes rfl rfl (fun x hx => vX7_rightNotes_0 hx t v 0 0 ⟨by omega, by omega, by omega, ab_lf rfl ?_⟩)
  rw [r5, r4]
  rfl
theorem c_unitsAt (d : Nat) {v b : ab_Ob} {c : Int → Int → Int → Int → Int} {i j : Int} (hb : sc_ok b) (hd : sc_db b) (hv : tb_ok v c i j) (h0 : 0 ≤ i) (h1 : i ≤ j) (h2 : j < b.1 3) {rule : Int} {t : Nat} {e : Int × Int × Int × Int} (he : (tr_J c i j (dp_H c i j) 0)[t]? = some e) : ab_Ct (d + 3) 0 0 mX7_unitsAt [ab_O 0, ab_O 1, ab_I rule, ab_I t] [v, b] (ab_Is (tq_un b c rule e) [v, b]) := by
  have hn := hb.2.1
  obtain ⟨a1, a2, a3, a4, a5, a6, a7, a8⟩ := tb_e hv h0 h1 (by omega) he
  obtain ⟨n3, n4, n5, n6, n7, n8, n9⟩ := hv.1
  have r6 := a2.2.2.1
  have r7 := a3.2.1
  refine ab_ct kX7_unitsAt rfl rfl (fun x hx => vX7_unitsAt_0 hx rule t v b 0 0 ⟨by omega, by omega, ?_⟩)
  rw [r6, r7]
  refine ab_x1 (c_leftNotes (d + 1) hv h0 h1 (by omega) he) (ab_x1 (c_rightNotes (d + 1) hv h0 h1 (by omega) he) (ab_x1 (c_units d b hb hd (by omega) (by omega) ?_ ?_) (ab_lf rfl rfl)))
  · unfold tq_l; omega
  · unfold tq_r; omega
theorem c_breaksAt (d : Nat) {v b : ab_Ob} {c : Int → Int → Int → Int → Int} {i j : Int} (hb : sc_ok b) (hd : sc_db b) (hv : tb_ok v c i j) (h0 : 0 ≤ i) (h1 : i ≤ j) (h2 : j < b.1 3) {t : Nat} {e : Int × Int × Int × Int} (he : (tr_J c i j (dp_H c i j) 0)[t]? = some e) : ab_Ct (d + 4) 0 0 mX7_breaksAt [ab_O 0, ab_O 1, ab_I t] [v, b] (ab_Is (tq_br b c e) [v, b]) := by
  have hn := hb.2.1
  obtain ⟨a1, a2, a3, a4, a5, a6, a7, a8⟩ := tb_e hv h0 h1 (by omega) he
  obtain ⟨n3, n4, n5, n6, n7, n8, n9⟩ := hv.1
  have r6 := a2.2.2.1
  have r7 := a3.2.1
  refine ab_ct kX7_breaksAt rfl rfl (fun x hx => vX7_breaksAt_0 hx t v b 0 0 ⟨by omega, by omega, ?_⟩)
  rw [r6, r7]
  refine ab_x1 (c_leftNotes (d + 2) hv h0 h1 (by omega) he) (ab_x1 (c_rightNotes (d + 2) hv h0 h1 (by omega) he) (ab_x1 (c_breaking d b hb hd (by omega) (by omega) ?_ ?_) (ab_lf rfl rfl)))
  · unfold tq_l; omega
  · unfold tq_r; omega
theorem tq_un_b {v b : ab_Ob} {c : Int → Int → Int → Int → Int} {i j : Int} (hb : sc_ok b) (hd : sc_db b) (hv : tb_ok v c i j) (h0 : 0 ≤ i) (h1 : i ≤ j) (h2 : j < b.1 3) {rule : Int} {e : Int × Int × Int × Int} (he : e ∈ tr_J c i j (dp_H c i j) 0) : 0 ≤ tq_un b c rule e ∧ tq_un b c rule e ≤ 99 := by
  have hn := hb.2.1
  obtain ⟨t, ht⟩ := List.getElem?_of_mem he
  obtain ⟨a1, a2, a3, a4, a5, a6, a7, a8⟩ := tb_e hv h0 h1 (by omega) ht
  exact sc_un_b hb hd (by omega) (by omega) (by unfold tq_l; omega) (by unfold tq_r; omega)
theorem tq_br_b {v b : ab_Ob} {c : Int → Int → Int → Int → Int} {i j : Int} (hb : sc_ok b) (hd : sc_db b) (hv : tb_ok v c i j) (h0 : 0 ≤ i) (h1 : i ≤ j) (h2 : j < b.1 3) {e : Int × Int × Int × Int} (he : e ∈ tr_J c i j (dp_H c i j) 0) : 0 ≤ tq_br b c e ∧ tq_br b c e ≤ 60000 := by
  have hn := hb.2.1
  obtain ⟨t, ht⟩ := List.getElem?_of_mem he
  obtain ⟨a1, a2, a3, a4, a5, a6, a7, a8⟩ := tb_e hv h0 h1 (by omega) ht
  exact sc_br_cb hb hd _ _ _ _ (by omega) (by omega) (by omega) (by omega) (by unfold tq_l; omega) (by unfold tq_l; omega) (by unfold tq_r; omega) (by unfold tq_r; omega)
theorem tb_at {v : ab_Ob} {c : Int → Int → Int → Int → Int} {i j : Int} (hv : tb_ok v c i j) (h1 : i ≤ j) : (tr_J c i j (dp_H c i j) 0).length = (j - i).toNat := by
  have hH := dp_H_in (c := c) h1
  exact tr_J_len c i j (dp_H c i j) 0 hH.1 hH.2
theorem c_unitsOf (d : Nat) {v b : ab_Ob} {c : Int → Int → Int → Int → Int} {i j : Int} (hb : sc_ok b) (hd : sc_db b) (hv : tb_ok v c i j) (h0 : 0 ≤ i) (h1 : i ≤ j) (h2 : j < b.1 3) {rule : Int} : ab_Ct (d + 4) 0 0 mX7_unitsOf [ab_O 0, ab_O 1, ab_I rule] [v, b] (ab_Is (tq_sm (tq_un b c rule) (tr_J c i j (dp_H c i j) 0)) [v, b]) := by
  have hn := hb.2.1
  have e2 := hv.2.2.2.1
  have len := tb_at hv h1
  refine ab_ct kX7_unitsOf rfl rfl (fun x hx => vX7_unitsOf_0 hx rule v b 0 0 ?_)
  have key : ∀ (q t : Nat), t + q = (j - i).toNat → ab_J x 5 [some (ab_O 0), some (ab_O 1), some (ab_I rule), some (ab_I (tq_sm (tq_un b c rule) ((tr_J c i j (dp_H c i j) 0).take t))), some (ab_I t)] [] [v, b] 0 0 := by
    intro q
    induction q with
    | zero =>
      intro t ht
      refine vX7_unitsOf_5 hx _ _ _ v b 0 0 ⟨fun _ => ab_lf rfl ?_, fun g => absurd (by omega) g⟩
      rw [List.take_of_length_le (by omega)]
    | succ q ih =>
      intro t ht
      have tl : t < (tr_J c i j (dp_H c i j) 0).length := by omega
      have he := List.getElem?_eq_getElem tl
      have nx := ih (t + 1) (by omega)
      rw [tq_sm_s _ he] at nx
      have b1 := tq_sm_b (f := tq_un b c rule) (B := 99) (L := (tr_J c i j (dp_H c i j) 0).take t) (fun e h => tq_un_b hb hd hv h0 h1 h2 (List.mem_of_mem_take h))
      have bl : (((tr_J c i j (dp_H c i j) 0).take t).length : Int) ≤ 24 := by rw [List.length_take]; omega
      have b2 := tq_un_b hb hd hv h0 h1 h2 (rule := rule) (List.mem_of_getElem? he)
      refine vX7_unitsOf_5 hx _ _ _ v b 0 0 ⟨fun g => absurd g (by omega), fun _ => ab_x1 (c_unitsAt d hb hd hv h0 h1 h2 he) ⟨by omega, by omega, nx⟩⟩
  exact key (j - i).toNat 0 (by omega)
theorem c_breaksOfAll (d : Nat) {v b : ab_Ob} {c : Int → Int → Int → Int → Int} {i j : Int} (hb : sc_ok b) (hd : sc_db b) (hv : tb_ok v c i j) (h0 : 0 ≤ i) (h1 : i ≤ j) (h2 : j < b.1 3) : ab_Ct (d + 5) 0 0 mX7_breaksOfAll [ab_O 0, ab_O 1] [v, b] (ab_Is (tq_sm (tq_br b c) (tr_J c i j (dp_H c i j) 0)) [v, b]) := by
  have hn := hb.2.1
  have e2 := hv.2.2.2.1
  have len := tb_at hv h1
  refine ab_ct kX7_breaksOfAll rfl rfl (fun x hx => vX7_breaksOfAll_0 hx v b 0 0 ?_)
  have key : ∀ (q t : Nat), t + q = (j - i).toNat → ab_J x 4 [some (ab_O 0), some (ab_O 1), some (ab_I (tq_sm (tq_br b c) ((tr_J c i j (dp_H c i j) 0).take t))), some (ab_I t)] [] [v, b] 0 0 := by
    intro q
    induction q with
    | zero =>
      intro t ht
      refine vX7_breaksOfAll_4 hx _ _ v b 0 0 ⟨fun _ => ab_lf rfl ?_, fun g => absurd (by omega) g⟩
      rw [List.take_of_length_le (by omega)]
    | succ q ih =>
      intro t ht
      have tl : t < (tr_J c i j (dp_H c i j) 0).length := by omega
      have he := List.getElem?_eq_getElem tl
      have nx := ih (t + 1) (by omega)
      rw [tq_sm_s _ he] at nx
      have b1 := tq_sm_b (f := tq_br b c) (B := 60000) (L := (tr_J c i j (dp_H c i j) 0).take t) (fun e h => tq_br_b hb hd hv h0 h1 h2 (List.mem_of_mem_take h))
      have bl : (((tr_J c i j (dp_H c i j) 0).take t).length : Int) ≤ 24 := by rw [List.length_take]; omega
      have b2 := tq_br_b hb hd hv h0 h1 h2 (List.mem_of_getElem? he)
      refine vX7_breaksOfAll_4 hx _ _ v b 0 0 ⟨fun g => absurd g (by omega), fun _ => ab_x1 (c_breaksAt d hb hd hv h0 h1 h2 he) ⟨by omega, by omega, nx⟩⟩
  exact key (j - i).toNat 0 (by omega)
/-- the greatest depth of a list of joinings, and one more -/
def tq_mx : List (Int × Int × Int × Int) → Int := List.foldl (fun r e => if r < e.2.2.2 + 1 then e.2.2.2 + 1 else r) 0
theorem tq_mx_s {L : List (Int × Int × Int × Int)} {t : Nat} {e : Int × Int × Int × Int} (h : L[t]? = some e) : tq_mx (L.take (t + 1)) = if tq_mx (L.take t) < e.2.2.2 + 1 then e.2.2.2 + 1 else tq_mx (L.take t) := by
  unfold tq_mx
  rw [List.take_succ, h, List.foldl_append]
  rfl
theorem c_greatestDepth (d : Nat) {v : ab_Ob} {c : Int → Int → Int → Int → Int} {i j : Int} (hv : tb_ok v c i j) (h0 : 0 ≤ i) (h1 : i ≤ j) (h2 : j ≤ 23) : ab_Ct (d + 1) 0 0 mX7_greatestDepth [ab_O 0] [v] (ab_Is (tq_mx (tr_J c i j (dp_H c i j) 0)) [v]) := by
  have e2 := hv.2.2.2.1
  have len := tb_at hv h1
  have n8 := hv.1.2.2.2.2.2.1
  refine ab_ct kX7_greatestDepth rfl rfl (fun x hx => vX7_greatestDepth_0 hx v 0 0 ?_)
  have key : ∀ (q t : Nat), t + q = (j - i).toNat → ab_J x 4 [some (ab_O 0), some (ab_I (tq_mx ((tr_J c i j (dp_H c i j) 0).take t))), some (ab_I t)] [] [v] 0 0 := by
    intro q
    induction q with
    | zero =>
      intro t ht
      refine vX7_greatestDepth_4 hx _ _ v 0 0 ⟨fun _ => ab_lf rfl ?_, fun g => absurd (by omega) g⟩
      rw [List.take_of_length_le (by omega)]
    | succ q ih =>
      intro t ht
      have tl : t < (tr_J c i j (dp_H c i j) 0).length := by omega
      have he := List.getElem?_eq_getElem tl
      have nx := ih (t + 1) (by omega)
      rw [tq_mx_s he] at nx
      obtain ⟨a1, a2, a3, a4, a5, a6, a7, a8⟩ := tb_e hv h0 h1 h2 he
      have r8 := a2.2.2.2
      refine vX7_greatestDepth_4 hx _ _ v 0 0 ⟨fun g => absurd g (by omega), fun _ => ⟨by omega, by omega, by omega, ?_⟩⟩
      rw [r8]
      exact nx
  exact key (j - i).toNat 0 (by omega)
