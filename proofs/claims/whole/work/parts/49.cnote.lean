/-! what is asked of a note: the class -/
/-- f is the greatest part that k is head of, o the note over it -/
def tp_is (c : Int → Int → Int → Int → Int) (i j k : Int) (f : Int × Int × Int × Int) (o : Int) : Prop := (k = dp_H c i j ∧ f = (i, j, k, 0) ∧ o = -2) ∨ ∃ e ∈ tr_J c i j (dp_H c i j) 0, tr_un c e = k ∧ f = tr_f c e ∧ o = e.2.2.1
theorem tp_ex (c : Int → Int → Int → Int → Int) {i j k : Int} (h1 : i ≤ k) (h2 : k ≤ j) : ∃ f o, tp_is c i j k f o := by
  have hH := dp_H_in (c := c) (by omega : i ≤ j)
  by_cases e : k = dp_H c i j
  · exact ⟨_, _, Or.inl ⟨e, rfl, rfl⟩⟩
  · obtain ⟨x, hx, hk⟩ := (tr_J_un c i j (dp_H c i j) 0 hH.1 hH.2).2.2 k h1 h2 e
    exact ⟨_, _, Or.inr ⟨x, hx, hk, rfl, rfl⟩⟩
/-- how the class finds it -/
theorem tp_v {v : ab_Ob} {c : Int → Int → Int → Int → Int} {i j k : Int} {f : Int × Int × Int × Int} {o : Int} (hv : tb_ok v c i j) (h0 : 0 ≤ i) (h1 : i ≤ k) (h2 : k ≤ j) (h3 : j ≤ 23) (hf : tp_is c i j k f o) :
    ((v.2 9).2 k = -1 ∧ f = (i, j, k, 0) ∧ o = -2) ∨ ∃ (t : Nat) (e : Int × Int × Int × Int), (tr_J c i j (dp_H c i j) 0)[t]? = some e ∧ (v.2 9).2 k = t ∧ tr_un c e = k ∧ f = tr_f c e ∧ o = e.2.2.1 := by
  rcases hf with ⟨e1, e2, e3⟩ | ⟨e, he, e1, e2, e3⟩
  · subst e1
    exact Or.inl ⟨hv.2.2.2.2.2, e2, e3⟩
  · obtain ⟨t, ht⟩ := List.getElem?_of_mem he
    have r := (hv.2.2.2.2.1 t e ht).2.2.2
    rw [e1] at r
    exact Or.inr ⟨t, e, ht, r, e1, e2, e3⟩
theorem c_rank (d : Nat) {v : ab_Ob} {c : Int → Int → Int → Int → Int} {i j k : Int} {f : Int × Int × Int × Int} {o : Int} (hv : tb_ok v c i j) (h0 : 0 ≤ i) (h1 : i ≤ k) (h2 : k ≤ j) (h3 : j ≤ 23) (hf : tp_is c i j k f o) : ab_Ct (d + 1) 0 0 mX7_rank [ab_O 0, ab_I k] [v] (ab_Is f.2.2.2 [v]) := by
  obtain ⟨n3, n4, n5, n6, n7, n8, n9⟩ := hv.1
  rcases tp_v hv h0 h1 h2 h3 hf with ⟨g1, g2, g3⟩ | ⟨t, e, g1, g2, g3, g4, g5⟩
  · refine ab_ct kX7_rank rfl rfl (fun x hx => vX7_rank_0 hx k v 0 0 ⟨by omega, fun g => absurd g1 g, fun _ => ab_lf rfl (by rw [g2])⟩)
  · obtain ⟨a1, a2, a3, a4, a5, a6, a7, a8⟩ := tb_e hv h0 (by omega) h3 g1
    have r8 := a2.2.2.2
    have ef : f.2.2.2 = e.2.2.2 + 1 := by rw [g4]; unfold tr_f; split <;> rfl
    refine ab_ct kX7_rank rfl rfl (fun x hx => vX7_rank_0 hx k v 0 0 ⟨by omega, fun g => ⟨by omega, ?_⟩, fun g => absurd g (by omega)⟩)
    rw [g2, r8]
    exact ⟨by omega, by omega, ab_lf rfl ef.symm⟩
theorem c_noteOver (d : Nat) {v : ab_Ob} {c : Int → Int → Int → Int → Int} {i j k : Int} {f : Int × Int × Int × Int} {o : Int} (hv : tb_ok v c i j) (h0 : 0 ≤ i) (h1 : i ≤ k) (h2 : k ≤ j) (h3 : j ≤ 23) (hf : tp_is c i j k f o) : ab_Ct (d + 1) 0 0 mX7_noteOver [ab_O 0, ab_I k] [v] (ab_Is o [v]) := by
  obtain ⟨n3, n4, n5, n6, n7, n8, n9⟩ := hv.1
  rcases tp_v hv h0 h1 h2 h3 hf with ⟨g1, g2, g3⟩ | ⟨t, e, g1, g2, g3, g4, g5⟩
  · refine ab_ct kX7_noteOver rfl rfl (fun x hx => vX7_noteOver_0 hx k v 0 0 ⟨by omega, fun g => absurd g1 g, fun _ => ab_lf rfl g3.symm⟩)
  · obtain ⟨a1, a2, a3, a4, a5, a6, a7, a8⟩ := tb_e hv h0 (by omega) h3 g1
    have r6 := a2.2.2.1
    refine ab_ct kX7_noteOver rfl rfl (fun x hx => vX7_noteOver_0 hx k v 0 0 ⟨by omega, fun g => ⟨by omega, ?_⟩, fun g => absurd g (by omega)⟩)
    rw [g2, r6]
    exact ⟨by omega, ab_lf rfl g5.symm⟩
theorem c_partFirst (d : Nat) {v : ab_Ob} {c : Int → Int → Int → Int → Int} {i j k : Int} {f : Int × Int × Int × Int} {o : Int} (hv : tb_ok v c i j) (h0 : 0 ≤ i) (h1 : i ≤ k) (h2 : k ≤ j) (h3 : j ≤ 23) (hf : tp_is c i j k f o) : ab_Ct (d + 1) 0 0 mX7_partFirst [ab_O 0, ab_I k] [v] (ab_Is f.1 [v]) := by
  obtain ⟨n3, n4, n5, n6, n7, n8, n9⟩ := hv.1
  rcases tp_v hv h0 h1 h2 h3 hf with ⟨g1, g2, g3⟩ | ⟨t, e, g1, g2, g3, g4, g5⟩
  · refine ab_ct kX7_partFirst rfl rfl (fun x hx => vX7_partFirst_0 hx k v 0 0 ⟨by omega, fun g => absurd g1 g, fun _ => ab_lf rfl (by rw [g2]; exact hv.2.1)⟩)
  · obtain ⟨a1, a2, a3, a4, a5, a6, a7, a8⟩ := tb_e hv h0 (by omega) h3 g1
    have r3 := a2.1
    have r5 : (v.2 5).2 t = tq_sp c e := a3.1
    refine ab_ct kX7_partFirst rfl rfl (fun x hx => vX7_partFirst_0 hx k v 0 0 ⟨by omega, fun g => ?_, fun g => absurd g (by omega)⟩)
    rw [g2, r5, r3]
    refine ⟨by omega, fun g => ⟨by omega, by omega, ab_lf rfl ?_⟩, fun g => ⟨by omega, ab_lf rfl ?_⟩⟩
    · rw [g4]; unfold tr_f; rw [if_neg (by omega)]
    · rw [g4]; unfold tr_f; rw [if_pos (by omega)]
theorem c_partLast (d : Nat) {v : ab_Ob} {c : Int → Int → Int → Int → Int} {i j k : Int} {f : Int × Int × Int × Int} {o : Int} (hv : tb_ok v c i j) (h0 : 0 ≤ i) (h1 : i ≤ k) (h2 : k ≤ j) (h3 : j ≤ 23) (hf : tp_is c i j k f o) : ab_Ct (d + 1) 0 0 mX7_partLast [ab_O 0, ab_I k] [v] (ab_Is f.2.1 [v]) := by
  obtain ⟨n3, n4, n5, n6, n7, n8, n9⟩ := hv.1
  rcases tp_v hv h0 h1 h2 h3 hf with ⟨g1, g2, g3⟩ | ⟨t, e, g1, g2, g3, g4, g5⟩
  · refine ab_ct kX7_partLast rfl rfl (fun x hx => vX7_partLast_0 hx k v 0 0 ⟨by omega, fun g => absurd g1 g, fun _ => ab_lf rfl (by rw [g2]; exact hv.2.2.1)⟩)
  · obtain ⟨a1, a2, a3, a4, a5, a6, a7, a8⟩ := tb_e hv h0 (by omega) h3 g1
    have r4 := a2.2.1
    have r5 : (v.2 5).2 t = tq_sp c e := a3.1
    refine ab_ct kX7_partLast rfl rfl (fun x hx => vX7_partLast_0 hx k v 0 0 ⟨by omega, fun g => ?_, fun g => absurd g (by omega)⟩)
    rw [g2, r5, r4]
    refine ⟨by omega, fun g => ⟨by omega, ab_lf rfl ?_⟩, fun g => ⟨by omega, ab_lf rfl ?_⟩⟩
    · rw [g4]; unfold tr_f; rw [if_neg (by omega)]
    · rw [g4]; unfold tr_f; rw [if_pos (by omega)]
theorem tp_b {c : Int → Int → Int → Int → Int} {i j k : Int} {f : Int × Int × Int × Int} {o : Int} (h1 : i ≤ k) (h2 : k ≤ j) (hf : tp_is c i j k f o) : i ≤ f.1 ∧ f.1 ≤ k ∧ k ≤ f.2.1 ∧ f.2.1 ≤ j ∧ f.2.2.1 = k := by
  have hH := dp_H_in (c := c) (by omega : i ≤ j)
  rcases hf with ⟨e1, e2, e3⟩ | ⟨e, he, e1, e2, e3⟩
  · subst e2; dsimp only; omega
  · have ok := tr_J_ok hH.1 hH.2 he
    have s1 := dp_sp_in (c := c) (h := e.2.2.1) ok.2
    have u1 := dp_un_in (c := c) (h := e.2.2.1) ok.2
    have es : tq_sp c e = dp_sp c e.1 e.2.1 e.2.2.1 := rfl
    have eu : tr_un c e = dp_un c e.1 e.2.1 e.2.2.1 := rfl
    unfold tr_ok at ok
    have ub : e.1 ≤ tr_un c e ∧ tr_un c e ≤ e.2.1 := by
      rw [eu]
      by_cases g : e.2.2.1 ≤ dp_sp c e.1 e.2.1 e.2.2.1
      · have := u1.1 g; omega
      · have := u1.2 g; omega
    subst e2
    unfold tr_f
    split <;> dsimp only <;> omega
theorem c_notesUnder (d : Nat) {v : ab_Ob} {c : Int → Int → Int → Int → Int} {i j k : Int} {f : Int × Int × Int × Int} {o : Int} (hv : tb_ok v c i j) (h0 : 0 ≤ i) (h1 : i ≤ k) (h2 : k ≤ j) (h3 : j ≤ 23) (hf : tp_is c i j k f o) : ab_Ct (d + 2) 0 0 mX7_notesUnder [ab_O 0, ab_I k] [v] (ab_Is (f.2.1 - f.1) [v]) := by
  have b := tp_b h1 h2 hf
  exact ab_ct kX7_notesUnder rfl rfl (fun x hx => vX7_notesUnder_0 hx k v 0 0 (ab_x1 (c_partLast d hv h0 h1 h2 h3 hf) (ab_x1 (c_partFirst d hv h0 h1 h2 h3 hf) ⟨by omega, ab_lf rfl rfl⟩)))
