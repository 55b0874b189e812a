/-! the least part with two notes -/
/-- parts with a note come deeper and deeper -/
theorem tr_chain (c : Int → Int → Int → Int → Int) : ∀ (i j h dp : Int), i ≤ h → h ≤ j → ∀ (t t' : Nat) (e e' : Int × Int × Int × Int), (tr_Q c i j h dp)[t]? = some e → (tr_Q c i j h dp)[t']? = some e' → t < t' → ∀ k : Int, e.1 ≤ k → k ≤ e.2.1 → e'.1 ≤ k → k ≤ e'.2.1 → e.2.2.2 < e'.2.2.2 := by
  refine tr_ind c (fun i dp t t' e e' he he' hlt => ?_) (fun i j h dp hij a b p1 p2 t t' e e' he he' hlt k k1 k2 k3 k4 => ?_)
  · rw [tr_Q_1] at he'
    obtain ⟨wl, _⟩ := List.getElem?_eq_some_iff.mp he'
    simp at wl
    omega
  · have l1 := tr_hl_in (c := c) hij a
    have r1 := tr_hr_in (c := c) hij b
    have okL := tr_Q_ok c _ _ _ (dp + 1) l1.1 l1.2
    have okR := tr_Q_ok c _ _ _ (dp + 1) r1.1 r1.2
    rw [tr_Q_s hij] at he he'
    obtain ⟨t', rfl⟩ : ∃ q, t' = q + 1 := ⟨t' - 1, by omega⟩
    rw [List.getElem?_cons_succ] at he'
    cases t with
    | zero =>
      simp only [List.getElem?_cons_zero, Option.some.injEq] at he
      subst he
      have hm := List.mem_of_getElem? he'
      rw [List.mem_append] at hm
      rcases hm with hm | hm
      · have := okL e' hm; unfold tr_ok at this; dsimp only; omega
      · have := okR e' hm; unfold tr_ok at this; dsimp only; omega
    | succ t =>
      rw [List.getElem?_cons_succ] at he
      by_cases hq : t < (tr_Q c i (dp_sp c i j h) (tr_hl c i j h) (dp + 1)).length
      · rw [List.getElem?_append_left hq] at he
        by_cases hq' : t' < (tr_Q c i (dp_sp c i j h) (tr_hl c i j h) (dp + 1)).length
        · rw [List.getElem?_append_left hq'] at he'
          exact p1 t t' e e' he he' (by omega) k k1 k2 k3 k4
        · rw [List.getElem?_append_right (by omega)] at he'
          have o1 := okL _ (List.mem_of_getElem? he)
          have o2 := okR _ (List.mem_of_getElem? he')
          unfold tr_ok at o1 o2
          omega
      · rw [List.getElem?_append_right (by omega)] at he
        by_cases hq' : t' < (tr_Q c i (dp_sp c i j h) (tr_hl c i j h) (dp + 1)).length
        · omega
        · rw [List.getElem?_append_right (by omega)] at he'
          exact p2 _ _ e e' he he' (by omega) k k1 k2 k3 k4
/-- joinings with a note come deeper and deeper -/
theorem tr_chainJ (c : Int → Int → Int → Int → Int) : ∀ (i j h dp : Int), i ≤ h → h ≤ j → ∀ (t t' : Nat) (e e' : Int × Int × Int × Int), (tr_J c i j h dp)[t]? = some e → (tr_J c i j h dp)[t']? = some e' → t < t' → ∀ k : Int, e.1 ≤ k → k ≤ e.2.1 → e'.1 ≤ k → k ≤ e'.2.1 → e.2.2.2 < e'.2.2.2 := by
  refine tr_ind c (fun i dp t t' e e' he he' hlt => ?_) (fun i j h dp hij a b p1 p2 t t' e e' he he' hlt k k1 k2 k3 k4 => ?_)
  · rw [tr_J_1] at he'
    simp at he'
  · have l1 := tr_hl_in (c := c) hij a
    have r1 := tr_hr_in (c := c) hij b
    have okL : ∀ e ∈ tr_J c i (dp_sp c i j h) (tr_hl c i j h) (dp + 1), tr_ok i (dp_sp c i j h) (dp + 1) e := fun e he => (tr_J_ok l1.1 l1.2 he).1
    have okR : ∀ e ∈ tr_J c (dp_sp c i j h + 1) j (tr_hr c i j h) (dp + 1), tr_ok (dp_sp c i j h + 1) j (dp + 1) e := fun e he => (tr_J_ok r1.1 r1.2 he).1
    rw [tr_J_s hij] at he he'
    obtain ⟨t', rfl⟩ : ∃ q, t' = q + 1 := ⟨t' - 1, by omega⟩
    rw [List.getElem?_cons_succ] at he'
    cases t with
    | zero =>
      simp only [List.getElem?_cons_zero, Option.some.injEq] at he
      subst he
      have hm := List.mem_of_getElem? he'
      rw [List.mem_append] at hm
      rcases hm with hm | hm
      · have := okL e' hm; unfold tr_ok at this; dsimp only; omega
      · have := okR e' hm; unfold tr_ok at this; dsimp only; omega
    | succ t =>
      rw [List.getElem?_cons_succ] at he
      by_cases hq : t < (tr_J c i (dp_sp c i j h) (tr_hl c i j h) (dp + 1)).length
      · rw [List.getElem?_append_left hq] at he
        by_cases hq' : t' < (tr_J c i (dp_sp c i j h) (tr_hl c i j h) (dp + 1)).length
        · rw [List.getElem?_append_left hq'] at he'
          exact p1 t t' e e' he he' (by omega) k k1 k2 k3 k4
        · rw [List.getElem?_append_right (by omega)] at he'
          have o1 := okL _ (List.mem_of_getElem? he)
          have o2 := okR _ (List.mem_of_getElem? he')
          unfold tr_ok at o1 o2
          omega
      · rw [List.getElem?_append_right (by omega)] at he
        by_cases hq' : t' < (tr_J c i (dp_sp c i j h) (tr_hl c i j h) (dp + 1)).length
        · omega
        · rw [List.getElem?_append_right (by omega)] at he'
          exact p2 _ _ e e' he he' (by omega) k k1 k2 k3 k4
/-- a joining that has a note has a part that has it -/
theorem tr_child (c : Int → Int → Int → Int → Int) : ∀ (i j h dp : Int), i ≤ h → h ≤ j → ∀ e ∈ tr_Q c i j h dp, e.1 < e.2.1 → ∀ k : Int, e.1 ≤ k → k ≤ e.2.1 → ∃ e' ∈ tr_Q c i j h dp, e'.2.2.2 = e.2.2.2 + 1 ∧ e'.1 ≤ k ∧ k ≤ e'.2.1 := by
  refine tr_ind c (fun i dp e he hlt => ?_) (fun i j h dp hij a b p1 p2 e he hlt k k1 k2 => ?_)
  · rw [tr_Q_1] at he
    have := List.mem_singleton.mp he
    subst this
    dsimp only at hlt
    omega
  · rw [tr_Q_s hij] at he ⊢
    rw [List.mem_cons, List.mem_append] at he
    rcases he with he | he | he
    · subst he
      dsimp only at k1 k2
      by_cases hk : k ≤ dp_sp c i j h
      · exact ⟨_, List.mem_cons_of_mem _ (List.mem_append_left _ (List.mem_of_getElem? (tr_Q_root c _ _ _ _))), rfl, k1, hk⟩
      · exact ⟨_, List.mem_cons_of_mem _ (List.mem_append_right _ (List.mem_of_getElem? (tr_Q_root c _ _ _ _))), rfl, by dsimp only; omega, k2⟩
    · obtain ⟨e', y1, y2⟩ := p1 e he hlt k k1 k2
      exact ⟨e', List.mem_cons_of_mem _ (List.mem_append_left _ y1), y2⟩
    · obtain ⟨e', y1, y2⟩ := p2 e he hlt k k1 k2
      exact ⟨e', List.mem_cons_of_mem _ (List.mem_append_right _ y1), y2⟩
/-- the least part with two notes -/
def ov_is (L : List (Int × Int × Int × Int)) (a b : Int) (e : Int × Int × Int × Int) : Prop := e ∈ L ∧ (e.1 ≤ a ∧ a ≤ e.2.1) ∧ (e.1 ≤ b ∧ b ≤ e.2.1) ∧ ∀ e' ∈ L, e'.1 ≤ a → a ≤ e'.2.1 → e'.1 ≤ b → b ≤ e'.2.1 → e'.2.2.2 ≤ e.2.2.2
theorem ov_one {c : Int → Int → Int → Int → Int} {i j h dp a : Int} (h1 : i ≤ h) (h2 : h ≤ j) {e : Int × Int × Int × Int} (ho : ov_is (tr_Q c i j h dp) a a e) : e.2.2.1 = a := by
  obtain ⟨o1, o2, o3, o4⟩ := ho
  have ok := tr_Q_ok c i j h dp h1 h2 e o1
  unfold tr_ok at ok
  by_cases g : e.1 < e.2.1
  · obtain ⟨e', y1, y2, y3, y4⟩ := tr_child c i j h dp h1 h2 e o1 g a o2.1 o2.2
    have := o4 e' y1 y3 y4 y3 y4
    omega
  · omega
theorem ov_uni {c : Int → Int → Int → Int → Int} {i j h dp a b : Int} (h1 : i ≤ h) (h2 : h ≤ j) {e e' : Int × Int × Int × Int} (ho : ov_is (tr_Q c i j h dp) a b e) (ho' : ov_is (tr_Q c i j h dp) a b e') : e = e' := by
  obtain ⟨o1, o2, o3, o4⟩ := ho
  obtain ⟨p1, p2, p3, p4⟩ := ho'
  have x1 := o4 e' p1 p2.1 p2.2 p3.1 p3.2
  have x2 := p4 e o1 o2.1 o2.2 o3.1 o3.2
  exact tr_same c i j h dp h1 h2 e o1 e' p1 (by omega) a o2.1 o2.2 p2.1 p2.2
/-- the deepest so far in a list, found by going through it -/
theorem c_headOverBoth (d : Nat) {v : ab_Ob} {c : Int → Int → Int → Int → Int} {i j k o : Int} (hv : tb_ok v c i j) (h0 : 0 ≤ i) (h1 : i ≤ j) (h3 : j ≤ 23) (hk : i ≤ k ∧ k ≤ j) (ho : i ≤ o ∧ o ≤ j) {e : Int × Int × Int × Int} (he : ov_is (tr_Q c i j (dp_H c i j) 0) k o e) : ab_Ct (d + 1) 0 0 mX7_headOverBoth [ab_O 0, ab_I k, ab_I o] [v] (ab_Is e.2.2.1 [v]) := by
  have hH := dp_H_in (c := c) h1
  have e2 := hv.2.2.2.1
  have len := tb_at hv h1
  obtain ⟨n3, n4, n5, n6, n7, n8, n9⟩ := hv.1
  refine ab_ct kX7_headOverBoth rfl rfl (fun x hx => vX7_headOverBoth_0 hx k o v 0 0 ⟨fun g => ab_lf rfl ?_, fun g => ?_⟩)
  · subst g
    exact (ov_one hH.1 hH.2 he).symm
  · obtain ⟨w1, w2, w3, w4⟩ := id he
    have eJ : e ∈ tr_J c i j (dp_H c i j) 0 := by
      unfold tr_J
      rw [List.mem_filter]
      exact ⟨w1, by simp only [decide_eq_true_eq]; omega⟩
    obtain ⟨t0, ht0⟩ := List.getElem?_of_mem eJ
    obtain ⟨t0l, _⟩ := List.getElem?_eq_some_iff.mp ht0
    have low : ∀ (e' : Int × Int × Int × Int), (e'.1 ≤ (if o < k then o else k) ∧ (if k < o then o else k) ≤ e'.2.1) ↔ (e'.1 ≤ k ∧ k ≤ e'.2.1 ∧ e'.1 ≤ o ∧ o ≤ e'.2.1) := by
      intro e'
      constructor
      · intro hh; split at hh <;> split at hh <;> omega
      · intro hh; split <;> split <;> omega
    -- a later one with both notes would be deeper
    have later : ∀ (t : Nat) (e' : Int × Int × Int × Int), (tr_J c i j (dp_H c i j) 0)[t]? = some e' → t0 < t → ¬ (e'.1 ≤ k ∧ k ≤ e'.2.1 ∧ e'.1 ≤ o ∧ o ≤ e'.2.1) := by
      intro t e' ht hlt hh
      have memQ : e' ∈ tr_Q c i j (dp_H c i j) 0 := by
        have := List.mem_of_getElem? ht
        unfold tr_J at this
        exact (List.mem_filter.mp this).1
      have y1 := w4 e' memQ hh.1 hh.2.1 hh.2.2.1 hh.2.2.2
      have y2 := tr_chainJ c i j (dp_H c i j) 0 hH.1 hH.2 t0 t e e' ht0 ht hlt k w2.1 w2.2 hh.1 hh.2.1
      omega
    have key : ∀ (q t : Nat) (r : Int), t + q = (j - i).toNat → (t0 < t → r = e.2.2.1) → ab_J x 24 [some (ab_O 0), none, none, some (ab_I r), some (ab_I (if o < k then o else k)), some (ab_I (if k < o then o else k)), some (ab_I t)] [] [v] 0 0 := by
      intro q
      induction q with
      | zero =>
        intro t r ht hr
        exact vX7_headOverBoth_24 hx _ _ _ _ v 0 0 ⟨fun _ => ab_lf rfl (hr (by omega)), fun g => absurd (by omega) g⟩
      | succ q ih =>
        intro t r ht hr
        have tl : t < (tr_J c i j (dp_H c i j) 0).length := by omega
        have het := List.getElem?_eq_getElem tl
        generalize (tr_J c i j (dp_H c i j) 0)[t] = e' at het
        obtain ⟨a1, a2, a3, a4, a5, a6, a7, a8⟩ := tb_e hv h0 h1 h3 het
        obtain ⟨r1, r2, r3, r4⟩ := a2
        have no : ¬ (e'.1 ≤ (if o < k then o else k) ∧ (if k < o then o else k) ≤ e'.2.1) → ab_J x 24 [some (ab_O 0), none, none, some (ab_I r), some (ab_I (if o < k then o else k)), some (ab_I (if k < o then o else k)), some (ab_I ((t : Int) + 1))] [] [v] 0 0 := fun g => by
          refine ih (t + 1) r (by omega) (fun hlt => ?_)
          by_cases eq : t = t0
          · subst eq
            rw [ht0] at het
            cases het
            exact absurd ((low e).mpr ⟨w2.1, w2.2, w3.1, w3.2⟩) g
          · exact hr (by omega)
        refine vX7_headOverBoth_24 hx _ _ _ _ v 0 0 ⟨fun g => absurd g (by omega), fun _ => ⟨by omega, ?_⟩⟩
        rw [r1, r2, r3]
        refine ⟨fun g1 => ⟨by omega, no (by omega)⟩, fun g1 => ⟨by omega, fun g2 => ⟨by omega, no (by omega)⟩, fun g2 => ⟨by omega, by omega, ?_⟩⟩⟩
        refine ih (t + 1) e'.2.2.1 (by omega) (fun hlt => ?_)
        by_cases eq : t = t0
        · subst eq
          rw [ht0] at het
          cases het
          rfl
        · exact absurd ((low e').mp ⟨by omega, by omega⟩) (later t e' het (by omega))
    exact key (j - i).toNat 0 k (by omega) (fun h => absurd h (by omega))
