/-! levels: mathematics -/
def lq_Q (c : Int → Int → Int → Int → Int) (i j h dp dd : Int) : List (Int × Int × Int × Int) := (tr_Q c i j h dp).filter (lq_at dd)
theorem lq_1 {c : Int → Int → Int → Int → Int} {i h dp dd : Int} (hd : dp ≤ dd) : lq_Q c i i h dp dd = [(i, i, h, dp)] := by
  unfold lq_Q
  rw [tr_Q_1]
  have : lq_at dd (i, i, h, dp) = true := by
    by_cases e : dp = dd
    · simp [lq_at, e]
    · have : dp < dd := by omega
      simp [lq_at, tr_jn, this]
  simp [this]
theorem lq_deep {c : Int → Int → Int → Int → Int} {i j h dp dd : Int} (h1 : i ≤ h) (h2 : h ≤ j) (hd : dd < dp) : lq_Q c i j h dp dd = [] := by
  unfold lq_Q
  rw [List.filter_eq_nil_iff]
  intro e he
  have ok := tr_Q_ok c i j h dp h1 h2 e he
  unfold tr_ok at ok
  have a : ¬ e.2.2.2 = dd := by omega
  have b : ¬ e.2.2.2 < dd := by omega
  simp [lq_at, a, b]
theorem lq_s {c : Int → Int → Int → Int → Int} {i j h dp dd : Int} (hij : i < j) (h1 : i ≤ h) (h2 : h ≤ j) (hd : dp ≤ dd) : lq_Q c i j h dp dd = if dp = dd then [(i, j, h, dp)] else lq_Q c i (dp_sp c i j h) (tr_hl c i j h) (dp + 1) dd ++ lq_Q c (dp_sp c i j h + 1) j (tr_hr c i j h) (dp + 1) dd := by
  have l1 := tr_hl_in (c := c) hij h1
  have r1 := tr_hr_in (c := c) hij h2
  by_cases e : dp = dd
  · rw [if_pos e]
    have hL := lq_deep (c := c) (dp := dp + 1) (dd := dd) l1.1 l1.2 (by omega)
    have hR := lq_deep (c := c) (dp := dp + 1) (dd := dd) r1.1 r1.2 (by omega)
    unfold lq_Q at hL hR ⊢
    rw [tr_Q_s hij, List.filter_cons_of_pos (by simp [lq_at, e]), List.filter_append, hL, hR]
    rfl
  · rw [if_neg e]
    unfold lq_Q
    rw [tr_Q_s hij, List.filter_cons_of_neg (by simp [lq_at, tr_jn, e, hij]), List.filter_append]
/-- spans one behind another, from i to j -/
def lq_cv : Int → List (Int × Int × Int × Int) → Int → Prop
  | i, [], j => i = j + 1
  | i, e :: L, j => e.1 = i ∧ e.1 ≤ e.2.1 ∧ lq_cv (e.2.1 + 1) L j
theorem lq_cv_app : ∀ {L L' : List (Int × Int × Int × Int)} {i s j : Int}, lq_cv i L s → lq_cv (s + 1) L' j → lq_cv i (L ++ L') j
  | [], L', i, s, j, h, h' => by
    have : i = s + 1 := h
    subst this
    exact h'
  | e :: L, L', i, s, j, ⟨h1, h2, h3⟩, h' => ⟨h1, h2, lq_cv_app h3 h'⟩
theorem lq_cover (c : Int → Int → Int → Int → Int) : ∀ (i j h dp : Int), i ≤ h → h ≤ j → ∀ dd : Int, dp ≤ dd → lq_cv i (lq_Q c i j h dp dd) j := by
  refine tr_ind c (fun i dp dd hd => ?_) (fun i j h dp hij a b p1 p2 dd hd => ?_)
  · rw [lq_1 hd]
    exact ⟨rfl, Int.le_refl _, rfl⟩
  · rw [lq_s hij a b hd]
    by_cases e : dp = dd
    · rw [if_pos e]
      exact ⟨rfl, by dsimp only; omega, rfl⟩
    · rw [if_neg e]
      exact lq_cv_app (p1 dd (by omega)) (p2 dd (by omega))
/-- joinings of one depth come in the order of their notes -/
theorem tr_order (c : Int → Int → Int → Int → Int) : ∀ (i j h dp : Int), i ≤ h → h ≤ j → ∀ (t t' : Nat) (e e' : Int × Int × Int × Int), (tr_J c i j h dp)[t]? = some e → (tr_J c i j h dp)[t']? = some e' → t < t' → e.2.2.2 = e'.2.2.2 → e.2.1 < e'.1 := by
  refine tr_ind c (fun i dp t t' e e' he he' hlt => ?_) (fun i j h dp hij a b p1 p2 t t' e e' he he' hlt hd => ?_)
  · rw [tr_J_1] at he'
    simp at he'
  · have l1 := tr_hl_in (c := c) hij a
    have r1 := tr_hr_in (c := c) hij b
    have okL : ∀ e ∈ tr_J c i (dp_sp c i j h) (tr_hl c i j h) (dp + 1), tr_ok i (dp_sp c i j h) (dp + 1) e := fun e he => (tr_J_ok l1.1 l1.2 he).1
    have okR : ∀ e ∈ tr_J c (dp_sp c i j h + 1) j (tr_hr c i j h) (dp + 1), tr_ok (dp_sp c i j h + 1) j (dp + 1) e := fun e he => (tr_J_ok r1.1 r1.2 he).1
    rw [tr_J_s hij] at he he'
    obtain ⟨t', rfl⟩ : ∃ q, t' = q + 1 := ⟨t' - 1, by omega⟩
    rw [List.getElem?_cons_succ] at he'
    cases t with
    | zero =>
      simp only [List.getElem?_cons_zero, Option.some.injEq] at he
      subst he
      have hm := List.mem_of_getElem? he'
      rw [List.mem_append] at hm
      dsimp only at hd
      rcases hm with hm | hm
      · have := okL e' hm; unfold tr_ok at this; omega
      · have := okR e' hm; unfold tr_ok at this; omega
    | succ t =>
      rw [List.getElem?_cons_succ] at he
      by_cases hq : t < (tr_J c i (dp_sp c i j h) (tr_hl c i j h) (dp + 1)).length
      · rw [List.getElem?_append_left hq] at he
        by_cases hq' : t' < (tr_J c i (dp_sp c i j h) (tr_hl c i j h) (dp + 1)).length
        · rw [List.getElem?_append_left hq'] at he'
          exact p1 t t' e e' he he' (by omega) hd
        · rw [List.getElem?_append_right (by omega)] at he'
          have o1 := okL _ (List.mem_of_getElem? he)
          have o2 := okR _ (List.mem_of_getElem? he')
          unfold tr_ok at o1 o2
          omega
      · rw [List.getElem?_append_right (by omega)] at he
        by_cases hq' : t' < (tr_J c i (dp_sp c i j h) (tr_hl c i j h) (dp + 1)).length
        · omega
        · rw [List.getElem?_append_right (by omega)] at he'
          exact p2 _ _ e e' he he' (by omega) hd
