/-! of each note the greatest part that it is head of -/
/-- the part that goes under in a joining -/
def tr_f (c : Int → Int → Int → Int → Int) (e : Int × Int × Int × Int) : Int × Int × Int × Int := if tr_un c e ≤ tq_sp c e then (e.1, tq_sp c e, tr_un c e, e.2.2.2 + 1) else (tq_sp c e + 1, e.2.1, tr_un c e, e.2.2.2 + 1)
theorem tr_Q_root (c : Int → Int → Int → Int → Int) (i j h dp : Int) : (tr_Q c i j h dp)[0]? = some (i, j, h, dp) := by
  unfold tr_Q
  cases hk : (j - i).toNat with
  | zero => rfl
  | succ k =>
    show (if i < j then _ else _ : List (Int × Int × Int × Int))[0]? = _
    split <;> rfl
theorem tr_top (c : Int → Int → Int → Int → Int) {i j h dp : Int} (h1 : i ≤ h) (h2 : h ≤ j) : ∀ e ∈ tr_Q c i j h dp, dp ≤ e.2.2.2 ∧ (e.2.2.2 = dp → e = (i, j, h, dp)) := by
  intro e he
  have ok := tr_Q_ok c i j h dp h1 h2 e he
  refine ⟨ok.2.2.2.2.1, fun hd => ?_⟩
  by_cases hij : i < j
  · have l1 := tr_hl_in (c := c) hij h1
    have r1 := tr_hr_in (c := c) hij h2
    rw [tr_Q_s hij, List.mem_cons, List.mem_append] at he
    rcases he with he | he | he
    · exact he
    · have := (tr_Q_ok c _ _ _ _ l1.1 l1.2 e he).2.2.2.2.1
      omega
    · have := (tr_Q_ok c _ _ _ _ r1.1 r1.2 e he).2.2.2.2.1
      omega
  · have e1 : j = i := by omega
    subst e1
    rw [tr_Q_1] at he
    exact List.mem_singleton.mp he
theorem tr_f_root {c : Int → Int → Int → Int → Int} {i j h dp : Int} (hij : i < j) (a : i ≤ h) (b : h ≤ j) : (tr_f c (i, j, h, dp) = (i, dp_sp c i j h, tr_hl c i j h, dp + 1) ∧ dp_un c i j h = tr_hl c i j h) ∨ (tr_f c (i, j, h, dp) = (dp_sp c i j h + 1, j, tr_hr c i j h, dp + 1) ∧ dp_un c i j h = tr_hr c i j h) := by
  have l1 := tr_hl_in (c := c) hij a
  have r1 := tr_hr_in (c := c) hij b
  have e0 : tr_un c (i, j, h, dp) = dp_un c i j h := rfl
  have e1 : tq_sp c (i, j, h, dp) = dp_sp c i j h := rfl
  unfold tr_f
  rw [e0, e1]
  rcases tr_un_hlr (c := c) hij a b with ⟨g1, g2⟩ | ⟨g1, g2⟩
  · right
    rw [g2, if_neg (by omega)]
    exact ⟨rfl, rfl⟩
  · left
    rw [g2, if_pos (by omega)]
    exact ⟨rfl, rfl⟩
theorem tr_note (c : Int → Int → Int → Int → Int) : ∀ (i j h dp : Int), i ≤ h → h ≤ j → ∀ e ∈ tr_J c i j h dp, tr_f c e ∈ tr_Q c i j h dp ∧ ∀ e' ∈ tr_Q c i j h dp, e'.2.2.1 = tr_un c e → e.2.2.2 + 1 ≤ e'.2.2.2 ∧ (e'.2.2.2 = e.2.2.2 + 1 → e' = tr_f c e) := by
  refine tr_ind c (fun i dp e he => ?_) (fun i j h dp hij a b p1 p2 e he => ?_)
  · rw [tr_J_1] at he; simp at he
  · have s1 := dp_sp_in (c := c) (h := h) hij
    have l1 := tr_hl_in (c := c) hij a
    have r1 := tr_hr_in (c := c) hij b
    have u1 := tr_un_hlr (c := c) hij a b
    have okL := tr_Q_ok c _ _ _ (dp + 1) l1.1 l1.2
    have okR := tr_Q_ok c _ _ _ (dp + 1) r1.1 r1.2
    have unL := (tr_J_un c _ _ _ (dp + 1) l1.1 l1.2).1
    have unR := (tr_J_un c _ _ _ (dp + 1) r1.1 r1.2).1
    rw [tr_J_s hij, List.mem_cons, List.mem_append] at he
    rw [tr_Q_s hij]
    rcases he with he | he | he
    · subst he
      have e0 : tr_un c (i, j, h, dp) = dp_un c i j h := rfl
      rw [e0]
      rcases tr_f_root (dp := dp) hij a b with ⟨g1, g2⟩ | ⟨g1, g2⟩
      · rw [g1, g2]
        refine ⟨List.mem_cons_of_mem _ (List.mem_append_left _ (List.mem_of_getElem? (tr_Q_root c _ _ _ _))), fun e' he' hh => ?_⟩
        rw [List.mem_cons, List.mem_append] at he'
        rcases he' with he' | he' | he'
        · subst he'; dsimp only at hh; omega
        · exact tr_top c l1.1 l1.2 e' he'
        · have := okR e' he'; unfold tr_ok at this; omega
      · rw [g1, g2]
        refine ⟨List.mem_cons_of_mem _ (List.mem_append_right _ (List.mem_of_getElem? (tr_Q_root c _ _ _ _))), fun e' he' hh => ?_⟩
        rw [List.mem_cons, List.mem_append] at he'
        rcases he' with he' | he' | he'
        · subst he'; dsimp only at hh; omega
        · have := okL e' he'; unfold tr_ok at this; omega
        · exact tr_top c r1.1 r1.2 e' he'
    · have q := p1 e he
      have un := unL e he
      refine ⟨List.mem_cons_of_mem _ (List.mem_append_left _ q.1), fun e' he' hh => ?_⟩
      rw [List.mem_cons, List.mem_append] at he'
      rcases he' with he' | he' | he'
      · subst he'; dsimp only at hh; omega
      · exact q.2 e' he' hh
      · have := okR e' he'; unfold tr_ok at this; omega
    · have q := p2 e he
      have un := unR e he
      refine ⟨List.mem_cons_of_mem _ (List.mem_append_right _ q.1), fun e' he' hh => ?_⟩
      rw [List.mem_cons, List.mem_append] at he'
      rcases he' with he' | he' | he'
      · subst he'; dsimp only at hh; omega
      · have := okL e' he'; unfold tr_ok at this; omega
      · exact q.2 e' he' hh
/-- parts of one depth that share a note are one -/
theorem tr_same (c : Int → Int → Int → Int → Int) : ∀ (i j h dp : Int), i ≤ h → h ≤ j → ∀ e ∈ tr_Q c i j h dp, ∀ e' ∈ tr_Q c i j h dp, e.2.2.2 = e'.2.2.2 → ∀ k : Int, e.1 ≤ k → k ≤ e.2.1 → e'.1 ≤ k → k ≤ e'.2.1 → e = e' := by
  refine tr_ind c (fun i dp e he e' he' => ?_) (fun i j h dp hij a b p1 p2 e he e' he' hd k k1 k2 k3 k4 => ?_)
  · rw [tr_Q_1] at he he'
    rw [List.mem_singleton.mp he, List.mem_singleton.mp he']
    intros; rfl
  · have l1 := tr_hl_in (c := c) hij a
    have r1 := tr_hr_in (c := c) hij b
    have okL := tr_Q_ok c _ _ _ (dp + 1) l1.1 l1.2
    have okR := tr_Q_ok c _ _ _ (dp + 1) r1.1 r1.2
    rw [tr_Q_s hij, List.mem_cons, List.mem_append] at he he'
    rcases he with he | he | he
    · subst he
      rcases he' with he' | he' | he'
      · exact he'.symm
      · have := okL e' he'; unfold tr_ok at this; dsimp only at hd; omega
      · have := okR e' he'; unfold tr_ok at this; dsimp only at hd; omega
    · have o := okL e he
      unfold tr_ok at o
      rcases he' with he' | he' | he'
      · subst he'; dsimp only at hd; omega
      · exact p1 e he e' he' hd k k1 k2 k3 k4
      · have := okR e' he'; unfold tr_ok at this; omega
    · have o := okR e he
      unfold tr_ok at o
      rcases he' with he' | he' | he'
      · subst he'; dsimp only at hd; omega
      · have := okL e' he'; unfold tr_ok at this; omega
      · exact p2 e he e' he' hd k k1 k2 k3 k4
/-- a joining comes before its part that goes under -/
theorem tr_before (c : Int → Int → Int → Int → Int) : ∀ (i j h dp : Int), i ≤ h → h ≤ j → ∀ (q p : Nat) (e : Int × Int × Int × Int), (tr_Q c i j h dp)[q]? = some e → e.1 < e.2.1 → (tr_Q c i j h dp)[p]? = some (tr_f c e) → q < p := by
  refine tr_ind c (fun i dp q p e he hlt => ?_) (fun i j h dp hij a b p1 p2 q p e he hlt hp => ?_)
  · rw [tr_Q_1] at he
    have := List.mem_singleton.mp (List.mem_of_getElem? he)
    subst this
    dsimp only at hlt
    omega
  · have s1 := dp_sp_in (c := c) (h := h) hij
    have l1 := tr_hl_in (c := c) hij a
    have r1 := tr_hr_in (c := c) hij b
    have okL := tr_Q_ok c _ _ _ (dp + 1) l1.1 l1.2
    have okR := tr_Q_ok c _ _ _ (dp + 1) r1.1 r1.2
    have dep : (tr_f c e).2.2.2 = e.2.2.2 + 1 := by unfold tr_f; split <;> rfl
    have sub : e.1 ≤ (tr_f c e).1 ∧ (tr_f c e).2.1 ≤ e.2.1 := by
      have s2 := dp_sp_in (c := c) (h := e.2.2.1) hlt
      have e1 : tq_sp c e = dp_sp c e.1 e.2.1 e.2.2.1 := rfl
      unfold tr_f
      rw [e1]
      split <;> dsimp only <;> omega
    rw [tr_Q_s hij] at he hp
    cases q with
    | zero =>
      simp only [List.getElem?_cons_zero, Option.some.injEq] at he
      subst he
      cases p with
      | zero =>
        simp only [List.getElem?_cons_zero, Option.some.injEq] at hp
        rw [← hp] at dep
        dsimp only at dep
        omega
      | succ p => omega
    | succ q =>
      rw [List.getElem?_cons_succ] at he
      cases p with
      | zero =>
        simp only [List.getElem?_cons_zero, Option.some.injEq] at hp
        rw [← hp] at dep
        dsimp only at dep
        have hm := List.mem_of_getElem? he
        rw [List.mem_append] at hm
        rcases hm with hm | hm
        · have := okL e hm; unfold tr_ok at this; omega
        · have := okR e hm; unfold tr_ok at this; omega
      | succ p =>
        rw [List.getElem?_cons_succ] at hp
        by_cases hq : q < (tr_Q c i (dp_sp c i j h) (tr_hl c i j h) (dp + 1)).length
        · rw [List.getElem?_append_left hq] at he
          by_cases hpl : p < (tr_Q c i (dp_sp c i j h) (tr_hl c i j h) (dp + 1)).length
          · rw [List.getElem?_append_left hpl] at hp
            have := p1 q p e he hlt hp
            omega
          · omega
        · rw [List.getElem?_append_right (by omega)] at he
          by_cases hpl : p < (tr_Q c i (dp_sp c i j h) (tr_hl c i j h) (dp + 1)).length
          · rw [List.getElem?_append_left hpl] at hp
            have o1 := okL _ (List.mem_of_getElem? hp)
            have o2 := okR _ (List.mem_of_getElem? he)
            unfold tr_ok at o1 o2
            omega
          · rw [List.getElem?_append_right (by omega)] at hp
            have := p2 _ _ e he hlt hp
            omega
/-- the least depth of parts with a head, once it is known -/
theorem mt_rk_le : ∀ (E : List (Int × Int × Int × Int)) (k : Int), mt_rk E k ≤ 24 ∧ (∀ e ∈ E, e.2.2.1 = k → mt_rk E k ≤ e.2.2.2) ∧ (mt_rk E k = 24 ∨ ∃ e ∈ E, e.2.2.1 = k ∧ e.2.2.2 = mt_rk E k) := by
  intro E k
  have key : ∀ (n : Nat) (E : List (Int × Int × Int × Int)), E.length = n → mt_rk E k ≤ 24 ∧ (∀ e ∈ E, e.2.2.1 = k → mt_rk E k ≤ e.2.2.2) ∧ (mt_rk E k = 24 ∨ ∃ e ∈ E, e.2.2.1 = k ∧ e.2.2.2 = mt_rk E k) := by
    intro n
    induction n with
    | zero =>
      intro E hE
      have e0 : E = [] := List.length_eq_zero_iff.mp hE
      subst e0
      exact ⟨Int.le_refl 24, fun e he => by simp at he, Or.inl rfl⟩
    | succ n ih =>
      intro E hE
      obtain ⟨l, x, rfl⟩ : ∃ l x, E = l ++ [x] := by
        have hne : E ≠ [] := by intro h; subst h; simp at hE
        exact ⟨E.dropLast, E.getLast hne, (List.dropLast_concat_getLast hne).symm⟩
      obtain ⟨i1, i2, i3⟩ := ih l (by simpa using hE)
      rw [mt_rk_s]
      by_cases g : x.2.2.1 = k ∧ x.2.2.2 < mt_rk l k
      · rw [if_pos g]
        refine ⟨by omega, fun e he hk => ?_, Or.inr ⟨x, by simp, g.1, rfl⟩⟩
        rw [List.mem_append, List.mem_singleton] at he
        rcases he with he | rfl
        · have := i2 e he hk; omega
        · omega
      · rw [if_neg g]
        refine ⟨i1, fun e he hk => ?_, ?_⟩
        · rw [List.mem_append, List.mem_singleton] at he
          rcases he with he | rfl
          · exact i2 e he hk
          · have : ¬ e.2.2.2 < mt_rk l k := fun hh => g ⟨hk, hh⟩
            omega
        · rcases i3 with i3 | ⟨e, he, h1, h2⟩
          · exact Or.inl i3
          · exact Or.inr ⟨e, List.mem_append_left _ he, h1, h2⟩
  exact key E.length E rfl
theorem mt_rk_eq {E : List (Int × Int × Int × Int)} {k : Int} {e : Int × Int × Int × Int} (he : e ∈ E) (hk : e.2.2.1 = k) (hd : e.2.2.2 < 24) (hm : ∀ e' ∈ E, e'.2.2.1 = k → e.2.2.2 ≤ e'.2.2.2) : mt_rk E k = e.2.2.2 := by
  obtain ⟨i1, i2, i3⟩ := mt_rk_le E k
  have := i2 e he hk
  rcases i3 with i3 | ⟨e', he', h1, h2⟩
  · omega
  · have := hm e' he' h1
    omega
