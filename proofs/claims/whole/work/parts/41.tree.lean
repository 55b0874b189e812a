/-! THE BEST TREE: its parts, in the order of a walk from above; a part: first, last, head, depth -/
def tr_hl (c : Int → Int → Int → Int → Int) (i j h : Int) : Int := if h ≤ dp_sp c i j h then h else dp_un c i j h
def tr_hr (c : Int → Int → Int → Int → Int) (i j h : Int) : Int := if h ≤ dp_sp c i j h then dp_un c i j h else h
def tr_P (c : Int → Int → Int → Int → Int) : Nat → Int → Int → Int → Int → List (Int × Int × Int × Int)
  | 0, i, j, h, dp => [(i, j, h, dp)]
  | k + 1, i, j, h, dp => if i < j then (i, j, h, dp) :: (tr_P c k i (dp_sp c i j h) (tr_hl c i j h) (dp + 1) ++ tr_P c k (dp_sp c i j h + 1) j (tr_hr c i j h) (dp + 1)) else [(i, j, h, dp)]
/-- the parts of the best tree of a span with a head -/
def tr_Q (c : Int → Int → Int → Int → Int) (i j h dp : Int) : List (Int × Int × Int × Int) := tr_P c (j - i).toNat i j h dp
theorem tr_hl_in {c : Int → Int → Int → Int → Int} {i j h : Int} (hij : i < j) (h1 : i ≤ h) : i ≤ tr_hl c i j h ∧ tr_hl c i j h ≤ dp_sp c i j h := by
  have u := dp_un_in (c := c) (h := h) hij
  unfold tr_hl
  split
  · rename_i g; omega
  · rename_i g; have := u.2 g; omega
theorem tr_hr_in {c : Int → Int → Int → Int → Int} {i j h : Int} (hij : i < j) (h1 : h ≤ j) : dp_sp c i j h + 1 ≤ tr_hr c i j h ∧ tr_hr c i j h ≤ j := by
  have u := dp_un_in (c := c) (h := h) hij
  unfold tr_hr
  split
  · rename_i g; have := u.1 g; omega
  · rename_i g; omega
theorem tr_P_st {c : Int → Int → Int → Int → Int} : ∀ {k m : Nat} {i j h dp : Int}, j - i ≤ k → k ≤ m → tr_P c m i j h dp = tr_P c k i j h dp
  | 0, 0, _, _, _, _, _, _ => rfl
  | 0, m + 1, i, j, h, dp, h1, _ => by
    show (if i < j then _ else _) = _
    rw [if_neg (by omega)]
    rfl
  | k + 1, 0, _, _, _, _, _, h2 => absurd h2 (by omega)
  | k + 1, m + 1, i, j, h, dp, h1, h2 => by
    by_cases hij : i < j
    · have hs := dp_sp_in (c := c) (h := h) hij
      show (if i < j then _ else _) = (if i < j then _ else _)
      rw [if_pos hij, if_pos hij, tr_P_st (k := k) (m := m) (by push_cast at h1; omega) (by omega), tr_P_st (k := k) (m := m) (by push_cast at h1; omega) (by omega)]
    · show (if i < j then _ else _) = (if i < j then _ else _)
      rw [if_neg hij, if_neg hij]
theorem tr_Q_1 (c : Int → Int → Int → Int → Int) (i h dp : Int) : tr_Q c i i h dp = [(i, i, h, dp)] := by
  unfold tr_Q
  have : (i - i).toNat = 0 := by omega
  rw [this]
  rfl
theorem tr_Q_s {c : Int → Int → Int → Int → Int} {i j h dp : Int} (hij : i < j) : tr_Q c i j h dp = (i, j, h, dp) :: (tr_Q c i (dp_sp c i j h) (tr_hl c i j h) (dp + 1) ++ tr_Q c (dp_sp c i j h + 1) j (tr_hr c i j h) (dp + 1)) := by
  have hs := dp_sp_in (c := c) (h := h) hij
  unfold tr_Q
  obtain ⟨k, hk⟩ : ∃ k, (j - i).toNat = k + 1 := ⟨(j - i).toNat - 1, by omega⟩
  rw [hk]
  show (if i < j then _ else _) = _
  rw [if_pos hij, tr_P_st (k := (dp_sp c i j h - i).toNat) (m := k) (by omega) (by omega), tr_P_st (k := (j - (dp_sp c i j h + 1)).toNat) (m := k) (by omega) (by omega)]
/-- what holds of single notes and of what is joined holds of all -/
theorem tr_ind (c : Int → Int → Int → Int → Int) {M : Int → Int → Int → Int → Prop} (h0 : ∀ i dp, M i i i dp) (hs : ∀ i j h dp, i < j → i ≤ h → h ≤ j → M i (dp_sp c i j h) (tr_hl c i j h) (dp + 1) → M (dp_sp c i j h + 1) j (tr_hr c i j h) (dp + 1) → M i j h dp) : ∀ (i j h dp : Int), i ≤ h → h ≤ j → M i j h dp := by
  have key : ∀ (m : Nat) (i j h dp : Int), j - i ≤ m → i ≤ h → h ≤ j → M i j h dp := by
    intro m
    induction m with
    | zero =>
      intro i j h dp a b c'
      have e1 : j = i := by omega
      have e2 : h = i := by omega
      subst e1; subst e2
      exact h0 _ _
    | succ m ih =>
      intro i j h dp a b c'
      by_cases hij : i < j
      · have s1 := dp_sp_in (c := c) (h := h) hij
        have l1 := tr_hl_in (c := c) hij b
        have r1 := tr_hr_in (c := c) hij c'
        exact hs i j h dp hij b c' (ih _ _ _ _ (by push_cast at a; omega) l1.1 l1.2) (ih _ _ _ _ (by push_cast at a; omega) r1.1 r1.2)
      · have e1 : j = i := by omega
        have e2 : h = i := by omega
        subst e1; subst e2
        exact h0 _ _
  exact fun i j h dp a b => key (j - i).toNat i j h dp (by omega) a b
theorem tr_Q_len (c : Int → Int → Int → Int → Int) : ∀ (i j h dp : Int), i ≤ h → h ≤ j → ((tr_Q c i j h dp).length : Int) = 2 * (j - i) + 1 := by
  refine tr_ind c (fun i dp => ?_) (fun i j h dp hij a b p1 p2 => ?_)
  · rw [tr_Q_1]; simp
  · rw [tr_Q_s hij]
    simp only [List.length_cons, List.length_append]
    push_cast
    omega
/-- a part lies within, has its head, is no higher -/
def tr_ok (i j dp : Int) (e : Int × Int × Int × Int) : Prop := i ≤ e.1 ∧ e.1 ≤ e.2.2.1 ∧ e.2.2.1 ≤ e.2.1 ∧ e.2.1 ≤ j ∧ dp ≤ e.2.2.2 ∧ e.2.2.2 + (e.2.1 - e.1) ≤ dp + (j - i)
theorem tr_Q_ok (c : Int → Int → Int → Int → Int) : ∀ (i j h dp : Int), i ≤ h → h ≤ j → ∀ e ∈ tr_Q c i j h dp, tr_ok i j dp e := by
  refine tr_ind c (fun i dp e he => ?_) (fun i j h dp hij a b p1 p2 e he => ?_)
  · rw [tr_Q_1] at he
    rw [List.mem_singleton.mp he]
    unfold tr_ok
    dsimp only
    omega
  · have s1 := dp_sp_in (c := c) (h := h) hij
    rw [tr_Q_s hij, List.mem_cons, List.mem_append] at he
    rcases he with he | he | he
    · subst he
      unfold tr_ok
      dsimp only
      omega
    · have := p1 e he
      unfold tr_ok at this ⊢
      omega
    · have := p2 e he
      unfold tr_ok at this ⊢
      omega
/-- the parts that are joined -/
def tr_J (c : Int → Int → Int → Int → Int) (i j h dp : Int) : List (Int × Int × Int × Int) := (tr_Q c i j h dp).filter (fun e => decide (e.1 < e.2.1))
theorem tr_J_1 (c : Int → Int → Int → Int → Int) (i h dp : Int) : tr_J c i i h dp = [] := by
  unfold tr_J
  rw [tr_Q_1]
  simp
theorem tr_J_s {c : Int → Int → Int → Int → Int} {i j h dp : Int} (hij : i < j) : tr_J c i j h dp = (i, j, h, dp) :: (tr_J c i (dp_sp c i j h) (tr_hl c i j h) (dp + 1) ++ tr_J c (dp_sp c i j h + 1) j (tr_hr c i j h) (dp + 1)) := by
  unfold tr_J
  rw [tr_Q_s hij, List.filter_cons, if_pos (by simpa using hij), List.filter_append]
theorem tr_J_len (c : Int → Int → Int → Int → Int) : ∀ (i j h dp : Int), i ≤ h → h ≤ j → (tr_J c i j h dp).length = (j - i).toNat := by
  refine tr_ind c (fun i dp => ?_) (fun i j h dp hij a b p1 p2 => ?_)
  · rw [tr_J_1]; simp
  · have s1 := dp_sp_in (c := c) (h := h) hij
    rw [tr_J_s hij]
    simp only [List.length_cons, List.length_append]
    omega
theorem tr_J_ok {c : Int → Int → Int → Int → Int} {i j h dp : Int} (h1 : i ≤ h) (h2 : h ≤ j) {e : Int × Int × Int × Int} (he : e ∈ tr_J c i j h dp) : tr_ok i j dp e ∧ e.1 < e.2.1 := by
  unfold tr_J at he
  rw [List.mem_filter] at he
  exact ⟨tr_Q_ok c i j h dp h1 h2 e he.1, by simpa using he.2⟩
/-- where the two parts of a joining stand -/
theorem tr_J_ch (c : Int → Int → Int → Int → Int) : ∀ (i j h dp : Int), i ≤ h → h ≤ j → ∀ (t : Nat) (i' j' h' d' : Int), (tr_J c i j h dp)[t]? = some (i', j', h', d') → (i' < dp_sp c i' j' h' → (tr_J c i j h dp)[t + 1]? = some (i', dp_sp c i' j' h', tr_hl c i' j' h', d' + 1)) ∧ (dp_sp c i' j' h' + 1 < j' → (tr_J c i j h dp)[t + 1 + (dp_sp c i' j' h' - i').toNat]? = some (dp_sp c i' j' h' + 1, j', tr_hr c i' j' h', d' + 1)) := by
  refine tr_ind c (fun i dp t i' j' h' d' ht => ?_) (fun i j h dp hij a b p1 p2 t i' j' h' d' ht => ?_)
  · rw [tr_J_1] at ht; simp at ht
  · have s1 := dp_sp_in (c := c) (h := h) hij
    have l1 := tr_hl_in (c := c) hij a
    have r1 := tr_hr_in (c := c) hij b
    have len := tr_J_len c i (dp_sp c i j h) (tr_hl c i j h) (dp + 1) l1.1 l1.2
    rw [tr_J_s hij] at ht ⊢
    cases t with
    | zero =>
      simp only [List.getElem?_cons_zero, Option.some.injEq, Prod.mk.injEq] at ht
      obtain ⟨rfl, rfl, rfl, rfl⟩ := ht
      constructor
      · intro hl
        rw [List.getElem?_cons_succ, List.getElem?_append_left (by rw [len]; omega), tr_J_s hl]
        rfl
      · intro hr
        have e : 0 + 1 + (dp_sp c i j h - i).toNat = (dp_sp c i j h - i).toNat + 1 := by omega
        rw [e, List.getElem?_cons_succ, List.getElem?_append_right (by rw [len]; omega), len, Nat.sub_self, tr_J_s hr]
        rfl
    | succ t =>
      rw [List.getElem?_cons_succ] at ht
      have e1 : t + 1 + 1 = (t + 1) + 1 := rfl
      have e2 : t + 1 + 1 + (dp_sp c i' j' h' - i').toNat = (t + 1 + (dp_sp c i' j' h' - i').toNat) + 1 := by omega
      rw [e2, List.getElem?_cons_succ, List.getElem?_cons_succ]
      by_cases hlt : t < (tr_J c i (dp_sp c i j h) (tr_hl c i j h) (dp + 1)).length
      · rw [List.getElem?_append_left hlt] at ht
        have p := p1 t i' j' h' d' ht
        constructor
        · intro hl
          have q := p.1 hl
          obtain ⟨w, _⟩ := List.getElem?_eq_some_iff.mp q
          rw [List.getElem?_append_left w]; exact q
        · intro hr
          have q := p.2 hr
          obtain ⟨w, _⟩ := List.getElem?_eq_some_iff.mp q
          rw [List.getElem?_append_left w]; exact q
      · rw [List.getElem?_append_right (by omega)] at ht
        have p := p2 _ i' j' h' d' ht
        constructor
        · intro hl
          rw [List.getElem?_append_right (by omega)]
          have := p.1 hl
          have e3 : t - (tr_J c i (dp_sp c i j h) (tr_hl c i j h) (dp + 1)).length + 1 = t + 1 - (tr_J c i (dp_sp c i j h) (tr_hl c i j h) (dp + 1)).length := by omega
          rw [e3] at this
          exact this
        · intro hr
          rw [List.getElem?_append_right (by omega)]
          have := p.2 hr
          have e3 : t - (tr_J c i (dp_sp c i j h) (tr_hl c i j h) (dp + 1)).length + 1 + (dp_sp c i' j' h' - i').toNat = t + 1 + (dp_sp c i' j' h' - i').toNat - (tr_J c i (dp_sp c i j h) (tr_hl c i j h) (dp + 1)).length := by omega
          rw [e3] at this
          exact this
/-- t is a part of the joining t0 -/
def tr_pa (c : Int → Int → Int → Int → Int) (L : List (Int × Int × Int × Int)) (t0 t : Nat) : Prop := ∃ i' j' h' d' : Int, L[t0]? = some (i', j', h', d') ∧ ((i' < dp_sp c i' j' h' ∧ t = t0 + 1) ∨ (dp_sp c i' j' h' + 1 < j' ∧ t = t0 + 1 + (dp_sp c i' j' h' - i').toNat))
/-- each joining but the first is a part of one before -/
theorem tr_J_up (c : Int → Int → Int → Int → Int) : ∀ (i j h dp : Int), i ≤ h → h ≤ j → ∀ t : Nat, 0 < t → t < (tr_J c i j h dp).length → ∃ t0 : Nat, t0 < t ∧ tr_pa c (tr_J c i j h dp) t0 t := by
  refine tr_ind c (fun i dp t h1 h2 => ?_) (fun i j h dp hij a b p1 p2 t h1 h2 => ?_)
  · rw [tr_J_1] at h2; simp at h2
  · have s1 := dp_sp_in (c := c) (h := h) hij
    have l1 := tr_hl_in (c := c) hij a
    have r1 := tr_hr_in (c := c) hij b
    have len := tr_J_len c i (dp_sp c i j h) (tr_hl c i j h) (dp + 1) l1.1 l1.2
    have len2 := tr_J_len c (dp_sp c i j h + 1) j (tr_hr c i j h) (dp + 1) r1.1 r1.2
    rw [tr_J_s hij] at h2 ⊢
    simp only [List.length_cons, List.length_append] at h2
    obtain ⟨t, rfl⟩ : ∃ q, t = q + 1 := ⟨t - 1, by omega⟩
    by_cases hlt : t < (tr_J c i (dp_sp c i j h) (tr_hl c i j h) (dp + 1)).length
    · by_cases ht0 : t = 0
      · subst ht0
        exact ⟨0, by omega, i, j, h, dp, rfl, Or.inl ⟨by omega, rfl⟩⟩
      · obtain ⟨t0, q1, i', j', h', d', q2, q3⟩ := p1 t (by omega) hlt
        refine ⟨t0 + 1, by omega, i', j', h', d', ?_, ?_⟩
        · rw [List.getElem?_cons_succ, List.getElem?_append_left (by omega)]; exact q2
        · omega
    · by_cases ht0 : t = (tr_J c i (dp_sp c i j h) (tr_hl c i j h) (dp + 1)).length
      · exact ⟨0, by omega, i, j, h, dp, rfl, Or.inr ⟨by omega, by omega⟩⟩
      · obtain ⟨t0, q1, i', j', h', d', q2, q3⟩ := p2 (t - (tr_J c i (dp_sp c i j h) (tr_hl c i j h) (dp + 1)).length) (by omega) (by omega)
        refine ⟨t0 + (tr_J c i (dp_sp c i j h) (tr_hl c i j h) (dp + 1)).length + 1, by omega, i', j', h', d', ?_, ?_⟩
        · rw [List.getElem?_cons_succ, List.getElem?_append_right (by omega)]
          have e : t0 + (tr_J c i (dp_sp c i j h) (tr_hl c i j h) (dp + 1)).length - (tr_J c i (dp_sp c i j h) (tr_hl c i j h) (dp + 1)).length = t0 := by omega
          rw [e]; exact q2
        · omega
/-- the note that goes under in a joining -/
def tr_un (c : Int → Int → Int → Int → Int) (e : Int × Int × Int × Int) : Int := dp_un c e.1 e.2.1 e.2.2.1
theorem tr_un_hlr {c : Int → Int → Int → Int → Int} {i j h : Int} (hij : i < j) (a : i ≤ h) (b : h ≤ j) : (h = tr_hl c i j h ∧ dp_un c i j h = tr_hr c i j h) ∨ (h = tr_hr c i j h ∧ dp_un c i j h = tr_hl c i j h) := by
  unfold tr_hl tr_hr
  split
  · exact Or.inl ⟨rfl, rfl⟩
  · exact Or.inr ⟨rfl, rfl⟩
theorem tr_J_un (c : Int → Int → Int → Int → Int) : ∀ (i j h dp : Int), i ≤ h → h ≤ j → (∀ e ∈ tr_J c i j h dp, i ≤ tr_un c e ∧ tr_un c e ≤ j ∧ tr_un c e ≠ h) ∧ (∀ (t t' : Nat) (e e' : Int × Int × Int × Int), (tr_J c i j h dp)[t]? = some e → (tr_J c i j h dp)[t']? = some e' → tr_un c e = tr_un c e' → t = t') ∧ (∀ k : Int, i ≤ k → k ≤ j → k ≠ h → ∃ e ∈ tr_J c i j h dp, tr_un c e = k) := by
  refine tr_ind c (fun i dp => ?_) (fun i j h dp hij a b p1 p2 => ?_)
  · rw [tr_J_1]
    refine ⟨fun e he => by simp at he, fun t t' e e' he => by simp at he, fun k k1 k2 k3 => absurd (by omega) k3⟩
  · have s1 := dp_sp_in (c := c) (h := h) hij
    have l1 := tr_hl_in (c := c) hij a
    have r1 := tr_hr_in (c := c) hij b
    have hu := tr_un_hlr (c := c) hij a b
    obtain ⟨a1, a2, a3⟩ := p1
    obtain ⟨b1, b2, b3⟩ := p2
    have e0 : tr_un c (i, j, h, dp) = dp_un c i j h := rfl
    rw [tr_J_s hij]
    refine ⟨fun e he => ?_, fun t t' e e' he he' hee => ?_, fun k k1 k2 k3 => ?_⟩
    · rw [List.mem_cons, List.mem_append] at he
      rcases he with rfl | he | he
      · rw [e0]; omega
      · have := a1 e he; omega
      · have := b1 e he; omega
    · have both : ∀ {e : Int × Int × Int × Int} {t : Nat}, (tr_J c i (dp_sp c i j h) (tr_hl c i j h) (dp + 1) ++ tr_J c (dp_sp c i j h + 1) j (tr_hr c i j h) (dp + 1))[t]? = some e → ((tr_J c i (dp_sp c i j h) (tr_hl c i j h) (dp + 1))[t]? = some e ∧ i ≤ tr_un c e ∧ tr_un c e ≤ dp_sp c i j h ∧ tr_un c e ≠ tr_hl c i j h) ∨ ((tr_J c i (dp_sp c i j h) (tr_hl c i j h) (dp + 1)).length ≤ t ∧ (tr_J c (dp_sp c i j h + 1) j (tr_hr c i j h) (dp + 1))[t - (tr_J c i (dp_sp c i j h) (tr_hl c i j h) (dp + 1)).length]? = some e ∧ dp_sp c i j h + 1 ≤ tr_un c e ∧ tr_un c e ≤ j ∧ tr_un c e ≠ tr_hr c i j h) := by
        intro e t he
        by_cases hlt : t < (tr_J c i (dp_sp c i j h) (tr_hl c i j h) (dp + 1)).length
        · rw [List.getElem?_append_left hlt] at he
          exact Or.inl ⟨he, a1 e (List.mem_of_getElem? he)⟩
        · rw [List.getElem?_append_right (by omega)] at he
          exact Or.inr ⟨by omega, he, b1 e (List.mem_of_getElem? he)⟩
      cases t with
      | zero =>
        simp only [List.getElem?_cons_zero, Option.some.injEq] at he
        subst he
        cases t' with
        | zero => rfl
        | succ t' =>
          rw [List.getElem?_cons_succ] at he'
          rw [e0] at hee
          rcases both he' with g | g <;> omega
      | succ t =>
        rw [List.getElem?_cons_succ] at he
        cases t' with
        | zero =>
          simp only [List.getElem?_cons_zero, Option.some.injEq] at he'
          subst he'
          rw [e0] at hee
          rcases both he with g | g <;> omega
        | succ t' =>
          rw [List.getElem?_cons_succ] at he'
          rcases both he with g | g
          · rcases both he' with g' | g'
            · rw [a2 t t' e e' g.1 g'.1 hee]
            · omega
          · rcases both he' with g' | g'
            · omega
            · have := b2 _ _ e e' g.2.1 g'.2.1 hee
              omega
    · by_cases hk : k = dp_un c i j h
      · exact ⟨(i, j, h, dp), List.mem_cons_self, by rw [e0]; exact hk.symm⟩
      · by_cases hks : k ≤ dp_sp c i j h
        · obtain ⟨e, he, hek⟩ := a3 k k1 hks (by omega)
          exact ⟨e, List.mem_cons_of_mem _ (List.mem_append_left _ he), hek⟩
        · obtain ⟨e, he, hek⟩ := b3 k (by omega) k2 (by omega)
          exact ⟨e, List.mem_cons_of_mem _ (List.mem_append_right _ he), hek⟩
