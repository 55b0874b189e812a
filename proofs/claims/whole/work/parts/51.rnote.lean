/-! what is asked of a note: the reference -/
/-- each part but the whole is a part of a joining next above -/
theorem tr_par (c : Int → Int → Int → Int → Int) : ∀ (i j h dp : Int), i ≤ h → h ≤ j → ∀ e ∈ tr_Q c i j h dp, e = (i, j, h, dp) ∨ ∃ e' ∈ tr_J c i j h dp, e'.2.2.2 + 1 = e.2.2.2 ∧ e'.1 ≤ e.1 ∧ e.2.1 ≤ e'.2.1 := by
  refine tr_ind c (fun i dp e he => ?_) (fun i j h dp hij a b p1 p2 e he => ?_)
  · rw [tr_Q_1] at he
    exact Or.inl (List.mem_singleton.mp he)
  · have s1 := dp_sp_in (c := c) (h := h) hij
    rw [tr_Q_s hij, List.mem_cons, List.mem_append] at he
    rw [tr_J_s hij]
    rcases he with he | he | he
    · exact Or.inl he
    · rcases p1 e he with g | ⟨e', g1, g2⟩
      · exact Or.inr ⟨(i, j, h, dp), List.mem_cons_self, by subst g; dsimp only; omega⟩
      · exact Or.inr ⟨e', List.mem_cons_of_mem _ (List.mem_append_left _ g1), g2⟩
    · rcases p2 e he with g | ⟨e', g1, g2⟩
      · exact Or.inr ⟨(i, j, h, dp), List.mem_cons_self, by subst g; dsimp only; omega⟩
      · exact Or.inr ⟨e', List.mem_cons_of_mem _ (List.mem_append_right _ g1), g2⟩
theorem hd_rev {α : Type} {M : List α → Prop} (h0 : M []) (hs : ∀ l x, M l → M (l ++ [x])) : ∀ l, M l := by
  have key : ∀ (n : Nat) (l : List α), l.length = n → M l := by
    intro n
    induction n with
    | zero =>
      intro l hl
      have e0 : l = [] := List.length_eq_zero_iff.mp hl
      subst e0
      exact h0
    | succ n ih =>
      intro l hl
      have hne : l ≠ [] := by intro h; subst h; simp at hl
      rw [← List.dropLast_concat_getLast hne]
      exact hs _ _ (ih _ (by simp; omega))
  exact fun l => key l.length l rfl
theorem tq_dp_c : ∀ L : List (Int × Int × Int × Int), 0 ≤ tq_dp L ∧ (∀ e ∈ L, e.2.2.2 ≤ tq_dp L) ∧ (tq_dp L = 0 ∨ ∃ e ∈ L, e.2.2.2 = tq_dp L) := by
  refine hd_rev ⟨Int.le_refl 0, fun e he => by simp at he, Or.inl rfl⟩ (fun l x ⟨i1, i2, i3⟩ => ?_)
  have es : tq_dp (l ++ [x]) = if x.2.2.2 ≤ tq_dp l then tq_dp l else x.2.2.2 := by unfold tq_dp; rw [List.foldl_append]; rfl
  rw [es]
  by_cases g : x.2.2.2 ≤ tq_dp l
  · rw [if_pos g]
    refine ⟨i1, fun e he => ?_, ?_⟩
    · rw [List.mem_append, List.mem_singleton] at he
      rcases he with he | rfl
      · exact i2 e he
      · exact g
    · rcases i3 with i3 | ⟨e, h1, h2⟩
      · exact Or.inl i3
      · exact Or.inr ⟨e, List.mem_append_left _ h1, h2⟩
  · rw [if_neg g]
    refine ⟨by omega, fun e he => ?_, Or.inr ⟨x, by simp, rfl⟩⟩
    rw [List.mem_append, List.mem_singleton] at he
    rcases he with he | rfl
    · have := i2 e he; omega
    · omega
theorem tq_mx_c : ∀ L : List (Int × Int × Int × Int), 0 ≤ tq_mx L ∧ (∀ e ∈ L, e.2.2.2 + 1 ≤ tq_mx L) ∧ (tq_mx L = 0 ∨ ∃ e ∈ L, e.2.2.2 + 1 = tq_mx L) := by
  refine hd_rev ⟨Int.le_refl 0, fun e he => by simp at he, Or.inl rfl⟩ (fun l x ⟨i1, i2, i3⟩ => ?_)
  have es : tq_mx (l ++ [x]) = if tq_mx l < x.2.2.2 + 1 then x.2.2.2 + 1 else tq_mx l := by unfold tq_mx; rw [List.foldl_append]; rfl
  rw [es]
  by_cases g : tq_mx l < x.2.2.2 + 1
  · rw [if_pos g]
    refine ⟨by omega, fun e he => ?_, Or.inr ⟨x, by simp, rfl⟩⟩
    rw [List.mem_append, List.mem_singleton] at he
    rcases he with he | rfl
    · have := i2 e he; omega
    · omega
  · rw [if_neg g]
    refine ⟨i1, fun e he => ?_, ?_⟩
    · rw [List.mem_append, List.mem_singleton] at he
      rcases he with he | rfl
      · exact i2 e he
      · omega
    · rcases i3 with i3 | ⟨e, h1, h2⟩
      · exact Or.inl i3
      · exact Or.inr ⟨e, List.mem_append_left _ h1, h2⟩
/-- both say the same greatest depth -/
theorem tq_deep (c : Int → Int → Int → Int → Int) {n : Int} (hn : 1 ≤ n) : tq_dp (tr_A c n) = tq_mx (tr_B c n) := by
  have hH := dp_H_in (c := c) (i := 0) (j := n - 1) (by omega)
  obtain ⟨a1, a2, a3⟩ := tq_dp_c (tr_A c n)
  obtain ⟨b1, b2, b3⟩ := tq_mx_c (tr_B c n)
  have l1 : tq_dp (tr_A c n) ≤ tq_mx (tr_B c n) := by
    rcases a3 with a3 | ⟨e, he, h2⟩
    · omega
    · rcases tr_par c 0 (n - 1) (dp_H c 0 (n - 1)) 0 hH.1 hH.2 e he with g | ⟨e', g1, g2⟩
      · subst g; dsimp only at h2; omega
      · have := b2 e' g1; omega
  have l2 : tq_mx (tr_B c n) ≤ tq_dp (tr_A c n) := by
    rcases b3 with b3 | ⟨e, he, h2⟩
    · omega
    · have f := (tr_note c 0 (n - 1) (dp_H c 0 (n - 1)) 0 hH.1 hH.2 e he).1
      have := a2 _ f
      have dep : (tr_f c e).2.2.2 = e.2.2.2 + 1 := by unfold tr_f; split <;> rfl
      omega
  omega
/-- the greatest part of a note, among all parts -/
theorem tp_A {c : Int → Int → Int → Int → Int} {n k : Int} {f : Int × Int × Int × Int} {o : Int} (hn : 1 ≤ n ∧ n ≤ 24) (h1 : 0 ≤ k) (h2 : k < n) (hf : tp_is c 0 (n - 1) k f o) : f ∈ tr_A c n ∧ mt_rk (tr_A c n) k = f.2.2.2 ∧ ∀ e ∈ tr_A c n, e.2.2.1 = k → e.2.2.2 = f.2.2.2 → e = f := by
  have hH := dp_H_in (c := c) (i := 0) (j := n - 1) (by omega)
  have b := tp_b h1 (by omega) hf
  have main : f ∈ tr_A c n ∧ ∀ e ∈ tr_A c n, e.2.2.1 = k → f.2.2.2 ≤ e.2.2.2 ∧ (e.2.2.2 = f.2.2.2 → e = f) := by
    rcases hf with ⟨e1, e2, e3⟩ | ⟨e, he, e1, e2, e3⟩
    · subst e1; subst e2
      exact ⟨List.mem_of_getElem? (tr_Q_root c _ _ _ _), fun e he _ => tr_top c hH.1 hH.2 e he⟩
    · have q := tr_note c 0 (n - 1) (dp_H c 0 (n - 1)) 0 hH.1 hH.2 e he
      have dep : (tr_f c e).2.2.2 = e.2.2.2 + 1 := by unfold tr_f; split <;> rfl
      subst e2
      refine ⟨q.1, fun e' he' hk => ?_⟩
      have := q.2 e' he' (by rw [e1]; exact hk)
      rw [dep]
      exact this
  have ok := tr_Q_ok c 0 (n - 1) (dp_H c 0 (n - 1)) 0 hH.1 hH.2 f main.1
  unfold tr_ok at ok
  exact ⟨main.1, mt_rk_eq main.1 b.2.2.2.2 (by omega) (fun e he hk => (main.2 e he hk).1), fun e he hk hd => (main.2 e he hk).2 hd⟩
theorem c9_partOf (d : Nat) {m : ab_Ob} {c : Int → Int → Int → Int → Int} {n k : Int} {f : Int × Int × Int × Int} {o : Int} (hm : md_T m c n) (h1 : 0 ≤ k) (h2 : k < n) (hf : tp_is c 0 (n - 1) k f o) : ab_Ct (d + 1) 0 0 mX9_partOf [ab_O 0, ab_I k] [m] (fun rv v => v = [m] ∧ ∃ p : Nat, rv = some (ab_I p) ∧ (tr_A c n)[p]? = some f) := by
  have n1 := hm.2.2.2.2.1
  have n2 := hm.2.2.2.2.2
  obtain ⟨t1, t2, t3⟩ := tp_A ⟨n1, n2⟩ h1 h2 hf
  have r35 : (m.2 35).2 k = f.2.2.2 := by rw [hm.2.2.2.1.2.2 k h1 (by omega)]; exact t2
  have fk := (tp_b h1 (by omega) hf).2.2.2.2
  obtain ⟨_, ⟨o1, o2, o3, o4, o5, o6, o7, o8, o9⟩, _, _, _, _⟩ := id hm
  obtain ⟨q0, hq0⟩ := List.getElem?_of_mem t1
  refine ab_ct kX9_partOf rfl rfl (fun x hx => vX9_partOf_0 hx k m 0 0 ?_)
  have key : ∀ (q p : Nat), p + q = q0 → ab_J x 2 [some (ab_O 0), some (ab_I k), some (ab_I p)] [] [m] 0 0 := by
    intro q
    induction q with
    | zero =>
      intro p hp
      have ep : p = q0 := by omega
      subst ep
      obtain ⟨a1, a2, a3, a4⟩ := md_e hm hq0
      have r3 := a2.2.2.1
      have r4 := a2.2.2.2
      refine vX9_partOf_2 hx _ _ m 0 0 ⟨by omega, fun g => absurd (by rw [r3, fk]) g, fun g => ⟨by omega, by omega, fun g2 => ⟨⟨⟨_, rfl⟩, _, rfl, rfl⟩, rfl, p, rfl, hq0⟩, fun g2 => absurd (by rw [r4, r35]) g2⟩⟩
    | succ q ih =>
      intro p hp
      obtain ⟨wl, _⟩ := List.getElem?_eq_some_iff.mp hq0
      have tl : p < (tr_A c n).length := by omega
      have he := List.getElem?_eq_getElem tl
      generalize (tr_A c n)[p] = e at he
      obtain ⟨a1, a2, a3, a4⟩ := md_e hm he
      have r3 := a2.2.2.1
      have r4 := a2.2.2.2
      refine vX9_partOf_2 hx _ _ m 0 0 ⟨by omega, fun g => ⟨by omega, ih (p + 1) (by omega)⟩, fun g => ⟨by omega, by omega, fun g2 => ⟨⟨⟨_, rfl⟩, _, rfl, rfl⟩, rfl, p, rfl, ?_⟩, fun g2 => ⟨by omega, ih (p + 1) (by omega)⟩⟩⟩
      rw [he, t3 e (List.mem_of_getElem? he) (by rw [← r3]; exact g) (by rw [← r4, ← r35]; exact g2)]
  exact key q0 0 (by omega)
theorem c9_underOne (d : Nat) {m : ab_Ob} {c : Int → Int → Int → Int → Int} {n k : Int} {f : Int × Int × Int × Int} {o : Int} (hm : md_T m c n) (h1 : 0 ≤ k) (h2 : k < n) (hf : tp_is c 0 (n - 1) k f o) : ab_Ct (d + 1) 0 0 mX9_underOne [ab_O 0, ab_I k] [m] (ab_Is (f.2.1 - f.1) [m]) := by
  have n1 := hm.2.2.2.2.1
  have n2 := hm.2.2.2.2.2
  have e40 := hm.2.2.2.1.1
  obtain ⟨t1, t2, t3⟩ := tp_A ⟨n1, n2⟩ h1 h2 hf
  have r35 : (m.2 35).2 k = f.2.2.2 := by rw [hm.2.2.2.1.2.2 k h1 (by omega)]; exact t2
  have fk := (tp_b h1 (by omega) hf).2.2.2.2
  obtain ⟨_, ⟨o1, o2, o3, o4, o5, o6, o7, o8, o9⟩, _, _, _, _⟩ := id hm
  obtain ⟨q0, hq0⟩ := List.getElem?_of_mem t1
  refine ab_ct kX9_underOne rfl rfl (fun x hx => vX9_underOne_0 hx k m 0 0 ?_)
  have key : ∀ (q p : Nat), p + q = q0 → ab_J x 2 [some (ab_O 0), some (ab_I k), some (ab_I p)] [] [m] 0 0 := by
    intro q
    induction q with
    | zero =>
      intro p hp
      have ep : p = q0 := by omega
      subst ep
      obtain ⟨a1, ⟨r1, r2, r3, r4⟩, a3, a4⟩ := md_e hm hq0
      refine vX9_underOne_2 hx _ _ m 0 0 ⟨fun g => absurd g (by omega), fun _ => ⟨by omega, fun g => absurd (by rw [r3, fk]) g, fun g => ⟨by omega, by omega, fun g2 => absurd (by rw [r4, r35]) g2, fun g2 => ⟨by omega, by omega, by omega, ab_lf rfl (by rw [r1, r2])⟩⟩⟩⟩
    | succ q ih =>
      intro p hp
      obtain ⟨wl, _⟩ := List.getElem?_eq_some_iff.mp hq0
      have tl : p < (tr_A c n).length := by omega
      have he := List.getElem?_eq_getElem tl
      generalize (tr_A c n)[p] = e at he
      obtain ⟨a1, ⟨r1, r2, r3, r4⟩, a3, a4⟩ := md_e hm he
      refine vX9_underOne_2 hx _ _ m 0 0 ⟨fun g => absurd g (by omega), fun _ => ⟨by omega, fun g => ⟨by omega, ih (p + 1) (by omega)⟩, fun g => ⟨by omega, by omega, fun g2 => ⟨by omega, ih (p + 1) (by omega)⟩, fun g2 => ⟨by omega, by omega, by omega, ab_lf rfl ?_⟩⟩⟩⟩
      have := t3 e (List.mem_of_getElem? he) (by rw [← r3]; exact g) (by rw [← r4, ← r35]; exact g2)
      rw [r1, r2, this]
  exact key q0 0 (by omega)
theorem c9_aboveOf (d : Nat) {m : ab_Ob} {c : Int → Int → Int → Int → Int} {n k : Int} {f : Int × Int × Int × Int} {o : Int} (hm : md_T m c n) (h1 : 0 ≤ k) (h2 : k < n) (hf : tp_is c 0 (n - 1) k f o) {p : Nat} (hp : (tr_A c n)[p]? = some f) : ab_Ct (d + 1) 0 0 mX9_aboveOf [ab_O 0, ab_I p] [m] (fun rv v => v = [m] ∧ ((o = -2 ∧ rv = some (ab_I (-1))) ∨ ∃ (q : Nat) (e : Int × Int × Int × Int), rv = some (ab_I q) ∧ (tr_A c n)[q]? = some e ∧ e.2.2.1 = o)) := by
  have n1 := hm.2.2.2.2.1
  have n2 := hm.2.2.2.2.2
  have hH := dp_H_in (c := c) (i := 0) (j := n - 1) (by omega)
  have fb := tp_b h1 (by omega) hf
  obtain ⟨x1, ⟨s1, s2, s3, s4⟩, x3, x4⟩ := md_e hm hp
  obtain ⟨_, ⟨o1, o2, o3, o4, o5, o6, o7, o8, o9⟩, _, _, _, _⟩ := id hm
  -- those that qualify
  have qual : ∀ (q : Nat) e, (tr_A c n)[q]? = some e → e.2.2.2 = f.2.2.2 - 1 → e.1 ≤ f.1 → f.2.1 ≤ e.2.1 → e.2.2.1 = o := by
    intro q e he g1 g2 g3
    rcases hf with ⟨e1, e2, e3⟩ | ⟨e', he', e1, e2, e3⟩
    · obtain ⟨_, _, _, y4⟩ := md_e hm he
      subst e2
      dsimp only at g1
      omega
    · have dep : (tr_f c e').2.2.2 = e'.2.2.2 + 1 := by unfold tr_f; split <;> rfl
      have memA : e' ∈ tr_A c n := by unfold tr_J at he'; exact (List.mem_filter.mp he').1
      have ok := tr_J_ok hH.1 hH.2 he'
      have sp1 := dp_sp_in (c := c) (h := e'.2.2.1) ok.2
      have es : tq_sp c e' = dp_sp c e'.1 e'.2.1 e'.2.2.1 := rfl
      have sub : e'.1 ≤ f.1 ∧ f.2.1 ≤ e'.2.1 := by subst e2; unfold tr_f; split <;> dsimp only <;> omega
      have ee := tr_same c 0 (n - 1) (dp_H c 0 (n - 1)) 0 hH.1 hH.2 e (List.mem_of_getElem? he) e' memA (by rw [g1, e2, dep]; omega) f.1 g2 (by omega) sub.1 (by omega)
      rw [ee, e3]
  have exq : o ≠ -2 → ∃ (q : Nat) (e : Int × Int × Int × Int), q < p ∧ (tr_A c n)[q]? = some e ∧ e.2.2.2 = f.2.2.2 - 1 ∧ e.1 ≤ f.1 ∧ f.2.1 ≤ e.2.1 := by
    intro ho
    rcases hf with ⟨e1, e2, e3⟩ | ⟨e', he', e1, e2, e3⟩
    · exact absurd e3 ho
    · have dep : (tr_f c e').2.2.2 = e'.2.2.2 + 1 := by unfold tr_f; split <;> rfl
      have memA : e' ∈ tr_A c n := by unfold tr_J at he'; exact (List.mem_filter.mp he').1
      have ok := tr_J_ok hH.1 hH.2 he'
      have sp1 := dp_sp_in (c := c) (h := e'.2.2.1) ok.2
      have es : tq_sp c e' = dp_sp c e'.1 e'.2.1 e'.2.2.1 := rfl
      have sub : e'.1 ≤ f.1 ∧ f.2.1 ≤ e'.2.1 := by subst e2; unfold tr_f; split <;> dsimp only <;> omega
      obtain ⟨q, hq⟩ := List.getElem?_of_mem memA
      exact ⟨q, e', tr_before c 0 (n - 1) (dp_H c 0 (n - 1)) 0 hH.1 hH.2 q p e' hq ok.2 (by rw [← e2]; exact hp), hq, by rw [e2, dep]; omega, sub.1, sub.2⟩
  refine ab_ct kX9_aboveOf rfl rfl (fun x hx => vX9_aboveOf_0 hx p m 0 0 ?_)
  have key : ∀ (r q : Nat) (best : Int), q + r = p → ((best = -1 ∧ ∀ (q' : Nat) e, q' < q → (tr_A c n)[q']? = some e → ¬ (e.2.2.2 = f.2.2.2 - 1 ∧ e.1 ≤ f.1 ∧ f.2.1 ≤ e.2.1)) ∨ ∃ (q' : Nat) (e : Int × Int × Int × Int), best = q' ∧ (tr_A c n)[q']? = some e ∧ e.2.2.1 = o) → ab_J x 4 [some (ab_O 0), some (ab_I p), some (ab_I best), some (ab_I q)] [] [m] 0 0 := by
    intro r
    induction r with
    | zero =>
      intro q best hq hbest
      have eq : q = p := by omega
      subst eq
      refine vX9_aboveOf_4 hx _ _ _ m 0 0 ⟨fun _ => ⟨⟨⟨_, rfl⟩, _, rfl, rfl⟩, rfl, ?_⟩, fun g => absurd (Int.le_refl _) g⟩
      rcases hbest with ⟨b1, b2⟩ | ⟨q', e, b1, b2, b3⟩
      · by_cases ho : o = -2
        · exact Or.inl ⟨ho, by rw [b1]⟩
        · obtain ⟨q', e, y1, y2, y3⟩ := exq ho
          exact absurd y3 (b2 q' e y1 y2)
      · exact Or.inr ⟨q', e, by rw [b1], b2, b3⟩
    | succ r ih =>
      intro q best hq hbest
      obtain ⟨wl, _⟩ := List.getElem?_eq_some_iff.mp hp
      have tl : q < (tr_A c n).length := by omega
      have he := List.getElem?_eq_getElem tl
      generalize (tr_A c n)[q] = e at he
      obtain ⟨a1, ⟨r1, r2, r3, r4⟩, a3, a4⟩ := md_e hm he
      have no : ¬ (e.2.2.2 = f.2.2.2 - 1 ∧ e.1 ≤ f.1 ∧ f.2.1 ≤ e.2.1) → ab_J x 4 [some (ab_O 0), some (ab_I p), some (ab_I best), some (ab_I ((q : Int) + 1))] [] [m] 0 0 := fun g => by
        refine ih (q + 1) best (by omega) ?_
        rcases hbest with ⟨b1, b2⟩ | b
        · refine Or.inl ⟨b1, fun q' e' y1 y2 => ?_⟩
          by_cases eq : q' = q
          · subst eq
            rw [he] at y2
            cases y2
            exact g
          · exact b2 q' e' (by omega) y2
        · exact Or.inr b
      refine vX9_aboveOf_4 hx _ _ _ m 0 0 ⟨fun g => absurd g (by omega), fun _ => ⟨by omega, by omega, by omega, ?_⟩⟩
      rw [r1, r2, r4, s1, s2, s4]
      refine ⟨fun g => ⟨by omega, no (fun h => g h.1)⟩, fun g => ⟨by omega, by omega, fun g2 => ⟨by omega, no (by omega)⟩, fun g2 => ⟨by omega, by omega, fun g3 => ⟨by omega, no (by omega)⟩, fun g3 => ⟨by omega, ?_⟩⟩⟩⟩
      exact ih (q + 1) q (by omega) (Or.inr ⟨q, e, rfl, he, qual q e he g (by omega) (by omega)⟩)
  exact key p 0 (-1) (by omega) (Or.inl ⟨rfl, fun q' e h => absurd h (by omega)⟩)
