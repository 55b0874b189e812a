/-! two trees beside one another: the class -/
/-- where the joining of a span stands; none: -1 -/
def jo_is (L : List (Int × Int × Int × Int)) (a b r : Int) : Prop := (r = -1 ∧ ∀ e ∈ L, ¬ (e.1 = a ∧ e.2.1 = b)) ∨ ∃ (t : Nat) (e : Int × Int × Int × Int), r = t ∧ L[t]? = some e ∧ e.1 = a ∧ e.2.1 = b
theorem c_joiningOf (d : Nat) {v : ab_Ob} {c : Int → Int → Int → Int → Int} {i j a b : Int} (hv : tb_ok v c i j) (h0 : 0 ≤ i) (h1 : i ≤ j) (h3 : j ≤ 23) : ab_Ct (d + 1) 0 0 mX7_joiningOf [ab_O 0, ab_I a, ab_I b] [v] (fun rv w => w = [v] ∧ ∃ r, rv = some (ab_I r) ∧ jo_is (tr_J c i j (dp_H c i j) 0) a b r) := by
  have e2 := hv.2.2.2.1
  have len := tb_at hv h1
  obtain ⟨n3, n4, n5, n6, n7, n8, n9⟩ := hv.1
  refine ab_ct kX7_joiningOf rfl rfl (fun x hx => vX7_joiningOf_0 hx a b v 0 0 ?_)
  have key : ∀ (q t : Nat), t + q = (j - i).toNat → (∀ (t' : Nat) e, t' < t → (tr_J c i j (dp_H c i j) 0)[t']? = some e → ¬ (e.1 = a ∧ e.2.1 = b)) → ab_J x 2 [some (ab_O 0), some (ab_I a), some (ab_I b), some (ab_I t)] [] [v] 0 0 := by
    intro q
    induction q with
    | zero =>
      intro t ht hall
      refine vX7_joiningOf_2 hx _ _ _ v 0 0 ⟨fun _ => ⟨⟨⟨_, rfl⟩, _, rfl, rfl⟩, rfl, -1, rfl, Or.inl ⟨rfl, fun e he => ?_⟩⟩, fun g => absurd (by omega) g⟩
      obtain ⟨t', ht'⟩ := List.getElem?_of_mem he
      obtain ⟨wl, _⟩ := List.getElem?_eq_some_iff.mp ht'
      exact hall t' e (by omega) ht'
    | succ q ih =>
      intro t ht hall
      have tl : t < (tr_J c i j (dp_H c i j) 0).length := by omega
      have het := List.getElem?_eq_getElem tl
      generalize (tr_J c i j (dp_H c i j) 0)[t] = e at het
      obtain ⟨a1, ⟨r1, r2, r3, r4⟩, a3, a4, a5, a6, a7, a8⟩ := tb_e hv h0 h1 h3 het
      have nx : ¬ (e.1 = a ∧ e.2.1 = b) → ab_J x 2 [some (ab_O 0), some (ab_I a), some (ab_I b), some (ab_I ((t : Int) + 1))] [] [v] 0 0 := fun g => ih (t + 1) (by omega) (fun t' e' h1 h2 => by
        by_cases eq : t' = t
        · subst eq
          rw [het] at h2
          cases h2
          exact g
        · exact hall t' e' (by omega) h2)
      refine vX7_joiningOf_2 hx _ _ _ v 0 0 ⟨fun g => absurd g (by omega), fun _ => ⟨by omega, ?_⟩⟩
      rw [r1, r2]
      exact ⟨fun g => ⟨by omega, nx (fun h => g h.1)⟩, fun g => ⟨by omega, fun g2 => ⟨by omega, nx (fun h => g2 h.2)⟩, fun g2 => ⟨⟨⟨_, rfl⟩, _, rfl, rfl⟩, rfl, t, rfl, Or.inr ⟨t, e, rfl, het, g, g2⟩⟩⟩⟩
  exact key (j - i).toNat 0 (by omega) (fun t' e h => absurd h (by omega))
/-- a span is in a list of joinings; with another head -/
def jo_no (L : List (Int × Int × Int × Int)) (e : Int × Int × Int × Int) : Bool := !(L.any fun e' => decide (e'.1 = e.1) && decide (e'.2.1 = e.2.1))
def jo_hd (L : List (Int × Int × Int × Int)) (e : Int × Int × Int × Int) : Bool := L.any fun e' => decide (e'.1 = e.1) && (decide (e'.2.1 = e.2.1) && decide (¬ e'.2.2.1 = e.2.2.1))
theorem jo_uni {c : Int → Int → Int → Int → Int} {i j h dp : Int} (h1 : i ≤ h) (h2 : h ≤ j) : ∀ e ∈ tr_J c i j h dp, ∀ e' ∈ tr_J c i j h dp, e.1 = e'.1 → e.2.1 = e'.2.1 → e = e' := by
  intro e he e' he' g1 g2
  have o := tr_J_ok h1 h2 he
  have memQ : ∀ {x}, x ∈ tr_J c i j h dp → x ∈ tr_Q c i j h dp := fun hx => by unfold tr_J at hx; exact (List.mem_filter.mp hx).1
  obtain ⟨t, ht⟩ := List.getElem?_of_mem (memQ he)
  obtain ⟨t', ht'⟩ := List.getElem?_of_mem (memQ he')
  -- the deeper one lies in a part of the other one, which is shorter
  have key : ∀ (i j h dp : Int), i ≤ h → h ≤ j → ∀ x ∈ tr_Q c i j h dp, ∀ y ∈ tr_Q c i j h dp, x.1 = y.1 → x.2.1 = y.2.1 → x = y := by
    refine tr_ind c (fun i dp x hx y hy _ _ => ?_) (fun i j h dp hij a b p1 p2 x hx y hy q1 q2 => ?_)
    · rw [tr_Q_1] at hx hy
      rw [List.mem_singleton.mp hx, List.mem_singleton.mp hy]
    · have s1 := dp_sp_in (c := c) (h := h) hij
      have l1 := tr_hl_in (c := c) hij a
      have r1 := tr_hr_in (c := c) hij b
      have okL := tr_Q_ok c _ _ _ (dp + 1) l1.1 l1.2
      have okR := tr_Q_ok c _ _ _ (dp + 1) r1.1 r1.2
      rw [tr_Q_s hij, List.mem_cons, List.mem_append] at hx hy
      rcases hx with hx | hx | hx
      · rcases hy with hy | hy | hy
        · rw [hx, hy]
        · subst hx; have := okL y hy; unfold tr_ok at this; dsimp only at q1 q2; omega
        · subst hx; have := okR y hy; unfold tr_ok at this; dsimp only at q1 q2; omega
      · have o1 := okL x hx
        unfold tr_ok at o1
        rcases hy with hy | hy | hy
        · subst hy; dsimp only at q1 q2; omega
        · exact p1 x hx y hy q1 q2
        · have := okR y hy; unfold tr_ok at this; omega
      · have o1 := okR x hx
        unfold tr_ok at o1
        rcases hy with hy | hy | hy
        · subst hy; dsimp only at q1 q2; omega
        · have := okL y hy; unfold tr_ok at this; omega
        · exact p2 x hx y hy q1 q2
  exact key i j h dp h1 h2 e (memQ he) e' (memQ he') g1 g2
