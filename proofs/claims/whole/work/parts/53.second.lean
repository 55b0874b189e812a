/-! the next best head -/
/-- r is the first of the least but b -/
def hd_nx (f : Int → Int) (i j b r : Int) : Prop := i ≤ r ∧ r ≤ j ∧ r ≠ b ∧ (∀ h : Int, i ≤ h → h ≤ j → h ≠ b → f r ≤ f h) ∧ ∀ h : Int, i ≤ h → h < r → h ≠ b → f r < f h
theorem hd_nx_u {f : Int → Int} {i j b r r' : Int} (h : hd_nx f i j b r) (h' : hd_nx f i j b r') : r = r' := by
  obtain ⟨a1, a2, a3, a4, a5⟩ := h
  obtain ⟨b1, b2, b3, b4, b5⟩ := h'
  rcases Int.lt_trichotomy r r' with g | g | g
  · have := b5 r a1 g a3
    have := a4 r' b1 b2 b3
    omega
  · exact g
  · have := a5 r' b1 g b3
    have := b4 r a1 a2 a3
    omega
theorem hd_nx_congr {f g : Int → Int} {i j b r : Int} (h : hd_nx f i j b r) (e : ∀ k : Int, i ≤ k → k ≤ j → f k = g k) : hd_nx g i j b r := by
  obtain ⟨a1, a2, a3, a4, a5⟩ := h
  refine ⟨a1, a2, a3, fun k k1 k2 k3 => ?_, fun k k1 k2 k3 => ?_⟩
  · rw [← e r a1 a2, ← e k k1 k2]; exact a4 k k1 k2 k3
  · rw [← e r a1 a2, ← e k k1 (by omega)]; exact a5 k k1 k2 k3
theorem c_nextHead (d : Nat) (w : ab_Ob) (hw : ch_len w) {i j : Int} (h0 : 0 ≤ i) (h1 : i < j) (h2 : j ≤ 23) : ab_Ct (d + 3) 0 0 mX1_nextHead [ab_O 0, ab_I i, ab_I j] [w] (fun rv v => v = [w] ∧ ∃ r, rv = some (ab_I r) ∧ hd_nx (fun h => ch_c w i j h) i j (hd_am (fun h => ch_c w i j h) i (j - i).toNat) r) := by
  have rb := ch_row_b h0 (by omega : i ≤ j) h2
  have l := hw.1
  have bi := hd_am_in (fun h => ch_c w i j h) i (j - i).toNat
  have cb := c_bestHead d w hw h0 (by omega : i ≤ j) h2
  generalize hd_am (fun h => ch_c w i j h) i (j - i).toNat = b at bi cb ⊢
  refine ab_ct kX1_nextHead rfl rfl (fun x hx => vX1_nextHead_0 hx i j w 0 0 (ab_x1 (c_row (d + 1) h0 (by omega) (by omega) h2) (ab_x1 cb ?_)))
  have key : ∀ (q : Nat) (h r : Int), h + q = j + 1 → i ≤ r → r < h → hd_nx (fun h => ch_c w i j h) i (h - 1) b r → ab_J x 35 [some (ab_O 0), none, some (ab_I j), some (ab_I (ch_row i j)), some (ab_I b), some (ab_I r), some (ab_I h)] [] [w] 0 0 := by
    intro q
    induction q with
    | zero =>
      intro h r hh hr1 hr2 hx'
      have e : h - 1 = j := by omega
      rw [e] at hx'
      exact vX1_nextHead_35 hx _ _ _ _ _ w 0 0 ⟨fun _ => ⟨⟨⟨_, rfl⟩, _, rfl, rfl⟩, rfl, r, rfl, hx'⟩, fun g => absurd (by omega) g⟩
    | succ q ih =>
      intro h r hh hr1 hr2 hx'
      obtain ⟨a1, a2, a3, a4, a5⟩ := hx'
      have stay : (h = b ∨ ch_c w i j r ≤ ch_c w i j h) → ab_J x 35 [some (ab_O 0), none, some (ab_I j), some (ab_I (ch_row i j)), some (ab_I b), some (ab_I r), some (ab_I (h + 1))] [] [w] 0 0 := fun g => by
        refine ih (h + 1) r (by push_cast at hh; omega) hr1 (by omega) ⟨a1, by omega, a3, fun k k1 k2 k3 => ?_, a5⟩
        by_cases e : k = h
        · subst e
          rcases g with g | g
          · exact absurd g k3
          · exact g
        · exact a4 k k1 (by omega) k3
      refine vX1_nextHead_35 hx _ _ _ _ _ w 0 0 ⟨fun g => absurd g (by omega), fun _ => ⟨fun g => ⟨by omega, stay (Or.inl g)⟩, fun g => ⟨by omega, by omega, by omega, by omega, fun g2 => ⟨by omega, stay (Or.inr g2)⟩, fun g2 => ⟨by omega, ?_⟩⟩⟩⟩
      have g3 : ch_c w i j h < ch_c w i j r := by unfold ch_c; omega
      refine ih (h + 1) h (by push_cast at hh; omega) (by omega) (by omega) ⟨by omega, by omega, g, fun k k1 k2 k3 => ?_, fun k k1 k2 k3 => ?_⟩
      · by_cases e : k = h
        · subst e; exact Int.le_refl _
        · have := a4 k k1 (by omega) k3
          dsimp only at this ⊢
          omega
      · have := a4 k k1 (by omega) k3
        dsimp only at this ⊢
        omega
  refine ⟨fun g => ⟨by omega, ?_⟩, fun g => ⟨by omega, by omega, ?_⟩⟩
  · refine key (j - i).toNat (i + 1) i (by omega) (by omega) (by omega) ⟨by omega, by omega, fun e => g e.symm, fun k k1 k2 k3 => ?_, fun k k1 k2 => absurd k2 (by omega)⟩
    have : k = i := by omega
    subst this
    exact Int.le_refl _
  · refine key (j - i - 1).toNat (i + 1 + 1) (i + 1) (by omega) (by omega) (by omega) ⟨by omega, by omega, by omega, fun k k1 k2 k3 => ?_, fun k k1 k2 k3 => absurd k3 (by omega)⟩
    have : k = i + 1 := by omega
    subst this
    exact Int.le_refl _
