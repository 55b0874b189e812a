/-! THE REFERENCE: echo, twins -/
noncomputable def ly_ec (b : ab_Ob) (L L' : List (Int × Int × Int × Int)) : Nat → Int
  | 0 => 0
  | k + 1 => ly_ec b L L' k + @ite Int (ly_sa b L L' k) (Classical.propDecidable _) 1 0
theorem ly_ec_y {b : ab_Ob} {L L' : List (Int × Int × Int × Int)} {k : Nat} (h : ly_sa b L L' k) : ly_ec b L L' (k + 1) = ly_ec b L L' k + 1 := by
  simp only [ly_ec]
  rw [if_pos h]
theorem ly_ec_n {b : ab_Ob} {L L' : List (Int × Int × Int × Int)} {k : Nat} (h : ¬ ly_sa b L L' k) : ly_ec b L L' (k + 1) = ly_ec b L L' k := by
  simp only [ly_ec]
  rw [if_neg h, Int.add_zero]
theorem ly_ec_b {b : ab_Ob} {L L' : List (Int × Int × Int × Int)} : ∀ k : Nat, 0 ≤ ly_ec b L L' k ∧ ly_ec b L L' k ≤ k
  | 0 => by simp [ly_ec]
  | k + 1 => by
    have := ly_ec_b (b := b) (L := L) (L' := L') k
    by_cases h : ly_sa b L L' k
    · rw [ly_ec_y h]; push_cast; omega
    · rw [ly_ec_n h]; push_cast; omega
noncomputable def an_echo (b : ab_Ob) (dd ee : Int) : Int × Int := if b.1 3 = 0 then (-1, 1) else if (0 ≤ dd ∧ dd ≤ tq_dp (tr_A (sc_br b) (b.1 3))) ∧ 0 ≤ ee ∧ ee ≤ tq_dp (tr_A (sc_br b) (b.1 3)) then (ly_ec b (an_L b dd) (an_L b ee) ((an_L b ee).length + 1 - (an_L b dd).length), 0) else (-1, 2)
theorem c9_echo (d : Nat) {b m : ab_Ob} (h : mi_S b m) (dd ee : Int) : ab_Ct (d + 5) 0 0 mX9_echo [ab_O 0, ab_I dd, ab_I ee] [m] (ab_Is (an_echo b dd ee).1 [md_an m (an_echo b dd ee).2]) := by
  refine ab_ct kX9_echo rfl rfl (fun x hx => vX9_echo_0 hx dd ee m 0 0 ?_)
  rcases h with ⟨h1, h2, h3⟩ | h
  · exact ⟨fun g => absurd h1 g, fun _ => md_rf (if_pos h2).symm⟩
  · obtain ⟨i1, hb, hdd, n1, hp, hq, hT⟩ := id h
    have hn := hb.2.1
    refine ⟨fun _ => ab_xb (c9_isLevel (d + 2) (m := ab_pf m 0 0) hT) (fun p => ⟨fun g => absurd g (by decide), fun _ => ab_xb (c9_isLevel (d + 2) (m := ab_pf m 0 0) hT) (fun p2 => ⟨fun _ => ab_x1 (c9_levelN (d + 1) (mi_I_0 h) dd) (ab_x1 (c9_levelN (d + 1) (mi_I_0 h) ee) ?_), fun g => absurd g (by decide)⟩) (fun p2 => ⟨fun g => absurd rfl g, fun _ => md_rf ?_⟩)⟩) (fun p => ⟨fun _ => md_rf ?_, fun g => absurd rfl g⟩), fun g => absurd g i1⟩
    · have ll := an_L_len hb n1 p.1
      have ll2 := an_L_len hb n1 p2.1
      have pb := fun k => ly_p_b hb n1 (dd := dd) k
      have pb2 := fun k => ly_p_b hb n1 (dd := ee) k
      have key : ∀ (q t : Nat), t + q = (an_L b ee).length + 1 - (an_L b dd).length → ab_J x 61 [some (ab_O 0), some (ab_I dd), some (ab_I ee), some (ab_I (an_L b dd).length), some (ab_I (an_L b ee).length), some (ab_I (ly_ec b (an_L b dd) (an_L b ee) t)), some (ab_I t), none, none] [] [ab_pf m 0 0] 0 0 := by
        intro q
        induction q with
        | zero =>
          intro t ht
          refine vX9_echo_61 hx _ _ _ _ _ _ _ 0 0 ⟨by omega, fun _ => md_gd ?_, fun g => absurd (by omega) g⟩
          unfold an_echo
          rw [if_neg (by omega), if_pos ⟨p, p2⟩]
          rw [show (an_L b ee).length + 1 - (an_L b dd).length = t by omega]
        | succ q ih =>
          intro t ht
          have eb := ly_ec_b (b := b) (L := an_L b dd) (L' := an_L b ee) t
          have this := ih (t + 1) (by omega)
          refine vX9_echo_61 hx _ _ _ _ _ _ _ 0 0 ⟨by omega, fun g => absurd g (by omega), fun _ => ?_⟩
          have no : ¬ ly_sa b (an_L b dd) (an_L b ee) t → ∀ z : Int, ab_J x 76 [some (ab_O 0), some (ab_I dd), some (ab_I ee), some (ab_I (an_L b dd).length), some (ab_I (an_L b ee).length), some (ab_I (ly_ec b (an_L b dd) (an_L b ee) t)), some (ab_I t), some (ab_I 0), some (ab_I z)] [] [ab_pf m 0 0] 0 0 := fun g z => by
            rw [ly_ec_n g] at this
            refine vX9_echo_76 hx _ _ _ _ _ _ _ _ _ 0 0 ⟨fun _ => ⟨fun _ => ⟨by omega, by omega, ?_⟩, fun g => absurd rfl g⟩, fun g => absurd rfl g⟩
            rw [Int.add_zero]
            exact this
          have key2 : ∀ (q' s : Nat), s + 1 + q' = (an_L b dd).length → (∀ k : Nat, k < s → ly_p b (an_L b dd) (k + 1) - ly_p b (an_L b dd) k = ly_p b (an_L b ee) (t + k + 1) - ly_p b (an_L b ee) (t + k)) → ab_J x 76 [some (ab_O 0), some (ab_I dd), some (ab_I ee), some (ab_I (an_L b dd).length), some (ab_I (an_L b ee).length), some (ab_I (ly_ec b (an_L b dd) (an_L b ee) t)), some (ab_I t), some (ab_I 1), some (ab_I (s + 1 : Nat))] [] [ab_pf m 0 0] 0 0 := by
            intro q'
            induction q' with
            | zero =>
              intro s hs hall
              have yes : ly_sa b (an_L b dd) (an_L b ee) t := fun k hk => hall k (by omega)
              rw [ly_ec_y yes] at this
              exact vX9_echo_76 hx _ _ _ _ _ _ _ _ _ 0 0 ⟨fun g => absurd g (by decide), fun _ => ⟨fun _ => ⟨fun g => absurd g (by decide), fun _ => ⟨by omega, by omega, this⟩⟩, fun g => absurd (by omega) g⟩⟩
            | succ q' ih' =>
              intro s hs hall
              have c1 := c9_levelPitch d (mi_I_0 h) dd (k := s + 1) (by omega)
              have c0 := c9_levelPitch d (mi_I_0 h) dd (k := s) (by omega)
              have c3 := c9_levelPitch d (mi_I_0 h) ee (k := t + s + 1) (by omega)
              have c2 := c9_levelPitch d (mi_I_0 h) ee (k := t + s) (by omega)
              have b1 := pb (s + 1)
              have b0 := pb s
              have b3 := pb2 (t + s + 1)
              have b2 := pb2 (t + s)
              refine vX9_echo_76 hx _ _ _ _ _ _ _ _ _ 0 0 ⟨fun g => absurd g (by decide), fun _ => ⟨fun g => absurd g (by omega), fun _ => ab_x1 c1 ⟨by omega, ?_⟩⟩⟩
              rw [show (((s + 1 : Nat) : Int) - 1) = ((s : Nat) : Int) by push_cast; omega, show ((t : Int) + ((s + 1 : Nat) : Int)) = ((t + s + 1 : Nat) : Int) by push_cast; omega, show (((t + s + 1 : Nat) : Int) - 1) = ((t + s : Nat) : Int) by push_cast; omega]
              refine ab_x1 c0 ⟨by omega, by omega, ab_x1 c3 ⟨by omega, by omega, ab_x1 c2 ⟨by omega, fun g => ⟨by omega, no (fun y => g (y s (by omega))) _⟩, fun g => ⟨by omega, ?_⟩⟩⟩⟩
              have e1 : (((s + 1 : Nat) : Int) + 1) = ((s + 1 + 1 : Nat) : Int) := by push_cast; omega
              rw [e1]
              exact ih' (s + 1) (by omega) (fun k hk => by
                by_cases ek : k = s
                · subst ek; exact g
                · exact hall k (by omega))
          exact key2 ((an_L b dd).length - 1) 0 (by omega) (fun k hk => absurd hk (by omega))
      exact key ((an_L b ee).length + 1 - (an_L b dd).length) 0 (by omega)
    · unfold an_echo
      rw [if_neg (by omega), if_neg (fun q => p2 q.2)]
    · unfold an_echo
      rw [if_neg (by omega), if_neg (fun q => p q.1)]
def an_sps (b : ab_Ob) (i j n : Int) : Prop := (1 ≤ n ∧ n ≤ b.1 3) ∧ (0 ≤ i ∧ i ≤ b.1 3 - n) ∧ 0 ≤ j ∧ j ≤ b.1 3 - n
theorem c9_areSpans (d : Nat) {b m : ab_Ob} (h : mi_S b m) (i j n : Int) : ab_Ct (d + 1) 0 0 mX9_areSpans [ab_O 0, ab_I i, ab_I j, ab_I n] [m] (ab_Bo (an_sps b i j n) [m]) := by
  refine ab_ct kX9_areSpans rfl rfl (fun x hx => vX9_areSpans_0 hx i j n m 0 0 ?_)
  unfold an_sps
  rcases h with ⟨h1, h2, h3⟩ | h
  · exact ⟨fun _ => ⟨ab_i01, ab_l0b rfl (by omega)⟩, fun g => absurd h1 g⟩
  · have hn := h.2.1.2.1
    have e8 : m.1 8 = b.1 3 := h.2.2.2.2.1.1
    exact ⟨fun g => absurd g h.1, fun _ => ⟨fun g => ⟨ab_i01, ab_l0b rfl (by omega)⟩, fun g => ⟨fun g => ⟨ab_i01, ab_l0b rfl (by omega)⟩, fun g => ⟨fun g => ⟨ab_i01, ab_l0b rfl (by omega)⟩, fun g => ⟨fun g => ⟨ab_i01, ab_l0b rfl (by omega)⟩, fun g => ⟨by omega, fun g => ⟨ab_i01, ab_l0b rfl (by omega)⟩, fun g => ⟨by omega, fun g => ⟨ab_i01, ab_l0b rfl (by omega)⟩, fun g => ⟨ab_i11, ab_l1b rfl (by omega)⟩⟩⟩⟩⟩⟩⟩⟩
theorem c9_areTwins (d : Nat) {b m : ab_Ob} (h : mi_I b m) {i j n : Int} (hi : 0 ≤ i) (hj : 0 ≤ j) (hn1 : 1 ≤ n) (hi2 : i + n ≤ b.1 3) (hj2 : j + n ≤ b.1 3) : ab_Ct (d + 2) 0 0 mX9_areTwins [ab_O 0, ab_I i, ab_I j, ab_I n] [m] (ab_Bo (sc_tw b i j n) [m]) := by
  obtain ⟨i1, hb, hdd, n1, hp, hq, hT⟩ := id h
  have hn := hb.2.1
  have e8 : m.1 8 = b.1 3 := hp.1
  obtain ⟨m3, m25, m26, _⟩ := hT.1
  refine ab_ct kX9_areTwins rfl rfl (fun x hx => ?_)
  have hpl := fun k (k0 : 0 ≤ k) (k1 : k < b.1 3) => (hp.2.2.2.2.1 k k0 k1).2
  have hpp := fun k (k0 : 0 ≤ k) (k1 : k < b.1 3) => (hp.2.2.2.2.1 k k0 k1).1
  have hpb := fun k (k0 : 0 ≤ k) (k1 : k < b.1 3) => (hb.2.2.2.2.2.1 k k0 k1).1
  have key : i ≠ j → i + n < b.1 3 → j + n < b.1 3 → ∀ (q : Nat) (t : Int), t + q = n → 0 ≤ t → (∀ z : Int, 0 ≤ z → z < t → (b.2 4).2 (j + z) - (b.2 4).2 (i + z) = (b.2 4).2 j - (b.2 4).2 i ∧ (b.2 5).2 (j + z) = (b.2 5).2 (i + z) ∧ (b.2 8).2 (j + z) = (b.2 8).2 (i + z) ∧ (b.2 9).2 (j + z) = (b.2 9).2 (i + z)) → ab_J x 32 [some (ab_O 0), some (ab_I i), some (ab_I j), some (ab_I n), some (ab_I t)] [] [m] 0 0 := by
    intro hne hin hjn q
    induction q with
    | zero =>
      intro t ht t0 hall
      exact vX9_areTwins_32 hx _ _ _ _ m 0 0 ⟨fun _ => ⟨ab_i11, ab_l1b rfl (Or.inr ⟨by split <;> omega, fun z z0 z1 => hall z z0 (by omega)⟩)⟩, fun g => absurd (by omega) g⟩
    | succ q ih =>
      intro t ht t0 hall
      push_cast at ht
      have tw : sc_tw b i j n → (b.2 4).2 (j + t) - (b.2 4).2 (i + t) = (b.2 4).2 j - (b.2 4).2 i ∧ (b.2 5).2 (j + t) = (b.2 5).2 (i + t) ∧ (b.2 8).2 (j + t) = (b.2 8).2 (i + t) ∧ (b.2 9).2 (j + t) = (b.2 9).2 (i + t) := fun y => by
        rcases y with y | y
        · exact absurd y hne
        · exact y.2 t (by omega) (by omega)
      have l1 := hpl (i + t) (by omega) (by omega)
      have l2 := hpl (j + t) (by omega) (by omega)
      have s1 := hq (i + t) (by omega) (by omega)
      have s2 := hq (j + t) (by omega) (by omega)
      have p1 := hpp (i + t) (by omega) (by omega)
      have p2 := hpp (j + t) (by omega) (by omega)
      have p3 := hpp i (by omega) (by omega)
      have p4 := hpp j (by omega) (by omega)
      have b1 := hpb (i + t) (by omega) (by omega)
      have b2 := hpb (j + t) (by omega) (by omega)
      have b3 := hpb i (by omega) (by omega)
      have b4 := hpb j (by omega) (by omega)
      refine vX9_areTwins_32 hx _ _ _ _ m 0 0 ⟨fun g => absurd g (by omega), fun _ => ⟨by omega, ab_x1 (c9_lasts d m m3 (by omega) (by omega)) ⟨by omega, ab_x1 (c9_lasts d m m3 (by omega) (by omega)) ?_⟩⟩⟩
      rw [l1, l2, s1.1, s1.2, s2.1, s2.2]
      refine ⟨fun g => ⟨ab_i01, ab_l0b rfl (fun y => g (tw y).2.1.symm)⟩, fun g1 => ⟨by omega, by omega, by omega, by omega, fun g => ⟨ab_i01, ab_l0b rfl (fun y => g (tw y).2.2.1.symm)⟩, fun g2 => ⟨by omega, by omega, by omega, by omega, fun g3 => ⟨by omega, ab_x1 (c9_pitchOf d m m3 (by omega) (by omega)) ⟨by omega, ab_x1 (c9_pitchOf d m m3 (by omega) (by omega)) ⟨by omega, ab_x1 (c9_pitchOf d m m3 (by omega) (by omega)) (ab_x1 (c9_pitchOf d m m3 (by omega) (by omega)) ⟨by omega, ?_⟩)⟩⟩⟩, fun g => ⟨ab_i01, ab_l0b rfl (fun y => g (tw y).2.2.2.symm)⟩⟩⟩⟩
      rw [p1, p2, p3, p4]
      refine ⟨fun g4 => ⟨by omega, ih (t + 1) (by omega) (by omega) (fun z z0 z1 => ?_)⟩, fun g => ⟨ab_i01, ab_l0b rfl (fun y => g (by have := (tw y).1; omega))⟩⟩
      by_cases ez : z = t
      · subst ez
        exact ⟨by omega, g1.symm, g2.symm, g3.symm⟩
      · exact hall z z0 (by omega)
  refine vX9_areTwins_0 hx i j n m 0 0 ⟨fun ne => ⟨by omega, fun g => ⟨ab_i01, ab_l0b rfl (fun y => ?_)⟩, fun g => ⟨by omega, fun g2 => key ne (by omega) (by omega) n.toNat 0 (by omega) (by omega) (fun z z0 z1 => absurd z1 (by omega)), fun g2 => ⟨ab_i01, ab_l0b rfl (fun y => ?_)⟩⟩⟩, fun e => ⟨ab_i11, ab_l1b rfl (Or.inl e)⟩⟩
  · rcases y with y | y
    · exact ne y
    · have := y.1
      split at this <;> omega
  · rcases y with y | y
    · exact ne y
    · have := y.1
      split at this <;> omega
def an_twins (b : ab_Ob) (i j n : Int) (RT : Int × Int) : Prop := (¬ an_sps b i j n ∧ RT = (-1, 1)) ∨ (an_sps b i j n ∧ ((sc_tw b i j n ∧ RT = (1, 0)) ∨ (¬ sc_tw b i j n ∧ RT = (0, 0))))
theorem c9_twins (d : Nat) {b m : ab_Ob} (h : mi_S b m) (i j n : Int) {RT : Int × Int} (hRT : an_twins b i j n RT) : ab_Ct (d + 3) 0 0 mX9_twins [ab_O 0, ab_I i, ab_I j, ab_I n] [m] (ab_Is RT.1 [md_an m RT.2]) := by
  refine ab_ct kX9_twins rfl rfl (fun x hx => vX9_twins_0 hx i j n m 0 0 (ab_xb (c9_areSpans (d + 1) (mi_S_0 h) i j n) (fun p => ⟨fun g => absurd g (by decide), fun _ => ?_⟩) (fun p => ⟨fun _ => md_rf ?_, fun g => absurd rfl g⟩)))
  · rcases hRT with ⟨g, _⟩ | ⟨_, hRT⟩
    · exact absurd p g
    unfold an_sps at p
    have hI := mi_S_I h (by omega)
    refine ab_xb (c9_areTwins d (mi_I_0 hI) (by omega) (by omega) (by omega) (by omega) (by omega)) (fun y => ⟨fun g => absurd g (by decide), fun _ => md_gd ?_⟩) (fun y => ⟨fun _ => md_gd ?_, fun g => absurd rfl g⟩)
    · rcases hRT with ⟨_, e⟩ | ⟨g, _⟩
      · exact e.symm
      · exact absurd y g
    · rcases hRT with ⟨g, _⟩ | ⟨_, e⟩
      · exact absurd g y
      · exact e.symm
  · rcases hRT with ⟨_, e⟩ | ⟨g, _⟩
    · exact e.symm
    · exact absurd g p
/-- the first twins: n as large as can be, then the first i, then the first j -/
def tw_at (b : ab_Ob) (n i j : Int) : Prop := 1 ≤ n ∧ 0 ≤ i ∧ i + n ≤ j ∧ j + n ≤ b.1 3 ∧ sc_tw b i j n
def tw_bf (n i j n' i' j' : Int) : Prop := n < n' ∨ (n' = n ∧ (i' < i ∨ (i' = i ∧ j' < j)))
def tw_is (b : ab_Ob) (what : Int) (RT : Int × Int) : Prop := (∃ n i j, tw_at b n i j ∧ (∀ n' i' j', tw_bf n i j n' i' j' → ¬ tw_at b n' i' j') ∧ RT = (if what = 0 then n else if what = 1 then i else j, 0)) ∨ ((∀ n i j, ¬ tw_at b n i j) ∧ RT = (if what = 0 then 0 else -2, 0))
def an_twin (b : ab_Ob) (what : Int) (RT : Int × Int) : Prop := (¬ (1 ≤ b.1 3 ∧ 0 ≤ what ∧ what ≤ 2) ∧ RT = (-1, 1)) ∨ ((1 ≤ b.1 3 ∧ 0 ≤ what ∧ what ≤ 2) ∧ tw_is b what RT)
theorem tw_uni {b : ab_Ob} {n i j n' i' j' : Int} (h : tw_at b n i j) (hf : ∀ x y z, tw_bf n i j x y z → ¬ tw_at b x y z) (h' : tw_at b n' i' j') (hf' : ∀ x y z, tw_bf n' i' j' x y z → ¬ tw_at b x y z) : n = n' ∧ i = i' ∧ j = j' := by
  have a : ¬ tw_bf n i j n' i' j' := fun g => hf _ _ _ g h'
  have c : ¬ tw_bf n' i' j' n i j := fun g => hf' _ _ _ g h
  unfold tw_bf at a c
  omega
theorem c9_twin (d : Nat) {b m : ab_Ob} (h : mi_S b m) (what : Int) {RT : Int × Int} (hRT : an_twin b what RT) : ab_Ct (d + 3) 0 0 mX9_twin [ab_O 0, ab_I what] [m] (ab_Is RT.1 [md_an m RT.2]) := by
  have no : ¬ (1 ≤ b.1 3 ∧ 0 ≤ what ∧ what ≤ 2) → ((-1 : Int), (1 : Int)) = RT := fun g => by
    rcases hRT with ⟨_, e⟩ | ⟨g2, _⟩
    · exact e.symm
    · exact absurd g2 g
  refine ab_ct kX9_twin rfl rfl (fun x hx => vX9_twin_0 hx what m 0 0 ?_)
  rcases h with ⟨h1, h2, h3⟩ | h
  · exact ⟨fun _ => md_rf (no (by omega)), fun g => absurd h1 g⟩
  · obtain ⟨i1, hb, hdd, n1, hp, hq, hT⟩ := id h
    have hn := hb.2.1
    have e8 : m.1 8 = b.1 3 := hp.1
    have e8' : (ab_pf m 0 0).1 8 = b.1 3 := hp.1
    refine ⟨fun g => absurd g i1, fun _ => ab_xb (c9_in (d + 1) what 0 2) (fun p => ⟨fun _ => ?_, fun g => absurd g (by decide)⟩) (fun p => ⟨fun g => absurd rfl g, fun _ => md_rf (no (fun q => p q.2))⟩)⟩
    rcases hRT with ⟨g2, _⟩ | ⟨_, hRT⟩
    · exact absurd ⟨n1, p⟩ g2
    have td : Int.tdiv (m.1 8) 2 = b.1 3 / 2 := by rw [e8, Int.tdiv_eq_ediv_of_nonneg (by omega)]
    rw [td]
    refine ⟨by decide, by omega, ?_⟩
    have k34 : ∀ (q : Nat) (n : Int), n = q → 2 * n ≤ b.1 3 → (∀ n' i' j', n < n' → ¬ tw_at b n' i' j') → ab_J x 34 [some (ab_O 0), some (ab_I what), some (ab_I n), none, none] [] [ab_pf m 0 0] 0 0 := by
      intro q
      induction q with
      | zero =>
        intro n hq0 h2n hall
        have none' : ∀ n i j, ¬ tw_at b n i j := fun n' i' j' y => hall n' i' j' (by have := y.1; omega) y
        have fin : RT = (if what = 0 then 0 else -2, 0) := by
          rcases hRT with ⟨n', i', j', y, _⟩ | ⟨_, e⟩
          · exact absurd y (none' n' i' j')
          · exact e
        refine vX9_twin_34 hx _ _ _ 0 0 ⟨fun _ => ⟨fun g => md_gd ?_, fun g => md_gd ?_⟩, fun g => absurd (by omega) g⟩
        · rw [fin, if_neg g]
        · rw [fin, if_pos g]
      | succ q ih =>
        intro n hq0 h2n hall
        push_cast at hq0
        refine vX9_twin_34 hx _ _ _ 0 0 ⟨fun g => absurd g (by omega), fun _ => ?_⟩
        have k40 : ∀ (q' : Nat) (i : Int), i + 2 * n + q' = b.1 3 + 1 → 0 ≤ i → (∀ i' j', i' < i → ¬ tw_at b n i' j') → ab_J x 40 [some (ab_O 0), some (ab_I what), some (ab_I n), some (ab_I i), none] [] [ab_pf m 0 0] 0 0 := by
          intro q'
          induction q' with
          | zero =>
            intro i hi i0 hall2
            refine vX9_twin_40 hx _ _ _ _ 0 0 ⟨by omega, by omega, fun _ => ⟨by omega, ih (n + -1) (by omega) (by omega) (fun n' i' j' lt y => ?_)⟩, fun g => absurd (by rw [e8']; omega) g⟩
            by_cases en : n' = n
            · subst en
              refine hall2 i' j' ?_ y
              have := y.2.2.1
              have := y.2.2.2.1
              omega
            · exact hall n' i' j' (by omega) y
          | succ q' ih' =>
            intro i hi i0 hall2
            push_cast at hi
            refine vX9_twin_40 hx _ _ _ _ 0 0 ⟨by omega, by omega, fun g => absurd g (by rw [e8']; omega), fun _ => ⟨by omega, ?_⟩⟩
            have k57 : ∀ (q2 : Nat) (j : Int), j + n + q2 = b.1 3 + 1 → i + n ≤ j → (∀ j', j' < j → ¬ tw_at b n i j') → ab_J x 57 [some (ab_O 0), some (ab_I what), some (ab_I n), some (ab_I i), some (ab_I j)] [] [ab_pf m 0 0] 0 0 := by
              intro q2
              induction q2 with
              | zero =>
                intro j hj j0 hall3
                refine vX9_twin_57 hx _ _ _ _ _ 0 0 ⟨by omega, fun _ => ⟨by omega, ih' (i + 1) (by omega) (by omega) (fun i' j' lt y => ?_)⟩, fun g => absurd (by rw [e8']; omega) g⟩
                by_cases ei : i' = i
                · subst ei
                  exact hall3 j' (by have := y.2.2.2.1; omega) y
                · exact hall2 i' j' (by omega) y
              | succ q2 ih2 =>
                intro j hj j0 hall3
                push_cast at hj
                refine vX9_twin_57 hx _ _ _ _ _ 0 0 ⟨by omega, fun g => absurd g (by rw [e8']; omega), fun _ => ab_xb (c9_areTwins d (mi_I_0 h) (i := i) (j := j) (n := n) (by omega) (by omega) (by omega) (by omega) (by omega)) (fun y => ⟨fun g => absurd g (by decide), fun _ => ?_⟩) (fun y => ⟨fun _ => ⟨by omega, ih2 (j + 1) (by omega) (by omega) (fun j' lt z => ?_)⟩, fun g => absurd rfl g⟩)⟩
                · have own : tw_at b n i j := ⟨by omega, i0, j0, by omega, y⟩
                  have fst : ∀ n' i' j', tw_bf n i j n' i' j' → ¬ tw_at b n' i' j' := fun n' i' j' g z => by
                    rcases g with g | ⟨g1, g | ⟨g2, g3⟩⟩
                    · exact hall n' i' j' g z
                    · subst g1; exact hall2 i' j' g z
                    · subst g1; subst g2; exact hall3 j' g3 z
                  have fin : RT = (if what = 0 then n else if what = 1 then i else j, 0) := by
                    rcases hRT with ⟨n', i', j', z, zf, e⟩ | ⟨z, _⟩
                    · obtain ⟨u1, u2, u3⟩ := tw_uni own fst z zf
                      subst u1; subst u2; subst u3
                      exact e
                    · exact absurd own (z n i j)
                  refine ⟨fun g => ⟨fun g2 => md_gd ?_, fun g2 => md_gd ?_⟩, fun g => md_gd ?_⟩
                  · rw [fin, if_neg g, if_neg g2]
                  · rw [fin, if_neg g, if_pos g2]
                  · rw [fin, if_pos g]
                · by_cases ej : j' = j
                  · subst ej
                    exact y z.2.2.2.2
                  · exact hall3 j' (by omega) z
            exact k57 (b.1 3 + 1 - n - (i + n)).toNat (i + n) (by omega) (by omega) (fun j' lt z => by have := z.2.2.1; omega)
        exact k40 (b.1 3 + 1 - 2 * n).toNat 0 (by omega) (by omega) (fun i' j' lt z => by have := z.2.1; omega)
    refine k34 (b.1 3 / 2).toNat (b.1 3 / 2) (by omega) (by omega) (fun n' i' j' lt y => ?_)
    have := y.2.1
    have := y.2.2.1
    have := y.2.2.2.1
    omega
