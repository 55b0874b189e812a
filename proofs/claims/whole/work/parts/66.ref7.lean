/-! THE REFERENCE, asked of spans and joinings -/
def an_wsum (b : ab_Ob) (i j : Int) : Int := hd_sm (fun h => if dp_B (sc_br b) i j h = an_B b i j then dw_W (sc_br b) i j h else 0) i (j - i + 1).toNat
def an_ways (b : ab_Ob) (i j : Int) : Int × Int := if 0 ≤ i ∧ i ≤ j ∧ j < b.1 3 then (hd_lim (an_wsum b i j), 0) else (-1, 1)
theorem hd_sm_lim {P : Int → Prop} {g : Int → Int} {dP : ∀ h, Decidable (P h)} {i : Int} : ∀ (m : Nat), (∀ h : Int, i ≤ h → h < i + m → 0 ≤ g h) → (0 ≤ hd_sm (fun h => if P h then g h else 0) i m ∧ 0 ≤ hd_sm (fun h => if P h then hd_lim (g h) else 0) i m) ∧ hd_lim (hd_sm (fun h => if P h then hd_lim (g h) else 0) i m) = hd_lim (hd_sm (fun h => if P h then g h else 0) i m)
  | 0, _ => ⟨⟨Int.le_refl _, Int.le_refl _⟩, rfl⟩
  | m + 1, hg => by
    obtain ⟨⟨a1, a2⟩, ih⟩ := hd_sm_lim (P := P) (g := g) (dP := dP) (i := i) m (fun h x y => hg h x (by omega))
    have g1 := hg (i + m) (by omega) (by omega)
    have l1 := hd_lim_b g1
    simp only [hd_sm]
    by_cases p : P (i + m)
    · rw [if_pos p, if_pos p]
      refine ⟨⟨by omega, by omega⟩, ?_⟩
      rw [← hd_lim_add a2 l1.1, ih, hd_lim_id, hd_lim_add a1 g1]
    · rw [if_neg p, if_neg p, Int.add_zero, Int.add_zero]
      exact ⟨⟨a1, a2⟩, ih⟩
theorem c9_ways (d : Nat) {b m : ab_Ob} (h : mi_S b m) (i j : Int) : ab_Ct (d + 4) 0 0 mX9_ways [ab_O 0, ab_I i, ab_I j] [m] (ab_IsL (an_ways b i j).1 [md_an m (an_ways b i j).2]) := by
  refine ab_ct kX9_ways rfl rfl (fun x hx => vX9_ways_0 hx i j m 0 0 (ab_xb (c9_isSpan d (mi_S_0 h) i j) (fun p => ⟨fun _ => ?_, fun g => absurd g (by decide)⟩) (fun p => ⟨fun g => absurd rfl g, fun _ => ⟨_, c9_refused (d + 2) _ 1, fun r v hr => ?_⟩⟩)))
  · have hI := mi_S_I h (by omega)
    have hn := hI.2.1.2.1
    have hH := dp_H_in (c := sc_br b) p.2.1
    have cu := md_cu_b (i := i) (j := j) (h := dp_H (sc_br b) i j) (by omega) (by omega) (by omega)
    obtain ⟨n3, n25, n26, n27, n28, n29, n30⟩ := hI.2.2.2.2.2.2.1
    have all := hI.2.2.2.2.2.2.2.2.1
    refine ab_x1 (c9_headOf' (d + 1) (mi_I_0 hI) p.1 p.2.1 p.2.2) (ab_x1 (c9_cube (d + 2) (by omega) (by omega) (by omega)) ⟨by omega, ?_⟩)
    rw [(all i j _ p.1 p.2.1 p.2.2 hH.1 hH.2).1]
    have wb : ∀ k : Int, i ≤ k → k ≤ j → 0 ≤ hd_lim (dw_W (sc_br b) i j k) ∧ hd_lim (dw_W (sc_br b) i j k) ≤ 1000000000000 := fun k k1 k2 => by
      have := hd_lim_b (dw_W_1 (c := sc_br b) p.2.1 (by omega) k1 k2)
      omega
    have key : ∀ (q k : Nat), i + k + q = j + 1 → ab_J x 44 [some (ab_O 0), some (ab_I i), some (ab_I j), some (ab_I (an_B b i j)), some (ab_L (hd_sm (fun h => if dp_B (sc_br b) i j h = an_B b i j then hd_lim (dw_W (sc_br b) i j h) else 0) i k)), none, some (ab_I (i + k))] [] [ab_pf m 0 0] 0 0 := by
      intro q
      induction q with
      | zero =>
        intro k hk
        have ek : k = (j - i + 1).toNat := by omega
        have lim := (hd_sm_lim (P := fun h => dp_B (sc_br b) i j h = an_B b i j) (g := fun h => dw_W (sc_br b) i j h) (dP := fun h => inferInstance) (i := i) k (fun h a1 a2 => dw_W_1 (c := sc_br b) p.2.1 (by omega) a1 (by omega))).2
        have ew : an_ways b i j = (hd_lim (hd_sm (fun h => if dp_B (sc_br b) i j h = an_B b i j then hd_lim (dw_W (sc_br b) i j h) else 0) i k), 0) := by
          unfold an_ways an_wsum
          rw [if_pos p, lim, ek]
        generalize hd_sm (fun h => if dp_B (sc_br b) i j h = an_B b i j then hd_lim (dw_W (sc_br b) i j h) else 0) i k = S at ew ⊢
        refine vX9_ways_44 hx _ _ _ _ _ _ 0 0 ⟨fun _ => ⟨_, c9_good (d + 2) _ 0, fun r v hr => ?_⟩, fun g => absurd (by omega) g⟩
        obtain ⟨hr1, hr2⟩ := hr
        cases hr2
        rw [ew]
        refine ⟨fun g => ⟨⟨⟨_, rfl⟩, _, _, rfl, rfl⟩, ?_, rfl⟩, fun g => ⟨⟨⟨_, rfl⟩, _, _, rfl, rfl⟩, ?_, rfl⟩⟩
        · rw [ab_cmp_le] at g
          rw [hd_lim_lo g]
        · rw [ab_cmp_le] at g
          rw [hd_lim_hi (by omega)]
      | succ q ih =>
        intro k hk
        have this := ih (k + 1) (by omega)
        have sb := hd_sm_b (f := fun h => if dp_B (sc_br b) i j h = an_B b i j then hd_lim (dw_W (sc_br b) i j h) else 0) (i := i) (B := 1000000000000) (m := k) (fun z z1 z2 => by
          have := wb z z1 (by omega)
          split <;> omega)
        have w1 := wb (i + k) (by omega) (by omega)
        have ce := all i j (i + k) p.1 p.2.1 p.2.2 (by omega) (by omega)
        have cu2 := md_cu_b (i := i) (j := j) (h := i + (k : Int)) (by omega) (by omega) (by omega)
        have e27 : ((ab_pf m 0 0).2 27).2 (md_cu i j (i + k)) = dp_B (sc_br b) i j (i + k) := ce.1
        have e30 : ((ab_pf m 0 0).2 30).2 (md_cu i j (i + k)) = hd_lim (dw_W (sc_br b) i j (i + k)) := ce.2.2.2
        simp only [hd_sm] at this
        have ei : i + ((k + 1 : Nat) : Int) = i + k + 1 := by omega
        rw [ei] at this
        refine vX9_ways_44 hx _ _ _ _ _ _ 0 0 ⟨fun g => absurd g (by omega), fun _ => ab_x1 (c9_cube (d + 2) (by omega) (by omega) (by omega)) ⟨by rw [hd_pf_2, n27]; omega, fun g => ?_, fun g => ab_x1 (c9_cube (d + 2) (by omega) (by omega) (by omega)) ⟨by rw [hd_pf_2, n30]; omega, ?_⟩⟩⟩
        · rw [e27] at g
          rw [if_neg g, Int.add_zero] at this
          exact ⟨by omega, this⟩
        · rw [e27] at g
          rw [if_pos g] at this
          rw [e30]
          exact ⟨by omega, by omega, this⟩
    have := key (j + 1 - i).toNat 0 (by omega)
    simp only [hd_sm] at this
    rw [show i + ((0 : Nat) : Int) = i by omega] at this
    exact this
  · obtain ⟨hr1, hr2⟩ := hr
    cases hr1
    cases hr2
    have e : an_ways b i j = (-1, 1) := if_neg p
    rw [e]
    exact ⟨⟨⟨_, rfl⟩, _, _, rfl, rfl⟩, rfl, rfl⟩
/-- the least that a split can cost -/
def an_X (b : ab_Ob) (i j s : Int) : Int := hd_mn (fun h => dp_I (sc_br b) (dp_B (sc_br b)) i j h s) i (j - i).toNat
def an_splitCost (b : ab_Ob) (i j s : Int) : Int × Int := if (0 ≤ i ∧ i ≤ j ∧ j < b.1 3) ∧ i ≤ s ∧ s < j then (an_X b i j s - an_B b i j, 0) else (-1, 1)
theorem an_X_le {b : ab_Ob} {i j s h u : Int} (h1 : i ≤ h) (h2 : h ≤ j) (hf : dp_fit i j h s u) : an_X b i j s ≤ dp_V (sc_br b) (dp_B (sc_br b)) i j h s u := by
  have a := dp_I_le (c := sc_br b) (T := dp_B (sc_br b)) hf
  have : an_X b i j s ≤ dp_I (sc_br b) (dp_B (sc_br b)) i j h s := hd_mn_le (f := fun h => dp_I (sc_br b) (dp_B (sc_br b)) i j h s) h1 (by omega)
  omega
theorem an_X_ex {b : ab_Ob} {i j s : Int} (hs : i ≤ s ∧ s < j) : ∃ h u : Int, (i ≤ h ∧ h ≤ j) ∧ dp_fit i j h s u ∧ an_X b i j s = dp_V (sc_br b) (dp_B (sc_br b)) i j h s u := by
  obtain ⟨h, h1, h2, e⟩ := hd_mn_ex (fun h => dp_I (sc_br b) (dp_B (sc_br b)) i j h s) i (j - i).toNat
  have e' : an_X b i j s = dp_I (sc_br b) (dp_B (sc_br b)) i j h s := e
  by_cases g : h ≤ s
  · obtain ⟨u, u1, u2, eu⟩ := hd_mn_ex (fun u => dp_V (sc_br b) (dp_B (sc_br b)) i j h s u) (s + 1) (j - s - 1).toNat
    refine ⟨h, u, ⟨h1, by omega⟩, ⟨hs, fun _ => by omega, fun x => absurd g x⟩, ?_⟩
    rw [e']
    unfold dp_I
    rw [if_pos g]
    exact eu
  · obtain ⟨u, u1, u2, eu⟩ := hd_mn_ex (fun u => dp_V (sc_br b) (dp_B (sc_br b)) i j h s u) i (s - i).toNat
    refine ⟨h, u, ⟨h1, by omega⟩, ⟨hs, fun x => absurd x g, fun _ => by omega⟩, ?_⟩
    rw [e']
    unfold dp_I
    rw [if_neg g]
    exact eu
theorem c9_splitCost (d : Nat) {b m : ab_Ob} (h : mi_S b m) (i j s : Int) : ab_Ct (d + 5) 0 0 mX9_splitCost [ab_O 0, ab_I i, ab_I j, ab_I s] [m] (ab_Is (an_splitCost b i j s).1 [md_an m (an_splitCost b i j s).2]) := by
  refine ab_ct kX9_splitCost rfl rfl (fun x hx => vX9_splitCost_0 hx i j s m 0 0 (ab_xb (c9_isSpan (d + 1) (mi_S_0 h) i j) (fun p => ⟨fun g => absurd g (by decide), fun _ => ?_⟩) (fun p => ⟨fun _ => md_rf (if_neg (fun q => p q.1)).symm, fun g => absurd rfl g⟩)))
  have hI := mi_S_I h (by omega)
  obtain ⟨i1, hb, hdd, n1, hp, hq, hT⟩ := id hI
  have hn := hb.2.1
  refine ⟨by omega, ab_xb (c9_in (d + 3) s i (j - 1)) (fun p2 => ⟨fun _ => ?_, fun g => absurd g (by decide)⟩) (fun p2 => ⟨fun g => absurd rfl g, fun _ => md_rf (if_neg (fun q => p2 ⟨q.2.1, by omega⟩)).symm⟩)⟩
  have hs : i ≤ s ∧ s < j := by omega
  have hd := sc_dd_db hdd
  have hc := sc_br_cb hb hd
  have sub : md_sub (ab_pf m 0 0) (sc_br b) i j := fun i' j' h' a1 a2 a3 a4 a5 a6 => hT.2.2.1 i' j' h' (by omega) a2 (by omega) a5 a6
  have hH := dp_H_in (c := sc_br b) p.2.1
  have cu := md_cu_b (i := i) (j := j) (h := dp_H (sc_br b) i j) (by omega) (by omega) (by omega)
  have n27 := hT.1.2.2.2.1
  have Vb : ∀ a u : Int, i ≤ a → a ≤ j → md_fr i a s ≤ u → u < md_fr i a s + md_ln i j a s → 0 ≤ dp_V (sc_br b) (dp_B (sc_br b)) i j a s u ∧ dp_V (sc_br b) (dp_B (sc_br b)) i j a s u ≤ 4000000 ∧ i ≤ u ∧ u ≤ j := fun a u a1 a2 u1 u2 => dp_V_b hn.2 hc p.1 hs.1 hs.2 p.2.2 a1 a2 u1 u2
  have Xb : 0 ≤ an_X b i j s ∧ an_X b i j s ≤ 4000000 := by
    obtain ⟨h0, u, hh, hf, e⟩ := an_X_ex (b := b) hs
    rw [e]
    have := Vb h0 u hh.1 hh.2 (by unfold md_fr; split; · rename_i g; exact (hf.2.1 g).1
                                  · rename_i g; exact (hf.2.2 g).1) (by unfold md_fr md_ln; split; · rename_i g; have := (hf.2.1 g).2; omega
                                                                        · rename_i g; have := (hf.2.2 g).2; omega)
    omega
  have Bb := dp_B_b hn.2 hc 24 i j (dp_H (sc_br b) i j) p.1 p.2.1 p.2.2 hH.1 hH.2 (by omega)
  have fin : ∀ L : Int, an_X b i j s ≤ L → (∀ a u : Int, i ≤ a → a ≤ s → s + 1 ≤ u → u ≤ j → L ≤ dp_V (sc_br b) (dp_B (sc_br b)) i j a s u ∧ L ≤ dp_V (sc_br b) (dp_B (sc_br b)) i j u s a) → L = an_X b i j s := fun L h1 h2 => by
    obtain ⟨h0, u, hh, hf, e⟩ := an_X_ex (b := b) hs
    by_cases g : h0 ≤ s
    · have := hf.2.1 g
      have := (h2 h0 u hh.1 g this.1 this.2).1
      omega
    · have := hf.2.2 g
      have := (h2 u h0 this.1 this.2 (by omega) hh.2).2
      omega
  have k39 : ∀ (q : Nat) (L a : Int), a + q = s + 1 → i ≤ a → an_X b i j s ≤ L → L ≤ 1000000000 → (∀ a' u : Int, i ≤ a' → a' < a → s + 1 ≤ u → u ≤ j → L ≤ dp_V (sc_br b) (dp_B (sc_br b)) i j a' s u ∧ L ≤ dp_V (sc_br b) (dp_B (sc_br b)) i j u s a') → ab_J x 39 [some (ab_O 0), some (ab_I i), some (ab_I j), some (ab_I s), some (ab_I L), some (ab_I a), none, none, none] [] [ab_pf m 0 0] 0 0 := by
    intro q
    induction q with
    | zero =>
      intro L a ha a0 hX hF hall
      have eL := fin L hX (fun a' u b1 b2 b3 b4 => hall a' u b1 (by omega) b3 b4)
      have e27 : ((ab_pf m 0 0).2 27).2 (md_cu i j (dp_H (sc_br b) i j)) = an_B b i j := (hT.2.2.1 i j _ p.1 p.2.1 p.2.2 hH.1 hH.2).1
      have Bb' : 0 ≤ an_B b i j ∧ an_B b i j ≤ 60000 * (j - i) := Bb
      refine vX9_splitCost_39 hx _ _ _ _ _ _ 0 0 ⟨fun _ => ab_x1 (c9_headOf' (d + 2) (mi_I_0 hI) p.1 p.2.1 p.2.2) (ab_x1 (c9_cube (d + 3) (by omega) (by omega) (by omega)) ⟨by rw [hd_pf_2, n27]; omega, ?_⟩), fun g => absurd (by omega) g⟩
      rw [e27]
      refine ⟨by omega, md_gd ?_⟩
      rw [eL]
      exact (if_pos ⟨p, hs⟩).symm
    | succ q ih =>
      intro L a ha a0 hX hF hall
      refine vX9_splitCost_39 hx _ _ _ _ _ _ 0 0 ⟨fun g => absurd g (by omega), fun _ => ⟨by omega, ?_⟩⟩
      have k50 : ∀ (q' : Nat) (L u : Int), u + q' = j + 1 → s + 1 ≤ u → an_X b i j s ≤ L → L ≤ 1000000000 → (∀ a' u' : Int, i ≤ a' → a' ≤ a → s + 1 ≤ u' → u' ≤ j → (a' < a ∨ u' < u) → L ≤ dp_V (sc_br b) (dp_B (sc_br b)) i j a' s u' ∧ L ≤ dp_V (sc_br b) (dp_B (sc_br b)) i j u' s a') → ab_J x 50 [some (ab_O 0), some (ab_I i), some (ab_I j), some (ab_I s), some (ab_I L), some (ab_I a), some (ab_I u), none, none] [] [ab_pf m 0 0] 0 0 := by
        intro q'
        induction q' with
        | zero =>
          intro L u hu u0 hX hF hall
          exact vX9_splitCost_50 hx _ _ _ _ _ _ _ 0 0 ⟨fun _ => ⟨by omega, ih L (a + 1) (by push_cast at ha; omega) (by omega) hX hF (fun a' u' b1 b2 b3 b4 => hall a' u' b1 (by omega) b3 b4 (by omega))⟩, fun g => absurd (by omega) g⟩
        | succ q' ih' =>
          intro L u hu u0 hX hF hall
          push_cast at hu
          have f1 : md_fr i a s = s + 1 := if_pos (by omega)
          have f2 : md_fr i u s = i := if_neg (by omega)
          have l1 : md_ln i j a s = (j - s).toNat := if_pos (by omega)
          have l2 : md_ln i j u s = (s - i + 1).toNat := if_neg (by omega)
          have c1 := c9_joinedBy d b (ab_pf m 0 0) hb hd hp hq hT.1 (i := i) (j := j) (h := a) (s := s) (u := u) p.1 hs.1 hs.2 p.2.2 (by omega) (by omega) (by rw [f1]; omega) (by rw [f1, l1]; omega) sub
          have c2 := c9_joinedBy d b (ab_pf m 0 0) hb hd hp hq hT.1 (i := i) (j := j) (h := u) (s := s) (u := a) p.1 hs.1 hs.2 p.2.2 (by omega) (by omega) (by rw [f2]; omega) (by rw [f2, l2]; omega) sub
          have b1 := Vb a u (by omega) (by omega) (by rw [f1]; omega) (by rw [f1, l1]; omega)
          have b2 := Vb u a (by omega) (by omega) (by rw [f2]; omega) (by rw [f2, l2]; omega)
          have x1 := an_X_le (b := b) (i := i) (j := j) (s := s) (h := a) (u := u) (by omega) (by omega) ⟨hs, fun _ => by omega, fun g => absurd (by omega) g⟩
          have x2 := an_X_le (b := b) (i := i) (j := j) (s := s) (h := u) (u := a) (by omega) (by omega) ⟨hs, fun g => absurd g (by omega), fun _ => by omega⟩
          have go : ∀ L' : Int, L' ≤ L → an_X b i j s ≤ L' → L' ≤ dp_V (sc_br b) (dp_B (sc_br b)) i j a s u → L' ≤ dp_V (sc_br b) (dp_B (sc_br b)) i j u s a → ab_J x 50 [some (ab_O 0), some (ab_I i), some (ab_I j), some (ab_I s), some (ab_I L'), some (ab_I a), some (ab_I (u + 1)), none, none] [] [ab_pf m 0 0] 0 0 := fun L' y1 y2 y3 y4 => ih' L' (u + 1) (by omega) (by omega) y2 (by omega) (fun a' u' d1 d2 d3 d4 d5 => by
            by_cases e1 : a' = a ∧ u' = u
            · obtain ⟨rfl, rfl⟩ := e1
              exact ⟨y3, y4⟩
            · have := hall a' u' d1 d2 d3 d4 (by omega)
              omega)
          refine vX9_splitCost_50 hx _ _ _ _ _ _ _ 0 0 ⟨fun g => absurd g (by omega), fun _ => ab_x1 c1 (ab_x1 c2 ⟨fun g => ⟨fun g2 => ⟨by omega, go L (by omega) hX g g2⟩, fun g2 => ⟨by omega, go _ (by omega) x2 (by omega) (by omega)⟩⟩, fun g => ⟨fun g2 => ⟨by omega, go _ (by omega) x1 (by omega) g2⟩, fun g2 => ⟨by omega, go _ (by omega) x2 (by omega) (by omega)⟩⟩⟩)⟩
      exact k50 (j - s).toNat L (s + 1) (by omega) (by omega) hX hF (fun a' u' b1 b2 b3 b4 b5 => hall a' u' b1 (by omega) b3 b4)
  exact k39 (s + 1 - i).toNat 1000000000 i (by omega) (by omega) (by omega) (by omega) (fun a' u b1 b2 b3 b4 => absurd b2 (by omega))
/-- the next best head, or nobody -/
def an_sec (b : ab_Ob) (i j : Int) (RT : Int × Int) : Prop := (¬ (0 ≤ i ∧ i ≤ j ∧ j < b.1 3) ∧ RT = (-1, 1)) ∨ ((0 ≤ i ∧ i ≤ j ∧ j < b.1 3) ∧ ((i = j ∧ RT = (-2, 0)) ∨ (i < j ∧ RT.2 = 0 ∧ hd_nx (fun h => dp_B (sc_br b) i j h) i j (dp_H (sc_br b) i j) RT.1)))
theorem c9_second (d : Nat) {b m : ab_Ob} (h : mi_S b m) (i j : Int) {RT : Int × Int} (hRT : an_sec b i j RT) : ab_Ct (d + 4) 0 0 mX9_second [ab_O 0, ab_I i, ab_I j] [m] (ab_Is RT.1 [md_an m RT.2]) := by
  refine ab_ct kX9_second rfl rfl (fun x hx => vX9_second_0 hx i j m 0 0 (ab_xb (c9_isSpan d (mi_S_0 h) i j) (fun p => ⟨fun _ => ?_, fun g => absurd g (by decide)⟩) (fun p => ⟨fun g => absurd rfl g, fun _ => md_rf ?_⟩)))
  · have hI := mi_S_I h (by omega)
    have hn := hI.2.1.2.1
    have hH := dp_H_in (c := sc_br b) p.2.1
    have n27 := hI.2.2.2.2.2.2.1.2.2.2.1
    have all := hI.2.2.2.2.2.2.2.2.1
    refine ab_x1 (c9_headOf' (d + 1) (mi_I_0 hI) p.1 p.2.1 p.2.2) ?_
    generalize hb0 : dp_H (sc_br b) i j = f0 at hRT hH ⊢
    have key : ∀ (q : Nat) (k sc : Int), k + q = j + 1 → i ≤ k → ((sc = -2 ∧ ∀ k' : Int, i ≤ k' → k' < k → k' = f0) ∨ hd_nx (fun h => dp_B (sc_br b) i j h) i (k - 1) f0 sc) → ab_J x 34 [some (ab_O 0), some (ab_I i), some (ab_I j), some (ab_I f0), some (ab_I sc), some (ab_I k)] [] [ab_pf m 0 0] 0 0 := by
      intro q
      induction q with
      | zero =>
        intro k sc hk k0 hs
        refine vX9_second_34 hx _ _ _ _ _ _ 0 0 ⟨fun _ => md_gd ?_, fun g => absurd (by omega) g⟩
        rcases hRT with ⟨g, _⟩ | ⟨_, ⟨e, hr⟩ | ⟨lt, h0, hr⟩⟩
        · exact absurd p g
        · rcases hs with ⟨e2, _⟩ | hs
          · rw [hr, e2]
          · obtain ⟨s1, s2, s3, _⟩ := hs
            exact absurd (by omega) s3
        · rcases hs with ⟨_, e2⟩ | hs
          · have a1 := e2 i (by omega) (by omega)
            have a2 := e2 j (by omega) (by omega)
            omega
          · rw [show k - 1 = j by omega] at hs
            rw [hb0] at hr
            have := hd_nx_u hs hr
            exact Prod.ext this h0.symm
      | succ q ih =>
        intro k sc hk k0 hs
        push_cast at hk
        have ce : ∀ z : Int, i ≤ z → z ≤ j → ((ab_pf m 0 0).2 27).2 (md_cu i j z) = dp_B (sc_br b) i j z := fun z z1 z2 => (all i j z p.1 p.2.1 p.2.2 z1 z2).1
        refine vX9_second_34 hx _ _ _ _ _ _ 0 0 ⟨fun g => absurd g (by omega), fun _ => ⟨fun e => ⟨by omega, ih (k + 1) sc (by omega) (by omega) ?_⟩, fun ne => ⟨fun e2 => ⟨by omega, ih (k + 1) k (by omega) (by omega) ?_⟩, fun ne2 => ?_⟩⟩⟩
        · rcases hs with ⟨s1, s2⟩ | ⟨s1, s2, s3, s4, s5⟩
          · exact Or.inl ⟨s1, fun k' a1 a2 => by
              by_cases ek : k' = k
              · omega
              · exact s2 k' a1 (by omega)⟩
          · refine Or.inr ⟨s1, by omega, s3, fun z z1 z2 z3 => s4 z z1 (by omega) z3, s5⟩
        · rcases hs with ⟨s1, s2⟩ | ⟨s1, s2, s3, s4, s5⟩
          · refine Or.inr ⟨k0, by omega, ne, fun z z1 z2 z3 => ?_, fun z z1 z2 z3 => absurd (s2 z z1 z2) z3⟩
            by_cases ek : z = k
            · subst ek; exact Int.le_refl _
            · exact absurd (s2 z z1 (by omega)) z3
          · omega
        · rcases hs with ⟨s1, s2⟩ | ⟨s1, s2, s3, s4, s5⟩
          · exact absurd s1 ne2
          · have cu1 := md_cu_b (i := i) (j := j) (h := k) (by omega) (by omega) (by omega)
            have cu2 := md_cu_b (i := i) (j := j) (h := sc) (by omega) (by omega) (by omega)
            refine ab_x1 (c9_cube (d + 2) (by omega) (by omega) (by omega)) ⟨by rw [hd_pf_2, n27]; omega, ab_x1 (c9_cube (d + 2) (by omega) (by omega) (by omega)) ⟨by rw [hd_pf_2, n27]; omega, ?_⟩⟩
            rw [ce k k0 (by omega), ce sc s1 (by omega)]
            refine ⟨fun g => ⟨by omega, ih (k + 1) sc (by omega) (by omega) (Or.inr ⟨s1, by omega, s3, fun z z1 z2 z3 => ?_, s5⟩)⟩, fun g => ⟨by omega, ih (k + 1) k (by omega) (by omega) (Or.inr ⟨k0, by omega, ne, fun z z1 z2 z3 => ?_, fun z z1 z2 z3 => ?_⟩)⟩⟩
            · by_cases ek : z = k
              · subst ek; exact g
              · exact s4 z z1 (by omega) z3
            · by_cases ek : z = k
              · subst ek; exact Int.le_refl _
              · have := s4 z z1 (by omega) z3
                dsimp only at this ⊢
                omega
            · have := s4 z z1 (by omega) z3
              dsimp only at this ⊢
              omega
    exact key (j + 1 - i).toNat i (-2) (by omega) (by omega) (Or.inl ⟨rfl, fun k' a1 a2 => absurd a2 (by omega)⟩)
  · rcases hRT with ⟨_, e⟩ | ⟨g, _⟩
    · exact e.symm
    · exact absurd g p
def an_broken (b : ab_Ob) (rule h u l r : Int) : Int × Int := if ((0 ≤ h ∧ h < b.1 3) ∧ (0 ≤ u ∧ u < b.1 3)) ∧ ¬ h = u ∧ 0 ≤ rule ∧ rule < 6 then (if (1 ≤ l ∧ l ≤ 23) ∧ 1 ≤ r ∧ r ≤ 23 then ((b.2 6).2 rule * sc_un b rule h u l r, 0) else (-1, 2)) else (-1, 1)
theorem c9_broken (d : Nat) {b m : ab_Ob} (h : mi_S b m) (rule k u l r : Int) : ab_Ct (d + 3) 0 0 mX9_broken [ab_O 0, ab_I rule, ab_I k, ab_I u, ab_I l, ab_I r] [m] (ab_Is (an_broken b rule k u l r).1 [md_an m (an_broken b rule k u l r).2]) := by
  refine ab_ct kX9_broken rfl rfl (fun x hx => vX9_broken_0 hx rule k u l r m 0 0 (ab_xb (c9_isNote d (mi_S_0 h) k) (fun p => ⟨fun g => absurd g (by decide), fun _ => ab_xb (c9_isNote d (mi_S_0 h) u) (fun p2 => ⟨fun g => absurd g (by decide), fun _ => ⟨fun e => md_rf (if_neg (fun q => q.2.1 e)).symm, fun ne => ab_xb (c9_isRule d rule) (fun p3 => ⟨fun _ => ab_xb (c9_in (d + 1) l 1 23) (fun p4 => ⟨fun g => absurd g (by decide), fun _ => ab_xb (c9_in (d + 1) r 1 23) (fun p5 => ⟨fun _ => ?_, fun g => absurd g (by decide)⟩) (fun p5 => ⟨fun g => absurd rfl g, fun _ => md_rf ?_⟩)⟩) (fun p4 => ⟨fun _ => md_rf ?_, fun g => absurd rfl g⟩), fun g => absurd g (by decide)⟩) (fun p3 => ⟨fun g => absurd rfl g, fun _ => md_rf (if_neg (fun q => p3 q.2.2)).symm⟩)⟩⟩) (fun p2 => ⟨fun _ => md_rf (if_neg (fun q => p2 q.1.2)).symm, fun g => absurd rfl g⟩)⟩) (fun p => ⟨fun _ => md_rf (if_neg (fun q => p q.1.1)).symm, fun g => absurd rfl g⟩)))
  · obtain ⟨i1, hb, hdd, n1, hp, hq, hT⟩ := mi_S_I h (by omega)
    refine ab_x1 (c9_brokenBy d b (ab_pf m 0 0) hb (sc_dd_db hdd) hp hq hT.1 p3 p p2 (by omega) (by omega)) (md_gd ?_)
    unfold an_broken
    rw [if_pos ⟨⟨p, p2⟩, ne, p3⟩, if_pos ⟨p4, p5⟩]
  · unfold an_broken
    rw [if_pos ⟨⟨p, p2⟩, ne, p3⟩, if_neg (fun q => p5 q.2)]
  · unfold an_broken
    rw [if_pos ⟨⟨p, p2⟩, ne, p3⟩, if_neg (fun q => p4 q.1)]
