/-! THE REFERENCE: undo, bare, what is told, feed -/
def ux_ok (b' m z : ab_Ob) : Prop := (∀ f, f ≠ 0 → f ≠ 1 → f ≠ 2 → f ≠ 9 → f ≠ 40 → f ≠ 41 → z.1 f = m.1 f) ∧ z.1 9 = m.1 9 - 1 ∧ (∀ f, f ≠ 3 → f < 25 ∨ 39 < f → z.2 f = m.2 f) ∧ (∀ f, (z.2 f).1 = (m.2 f).1) ∧ mi_I b' z ∧ z.1 0 = 0 ∧ z.1 1 = 0 ∧ z.1 2 = -1
theorem c9_undo (d : Nat) {b b' m : ab_Ob} (h : mi_I b m) (h9 : 1 ≤ m.1 9 ∧ m.1 9 ≤ 10) (h5 : (m.2 5).1 = 550) (hb : sc_ok b') (hdd : sc_dd b') (e3 : b'.1 3 = b.1 3) (e0 : b'.1 0 = b.1 0) (e1 : b'.1 1 = b.1 1) (hx : md_x b' (fun k => (m.2 5).2 (55 * (m.1 9 - 1) + k))) : ab_Ct (d + 8) 0 0 mX9_undo [ab_O 0] [m] (fun rv w => rv = some (ab_I 1) ∧ ∃ z, w = [z] ∧ ux_ok b' m z) := by
  obtain ⟨i1, hb0, hdd0, n10, hp0, hq, hT⟩ := id h
  have hn := hb0.2.1
  have n3 := hT.1.1
  refine ab_ct kX9_undo rfl rfl (fun x hx' => ?_)
  have k39 : ∀ (q : Nat) (t : Int) (u : ab_Ob), t + q = 55 → 0 ≤ t → u.1 = (ab_pf (ab_pf m 0 0) 9 (m.1 9 - 1)).1 → (∀ f, f ≠ 3 → u.2 f = m.2 f) → (u.2 3).1 = 55 → (∀ k : Int, 0 ≤ k → k < t → (u.2 3).2 k = (m.2 5).2 (55 * (m.1 9 - 1) + k)) → ab_J x 39 [some (ab_O 0), some (ab_I t)] [] [u] 0 0 := by
    intro q
    induction q with
    | zero =>
      intro t u ht t0 u1 u2 u3 hk
      have ul : ∀ f, (u.2 f).1 = (m.2 f).1 := fun f => by
        by_cases e : f = 3
        · subst e; rw [u3, n3]
        · rw [u2 f e]
      have hl := md_len_of ul hT.1
      have hl2 := md_len2_of ul hT.2.1
      have h14 : ¬ u.1 14 = 0 := by rw [u1]; exact i1
      have hp' : md_p b' u := by
        rw [md_p_x]
        refine ⟨⟨?_, ?_, ?_⟩, ?_, fun k k0 k1 => ?_, fun r r0 r1 => ?_⟩
        · rw [u1, e3]; exact hp0.1
        · rw [u1, e0]; exact hp0.2.1
        · rw [u1, e1]; exact hp0.2.2.1
        · rw [hk 54 (by omega) (by omega)]; exact hx.1
        · rw [hk k k0 (by omega), hk (24 + k) (by omega) (by omega)]; exact hx.2.1 k k0 k1
        · rw [hk (48 + r) (by omega) (by omega)]; exact hx.2.2 r r0 r1
      refine vX9_undo_39 hx' _ u 0 0 ⟨fun _ => ab_xv1 (c9_lays d b' u hb hdd (by omega) hp' hl hl2) (fun z hz => ⟨_, c9_good (d + 6) z 0, fun r w hw => ?_⟩), fun g => absurd (by omega) g⟩
      have hI := ax_lay hb hdd (by omega) h14 hp' hl hl2 hz
      obtain ⟨lf, -, -, -⟩ := hz
      obtain ⟨y1, y2⟩ := hw
      cases y1
      cases y2
      refine ⟨ab_i11, ⟨⟨_, rfl⟩, _, _, rfl, rfl⟩, rfl, _, rfl, fun f f0 f1 f2 f9 f40 f41 => ?_, ?_, fun f f3 hf => ?_, fun f => ?_, hI, ?_, rfl, rfl⟩
      · rw [hd_pf_ne f2, hd_pf_ne f1, lf.1 f f40 f41, u1, hd_pf_ne f9, hd_pf_ne f0]
      · show z.1 9 = _
        rw [lf.1 9 (by decide) (by decide), u1]
        rfl
      · rw [hd_pf_2, hd_pf_2, lf.2.1 f (by omega)]
        exact u2 f f3
      · rw [hd_pf_2, hd_pf_2, lf.2.2]
        exact ul f
      · show z.1 0 = _
        rw [lf.1 0 (by decide) (by decide), u1]
        rfl
    | succ q ih =>
      intro t u ht t0 u1 u2 u3 hk
      push_cast at ht
      have e9 : u.1 9 = m.1 9 - 1 := by rw [u1]; rfl
      have l5 : (u.2 5).1 = 550 := by rw [u2 5 (by decide)]; exact h5
      have x5 : (u.2 5).2 = (m.2 5).2 := by rw [u2 5 (by decide)]
      refine vX9_undo_39 hx' _ u 0 0 ⟨fun g => absurd g (by omega), fun _ => ⟨by omega, by omega, by omega, by omega, by omega, ih (t + 1) _ (by omega) (by omega) u1 (fun f f3 => by rw [hd_pa_ne f3]; exact u2 f f3) (by rw [hd_pa_len]; exact u3) (fun k k0 k1 => ?_)⟩⟩
      rw [hd_pa_eq]
      show ab_ui (u.2 3).2 t _ k = _
      by_cases e : k = t
      · subst e
        rw [hd_ui_eq, e9, x5]
      · rw [hd_ui_ne e]
        exact hk k k0 (by omega)
  exact vX9_undo_0 hx' m 0 0 ⟨fun g => absurd g i1, fun _ => ⟨fun _ => ⟨by omega, k39 55 0 _ (by omega) (by omega) rfl (fun _ _ => rfl) n3 (fun k k0 k1 => absurd k1 (by omega))⟩, fun g => absurd g (by omega)⟩⟩
theorem c9_undo0 (d : Nat) {m : ab_Ob} (h : m.1 14 = 0 ∨ m.1 9 = 0) : ab_Ct (d + 2) 0 0 mX9_undo [ab_O 0] [m] (ab_Is 0 [md_an m 1]) := by
  have leaf : ∃ Q : Option ab_V → List ab_Ob → Prop, ab_Ct (d + 1) 0 0 mX9_refused [ab_O 0, ab_I 1] [ab_pf m 0 0] Q ∧ ∀ (r : Int) (v : ab_Ob), Q (some (ab_I r)) [v] → (((0 : Int) = 0 ∨ (0 : Int) = 1) ∧ (((∃ z : Int, some (ab_I 0) = some (ab_I z)) ∧ ab_shw [true] [m] [v]) ∧ (some (ab_I 0) = some (ab_I 0) ∧ [v] = [md_an m 1]))) := ⟨_, c9_refused d _ 1, fun r v hv => by
    obtain ⟨h1, h2⟩ := hv
    cases h1
    cases h2
    exact ⟨ab_i01, ⟨⟨_, rfl⟩, _, _, rfl, rfl⟩, rfl, rfl⟩⟩
  refine ab_ct kX9_undo rfl rfl (fun x hx => vX9_undo_0 hx m 0 0 ⟨fun _ => leaf, fun g => ⟨fun g2 => ?_, fun _ => leaf⟩⟩)
  rcases h with h | h
  · exact absurd h g
  · exact absurd h g2
theorem c9_trouble (d : Nat) (m : ab_Ob) : ab_Ct (d + 1) 0 0 mX9_trouble [ab_O 0] [m] (ab_Is (m.1 1) [ab_pf m 0 0]) := ab_ct kX9_trouble rfl rfl (fun x hx => vX9_trouble_0 hx m 0 0 ⟨⟨⟨_, rfl⟩, _, _, rfl, rfl⟩, rfl, rfl⟩)
theorem c9_fault (d : Nat) (m : ab_Ob) : ab_Ct (d + 1) 0 0 mX9_fault [ab_O 0] [m] (ab_Is (m.1 23) [ab_pf m 0 0]) := ab_ct kX9_fault rfl rfl (fun x hx => vX9_fault_0 hx m 0 0 ⟨⟨⟨_, rfl⟩, _, _, rfl, rfl⟩, rfl, rfl⟩)
theorem c9_where (d : Nat) (m : ab_Ob) : ab_Ct (d + 1) 0 0 mX9_where [ab_O 0] [m] (ab_Is (m.1 2) [ab_pf m 0 0]) := ab_ct kX9_where rfl rfl (fun x hx => vX9_where_0 hx m 0 0 ⟨⟨⟨_, rfl⟩, _, _, rfl, rfl⟩, rfl, rfl⟩)
theorem c9_thrown (d : Nat) (m : ab_Ob) : ab_Ct (d + 1) 0 0 mX9_thrown [ab_O 0] [m] (ab_Is (m.1 0) [m]) := ab_ct kX9_thrown rfl rfl (fun x hx => vX9_thrown_0 hx m 0 0 (ab_lf rfl rfl))
def an_size (m : ab_Ob) (what : Int) : Int := if what = 0 then m.1 17 else if what = 1 then (if m.1 14 = 0 then 0 else m.1 9) else if what = 2 then (if m.1 14 = 0 then 0 else if m.1 15 = 0 then 0 else 1) else -1
theorem c9_size (d : Nat) (m : ab_Ob) (what : Int) : ab_Ct (d + 1) 0 0 mX9_size [ab_O 0, ab_I what] [m] (ab_Is (an_size m what) [ab_pf m 0 0]) := by
  have lf : ∀ z : Int, z = an_size m what → (((∃ y : Int, some (ab_I z) = some (ab_I y)) ∧ ab_shw [true] [m] [ab_pf m 0 0]) ∧ (some (ab_I z) = some (ab_I (an_size m what)) ∧ [ab_pf m 0 0] = [ab_pf m 0 0])) := fun z hz => ⟨⟨⟨_, rfl⟩, _, _, rfl, rfl⟩, by rw [hz], rfl⟩
  refine ab_ct kX9_size rfl rfl (fun x hx => vX9_size_0 hx what m 0 0 ⟨fun g => ⟨fun g1 => ⟨fun g2 => lf _ ?_, fun g2 => ⟨fun g3 => lf _ ?_, fun g3 => ⟨fun g4 => lf _ ?_, fun g4 => lf _ ?_⟩⟩⟩, fun g1 => ⟨fun g3 => lf _ ?_, fun g3 => lf _ ?_⟩⟩, fun g => lf _ ?_⟩)
  · unfold an_size; rw [if_neg g, if_neg g1, if_neg g2]
  · unfold an_size; rw [if_neg g, if_neg g1, if_pos g2, if_pos g3]
  · unfold an_size; rw [if_neg g, if_neg g1, if_pos g2, if_neg g3, if_pos g4]
  · unfold an_size; rw [if_neg g, if_neg g1, if_pos g2, if_neg g3, if_neg g4]
  · unfold an_size; rw [if_neg g, if_pos g1, if_pos g3]
  · unfold an_size; rw [if_neg g, if_pos g1, if_neg g3]
  · unfold an_size; rw [if_pos g]
/-! bare notes -/
theorem tp_uni {c : Int → Int → Int → Int → Int} {n k : Int} {f f' : Int × Int × Int × Int} {o o' : Int} (hn : 1 ≤ n ∧ n ≤ 24) (h1 : 0 ≤ k) (h2 : k < n) (hf : tp_is c 0 (n - 1) k f o) (hf' : tp_is c 0 (n - 1) k f' o') : f = f' := by
  have a := tp_A hn h1 h2 hf
  have a' := tp_A hn h1 h2 hf'
  have b := tp_b h1 (by omega) hf
  exact a'.2.2 f a.1 b.2.2.2.2 (by rw [← a.2.1, a'.2.1])
/-- nothing lies under a note -/
def ba_z (b : ab_Ob) (k : Int) : Prop := ∃ f o, tp_is (sc_br b) 0 (b.1 3 - 1) k f o ∧ f.2.1 - f.1 ≤ 0
/-- how many of the first notes are so -/
noncomputable def ba_n (b : ab_Ob) : Nat → Int
  | 0 => 0
  | k + 1 => ba_n b k + @ite Int (ba_z b k) (Classical.propDecidable _) 1 0
theorem ba_n_y {b : ab_Ob} {k : Nat} (h : ba_z b k) : ba_n b (k + 1) = ba_n b k + 1 := by
  simp only [ba_n]
  rw [if_pos h]
theorem ba_n_n {b : ab_Ob} {k : Nat} (h : ¬ ba_z b k) : ba_n b (k + 1) = ba_n b k := by
  simp only [ba_n]
  rw [if_neg h, Int.add_zero]
theorem ba_n_b {b : ab_Ob} : ∀ k : Nat, 0 ≤ ba_n b k ∧ ba_n b k ≤ k
  | 0 => by simp [ba_n]
  | k + 1 => by
    have := ba_n_b (b := b) k
    by_cases h : ba_z b k
    · rw [ba_n_y h]; push_cast; omega
    · rw [ba_n_n h]; push_cast; omega
def ba_at (b : ab_Ob) (i : Int) (k : Nat) : Prop := (k : Int) < b.1 3 ∧ ba_z b k ∧ ba_n b k = i
theorem ba_mono {b : ab_Ob} {k : Nat} : ∀ j : Nat, ba_n b k ≤ ba_n b (k + j)
  | 0 => Int.le_refl _
  | j + 1 => by
    have := ba_mono (b := b) (k := k) j
    have e : k + (j + 1) = (k + j) + 1 := rfl
    rw [e]
    by_cases h : ba_z b ((k + j : Nat) : Int)
    · rw [ba_n_y h]; omega
    · rw [ba_n_n h]; exact this
theorem ba_uni {b : ab_Ob} {i : Int} {k k' : Nat} (h : ba_at b i k) (h' : ba_at b i k') : k = k' := by
  have key : ∀ {a c : Nat}, ba_at b i a → ba_at b i c → ¬ a < c := fun {a c} ha hc lt => by
    obtain ⟨j, hj⟩ : ∃ j, c = (a + 1) + j := ⟨c - (a + 1), by omega⟩
    have m := ba_mono (b := b) (k := a + 1) j
    rw [← hj, ba_n_y ha.2.1] at m
    have := ha.2.2
    have := hc.2.2
    omega
  have := key h h'
  have := key h' h
  omega
theorem c9_bare (d : Nat) {b m : ab_Ob} (h : mi_S b m) (i : Int) : ab_Ct (d + 2) 0 0 mX9_bare [ab_O 0, ab_I i] [m] (fun rv w => (∃ k : Nat, ba_at b i k ∧ rv = some (ab_I k) ∧ w = [ab_pf m 0 0]) ∨ ((∀ k : Nat, ¬ ba_at b i k) ∧ rv = some (ab_I 0) ∧ w = [ab_pf m 0 1])) := by
  refine ab_ct kX9_bare rfl rfl (fun x hx => vX9_bare_0 hx i m 0 0 ?_)
  have e01 : ab_pf (ab_pf m 0 0) 0 1 = ab_pf m 0 1 := by
    obtain ⟨m1, m2⟩ := m
    simp only [ab_pf]
    congr 1
    funext z
    by_cases e : z = 0
    · subst e; simp [ab_up]
    · simp [ab_up, e]
  rcases id h with ⟨h1, h2, h3⟩ | hI
  · refine vX9_bare_9 hx _ _ _ _ 0 0 ⟨fun _ => ?_, fun g => absurd h1 g⟩
    rw [e01]
    exact ⟨⟨⟨_, rfl⟩, _, _, rfl, rfl⟩, Or.inr ⟨fun k hk => by have := hk.1; omega, rfl, rfl⟩⟩
  · obtain ⟨i1, hb, hdd, n1, hp, hq, hT⟩ := id hI
    have hn := hb.2.1
    have e8 : m.1 8 = b.1 3 := hp.1
    have key : ∀ (q t : Nat), (t : Int) + q = b.1 3 → (∀ k : Nat, k < t → ¬ ba_at b i k) → ab_J x 9 [some (ab_O 0), some (ab_I i), some (ab_I (ba_n b t)), some (ab_I t)] [] [ab_pf m 0 0] 0 0 := by
      intro q
      induction q with
      | zero =>
        intro t ht hall
        refine vX9_bare_9 hx _ _ _ _ 0 0 ⟨fun g => absurd g i1, fun _ => ⟨fun _ => ?_, fun g => absurd (by show m.1 8 ≤ _; omega) g⟩⟩
        rw [e01]
        exact ⟨⟨⟨_, rfl⟩, _, _, rfl, rfl⟩, Or.inr ⟨fun k hk => hall k (by have := hk.1; omega) hk, rfl, rfl⟩⟩
      | succ q ih =>
        intro t ht hall
        push_cast at ht
        obtain ⟨f, o, hf⟩ := tp_ex (sc_br b) (i := 0) (j := b.1 3 - 1) (k := (t : Int)) (by omega) (by omega)
        have tb := ba_n_b (b := b) t
        have nx := ih (t + 1) (by push_cast; omega)
        refine vX9_bare_9 hx _ _ _ _ 0 0 ⟨fun g => absurd g i1, fun _ => ⟨fun g => absurd g (by show ¬ m.1 8 ≤ _; omega), fun _ => ab_x1 (c9_underOne d (m := ab_pf m 0 0) hT (by omega) (by omega) hf) ⟨fun g => ⟨fun g2 => ⟨by omega, by omega, ?_⟩, fun g2 => ?_⟩, fun g => ⟨by omega, ?_⟩⟩⟩⟩
        · have bz : ba_z b t := ⟨f, o, hf, g⟩
          rw [ba_n_y bz] at nx
          refine nx (fun k hk y => ?_)
          by_cases ek : k = t
          · subst ek; exact g2 y.2.2
          · exact hall k (by omega) y
        · exact ⟨⟨⟨_, rfl⟩, _, _, rfl, rfl⟩, Or.inl ⟨t, ⟨by omega, ⟨f, o, hf, g⟩, g2⟩, rfl, rfl⟩⟩
        · have bz : ¬ ba_z b t := fun y => by
            obtain ⟨f', o', hf', g'⟩ := y
            have := tp_uni (by omega) (by omega) (by omega) hf hf'
            subst this
            exact g g'
          rw [ba_n_n bz] at nx
          refine nx (fun k hk y => ?_)
          by_cases ek : k = t
          · subst ek; exact bz y.2.1
          · exact hall k (by omega) y
    exact key (b.1 3).toNat 0 (by omega) (fun k hk => absurd hk (by omega))
/-! feed -/
def fe_by (v s : Int) : Int := ab_i8 (ab_i8 ((Int32.ofInt v >>> (Int32.ofInt s &&& 31)).toInt))
def fe_v (a b c d e j : Int) : Int := if 4 ≤ j then (if 8 ≤ j then (if 12 ≤ j then (if 16 ≤ j then e else d) else c) else b) else a
/-- the j-th byte of five numbers -/
def fe_s (a b c d e j : Int) : Int := fe_by (fe_v a b c d e j) (24 - 8 * Int.tmod j 4)
theorem c9_feed0 (dd : Nat) {m : ab_Ob} (h17 : 680 < m.1 17 ∧ m.1 17 ≤ 700) (a b c d e : Int) : ab_Ct (dd + 1) 0 0 mX9_feed [ab_O 0, ab_I a, ab_I b, ab_I c, ab_I d, ab_I e] [m] (ab_Is (-1) [ab_pf m 0 0]) :=
  ab_ct kX9_feed rfl rfl (fun x hx => vX9_feed_0 hx a b c d e m 0 0 ⟨by omega, fun g => absurd g (by omega), fun _ => ⟨⟨⟨_, rfl⟩, _, _, rfl, rfl⟩, rfl, rfl⟩⟩)
theorem c9_feed (dd : Nat) {m : ab_Ob} (h17 : 0 ≤ m.1 17 ∧ m.1 17 ≤ 680) (h16 : (m.2 16).1 = 700) (a b c d e : Int) : ab_Ct (dd + 1) 0 0 mX9_feed [ab_O 0, ab_I a, ab_I b, ab_I c, ab_I d, ab_I e] [m] (fun rv w => rv = some (ab_I (m.1 17 + 20)) ∧ ∃ z, w = [z] ∧ z.1 0 = 0 ∧ z.1 17 = m.1 17 + 20 ∧ (∀ f, f ≠ 0 → f ≠ 17 → z.1 f = m.1 f) ∧ (∀ f, f ≠ 16 → z.2 f = m.2 f) ∧ (z.2 16).1 = 700 ∧ ∀ q : Int, (z.2 16).2 q = if m.1 17 ≤ q ∧ q < m.1 17 + 20 then fe_s a b c d e (q - m.1 17) else (m.2 16).2 q) := by
  refine ab_ct kX9_feed rfl rfl (fun x hx => ?_)
  have key : ∀ (q : Nat) (t : Int) (v : ab_Ob), t + q = 20 → 0 ≤ t → v.1 0 = 0 → v.1 17 = m.1 17 + t → (∀ f, f ≠ 0 → f ≠ 17 → v.1 f = m.1 f) → (∀ f, f ≠ 16 → v.2 f = m.2 f) → (v.2 16).1 = 700 → (∀ q : Int, (v.2 16).2 q = if m.1 17 ≤ q ∧ q < m.1 17 + t then fe_s a b c d e (q - m.1 17) else (m.2 16).2 q) → ab_J x 23 [some (ab_O 0), some (ab_I a), some (ab_I b), some (ab_I c), some (ab_I d), some (ab_I e), some (ab_I t), none] [] [v] 0 0 := by
    intro q
    induction q with
    | zero =>
      intro t v ht t0 v0 v17 v1 v2 v16 hq
      have et : t = 20 := by omega
      subst et
      exact vX9_feed_23 hx _ _ _ _ _ _ v 0 0 ⟨fun _ => ⟨⟨⟨_, rfl⟩, _, _, rfl, rfl⟩, by rw [v17], v, rfl, v0, v17, v1, v2, v16, hq⟩, fun g => absurd (by omega) g⟩
    | succ q ih =>
      intro t v ht t0 v0 v17 v1 v2 v16 hq
      push_cast at ht
      have tm : 0 ≤ Int.tmod t 4 ∧ Int.tmod t 4 < 4 := by
        rw [Int.tmod_eq_emod_of_nonneg t0]
        omega
      have nx : ∀ z : Int, z = fe_v a b c d e t → ab_J x 76 [some (ab_O 0), some (ab_I a), some (ab_I b), some (ab_I c), some (ab_I d), some (ab_I e), some (ab_I t), none] [ab_I z] [v] 0 0 := fun z hz => by
        refine vX9_feed_76 hx _ _ _ _ _ _ _ v 0 0 ⟨by decide, by omega, by omega, by omega, by omega, by omega, by omega, ih (t + 1) _ (by omega) (by omega) v0 ?_ (fun f f0 f17 => ?_) (fun f hf => ?_) ?_ (fun y => ?_)⟩
        · rw [hd_pf_eq, v17]; omega
        · rw [hd_pf_ne f17]; exact v1 f f0 f17
        · rw [hd_pf_2, hd_pa_ne hf]; exact v2 f hf
        · rw [hd_pf_2, hd_pa_len]; exact v16
        · rw [hd_pf_2, hd_pa_eq]
          show ab_ui (v.2 16).2 (v.1 17) _ y = _
          by_cases ey : y = v.1 17
          · rw [ey, hd_ui_eq, if_pos (by omega), hz]
            have : v.1 17 - m.1 17 = t := by omega
            rw [this]
            rfl
          · rw [hd_ui_ne ey, hq y]
            by_cases g : m.1 17 ≤ y ∧ y < m.1 17 + t
            · rw [if_pos g, if_pos (by omega)]
            · rw [if_neg g, if_neg (by omega)]
      refine vX9_feed_23 hx _ _ _ _ _ _ v 0 0 ⟨fun g => absurd g (by omega), fun _ => ⟨fun g => ⟨fun g1 => ⟨fun g2 => ⟨fun g3 => nx _ ?_, fun g3 => nx _ ?_⟩, fun g2 => nx _ ?_⟩, fun g1 => nx _ ?_⟩, fun g => nx _ ?_⟩⟩
      · unfold fe_v; rw [if_pos g, if_pos g1, if_pos g2, if_pos g3]
      · unfold fe_v; rw [if_pos g, if_pos g1, if_pos g2, if_neg g3]
      · unfold fe_v; rw [if_pos g, if_pos g1, if_neg g2]
      · unfold fe_v; rw [if_pos g, if_neg g1]
      · unfold fe_v; rw [if_neg g]
  exact vX9_feed_0 hx a b c d e m 0 0 ⟨by omega, fun _ => key 20 0 _ (by omega) (by omega) rfl (by show m.1 17 = _; omega) (fun f f0 _ => hd_pf_ne f0) (fun _ _ => rfl) h16 (fun q => by rw [if_neg (by omega)]; rfl), fun g => absurd (by omega) g⟩
