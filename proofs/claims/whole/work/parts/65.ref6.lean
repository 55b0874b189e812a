/-! THE REFERENCE, asked: what answers, what is left -/
/-- answered: not thrown, this trouble, no place -/
def md_an (m : ab_Ob) (t : Int) : ab_Ob := ab_pf (ab_pf (ab_pf m 0 0) 1 t) 2 (-1)
/-- the reference holds a piece, laid out -/
def mi_I (b m : ab_Ob) : Prop := ¬ m.1 14 = 0 ∧ sc_ok b ∧ sc_dd b ∧ 1 ≤ b.1 3 ∧ md_p b m ∧ md_d b m ∧ md_T m (sc_br b) (b.1 3)
/-- the reference holds no piece, or this one -/
def mi_S (b m : ab_Ob) : Prop := (m.1 14 = 0 ∧ b.1 3 = 0 ∧ (-1000 ≤ m.1 8 ∧ m.1 8 ≤ 1000)) ∨ mi_I b m
theorem mi_I_0 {b m : ab_Ob} (h : mi_I b m) : mi_I b (ab_pf m 0 0) := h
theorem mi_S_0 {b m : ab_Ob} (h : mi_S b m) : mi_S b (ab_pf m 0 0) := h
theorem mi_I_an {b m : ab_Ob} (h : mi_I b m) (t : Int) : mi_I b (md_an m t) := h
theorem mi_S_an {b m : ab_Ob} (h : mi_S b m) (t : Int) : mi_S b (md_an m t) := h
theorem c9_good (d : Nat) (m : ab_Ob) (a : Int) : ab_Ct (d + 1) 0 0 mX9_good [ab_O 0, ab_I a] [m] (fun rv w => rv = some (ab_I a) ∧ w = [ab_pf (ab_pf m 1 0) 2 (-1)]) :=
  ab_ct kX9_good rfl rfl (fun x hx => vX9_good_0 hx a m 0 0 ⟨⟨⟨_, rfl⟩, _, _, rfl, rfl⟩, rfl, rfl⟩)
theorem c9_refused (d : Nat) (m : ab_Ob) (a : Int) : ab_Ct (d + 1) 0 0 mX9_refused [ab_O 0, ab_I a] [m] (fun rv w => rv = some (ab_I (-1)) ∧ w = [ab_pf (ab_pf m 1 a) 2 (-1)]) :=
  ab_ct kX9_refused rfl rfl (fun x hx => vX9_refused_0 hx a m 0 0 ⟨⟨⟨_, rfl⟩, _, _, rfl, rfl⟩, rfl, rfl⟩)
/-- leaves: granted, refused -/
theorem md_gd {d : Nat} {m : ab_Ob} {a : Int} {RT : Int × Int} (e : (a, (0 : Int)) = RT) : ∃ Q : Option ab_V → List ab_Ob → Prop, ab_Ct (d + 1) 0 0 mX9_good [ab_O 0, ab_I a] [ab_pf m 0 0] Q ∧ ∀ (r : Int) (v : ab_Ob), Q (some (ab_I r)) [v] → (((∃ z : Int, some (ab_I r) = some (ab_I z)) ∧ ab_shw [true] [m] [v]) ∧ (some (ab_I r) = some (ab_I RT.1) ∧ [v] = [md_an m RT.2])) :=
  ⟨_, c9_good d _ a, fun r v h => by
    obtain ⟨h1, h2⟩ := h
    cases h2
    refine ⟨⟨⟨_, rfl⟩, _, _, rfl, rfl⟩, ?_, ?_⟩
    · rw [h1, ← e]
    · rw [← e]; rfl⟩
theorem md_rf {d : Nat} {m : ab_Ob} {t : Int} {RT : Int × Int} (e : ((-1 : Int), t) = RT) : ∃ Q : Option ab_V → List ab_Ob → Prop, ab_Ct (d + 1) 0 0 mX9_refused [ab_O 0, ab_I t] [ab_pf m 0 0] Q ∧ ∀ (r : Int) (v : ab_Ob), Q (some (ab_I r)) [v] → (((∃ z : Int, some (ab_I r) = some (ab_I z)) ∧ ab_shw [true] [m] [v]) ∧ (some (ab_I r) = some (ab_I RT.1) ∧ [v] = [md_an m RT.2])) :=
  ⟨_, c9_refused d _ t, fun r v h => by
    obtain ⟨h1, h2⟩ := h
    cases h2
    refine ⟨⟨⟨_, rfl⟩, _, _, rfl, rfl⟩, ?_, ?_⟩
    · rw [h1, ← e]
    · rw [← e]; rfl⟩
theorem c9_isRule (d : Nat) (a : Int) : ab_Ct (d + 2) 0 0 mX9_isRule [ab_I a] [] (ab_Bo (0 ≤ a ∧ a < 6) []) :=
  ab_ct kX9_isRule rfl rfl (fun x hx => vX9_isRule_0 hx a 0 0 (ab_xb (c9_in d a 0 5) (fun p => ⟨ab_i11, ab_l1b rfl (by omega)⟩) (fun p => ⟨ab_i01, ab_l0b rfl (by omega)⟩)))
theorem c9_isNote (d : Nat) {b m : ab_Ob} (h : mi_S b m) (k : Int) : ab_Ct (d + 2) 0 0 mX9_isNote [ab_O 0, ab_I k] [m] (ab_Bo (0 ≤ k ∧ k < b.1 3) [m]) := by
  refine ab_ct kX9_isNote rfl rfl (fun x hx => vX9_isNote_0 hx k m 0 0 ?_)
  rcases h with ⟨h1, h2, h3⟩ | h
  · exact ⟨fun _ => ⟨ab_i01, ab_l0b rfl (by omega)⟩, fun g => absurd h1 g⟩
  · have hn := h.2.1.2.1
    have e8 : m.1 8 = b.1 3 := h.2.2.2.2.1.1
    exact ⟨fun g => absurd g h.1, fun _ => ⟨by omega, ab_xb (c9_in d _ _ _) (fun p => ⟨fun g => absurd g (by decide), fun _ => ⟨ab_i11, ab_l1b rfl (by omega)⟩⟩) (fun p => ⟨fun _ => ⟨ab_i01, ab_l0b rfl (by omega)⟩, fun g => absurd rfl g⟩)⟩⟩
theorem c9_isSpan (d : Nat) {b m : ab_Ob} (h : mi_S b m) (i j : Int) : ab_Ct (d + 3) 0 0 mX9_isSpan [ab_O 0, ab_I i, ab_I j] [m] (ab_Bo (0 ≤ i ∧ i ≤ j ∧ j < b.1 3) [m]) := by
  refine ab_ct kX9_isSpan rfl rfl (fun x hx => vX9_isSpan_0 hx i j m 0 0 (ab_xb (c9_isNote d h i) (fun p => ⟨fun g => absurd g (by decide), fun _ => ab_xb (c9_isNote d h j) (fun p2 => ⟨fun g => absurd g (by decide), fun _ => ⟨fun g => ⟨ab_i01, ab_l0b rfl (by omega)⟩, fun g => ⟨ab_i11, ab_l1b rfl (by omega)⟩⟩⟩) (fun p2 => ⟨fun _ => ⟨ab_i01, ab_l0b rfl (by omega)⟩, fun g => absurd rfl g⟩)⟩) (fun p => ⟨fun _ => ⟨ab_i01, ab_l0b rfl (by omega)⟩, fun g => absurd rfl g⟩)))
theorem mi_S_I {b m : ab_Ob} (h : mi_S b m) (hn : 1 ≤ b.1 3) : mi_I b m := by
  rcases h with ⟨h1, h2, h3⟩ | h
  · omega
  · exact h
/-- the reference's best head -/
theorem c9_headOf' (d : Nat) {b m : ab_Ob} (h : mi_I b m) {i j : Int} (h0 : 0 ≤ i) (h1 : i ≤ j) (h2 : j < b.1 3) : ab_Ct (d + 2) 0 0 mX9_headOf [ab_O 0, ab_I i, ab_I j] [m] (ab_Is (dp_H (sc_br b) i j) [m]) := by
  have hn := h.2.1.2.1
  have c := c9_headOf d m h.2.2.2.2.2.2.1.2.2.2.1 h0 h1 (by omega)
  have e : hd_am (fun k => (m.2 27).2 (md_cu i j k)) i (j - i).toNat = dp_H (sc_br b) i j := hd_am_congr fun k k1 k2 => (h.2.2.2.2.2.2.2.2.1 i j k h0 h1 h2 k1 (by omega)).1
  rw [e] at c
  exact c
/-! answers -/
def an_sp (b : ab_Ob) (i j : Int) : Prop := 0 ≤ i ∧ i ≤ j ∧ j < b.1 3
def an_about (b : ab_Ob) (what : Int) : Int × Int := if b.1 3 = 0 then (-1, 1) else if what = 0 then (b.1 0, 0) else if what = 1 then (b.1 1, 0) else if what = 2 then (b.1 2, 0) else if what = 3 then (b.1 3, 0) else if what = 4 then (hd_sm (b.2 5).2 0 (b.1 3).toNat, 0) else if what = 5 then (hd_sm (fun r => if (b.2 6).2 r ≤ 0 then 0 else 1) 0 6, 0) else (-1, 1)
theorem c9_about (d : Nat) {b m : ab_Ob} (h : mi_S b m) (what : Int) : ab_Ct (d + 3) 0 0 mX9_about [ab_O 0, ab_I what] [m] (ab_Is (an_about b what).1 [md_an m (an_about b what).2]) := by
  refine ab_ct kX9_about rfl rfl (fun x hx => vX9_about_0 hx what m 0 0 ?_)
  rcases h with ⟨h1, h2, h3⟩ | h
  · exact ⟨fun g => absurd h1 g, fun _ => md_rf (by unfold an_about; rw [if_pos h2])⟩
  · obtain ⟨i1, hb, hdd, n1, hp, hq, hT⟩ := id h
    have n0 : ¬ b.1 3 = 0 := by omega
    have n3 := hT.1.1
    have hn := hb.2.1
    refine ⟨fun _ => ⟨fun g => md_rf ?_, fun g => md_gd ?_, fun g => md_gd ?_, fun g => ⟨by omega, md_gd ?_⟩, fun g => md_gd ?_, fun g => ?_, fun g => ?_, trivial⟩, fun g => absurd g i1⟩
    · unfold an_about
      rw [if_neg n0, if_neg (by omega), if_neg (by omega), if_neg (by omega), if_neg (by omega), if_neg (by omega), if_neg (by omega)]
    · subst g
      unfold an_about
      rw [if_neg n0, if_pos rfl, hp.2.1]
    · subst g
      unfold an_about
      rw [if_neg n0, if_neg (by omega), if_pos rfl, hp.2.2.1]
    · subst g
      unfold an_about
      rw [if_neg n0, if_neg (by omega), if_neg (by omega), if_pos rfl, hp.2.2.2.1]
    · subst g
      unfold an_about
      rw [if_neg n0, if_neg (by omega), if_neg (by omega), if_neg (by omega), if_pos rfl, hp.1]
    · subst g
      have cb := c9_beginOf d b (ab_pf m 0 0) hb hp n3 (k := m.1 8) (by rw [hp.1]; omega) (by rw [hp.1]; omega)
      refine ab_x1 cb (md_gd ?_)
      unfold an_about
      rw [if_neg n0, if_neg (by omega), if_neg (by omega), if_neg (by omega), if_neg (by omega), if_pos rfl, hp.1]
    · subst g
      have key : ∀ (q k : Nat), k + q = 6 → ab_J x 114 [some (ab_O 0), none, some (ab_I (hd_sm (fun r => if (b.2 6).2 r ≤ 0 then 0 else 1) 0 k)), some (ab_I k)] [] [ab_pf m 0 0] 0 0 := by
        intro q
        induction q with
        | zero =>
          intro k hk
          have : k = 6 := by omega
          subst this
          refine vX9_about_114 hx _ _ _ 0 0 ⟨fun _ => md_gd ?_, fun g => absurd (by omega) g⟩
          unfold an_about
          rw [if_neg n0, if_neg (by omega), if_neg (by omega), if_neg (by omega), if_neg (by omega), if_neg (by omega), if_pos rfl]
        | succ q ih =>
          intro k hk
          have hb1 := hd_sm_b (f := fun r => if (b.2 6).2 r ≤ 0 then 0 else 1) (i := 0) (B := 1) (m := k) (fun k a b => by split <;> omega)
          have this := ih (k + 1) (by omega)
          have ew : ((ab_pf m 0 0).2 3).2 (48 + (k : Int)) = (b.2 6).2 k := hp.2.2.2.2.2 k (by omega) (by omega)
          simp only [hd_sm, Int.zero_add] at this
          refine vX9_about_114 hx _ _ _ 0 0 ⟨fun g => absurd g (by omega), fun _ => ⟨by omega, by rw [hd_pf_2, n3]; omega, fun g => ⟨by omega, by omega, ?_⟩, fun g => ⟨by omega, by omega, ?_⟩⟩⟩
          · rw [ew] at g
            rw [if_pos g] at this
            exact this
          · rw [ew] at g
            rw [if_neg g] at this
            exact this
      exact key 6 0 rfl
def an_note (b : ab_Ob) (k what : Int) : Int × Int := if 0 ≤ k ∧ k < b.1 3 then (if what = 0 then ((b.2 4).2 k, 0) else if what = 1 then ((b.2 5).2 k, 0) else if what = 2 then ((b.2 7).2 k, 0) else if what = 3 then ((b.2 8).2 k, 0) else if what = 4 then ((b.2 9).2 k, 0) else if what = 5 then (mt_rk (tr_A (sc_br b) (b.1 3)) k, 0) else (-1, 1)) else (-1, 1)
theorem c9_note (d : Nat) {b m : ab_Ob} (h : mi_S b m) (k what : Int) : ab_Ct (d + 3) 0 0 mX9_note [ab_O 0, ab_I k, ab_I what] [m] (ab_Is (an_note b k what).1 [md_an m (an_note b k what).2]) := by
  refine ab_ct kX9_note rfl rfl (fun x hx => vX9_note_0 hx k what m 0 0 (ab_xb (c9_isNote d (mi_S_0 h) k) (fun p => ⟨fun _ => ?_, fun g => absurd g (by decide)⟩) (fun p => ⟨fun g => absurd rfl g, fun _ => md_rf ?_⟩)))
  · obtain ⟨i1, hb, hdd, n1, hp, hq, hT⟩ := mi_S_I h (by omega)
    have hn := hb.2.1
    obtain ⟨n3, n25, n26, n27, n28, n29, n30⟩ := hT.1
    have n35 := hT.2.1.2.2.2.2.1
    refine ⟨fun g => md_rf ?_, fun g => ab_x1 (c9_pitchOf (d + 1) (ab_pf m 0 0) n3 p.1 (by omega)) (md_gd ?_), fun g => ab_x1 (c9_lasts (d + 1) (ab_pf m 0 0) n3 p.1 (by omega)) (md_gd ?_), fun g => ab_x1 (c9_beginOf d b (ab_pf m 0 0) hb hp n3 p.1 (by omega)) (md_gd ?_), fun g => ⟨by omega, md_gd ?_⟩, fun g => ⟨by omega, md_gd ?_⟩, fun g => ⟨by omega, md_gd ?_⟩, trivial⟩
    · unfold an_note
      rw [if_pos p, if_neg (by omega), if_neg (by omega), if_neg (by omega), if_neg (by omega), if_neg (by omega), if_neg (by omega)]
    · subst g
      unfold an_note
      rw [if_pos p, if_pos rfl]
      exact congrArg (fun z => (z, (0 : Int))) (hp.2.2.2.2.1 k p.1 p.2).1
    · subst g
      unfold an_note
      rw [if_pos p, if_neg (by omega), if_pos rfl]
      exact congrArg (fun z => (z, (0 : Int))) (hp.2.2.2.2.1 k p.1 p.2).2
    · subst g
      unfold an_note
      rw [if_pos p, if_neg (by omega), if_neg (by omega), if_pos rfl, (hdd k p.1 p.2).1]
    · subst g
      unfold an_note
      rw [if_pos p, if_neg (by omega), if_neg (by omega), if_neg (by omega), if_pos rfl, (hq k p.1 p.2).1]
    · subst g
      unfold an_note
      rw [if_pos p, if_neg (by omega), if_neg (by omega), if_neg (by omega), if_neg (by omega), if_pos rfl, (hq k p.1 p.2).2]
    · subst g
      unfold an_note
      rw [if_pos p, if_neg (by omega), if_neg (by omega), if_neg (by omega), if_neg (by omega), if_neg (by omega), if_pos rfl]
      exact congrArg (fun z => (z, (0 : Int))) (hT.2.2.2.1.2.2 k p.1 (by omega))
  · unfold an_note
    rw [if_neg p]
def an_weight (b : ab_Ob) (r : Int) : Int × Int := if 1 ≤ b.1 3 ∧ 0 ≤ r ∧ r < 6 then ((b.2 6).2 r, 0) else (-1, 1)
theorem c9_weight (d : Nat) {b m : ab_Ob} (h : mi_S b m) (r : Int) : ab_Ct (d + 3) 0 0 mX9_weight [ab_O 0, ab_I r] [m] (ab_Is (an_weight b r).1 [md_an m (an_weight b r).2]) := by
  refine ab_ct kX9_weight rfl rfl (fun x hx => vX9_weight_0 hx r m 0 0 ?_)
  rcases h with ⟨h1, h2, h3⟩ | h
  · exact ⟨fun _ => md_rf (if_neg (by omega)).symm, fun g => absurd h1 g⟩
  · obtain ⟨i1, hb, hdd, n1, hp, hq, hT⟩ := id h
    have n3 := hT.1.1
    refine ⟨fun g => absurd g i1, fun _ => ab_xb (c9_isRule d r) (fun p => ⟨fun g => absurd g (by decide), fun _ => ⟨by omega, by omega, md_gd ?_⟩⟩) (fun p => ⟨fun _ => md_rf (if_neg (by omega)).symm, fun g => absurd rfl g⟩)⟩
    rw [hp.2.2.2.2.2 r p.1 p.2]
    exact (if_pos ⟨n1, p⟩).symm
/-- the least breaks of a span -/
def an_B (b : ab_Ob) (i j : Int) : Int := dp_B (sc_br b) i j (dp_H (sc_br b) i j)
def an_breaks (b : ab_Ob) (i j : Int) : Int × Int := if 0 ≤ i ∧ i ≤ j ∧ j < b.1 3 then (an_B b i j, 0) else (-1, 1)
def an_head (b : ab_Ob) (i j : Int) : Int × Int := if 0 ≤ i ∧ i ≤ j ∧ j < b.1 3 then (dp_H (sc_br b) i j, 0) else (-1, 1)
def an_split (b : ab_Ob) (i j : Int) : Int × Int := if 0 ≤ i ∧ i ≤ j ∧ j < b.1 3 then (if i < j then dp_sp (sc_br b) i j (dp_H (sc_br b) i j) else -2, 0) else (-1, 1)
def an_breaksBy (b : ab_Ob) (i j h : Int) : Int × Int := if (0 ≤ i ∧ i ≤ j ∧ j < b.1 3) ∧ i ≤ h ∧ h ≤ j then (dp_B (sc_br b) i j h, 0) else (-1, 1)
theorem c9_breaks (d : Nat) {b m : ab_Ob} (h : mi_S b m) (i j : Int) : ab_Ct (d + 4) 0 0 mX9_breaks [ab_O 0, ab_I i, ab_I j] [m] (ab_Is (an_breaks b i j).1 [md_an m (an_breaks b i j).2]) := by
  refine ab_ct kX9_breaks rfl rfl (fun x hx => vX9_breaks_0 hx i j m 0 0 (ab_xb (c9_isSpan d (mi_S_0 h) i j) (fun p => ⟨fun g => absurd g (by decide), fun _ => ?_⟩) (fun p => ⟨fun _ => md_rf (if_neg p).symm, fun g => absurd rfl g⟩)))
  have hI := mi_S_I h (by omega)
  have hn := hI.2.1.2.1
  have hH := dp_H_in (c := sc_br b) p.2.1
  have cu := md_cu_b (i := i) (j := j) (h := dp_H (sc_br b) i j) (by omega) (by omega) (by omega)
  have n27 := hI.2.2.2.2.2.2.1.2.2.2.1
  refine ab_x1 (c9_headOf' (d + 1) (mi_I_0 hI) p.1 p.2.1 p.2.2) (ab_x1 (c9_cube (d + 2) (by omega) (by omega) (by omega)) ⟨by omega, md_gd ?_⟩)
  rw [(hI.2.2.2.2.2.2.2.2.1 i j _ p.1 p.2.1 p.2.2 hH.1 hH.2).1]
  exact (if_pos p).symm
theorem c9_head (d : Nat) {b m : ab_Ob} (h : mi_S b m) (i j : Int) : ab_Ct (d + 4) 0 0 mX9_head [ab_O 0, ab_I i, ab_I j] [m] (ab_Is (an_head b i j).1 [md_an m (an_head b i j).2]) := by
  refine ab_ct kX9_head rfl rfl (fun x hx => vX9_head_0 hx i j m 0 0 (ab_xb (c9_isSpan d (mi_S_0 h) i j) (fun p => ⟨fun g => absurd g (by decide), fun _ => ?_⟩) (fun p => ⟨fun _ => md_rf (if_neg p).symm, fun g => absurd rfl g⟩)))
  have hI := mi_S_I h (by omega)
  exact ab_x1 (c9_headOf' (d + 1) (mi_I_0 hI) p.1 p.2.1 p.2.2) (md_gd (if_pos p).symm)
theorem c9_split (d : Nat) {b m : ab_Ob} (h : mi_S b m) (i j : Int) : ab_Ct (d + 4) 0 0 mX9_split [ab_O 0, ab_I i, ab_I j] [m] (ab_Is (an_split b i j).1 [md_an m (an_split b i j).2]) := by
  refine ab_ct kX9_split rfl rfl (fun x hx => vX9_split_0 hx i j m 0 0 (ab_xb (c9_isSpan d (mi_S_0 h) i j) (fun p => ⟨fun g => absurd g (by decide), fun _ => ?_⟩) (fun p => ⟨fun _ => md_rf (if_neg p).symm, fun g => absurd rfl g⟩)))
  have hI := mi_S_I h (by omega)
  have hn := hI.2.1.2.1
  have hH := dp_H_in (c := sc_br b) p.2.1
  have cu := md_cu_b (i := i) (j := j) (h := dp_H (sc_br b) i j) (by omega) (by omega) (by omega)
  have n28 := hI.2.2.2.2.2.2.1.2.2.2.2.1
  refine ab_x1 (c9_headOf' (d + 1) (mi_I_0 hI) p.1 p.2.1 p.2.2) (ab_x1 (c9_cube (d + 2) (by omega) (by omega) (by omega)) ⟨by omega, md_gd ?_⟩)
  rw [(hI.2.2.2.2.2.2.2.2.1 i j _ p.1 p.2.1 p.2.2 hH.1 hH.2).2.1]
  exact (if_pos p).symm
theorem c9_breaksBy (d : Nat) {b m : ab_Ob} (h : mi_S b m) (i j k : Int) : ab_Ct (d + 4) 0 0 mX9_breaksBy [ab_O 0, ab_I i, ab_I j, ab_I k] [m] (ab_Is (an_breaksBy b i j k).1 [md_an m (an_breaksBy b i j k).2]) := by
  refine ab_ct kX9_breaksBy rfl rfl (fun x hx => vX9_breaksBy_0 hx i j k m 0 0 (ab_xb (c9_isSpan d (mi_S_0 h) i j) (fun p => ⟨fun g => absurd g (by decide), fun _ => ab_xb (c9_in (d + 2) k i j) (fun p2 => ⟨fun g => absurd g (by decide), fun _ => ?_⟩) (fun p2 => ⟨fun _ => md_rf (if_neg (fun q => p2 q.2)).symm, fun g => absurd rfl g⟩)⟩) (fun p => ⟨fun _ => md_rf (if_neg (fun q => p q.1)).symm, fun g => absurd rfl g⟩)))
  have hI := mi_S_I h (by omega)
  have hn := hI.2.1.2.1
  have cu := md_cu_b (i := i) (j := j) (h := k) (by omega) (by omega) (by omega)
  have n27 := hI.2.2.2.2.2.2.1.2.2.2.1
  refine ab_x1 (c9_cube (d + 2) (by omega) (by omega) (by omega)) ⟨by omega, md_gd ?_⟩
  rw [(hI.2.2.2.2.2.2.2.2.1 i j k p.1 p.2.1 p.2.2 p2.1 p2.2).1]
  exact (if_pos ⟨p, p2⟩).symm
