/-! THE REFERENCE: other weights -/
/-- what asking leaves as it is -/
def fs_f (m v : ab_Ob) : Prop := (∀ f, f ≠ 0 → f ≠ 1 → f ≠ 2 → f ≠ 40 → f ≠ 41 → v.1 f = m.1 f) ∧ (∀ f, f < 25 ∨ 44 < f → v.2 f = m.2 f) ∧ ∀ f, (v.2 f).1 = (m.2 f).1
/-- asked, and answered with this trouble -/
def md_af (b m v : ab_Ob) (t : Int) : Prop := fs_f m v ∧ mi_S b v ∧ v.1 0 = 0 ∧ v.1 1 = t ∧ v.1 2 = -1
theorem fs_an (m : ab_Ob) (t : Int) : fs_f m (md_an m t) := ⟨fun f f0 f1 f2 _ _ => by unfold md_an; rw [hd_pf_ne f2, hd_pf_ne f1, hd_pf_ne f0], fun _ _ => rfl, fun _ => rfl⟩
theorem md_af_an {b m : ab_Ob} (h : mi_S b m) (t : Int) : md_af b m (md_an m t) t := ⟨fs_an m t, mi_S_an h t, rfl, rfl, rfl⟩
/-- one weight is another one -/
def fs_w (m u : ab_Ob) (rule v : Int) : Prop := (∀ f, f ≠ 0 → f ≠ 1 → f ≠ 2 → f ≠ 40 → f ≠ 41 → u.1 f = m.1 f) ∧ (∀ f, f ≠ 3 → f < 25 ∨ 44 < f → u.2 f = m.2 f) ∧ (u.2 3).2 = ab_ui (m.2 3).2 (48 + rule) v ∧ ∀ f, (u.2 f).1 = (m.2 f).1
theorem hd_ui_2 (f : Int → Int) (q v w : Int) : ab_ui (ab_ui f q v) q w = ab_ui f q w := by
  funext z
  by_cases e : z = q
  · subst e; rw [hd_ui_eq, hd_ui_eq]
  · rw [hd_ui_ne e, hd_ui_ne e, hd_ui_ne e]
theorem hd_ui_id {f : Int → Int} {q v : Int} (h : f q = v) : ab_ui f q v = f := by
  funext z
  by_cases e : z = q
  · subst e; rw [hd_ui_eq, h]
  · rw [hd_ui_ne e]
theorem ab_pa_id {b : ab_Ob} {f : Nat} {q v : Int} (h : (b.2 f).2 q = v) : ab_pa b f q v = b := by
  have := ab_pa_back b f q v
  obtain ⟨b1, b2⟩ := b
  simp only [ab_pa]
  congr 1
  funext g
  by_cases hg : g = f
  · subst hg
    simp only [ab_ua, if_true]
    refine Prod.ext rfl ?_
    exact hd_ui_id h
  · simp [ab_ua, hg]
theorem md_p_w {b m u : ab_Ob} (hp : md_p b m) {rule v : Int} (hr : 0 ≤ rule ∧ rule < 6) (hn : b.1 3 ≤ 24) (f : fs_w m u rule v) : md_p (ab_pa b 6 rule v) u := by
  obtain ⟨p1, p2, p3, p4, p5, p6⟩ := hp
  obtain ⟨f1, f2, f3, f4⟩ := f
  refine ⟨by rw [f1 8 (by decide) (by decide) (by decide) (by decide) (by decide)]; exact p1, by rw [f1 6 (by decide) (by decide) (by decide) (by decide) (by decide)]; exact p2, by rw [f1 7 (by decide) (by decide) (by decide) (by decide) (by decide)]; exact p3, ?_, fun k k0 k1 => ?_, fun r r0 r1 => ?_⟩
  · rw [f3, hd_ui_ne (by omega)]
    exact p4
  · rw [f3, hd_ui_ne (by have : k < b.1 3 := k1; omega), hd_ui_ne (by have : k < b.1 3 := k1; omega), hd_pa_ne (by decide), hd_pa_ne (by decide)]
    exact p5 k k0 k1
  · rw [f3, hd_pa_eq]
    show _ = ab_ui (b.2 6).2 rule v r
    by_cases e : r = rule
    · subst e; rw [hd_ui_eq, hd_ui_eq]
    · rw [hd_ui_ne e, hd_ui_ne (by omega)]
      exact p6 r r0 r1
theorem c9_laysBy (d : Nat) {b m u : ab_Ob} (h : mi_I b m) {rule v0 v1 : Int} (hr : 0 ≤ rule ∧ rule < 6) (hv : 0 ≤ v1 ∧ v1 ≤ 99) (f : fs_w m u rule v0) : ab_Ct (d + 8) 0 0 mX9_laysBy [ab_O 0, ab_I rule, ab_I v1] [u] (ab_V1 (fun w => fs_w m w rule v1 ∧ mi_I (ab_pa b 6 rule v1) w ∧ w.1 0 = u.1 0 ∧ ∀ g, 39 < g → w.2 g = u.2 g)) := by
  obtain ⟨i1, hb, hdd, n1, hp, hq, hT⟩ := id h
  have hn := hb.2.1
  obtain ⟨f1, f2, f3, f4⟩ := id f
  have l3 : (u.2 3).1 = 55 := by rw [f4]; exact hT.1.1
  have fw : fs_w m (ab_pa u 3 (48 + rule) v1) rule v1 := ⟨f1, fun g g3 hg => by rw [hd_pa_ne g3]; exact f2 g g3 hg, by rw [hd_pa_eq]; show ab_ui (u.2 3).2 _ _ = _; rw [f3, hd_ui_2], fun g => by rw [hd_pa_len]; exact f4 g⟩
  have lens : ∀ g, ((ab_pa u 3 (48 + rule) v1).2 g).1 = (m.2 g).1 := fw.2.2.2
  have hl : md_len (ab_pa u 3 (48 + rule) v1) := by
    unfold md_len
    simp only [lens]
    exact hT.1
  have hl2 : md_len2 (ab_pa u 3 (48 + rule) v1) := by
    unfold md_len2
    simp only [lens]
    exact hT.2.1
  refine ab_ct kX9_laysBy rfl rfl (fun x hx => vX9_laysBy_0 hx rule v1 u 0 0 ⟨by omega, by omega, ab_xv1 (c9_lays d (ab_pa b 6 rule v1) (ab_pa u 3 (48 + rule) v1) (sc_ok_w hb hv) (sc_dd_w hdd rule v1) n1 (md_p_w hp hr hn.2 fw) hl hl2) (fun w hw => ab_lv1 ?_)⟩)
  obtain ⟨lf, hd', all, ok⟩ := hw
  refine ⟨⟨fun g g0 g1 g2 g40 g41 => ?_, fun g g3 hg => ?_, ?_, fun g => ?_⟩, ⟨?_, sc_ok_w hb hv, sc_dd_w hdd rule v1, n1, md_lf_p lf (md_p_w hp hr hn.2 fw), hd', md_lf_len lf hl, md_lf_len2 lf hl2, all, ok, n1, hn.2⟩, lf.1 0 (by decide) (by decide), fun g hg => ?_⟩
  · rw [lf.1 g g40 g41]
    exact fw.1 g g0 g1 g2 g40 g41
  · rw [lf.2.1 g (by omega)]
    exact fw.2.1 g g3 hg
  · rw [lf.2.1 3 (by omega)]
    exact fw.2.2.1
  · rw [lf.2.2]
    exact lens g
  · rw [lf.1 14 (by decide) (by decide)]
    show ¬ u.1 14 = 0
    rw [f1 14 (by decide) (by decide) (by decide) (by decide) (by decide)]
    exact i1
  · rw [lf.2.1 g (by omega), hd_pa_ne (by omega)]
/-- the weight is again what it was -/
theorem fs_back {b m u : ab_Ob} (h : mi_I b m) {rule : Int} (hr : 0 ≤ rule ∧ rule < 6) (f : fs_w m u rule ((b.2 6).2 rule)) (hu : mi_I (ab_pa b 6 rule ((b.2 6).2 rule)) u) (h0 : u.1 0 = 0) : md_af b m (ab_pf (ab_pf u 1 0) 2 (-1)) 0 := by
  obtain ⟨f1, f2, f3, f4⟩ := f
  have e3 : (m.2 3).2 (48 + rule) = (b.2 6).2 rule := h.2.2.2.2.1.2.2.2.2.2 rule hr.1 hr.2
  rw [hd_ui_id e3] at f3
  rw [ab_pa_id rfl] at hu
  refine ⟨⟨fun g g0 g1 g2 g40 g41 => ?_, fun g hg => ?_, f4⟩, Or.inr hu, h0, rfl, rfl⟩
  · rw [hd_pf_ne g2, hd_pf_ne g1]
    exact f1 g g0 g1 g2 g40 g41
  · by_cases g3 : g = 3
    · subst g3
      exact Prod.ext (f4 3) f3
    · exact f2 g g3 hg
theorem fs_w0 {b m : ab_Ob} (h : mi_I b m) {rule : Int} (hr : 0 ≤ rule ∧ rule < 6) : fs_w m (ab_pf m 0 0) rule ((b.2 6).2 rule) := by
  have e3 : (m.2 3).2 (48 + rule) = (b.2 6).2 rule := h.2.2.2.2.1.2.2.2.2.2 rule hr.1 hr.2
  exact ⟨fun g g0 _ _ _ _ => hd_pf_ne g0, fun _ _ _ => rfl, by rw [hd_ui_id e3]; rfl, fun _ => rfl⟩
/-- the last of asking with other weights -/
theorem fs_end {d : Nat} {b m u : ab_Ob} (h : mi_I b m) {rule v0 R : Int} {RT : Int × Int} (hr : 0 ≤ rule ∧ rule < 6) (f : fs_w m u rule v0) (h0 : u.1 0 = 0) (e : (R, (0 : Int)) = RT) : ∃ Q : Option ab_V → List ab_Ob → Prop, ab_Ct (d + 8) 0 0 mX9_laysBy [ab_O 0, ab_I rule, ab_I ((b.2 6).2 rule)] [u] Q ∧ ∀ v : ab_Ob, Q none [v] → ∃ Q2 : Option ab_V → List ab_Ob → Prop, ab_Ct (d + 8) 0 0 mX9_good [ab_O 0, ab_I R] [v] Q2 ∧ ∀ (r : Int) (w : ab_Ob), Q2 (some (ab_I r)) [w] → (((∃ z : Int, some (ab_I r) = some (ab_I z)) ∧ ab_shw [true] [m] [w]) ∧ (some (ab_I r) = some (ab_I RT.1) ∧ ∃ v', [w] = [v'] ∧ md_af b m v' RT.2)) := by
  refine ab_xv1 (c9_laysBy d h hr (h.2.1.2.2.2.2.2.2 rule hr.1 hr.2) f) (fun v hv => ⟨_, c9_good (d + 7) v R, fun r w hw => ?_⟩)
  obtain ⟨e1, e2⟩ := hw
  cases e1
  cases e2
  subst e
  exact ⟨⟨⟨_, rfl⟩, _, _, rfl, rfl⟩, rfl, _, rfl, fs_back h hr hv.1 hv.2.1 (by rw [hv.2.2.1]; exact h0)⟩
abbrev ab_Af (b m : ab_Ob) (RT : Int × Int) : Option ab_V → List ab_Ob → Prop := fun rv w => rv = some (ab_I RT.1) ∧ ∃ v, w = [v] ∧ md_af b m v RT.2
theorem fs_rf {d : Nat} {b m : ab_Ob} (h : mi_S b m) {t : Int} {RT : Int × Int} (e : ((-1 : Int), t) = RT) : ∃ Q : Option ab_V → List ab_Ob → Prop, ab_Ct (d + 1) 0 0 mX9_refused [ab_O 0, ab_I t] [ab_pf m 0 0] Q ∧ ∀ (r : Int) (v : ab_Ob), Q (some (ab_I r)) [v] → (((∃ z : Int, some (ab_I r) = some (ab_I z)) ∧ ab_shw [true] [m] [v]) ∧ (some (ab_I r) = some (ab_I RT.1) ∧ ∃ v', [v] = [v'] ∧ md_af b m v' RT.2)) :=
  ⟨_, c9_refused d _ t, fun r v hv => by
    obtain ⟨h1, h2⟩ := hv
    cases h1
    cases h2
    subst e
    exact ⟨⟨⟨_, rfl⟩, _, _, rfl, rfl⟩, rfl, _, rfl, md_af_an h t⟩⟩
/-- the whole by a weight -/
theorem sw_B_eq (b : ab_Ob) {rule : Int} (hr : 0 ≤ rule ∧ rule < 6) (v : Int) : an_B (ab_pa b 6 rule v) 0 (b.1 3 - 1) = sw_B (sw_c0 b rule) (sc_un b rule) 0 (b.1 3 - 1) v := by
  unfold an_B
  rw [sw_cv b hr v]
  rfl
theorem sw_H_eq (b : ab_Ob) {rule : Int} (hr : 0 ≤ rule ∧ rule < 6) (v : Int) : dp_H (sc_br (ab_pa b 6 rule v)) 0 (b.1 3 - 1) = sw_H (sw_c0 b rule) (sc_un b rule) 0 (b.1 3 - 1) v := by
  rw [sw_cv b hr v]
  rfl
theorem sw_Q_eq (b : ab_Ob) {rule : Int} (hr : 0 ≤ rule ∧ rule < 6) (v : Int) : tr_A (sc_br (ab_pa b 6 rule v)) (b.1 3) = sw_Q (sw_c0 b rule) (sc_un b rule) 0 (b.1 3 - 1) v := by
  rw [sw_cv b hr v]
  rfl
def an_swayed (b : ab_Ob) (rule v : Int) (RT : Int × Int) : Prop := (¬ (1 ≤ b.1 3 ∧ 0 ≤ rule ∧ rule < 6) ∧ RT = (-1, 1)) ∨ ((1 ≤ b.1 3 ∧ 0 ≤ rule ∧ rule < 6) ∧ ((¬ (0 ≤ v ∧ v ≤ 99) ∧ RT = (-1, 2)) ∨ ((0 ≤ v ∧ v ≤ 99) ∧ RT = (sw_B (sw_c0 b rule) (sc_un b rule) 0 (b.1 3 - 1) v, 0))))
theorem c9_swayed (d : Nat) {b m : ab_Ob} (h : mi_S b m) (rule v : Int) {RT : Int × Int} (hRT : an_swayed b rule v RT) : ab_Ct (d + 9) 0 0 mX9_swayed [ab_O 0, ab_I rule, ab_I v] [m] (ab_Af b m RT) := by
  have no : ¬ (1 ≤ b.1 3 ∧ 0 ≤ rule ∧ rule < 6) → ((-1 : Int), (1 : Int)) = RT := fun g => by
    rcases hRT with ⟨_, e⟩ | ⟨g2, _⟩
    · exact e.symm
    · exact absurd g2 g
  refine ab_ct kX9_swayed rfl rfl (fun x hx => vX9_swayed_0 hx rule v m 0 0 ?_)
  rcases id h with ⟨h1, h2, h3⟩ | hI
  · exact ⟨fun _ => fs_rf h (no (by omega)), fun g => absurd h1 g⟩
  · obtain ⟨i1, hb, hdd, n1, hp, hq, hT⟩ := id hI
    have hn := hb.2.1
    have n3 := hT.1.1
    refine ⟨fun g => absurd g i1, fun _ => ab_xb (c9_isRule (d + 6) rule) (fun p => ⟨fun _ => ab_xb (c9_in (d + 7) v 0 99) (fun p2 => ⟨fun _ => ?_, fun g => absurd g (by decide)⟩) (fun p2 => ⟨fun g => absurd rfl g, fun _ => fs_rf h ?_⟩), fun g => absurd g (by decide)⟩) (fun p => ⟨fun g => absurd rfl g, fun _ => fs_rf h (no (fun q => p q.2))⟩)⟩
    · have e3 : (m.2 3).2 (48 + rule) = (b.2 6).2 rule := hp.2.2.2.2.2 rule p.1 p.2
      rw [e3]
      refine ⟨by omega, by omega, ab_xv1 (c9_laysBy d hI p p2 (fs_w0 hI p)) (fun u hu => ?_)⟩
      obtain ⟨u1, u2, u3, u4⟩ := hu
      have e8 : u.1 8 = b.1 3 := u2.2.2.2.2.1.1
      have nb : (ab_pa b 6 rule v).1 3 = b.1 3 := rfl
      rw [e8]
      have hH := dp_H_in (c := sc_br (ab_pa b 6 rule v)) (i := 0) (j := b.1 3 - 1) (by omega)
      have cu := md_cu_b (i := 0) (j := b.1 3 - 1) (h := dp_H (sc_br (ab_pa b 6 rule v)) 0 (b.1 3 - 1)) (by omega) (by omega) (by omega)
      have e27 : (u.2 27).2 (md_cu 0 (b.1 3 - 1) (dp_H (sc_br (ab_pa b 6 rule v)) 0 (b.1 3 - 1))) = an_B (ab_pa b 6 rule v) 0 (b.1 3 - 1) := (u2.2.2.2.2.2.2.2.2.1 0 (b.1 3 - 1) _ (by omega) (by omega) (by omega) hH.1 hH.2).1
      have l27 := u2.2.2.2.2.2.2.1.2.2.2.1
      refine ⟨by omega, by omega, ab_x1 (c9_headOf' (d + 6) u2 (by omega) (by omega) (by omega)) (ab_x1 (c9_cube (d + 7) (by omega) (by omega) (by omega)) ⟨by omega, ?_⟩)⟩
      rw [e27, sw_B_eq b p]
      have eRT : RT = (sw_B (sw_c0 b rule) (sc_un b rule) 0 (b.1 3 - 1) v, 0) := by
        rcases hRT with ⟨g, _⟩ | ⟨_, ⟨g, _⟩ | ⟨_, e⟩⟩
        · exact absurd ⟨n1, p⟩ g
        · exact absurd p2 g
        · exact e
      exact fs_end hI p u1 u3 eRT.symm
    · rcases hRT with ⟨g, _⟩ | ⟨_, ⟨_, e⟩ | ⟨g, _⟩⟩
      · exact absurd ⟨n1, p⟩ g
      · exact e.symm
      · exact absurd g p2
def an_sways (b : ab_Ob) (rule k : Int) (RT : Int × Int) : Prop := (¬ ((0 ≤ k ∧ k < b.1 3) ∧ 0 ≤ rule ∧ rule < 6) ∧ RT = (-1, 1)) ∨ (((0 ≤ k ∧ k < b.1 3) ∧ 0 ≤ rule ∧ rule < 6) ∧ RT.2 = 0 ∧ sw_lw b rule k RT.1)
theorem c9_sways (d : Nat) {b m : ab_Ob} (h : mi_S b m) (rule k : Int) {RT : Int × Int} (hRT : an_sways b rule k RT) : ab_Ct (d + 9) 0 0 mX9_sways [ab_O 0, ab_I rule, ab_I k] [m] (ab_Af b m RT) := by
  have no : ¬ ((0 ≤ k ∧ k < b.1 3) ∧ 0 ≤ rule ∧ rule < 6) → ((-1 : Int), (1 : Int)) = RT := fun g => by
    rcases hRT with ⟨_, e⟩ | ⟨g2, _⟩
    · exact e.symm
    · exact absurd g2 g
  refine ab_ct kX9_sways rfl rfl (fun x hx => vX9_sways_0 hx rule k m 0 0 (ab_xb (c9_isNote (d + 6) (mi_S_0 h) k) (fun p0 => ⟨fun g => absurd g (by decide), fun _ => ab_xb (c9_isRule (d + 6) rule) (fun p => ⟨fun _ => ?_, fun g => absurd g (by decide)⟩) (fun p => ⟨fun g => absurd rfl g, fun _ => fs_rf h (no (fun q => p q.2))⟩)⟩) (fun p0 => ⟨fun _ => fs_rf h (no (fun q => p0 q.1)), fun g => absurd rfl g⟩)))
  have hI := mi_S_I h (by omega)
  obtain ⟨i1, hb, hdd, n1, hp, hq, hT⟩ := id hI
  have hn := hb.2.1
  have n3 := hT.1.1
  have e3 : (m.2 3).2 (48 + rule) = (b.2 6).2 rule := hp.2.2.2.2.2 rule p.1 p.2
  rw [e3]
  rcases hRT with ⟨g, _⟩ | ⟨_, hR2, hR1⟩
  · exact absurd ⟨p0, p⟩ g
  refine ⟨by omega, by omega, ?_⟩
  have fin : ∀ (found v : Int) (u : ab_Ob) (v0 : Int), fs_w m u rule v0 → u.1 0 = 0 → sw_lw b rule k found → (99 < v ∨ ¬ found = -2) → ab_J x 43 [some (ab_O 0), some (ab_I rule), some (ab_I k), some (ab_I ((b.2 6).2 rule)), some (ab_I found), some (ab_I v)] [] [u] 0 0 := fun found v u v0 f u0 hlw hv => by
    have ef := sw_lw_u hlw hR1
    subst ef
    refine vX9_sways_43 hx _ _ _ _ _ u 0 0 ⟨fun _ => fs_end hI p f u0 (Prod.ext rfl hR2.symm), fun g => ⟨fun _ => fs_end hI p f u0 (Prod.ext rfl hR2.symm), fun g2 => ?_⟩⟩
    rcases hv with hv | hv
    · exact absurd hv g
    · exact absurd g2 hv
  have key : ∀ (q : Nat) (v : Int) (u : ab_Ob) (v0 : Int), v + q = 100 → 0 ≤ v → fs_w m u rule v0 → u.1 0 = 0 → (∀ v' : Int, 0 ≤ v' → v' < v → sw_H (sw_c0 b rule) (sc_un b rule) 0 (b.1 3 - 1) v' ≠ k) → ab_J x 43 [some (ab_O 0), some (ab_I rule), some (ab_I k), some (ab_I ((b.2 6).2 rule)), some (ab_I (-2)), some (ab_I v)] [] [u] 0 0 := by
    intro q
    induction q with
    | zero =>
      intro v u v0 hv h0 f u0 hall
      exact fin (-2) v u v0 f u0 (Or.inl ⟨rfl, fun v' a1 a2 => hall v' a1 (by omega)⟩) (Or.inl (by omega))
    | succ q ih =>
      intro v u v0 hv h0 f u0 hall
      push_cast at hv
      refine vX9_sways_43 hx _ _ _ _ _ u 0 0 ⟨fun g => absurd g (by omega), fun _ => ⟨fun g => absurd rfl g, fun _ => ab_xv1 (c9_laysBy d hI p (v1 := v) (by omega) f) (fun w hw => ?_)⟩⟩
      obtain ⟨w1, w2, w3, w4⟩ := hw
      have e8 : w.1 8 = b.1 3 := w2.2.2.2.2.1.1
      have nb : (ab_pa b 6 rule v).1 3 = b.1 3 := rfl
      rw [e8]
      refine ⟨by omega, ab_x1 (c9_headOf' (d + 6) w2 (by omega) (by omega) (by omega)) ?_⟩
      rw [sw_H_eq b p]
      refine ⟨fun g => ⟨by omega, ih (v + 1) w v (by omega) (by omega) w1 (by rw [w3]; exact u0) (fun v' a1 a2 => ?_)⟩, fun g => ⟨by omega, fin v (v + 1) w v w1 (by rw [w3]; exact u0) (Or.inr ⟨⟨h0, by omega⟩, g, hall⟩) (Or.inr (by omega))⟩⟩
      by_cases ev : v' = v
      · subst ev; exact g
      · exact hall v' a1 (by omega)
  exact key 100 0 _ _ (by omega) (by omega) (fs_w0 hI p) rfl (fun v' a1 a2 => absurd a2 (by omega))
/-- the parts as they were -/
def fs_was (u : ab_Ob) (L : List (Int × Int × Int × Int)) : Prop := ∀ (p : Nat) e, L[p]? = some e → (u.2 42).2 p = e.1 ∧ (u.2 43).2 p = e.2.1 ∧ (u.2 44).2 p = e.2.2.1
def md_wl (m : ab_Ob) : Prop := (m.2 42).1 = 48 ∧ (m.2 43).1 = 48 ∧ (m.2 44).1 = 48
theorem c9_isAsItWas (d : Nat) {b' u : ab_Ob} {L : List (Int × Int × Int × Int)} (h : mi_I b' u) (hl : md_wl u) (hw : fs_was u L) (hL : L.length = (tr_A (sc_br b') (b'.1 3)).length) : ab_Ct (d + 1) 0 0 mX9_isAsItWas [ab_O 0] [u] (ab_Bo ((tr_A (sc_br b') (b'.1 3)).map tr_3 = L.map tr_3) [u]) := by
  obtain ⟨i1, hb, hdd, n1, hp, hq, hT⟩ := id h
  have hn := hb.2.1
  have lenA := tr_A_len (sc_br b') n1
  have e40 : u.1 40 = 2 * b'.1 3 - 1 := hT.2.2.2.1.1
  obtain ⟨m31, m32, m33, _⟩ := hT.2.1
  obtain ⟨l42, l43, l44⟩ := hl
  refine ab_ct kX9_isAsItWas rfl rfl (fun x hx => vX9_isAsItWas_0 hx u 0 0 ?_)
  have no : ∀ (q t : Nat), t + q = (tr_A (sc_br b') (b'.1 3)).length → ¬ (tr_A (sc_br b') (b'.1 3)).map tr_3 = L.map tr_3 → ab_J x 4 [some (ab_O 0), some (ab_I 0), some (ab_I t)] [] [u] 0 0 := by
    intro q
    induction q with
    | zero =>
      intro t ht hno
      exact vX9_isAsItWas_4 hx _ _ u 0 0 ⟨fun _ => ⟨ab_i01, ab_l0b rfl hno⟩, fun g => absurd (by omega) g⟩
    | succ q ih =>
      intro t ht hno
      exact vX9_isAsItWas_4 hx _ _ u 0 0 ⟨fun g => absurd g (by omega), fun _ => ⟨fun _ => ⟨by omega, ih (t + 1) (by omega) hno⟩, fun g => absurd rfl g⟩⟩
  have key : ∀ (q t : Nat), t + q = (tr_A (sc_br b') (b'.1 3)).length → (∀ (p : Nat) e e', p < t → (tr_A (sc_br b') (b'.1 3))[p]? = some e → L[p]? = some e' → tr_3 e = tr_3 e') → ab_J x 4 [some (ab_O 0), some (ab_I 1), some (ab_I t)] [] [u] 0 0 := by
    intro q
    induction q with
    | zero =>
      intro t ht hall
      refine vX9_isAsItWas_4 hx _ _ u 0 0 ⟨fun _ => ⟨ab_i11, ab_l1b rfl (List.ext_getElem? (fun p => ?_))⟩, fun g => absurd (by omega) g⟩
      rw [List.getElem?_map, List.getElem?_map]
      by_cases hp' : p < (tr_A (sc_br b') (b'.1 3)).length
      · have a1 := List.getElem?_eq_getElem hp'
        have a2 := List.getElem?_eq_getElem (l := L) (i := p) (by omega)
        rw [a1, a2]
        exact congrArg some (hall p _ _ (by omega) a1 a2)
      · rw [List.getElem?_eq_none (by omega), List.getElem?_eq_none (by omega)]
    | succ q ih =>
      intro t ht hall
      have a1 := List.getElem?_eq_getElem (l := tr_A (sc_br b') (b'.1 3)) (i := t) (by omega)
      have a2 := List.getElem?_eq_getElem (l := L) (i := t) (by omega)
      generalize (tr_A (sc_br b') (b'.1 3))[t] = e at a1
      generalize L[t] = e' at a2
      obtain ⟨b1, ⟨q1, q2, q3, q4⟩, b3, b4⟩ := md_e hT a1
      obtain ⟨s1, s2, s3⟩ := hw t e' a2
      have ne : tr_3 e ≠ tr_3 e' → ab_J x 4 [some (ab_O 0), some (ab_I 0), some (ab_I ((t : Int) + 1))] [] [u] 0 0 := fun g => no q (t + 1) (by omega) (fun y => by
        have := congrArg (fun l => l[t]?) y
        rw [List.getElem?_map, List.getElem?_map, a1, a2] at this
        exact g (Option.some.inj this))
      refine vX9_isAsItWas_4 hx _ _ u 0 0 ⟨fun g => absurd g (by omega), fun _ => ⟨fun g => absurd g (by decide), fun _ => ⟨by omega, by omega, ?_⟩⟩⟩
      rw [q1, q2, q3, s1, s2, s3]
      refine ⟨fun g => ⟨by omega, ne (fun y => g (congrArg (fun z => z.1) y).symm)⟩, fun g1 => ⟨by omega, by omega, fun g => ⟨by omega, ne (fun y => g (congrArg (fun z => z.2.1) y).symm)⟩, fun g2 => ⟨by omega, by omega, fun g => ⟨by omega, ne (fun y => g (congrArg (fun z => z.2.2) y).symm)⟩, fun g3 => ⟨by omega, ih (t + 1) (by omega) (fun p y y' p1 p2 p3 => ?_)⟩⟩⟩⟩
      by_cases ep : p = t
      · subst ep
        rw [a1] at p2
        rw [a2] at p3
        cases p2
        cases p3
        unfold tr_3
        rw [g1, g2, g3]
      · exact hall p y y' (by omega) p2 p3
  exact key (tr_A (sc_br b') (b'.1 3)).length 0 (by omega) (fun p e e' g => absurd g (by omega))
def an_firm (b : ab_Ob) (rule up : Int) (RT : Int × Int) : Prop := (¬ (1 ≤ b.1 3 ∧ 0 ≤ rule ∧ rule < 6) ∧ RT = (-1, 1)) ∨ ((1 ≤ b.1 3 ∧ 0 ≤ rule ∧ rule < 6) ∧ RT.2 = 0 ∧ (¬ up = 0 → sw_up b rule RT.1) ∧ (up = 0 → sw_dn b rule RT.1))
theorem sw_T_iff {b : ab_Ob} (hb : sc_ok b) (n1 : 1 ≤ b.1 3) {rule : Int} (hr : 0 ≤ rule ∧ rule < 6) (v : Int) : sw_T b rule v ↔ (tr_A (sc_br (ab_pa b 6 rule v)) (b.1 3)).map tr_3 = (tr_A (sc_br b) (b.1 3)).map tr_3 := by
  have hn := hb.2.1
  have e : tr_A (sc_br b) (b.1 3) = sw_Q (sw_c0 b rule) (sc_un b rule) 0 (b.1 3 - 1) ((b.2 6).2 rule) := by
    have := sw_Q_eq b hr ((b.2 6).2 rule)
    rw [ab_pa_id rfl] at this
    exact this
  rw [e, sw_Q_eq b hr v]
  constructor
  · intro g
    rw [(sw_one_eq _ _ (by omega) (by omega) g).2.1]
  · intro g
    exact sw_eq_one _ _ (by omega) (by omega) g.symm
theorem c9_firm (d : Nat) {b m : ab_Ob} (h : mi_S b m) (hwl : md_wl m) (rule up : Int) {RT : Int × Int} (hRT : an_firm b rule up RT) : ab_Ct (d + 9) 0 0 mX9_firm [ab_O 0, ab_I rule, ab_I up] [m] (ab_Af b m RT) := by
  have no : ¬ (1 ≤ b.1 3 ∧ 0 ≤ rule ∧ rule < 6) → ((-1 : Int), (1 : Int)) = RT := fun g => by
    rcases hRT with ⟨_, e⟩ | ⟨g2, _⟩
    · exact e.symm
    · exact absurd g2 g
  refine ab_ct kX9_firm rfl rfl (fun x hx => vX9_firm_0 hx rule up m 0 0 ?_)
  rcases id h with ⟨h1, h2, h3⟩ | hI
  · exact ⟨fun _ => fs_rf h (no (by omega)), fun g => absurd h1 g⟩
  · obtain ⟨i1, hb, hdd, n1, hp, hq, hT⟩ := id hI
    have hn := hb.2.1
    have n3 := hT.1.1
    refine ⟨fun g => absurd g i1, fun _ => ab_xb (c9_isRule (d + 6) rule) (fun p => ⟨fun _ => ?_, fun g => absurd g (by decide)⟩) (fun p => ⟨fun g => absurd rfl g, fun _ => fs_rf h (no (fun q => p q.2))⟩)⟩
    have e3 : (m.2 3).2 (48 + rule) = (b.2 6).2 rule := hp.2.2.2.2.2 rule p.1 p.2
    have hnow := hb.2.2.2.2.2.2 rule p.1 p.2
    rw [e3]
    rcases hRT with ⟨g, _⟩ | ⟨_, hR2, hRu, hRd⟩
    · exact absurd ⟨n1, p⟩ g
    refine ⟨by omega, by omega, ?_⟩
    have lenA := tr_A_len (sc_br b) n1
    have e40 : m.1 40 = 2 * b.1 3 - 1 := hT.2.2.2.1.1
    obtain ⟨m31, m32, m33, _⟩ := hT.2.1
    obtain ⟨l42, l43, l44⟩ := id hwl
    -- going on by one
    have k112 : ∀ (by' : Int), (by' = 1 ∧ ¬ up = 0) ∨ (by' = -1 ∧ up = 0) → ∀ (q : Nat) (last : Int) (u : ab_Ob) (v0 : Int), (0 ≤ last ∧ last ≤ 99) → (by' = 1 → (b.2 6).2 rule ≤ last ∧ 100 - last ≤ q) → (by' = -1 → last ≤ (b.2 6).2 rule ∧ last + 1 ≤ q) → fs_w m u rule v0 → u.1 0 = 0 → md_wl u → fs_was u (tr_A (sc_br b) (b.1 3)) → sw_T b rule last → ab_J x 112 [some (ab_O 0), some (ab_I rule), none, some (ab_I ((b.2 6).2 rule)), some (ab_I by'), some (ab_I last), some (ab_I 1)] [] [u] 0 0 := by
      intro by' hby q
      induction q with
      | zero =>
        intro last u v0 hl hu1 hd1 _ _ _ _ _
        rcases hby with ⟨e, _⟩ | ⟨e, _⟩
        · have := hu1 e; omega
        · have := hd1 e; omega
      | succ q ih =>
        intro last u v0 hl hu1 hd1 f u0 wl was hTl
        push_cast at hu1 hd1
        have stop : ∀ (w : ab_Ob) (v0 : Int), fs_w m w rule v0 → w.1 0 = 0 → (¬ (0 ≤ last + by' ∧ last + by' ≤ 99) ∨ ¬ sw_T b rule (last + by')) → RT.1 = last := fun w v0 _ _ hs => by
          rcases hby with ⟨e, g⟩ | ⟨e, g⟩
          · refine sw_up_u (hRu g) ⟨⟨(hu1 e).1, by omega⟩, hTl, fun v a1 a2 y => ?_⟩
            subst e
            rcases hs with hs | hs
            · omega
            · exact hs (sw_T_mid hb n1 y (Or.inl ⟨by have := (hu1 rfl).1; omega, by omega⟩))
          · refine sw_dn_u (hRd g) ⟨⟨by omega, (hd1 e).1⟩, hTl, fun v a1 a2 y => ?_⟩
            subst e
            rcases hs with hs | hs
            · omega
            · exact hs (sw_T_mid hb n1 y (Or.inr ⟨by omega, by have := (hd1 rfl).1; omega⟩))
        refine vX9_firm_112 hx _ _ _ _ _ u 0 0 ⟨fun g => absurd g (by decide), fun _ => ⟨by omega, ab_xb (c9_in (d + 7) (last + by') 0 99) (fun p2 => ⟨fun g => absurd g (by decide), fun _ => ⟨by omega, ab_xv1 (c9_laysBy d hI p (v1 := last + by') p2 f) (fun w hw => ?_)⟩⟩) (fun p2 => ⟨fun _ => ?_, fun g => absurd rfl g⟩)⟩⟩
        · obtain ⟨w1, w2, w3, w4⟩ := hw
          have wl' : md_wl w := ⟨by rw [w1.2.2.2]; exact l42, by rw [w1.2.2.2]; exact l43, by rw [w1.2.2.2]; exact l44⟩
          have was' : fs_was w (tr_A (sc_br b) (b.1 3)) := fun z e hz => by
            rw [w4 42 (by omega), w4 43 (by omega), w4 44 (by omega)]
            exact was z e hz
          have lenA' := tr_A_len (sc_br (ab_pa b 6 rule (last + by'))) n1
          have ci := c9_isAsItWas (d + 7) w2 wl' was' (by show _ = (tr_A (sc_br (ab_pa b 6 rule (last + by'))) (b.1 3)).length; omega)
          refine ab_xb ci (fun y => ⟨fun g => absurd g (by decide), fun _ => ⟨by omega, ?_⟩⟩) (fun y => ⟨fun _ => ⟨by omega, ?_⟩, fun g => absurd rfl g⟩)
          · refine ih (last + by') w (last + by') p2 (fun e => ?_) (fun e => ?_) w1 (by rw [w3]; exact u0) wl' was' ((sw_T_iff hb n1 p _).mpr y)
            · have := hu1 e; omega
            · have := hd1 e; omega
          · have es := stop w _ w1 (by rw [w3]; exact u0) (Or.inr (fun z => y ((sw_T_iff hb n1 p _).mp z)))
            rw [Int.add_zero]
            refine vX9_firm_112 hx _ _ _ _ _ w 0 0 ⟨fun _ => ?_, fun g => absurd rfl g⟩
            exact fs_end hI p w1 (by rw [w3]; exact u0) (Prod.ext es.symm hR2.symm)
        · have es := stop u _ f u0 (Or.inl p2)
          exact fs_end hI p f u0 (Prod.ext es.symm hR2.symm)
    have k38 : ∀ (q t : Nat) (u : ab_Ob), t + q = (tr_A (sc_br b) (b.1 3)).length → u.1 = (ab_pf m 0 0).1 → (∀ g, g < 42 ∨ 44 < g → u.2 g = m.2 g) → (∀ g, (u.2 g).1 = (m.2 g).1) → (∀ (z : Nat) e, z < t → (tr_A (sc_br b) (b.1 3))[z]? = some e → (u.2 42).2 z = e.1 ∧ (u.2 43).2 z = e.2.1 ∧ (u.2 44).2 z = e.2.2.1) → ab_J x 38 [some (ab_O 0), some (ab_I rule), some (ab_I up), some (ab_I ((b.2 6).2 rule)), some (ab_I t), none, none] [] [u] 0 0 := by
      intro q
      induction q with
      | zero =>
        intro t u ht u1 u2 u3 hall
        have fw : fs_w m u rule ((b.2 6).2 rule) := ⟨fun g g0 _ _ _ _ => by rw [u1]; exact hd_pf_ne g0, fun g _ hg => u2 g (by omega), by rw [u2 3 (by omega), hd_ui_id e3], u3⟩
        have wl : md_wl u := ⟨by rw [u3]; exact l42, by rw [u3]; exact l43, by rw [u3]; exact l44⟩
        have was : fs_was u (tr_A (sc_br b) (b.1 3)) := fun z e hz => by
          obtain ⟨wl, _⟩ := List.getElem?_eq_some_iff.mp hz
          exact hall z e (by omega) hz
        have z0 : u.1 0 = 0 := by rw [u1]; rfl
        have e40' : u.1 40 = m.1 40 := by rw [u1]; rfl
        refine vX9_firm_38 hx _ _ _ _ u 0 0 ⟨fun _ => ⟨fun g => k112 (-1) (Or.inr ⟨rfl, g⟩) 101 _ u _ hnow (fun e => absurd e (by decide)) (fun _ => ⟨Int.le_refl _, by omega⟩) fw z0 wl was (sw_T_self b rule), fun g => k112 1 (Or.inl ⟨rfl, g⟩) 101 _ u _ hnow (fun _ => ⟨Int.le_refl _, by omega⟩) (fun e => absurd e (by decide)) fw z0 wl was (sw_T_self b rule)⟩, fun g => absurd (by omega) g⟩
      | succ q ih =>
        intro t u ht u1 u2 u3 hall
        have he := List.getElem?_eq_getElem (l := tr_A (sc_br b) (b.1 3)) (i := t) (by omega)
        generalize (tr_A (sc_br b) (b.1 3))[t] = e at he
        obtain ⟨b1, ⟨q1, q2, q3, q4⟩, b3, b4⟩ := md_e hT he
        have e40' : u.1 40 = m.1 40 := by rw [u1]; rfl
        have r1 : (u.2 31).2 t = e.1 := by rw [u2 31 (by omega)]; exact q1
        have r2 : (u.2 32).2 t = e.2.1 := by rw [u2 32 (by omega)]; exact q2
        have r3 : (u.2 33).2 t = e.2.2.1 := by rw [u2 33 (by omega)]; exact q3
        refine vX9_firm_38 hx _ _ _ _ u 0 0 ⟨fun g => absurd g (by omega), fun _ => ⟨by rw [u3, m31]; omega, by rw [u3, l42]; omega, by rw [u3, m32]; omega, by rw [u3, l43]; omega, by rw [u3, m33]; omega, by rw [u3, l44]; omega, by omega, ?_⟩⟩
        rw [r1, r2, r3]
        refine ih (t + 1) _ (by omega) u1 (fun g hg => ?_) (fun g => ?_) (fun z y hz hy => ?_)
        · rw [hd_pa_ne (by omega), hd_pa_ne (by omega), hd_pa_ne (by omega)]
          exact u2 g hg
        · rw [hd_pa_len, hd_pa_len, hd_pa_len]
          exact u3 g
        · by_cases ez : z = t
          · subst ez
            rw [he] at hy
            cases hy
            simp [ab_pa, ab_ua, ab_ui]
          · have ne : (z : Int) ≠ (t : Int) := by omega
            have := hall z y (by omega) hy
            simp [ab_pa, ab_ua, ab_ui, ne]
            exact this
    exact k38 (tr_A (sc_br b) (b.1 3)).length 0 (ab_pf m 0 0) (by omega) rfl (fun _ _ => rfl) (fun _ => rfl) (fun z e hz => absurd hz (by omega))
