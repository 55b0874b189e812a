/-! THE TEXT OF A PIECE: what it tells -/
def ps_eq (T : Int → Int) : Int → List Int → Bool
  | _, [] => true
  | a, z :: l => decide (T a = z) && ps_eq T (a + 1) l
theorem ps_eq_iff {T : Int → Int} : ∀ {s : List Int} {a : Int}, ps_eq T a s = true ↔ ∀ (t : Nat) z, s[t]? = some z → T (a + t) = z
  | [], a => by simp [ps_eq]
  | y :: l, a => by
    simp only [ps_eq, Bool.and_eq_true, decide_eq_true_eq]
    rw [ps_eq_iff (s := l) (a := a + 1)]
    constructor
    · rintro ⟨h1, h2⟩ t z hz
      cases t with
      | zero =>
        simp only [List.getElem?_cons_zero, Option.some.injEq] at hz
        rw [← hz, ← h1]
        simp
      | succ t =>
        rw [List.getElem?_cons_succ] at hz
        have := h2 t z hz
        rw [show a + ((t + 1 : Nat) : Int) = a + 1 + t by push_cast; omega]
        exact this
    · intro h
      refine ⟨?_, fun t z hz => ?_⟩
      · have := h 0 y rfl
        simpa using this
      · have := h (t + 1) z (by rw [List.getElem?_cons_succ]; exact hz)
        rw [show a + ((t + 1 : Nat) : Int) = a + 1 + t by push_cast; omega] at this
        exact this
def ps_w (T : Int → Int) (n a : Int) (s : List Int) : Bool := decide (lx_k T n a = 2) && (decide (lx_e T n a - a = s.length) && ps_eq T a s)
theorem ps_w_iff {T : Int → Int} {n a : Int} {s : List Int} : ps_w T n a s = true ↔ lx_k T n a = 2 ∧ lx_e T n a - a = s.length ∧ ps_eq T a s = true := by
  unfold ps_w
  simp
def pf_chk (T : Int → Int) (n a lo hi : Int) : Int := if lx_k T n a = 3 then (if lx_n T n a < lo then 2 else if lx_n T n a ≤ hi then 0 else 2) else 1
def pf_named (T : Int → Int) (n : Int) (s : List Int) (lo hi a : Int) : Int × Int := if ps_w T n a s = true then (pf_chk T n (lx_x T n a) lo hi, lx_x T n a) else (1, a)
def pf_piece (T : Int → Int) (n a : Int) (dr : ab_Ob) : Int × Int × ab_Ob :=
  if (pf_named T n (ab_str 3) 1 64 (lx_x T n a)).1 = 0 then
    (if (pf_named T n (ab_str 4) 1 (lx_n T n (pf_named T n (ab_str 3) 1 64 (lx_x T n a)).2) (lx_x T n (pf_named T n (ab_str 3) 1 64 (lx_x T n a)).2)).1 = 0 then
      (if (pf_named T n (ab_str 5) 0 11 (lx_x T n (pf_named T n (ab_str 4) 1 (lx_n T n (pf_named T n (ab_str 3) 1 64 (lx_x T n a)).2) (lx_x T n (pf_named T n (ab_str 3) 1 64 (lx_x T n a)).2)).2)).1 = 0 then
        (0, lx_x T n (pf_named T n (ab_str 5) 0 11 (lx_x T n (pf_named T n (ab_str 4) 1 (lx_n T n (pf_named T n (ab_str 3) 1 64 (lx_x T n a)).2) (lx_x T n (pf_named T n (ab_str 3) 1 64 (lx_x T n a)).2)).2)).2, ab_pf (ab_pf (ab_pf dr 0 (lx_n T n (pf_named T n (ab_str 3) 1 64 (lx_x T n a)).2)) 1 (lx_n T n (pf_named T n (ab_str 4) 1 (lx_n T n (pf_named T n (ab_str 3) 1 64 (lx_x T n a)).2) (lx_x T n (pf_named T n (ab_str 3) 1 64 (lx_x T n a)).2)).2)) 2 (lx_n T n (pf_named T n (ab_str 5) 0 11 (lx_x T n (pf_named T n (ab_str 4) 1 (lx_n T n (pf_named T n (ab_str 3) 1 64 (lx_x T n a)).2) (lx_x T n (pf_named T n (ab_str 3) 1 64 (lx_x T n a)).2)).2)).2))
      else ((pf_named T n (ab_str 5) 0 11 (lx_x T n (pf_named T n (ab_str 4) 1 (lx_n T n (pf_named T n (ab_str 3) 1 64 (lx_x T n a)).2) (lx_x T n (pf_named T n (ab_str 3) 1 64 (lx_x T n a)).2)).2)).1, (pf_named T n (ab_str 5) 0 11 (lx_x T n (pf_named T n (ab_str 4) 1 (lx_n T n (pf_named T n (ab_str 3) 1 64 (lx_x T n a)).2) (lx_x T n (pf_named T n (ab_str 3) 1 64 (lx_x T n a)).2)).2)).2, ab_pf (ab_pf dr 0 (lx_n T n (pf_named T n (ab_str 3) 1 64 (lx_x T n a)).2)) 1 (lx_n T n (pf_named T n (ab_str 4) 1 (lx_n T n (pf_named T n (ab_str 3) 1 64 (lx_x T n a)).2) (lx_x T n (pf_named T n (ab_str 3) 1 64 (lx_x T n a)).2)).2)))
    else ((pf_named T n (ab_str 4) 1 (lx_n T n (pf_named T n (ab_str 3) 1 64 (lx_x T n a)).2) (lx_x T n (pf_named T n (ab_str 3) 1 64 (lx_x T n a)).2)).1, (pf_named T n (ab_str 4) 1 (lx_n T n (pf_named T n (ab_str 3) 1 64 (lx_x T n a)).2) (lx_x T n (pf_named T n (ab_str 3) 1 64 (lx_x T n a)).2)).2, ab_pf dr 0 (lx_n T n (pf_named T n (ab_str 3) 1 64 (lx_x T n a)).2)))
  else ((pf_named T n (ab_str 3) 1 64 (lx_x T n a)).1, (pf_named T n (ab_str 3) 1 64 (lx_x T n a)).2, dr)
def pf_add (dr : ab_Ob) (p l : Int) : ab_Ob := ab_pf (ab_pa (ab_pa dr 4 (dr.1 3) p) 5 (dr.1 3) l) 3 (dr.1 3 + 1)
def pf_note (T : Int → Int) (n a : Int) (dr : ab_Ob) : Int × Int × ab_Ob :=
  if pf_chk T n (lx_x T n a) 0 99 = 0 then
    (if (pf_named T n (ab_str 6) 1 64 (lx_x T n (lx_x T n a))).1 = 0 then (0, lx_x T n (pf_named T n (ab_str 6) 1 64 (lx_x T n (lx_x T n a))).2, pf_add dr (lx_n T n (lx_x T n a)) (lx_n T n (pf_named T n (ab_str 6) 1 64 (lx_x T n (lx_x T n a))).2))
    else ((pf_named T n (ab_str 6) 1 64 (lx_x T n (lx_x T n a))).1, (pf_named T n (ab_str 6) 1 64 (lx_x T n (lx_x T n a))).2, dr))
  else (pf_chk T n (lx_x T n a) 0 99, lx_x T n a, dr)
def pf_rsd (T : Int → Int) (n a : Int) : Int := if ps_w T n a (ab_str 7) = true then 0 else if ps_w T n a (ab_str 6) = true then 1 else if ps_w T n a (ab_str 8) = true then 2 else if ps_w T n a (ab_str 9) = true then 3 else if ps_w T n a (ab_str 10) = true then 4 else if ps_w T n a (ab_str 11) = true then 5 else -1
def pf_rule (T : Int → Int) (n a : Int) (dr : ab_Ob) (fl : Int → Int) : Int × Int × ab_Ob × (Int → Int) :=
  if pf_rsd T n (lx_x T n a) = -1 then (1, lx_x T n a, dr, fl)
  else if fl (pf_rsd T n (lx_x T n a)) = 0 then
    (if pf_chk T n (lx_x T n (lx_x T n a)) 0 99 = 0 then (0, lx_x T n (lx_x T n (lx_x T n a)), ab_pa dr 6 (pf_rsd T n (lx_x T n a)) (lx_n T n (lx_x T n (lx_x T n a))), ab_ui fl (pf_rsd T n (lx_x T n a)) 1)
    else (pf_chk T n (lx_x T n (lx_x T n a)) 0 99, lx_x T n (lx_x T n a), dr, ab_ui fl (pf_rsd T n (lx_x T n a)) 1))
  else (3, lx_x T n a, dr, fl)
/-- a line: fault, token at hand, draft, told, rules told -/
def pf_line (T : Int → Int) (n a : Int) (dr : ab_Ob) (tl : Int) (fl : Int → Int) : Int × Int × ab_Ob × Int × (Int → Int) :=
  if ps_w T n a (ab_str 0) = true then (if tl = 0 then ((pf_piece T n a dr).1, (pf_piece T n a dr).2.1, (pf_piece T n a dr).2.2, 1, fl) else (3, a, dr, tl, fl))
  else if ps_w T n a (ab_str 1) = true then (if tl = 0 then (5, a, dr, tl, fl) else if dr.1 3 < 24 then ((pf_note T n a dr).1, (pf_note T n a dr).2.1, (pf_note T n a dr).2.2, tl, fl) else (4, a, dr, tl, fl))
  else if ps_w T n a (ab_str 2) = true then (if tl = 0 then (5, a, dr, tl, fl) else ((pf_rule T n a dr fl).1, (pf_rule T n a dr fl).2.1, (pf_rule T n a dr fl).2.2.1, tl, (pf_rule T n a dr fl).2.2.2))
  else (1, a, dr, tl, fl)
def pf_lines (T : Int → Int) (n : Int) : Nat → Int → ab_Ob → Int → (Int → Int) → Int × Int × ab_Ob
  | 0, a, dr, _, _ => (1, a, dr)
  | k + 1, a, dr, tl, fl =>
    if (pf_line T n a dr tl fl).1 = 0 then
      (if lx_k T n (pf_line T n a dr tl fl).2.1 = 1 then (if (pf_line T n a dr tl fl).2.2.1.1 3 ≤ 0 then 5 else 0, (pf_line T n a dr tl fl).2.1, (pf_line T n a dr tl fl).2.2.1)
      else if lx_k T n (pf_line T n a dr tl fl).2.1 = 4 then pf_lines T n k (lx_x T n (pf_line T n a dr tl fl).2.1) (pf_line T n a dr tl fl).2.2.1 (pf_line T n a dr tl fl).2.2.2.1 (pf_line T n a dr tl fl).2.2.2.2
      else (1, (pf_line T n a dr tl fl).2.1, (pf_line T n a dr tl fl).2.2.1))
    else ((pf_line T n a dr tl fl).1, (pf_line T n a dr tl fl).2.1, (pf_line T n a dr tl fl).2.2.1)
/-! the class reads it -/
/-- the reader stands at a token -/
def rd_st (w : ab_Ob) (T : Int → Int) (n a : Int) : Prop := rd_l w ∧ (w.2 1).2 = T ∧ w.1 2 = n ∧ (∀ q : Int, -128 ≤ T q ∧ T q ≤ 127) ∧ (0 ≤ a ∧ a ≤ n) ∧ rd_at w T n a
theorem c_adv (d : Nat) {w : ab_Ob} {T : Int → Int} {n a : Int} (b : ab_Ob) (h : rd_st w T n a) : ab_Ct (d + 3) 0 0 mX4_advance [ab_O 0] [w, b] (ab_V2 b (fun v => rd_f w v ∧ rd_st v T n (lx_x T n a))) := by
  obtain ⟨hl, e1, e2, hT, ha, hat⟩ := h
  have eb := lx_e_b (T := T) ha.2
  have xb := lx_x_b (T := T) ha.2
  have c := c_advance d w b hl (by rw [e1]; exact hT) (by rw [hat.2.1, e2]; omega)
  rw [e1, e2, hat.2.1] at c
  refine ⟨c.1, fun l E ad sz hok => ?_⟩
  have c2 := c.2 l E ad sz hok
  have e : (fun (r : Option ab_V) (ws : List ab_Ob) => (ab_shr (ab_rt mX4_advance) (ab_rp mX4_advance) r ∧ ab_shw (ab_wr mX4_advance) [w, b] ws) ∧ ab_V2 b (fun v => rd_f w v ∧ rd_at v T n (lx_sk T lx_sp n (lx_e T n a))) r ws) = (fun r ws => (ab_shr (ab_rt mX4_advance) (ab_rp mX4_advance) r ∧ ab_shw (ab_wr mX4_advance) [w, b] ws) ∧ ab_V2 b (fun v => rd_f w v ∧ rd_st v T n (lx_x T n a)) r ws) := by
    funext r ws
    refine propext ⟨fun q => ⟨q.1, q.2.1, ?_⟩, fun q => ⟨q.1, q.2.1, ?_⟩⟩
    · obtain ⟨v, ev, f, hv⟩ := q.2.2
      exact ⟨v, ev, f, rd_f_l f hl, by rw [f.2]; exact e1, by rw [f.1 2 (by decide) (by decide) (by decide) (by decide)]; exact e2, hT, by omega, hv⟩
    · obtain ⟨v, ev, f, hv⟩ := q.2.2
      exact ⟨v, ev, f, hv.2.2.2.2.2⟩
  rw [e] at c2
  exact c2
theorem c_says (d : Nat) {w : ab_Ob} {T : Int → Int} {n a : Int} (b : ab_Ob) (h : rd_st w T n a) {s : Nat} (hs : s < 12) : ab_Ct (d + 5) 0 0 mX4_says [ab_O 0, ab_S s] [w, b] (ab_Bo (ps_w T n a (ab_str s) = true) [w, b]) := by
  obtain ⟨⟨l1, l5, n0, n7⟩, e1, e2, hT, ha, h7, h8, h6, h9⟩ := h
  have eb := lx_e_b (T := T) ha.2
  refine ab_ct kX4_says rfl rfl (fun x hx => vX4_says_0 hx s w b 0 0 ⟨fun g => ⟨ab_i01, ab_l0b rfl (fun y => g (by rw [h6]; exact (ps_w_iff.mp y).1))⟩, fun g => ⟨by omega, hs, ab_x1 (c_length d hs) ⟨fun g2 => ?_, fun g2 => ⟨ab_i01, ab_l0b rfl (fun y => g2 (by rw [h8, h7]; exact (ps_w_iff.mp y).2.1))⟩⟩⟩⟩)
  have key : ∀ (q t : Nat), t + q = (ab_str s).length → (∀ (t' : Nat) z, t' < t → (ab_str s)[t']? = some z → T (a + t') = z) → ab_J x 28 [some (ab_O 0), some (ab_S s), some (ab_I t)] [] [w, b] 0 0 := by
    intro q
    induction q with
    | zero =>
      intro t ht hall
      refine vX4_says_28 hx _ _ w b 0 0 ⟨hs, ab_x1 (c_length d hs) ⟨fun _ => ⟨ab_i11, ab_l1b rfl (ps_w_iff.mpr ⟨by rw [← h6]; exact g, by rw [← h8, ← h7]; exact g2, ps_eq_iff.mpr (fun t' z hz => ?_)⟩)⟩, fun g => absurd (by omega) g⟩⟩
      obtain ⟨wl, _⟩ := List.getElem?_eq_some_iff.mp hz
      exact hall t' z (by omega) hz
    | succ q ih =>
      intro t ht hall
      have hz := List.getElem?_eq_getElem (l := ab_str s) (i := t) (by omega)
      refine vX4_says_28 hx _ _ w b 0 0 ⟨hs, ab_x1 (c_length d hs) ⟨fun g => absurd g (by omega), fun _ => ?_⟩⟩
      rw [h7, e1]
      refine ⟨by omega, by omega, hs, ab_x1 (c_charAt d hs hz) ⟨fun g3 => ⟨by omega, ih (t + 1) (by omega) (fun t' z y1 y2 => ?_)⟩, fun g3 => ⟨ab_i01, ab_l0b rfl (fun y => g3 (ps_eq_iff.mp (ps_w_iff.mp y).2.2 t _ hz))⟩⟩⟩
      by_cases et : t' = t
      · subst et
        rw [hz] at y2
        cases y2
        exact g3
      · exact hall t' z (by omega) y2
  exact key (ab_str s).length 0 (by omega) (fun t' z y => absurd y (by omega))
theorem c_checkWhole (d : Nat) {w : ab_Ob} {T : Int → Int} {n a : Int} (b : ab_Ob) (h : rd_st w T n a) (lo hi : Int) : ab_Ct (d + 1) 0 0 mX4_checkWhole [ab_O 0, ab_I lo, ab_I hi] [w, b] (ab_Is (pf_chk T n a lo hi) [w, b]) := by
  obtain ⟨hl, e1, e2, hT, ha, h7, h8, h6, h9⟩ := h
  refine ab_ct kX4_checkWhole rfl rfl (fun x hx => vX4_checkWhole_0 hx lo hi w b 0 0 ?_)
  rw [h6]
  unfold pf_chk
  refine ⟨fun g => ?_, fun g => ab_lf rfl (by rw [if_neg g])⟩
  rw [h9 g, if_pos g]
  exact ⟨fun g2 => ab_lf rfl (by rw [if_pos g2]), fun g2 => ⟨fun g3 => ab_lf rfl (by rw [if_neg g2, if_pos g3]), fun g3 => ab_lf rfl (by rw [if_neg g2, if_neg g3])⟩⟩
abbrev ab_Rd (w b : ab_Ob) (T : Int → Int) (n : Int) (RA : Int × Int) : Option ab_V → List ab_Ob → Prop := fun rv ws => rv = some (ab_I RA.1) ∧ ∃ v, ws = [v, b] ∧ rd_f w v ∧ rd_st v T n RA.2
theorem c_readNamed (d : Nat) {w : ab_Ob} {T : Int → Int} {n a : Int} (b : ab_Ob) (h : rd_st w T n a) {s : Nat} (hs : s < 12) (lo hi : Int) : ab_Ct (d + 6) 0 0 mX4_readNamed [ab_O 0, ab_S s, ab_I lo, ab_I hi] [w, b] (ab_Rd w b T n (pf_named T n (ab_str s) lo hi a)) := by
  refine ab_ct kX4_readNamed rfl rfl (fun x hx => vX4_readNamed_0 hx lo hi s w b 0 0 (ab_xb (c_says d b h hs) (fun p => ⟨fun _ => ab_xv2 (c_adv (d + 2) b h) (fun v hv => ab_x1 (c_checkWhole (d + 4) b hv.2 lo hi) ?_), fun g => absurd g (by decide)⟩) (fun p => ⟨fun g => absurd rfl g, fun _ => ?_⟩)))
  · unfold pf_named
    rw [if_pos p]
    exact ⟨⟨⟨_, rfl⟩, _, _, rfl, _, rfl, rfl⟩, rfl, v, rfl, hv.1, hv.2⟩
  · unfold pf_named
    rw [if_neg p]
    exact ⟨⟨⟨_, rfl⟩, _, _, rfl, _, rfl, rfl⟩, rfl, w, rfl, ⟨fun _ _ _ _ _ => rfl, rfl⟩, h⟩
theorem ab_xrd {d mc ms : Nat} {M : ab_M} {as : List ab_V} {w b : ab_Ob} {T : Int → Int} {n : Int} {RA : Int × Int} {K : Int → ab_Ob → Prop} (h : ab_Ct d mc ms M as [w, b] (ab_Rd w b T n RA)) (k : ∀ v, rd_f w v → rd_st v T n RA.2 → K RA.1 v) : ∃ Q : Option ab_V → List ab_Ob → Prop, ab_Ct d mc ms M as [w, b] Q ∧ ∀ (r : Int) (v : ab_Ob), Q (some (ab_I r)) [v, b] → K r v :=
  ⟨_, h, fun r v hv => by
    obtain ⟨e, u, eu, f, s⟩ := hv
    cases e
    cases eu
    exact k _ f s⟩
theorem rd_num {w : ab_Ob} {T : Int → Int} {n a : Int} (h : rd_st w T n a) {lo hi : Int} (hc : pf_chk T n a lo hi = 0) : w.1 9 = lx_n T n a ∧ lo ≤ lx_n T n a ∧ lx_n T n a ≤ hi := by
  unfold pf_chk at hc
  by_cases g : lx_k T n a = 3
  · rw [if_pos g] at hc
    by_cases g1 : lx_n T n a < lo
    · rw [if_pos g1] at hc; omega
    · rw [if_neg g1] at hc
      by_cases g2 : lx_n T n a ≤ hi
      · exact ⟨h.2.2.2.2.2.2.2.2 g, by omega, g2⟩
      · rw [if_neg g2] at hc; omega
  · rw [if_neg g] at hc; omega
theorem pf_named_chk {T : Int → Int} {n a : Int} {s : List Int} {lo hi : Int} (h : (pf_named T n s lo hi a).1 = 0) : pf_chk T n (pf_named T n s lo hi a).2 lo hi = 0 := by
  unfold pf_named at h ⊢
  by_cases g : ps_w T n a s = true
  · rw [if_pos g] at h ⊢
    exact h
  · rw [if_neg g] at h
    have : (1 : Int) = 0 := h
    omega
/-- what a part of a line leaves: fault, token, draft -/
abbrev ab_Rp (w : ab_Ob) (T : Int → Int) (n tl : Int) (fl : Int → Int) (R : Int × Int × ab_Ob) : Option ab_V → List ab_Ob → Prop := fun rv ws => rv = some (ab_I R.1) ∧ ∃ v, ws = [v, R.2.2] ∧ rd_st v T n R.2.1 ∧ (∀ f, f ≠ 4 → f ≠ 6 → f ≠ 7 → f ≠ 8 → f ≠ 9 → v.1 f = w.1 f) ∧ v.1 4 = tl ∧ v.2 1 = w.2 1 ∧ (v.2 5).2 = fl
theorem c_readPiece (d : Nat) {w : ab_Ob} {T : Int → Int} {n a : Int} (b : ab_Ob) (h : rd_st w T n a) : ab_Ct (d + 7) 0 0 mX4_readPiece [ab_O 0] [w, b] (ab_Rp w T n 1 (w.2 5).2 (pf_piece T n a b)) := by
  have h0 : rd_st (ab_pf w 4 1) T n a := h
  have lf : ∀ (v b' : ab_Ob) (r a' : Int), (∀ f, f ≠ 4 → f ≠ 6 → f ≠ 7 → f ≠ 8 → f ≠ 9 → v.1 f = w.1 f) → v.1 4 = 1 → v.2 = w.2 → rd_st v T n a' → pf_piece T n a b = (r, a', b') → (((∃ z : Int, some (ab_I r) = some (ab_I z)) ∧ ab_shw [true, true] [w, b] [v, b']) ∧ ab_Rp w T n 1 (w.2 5).2 (pf_piece T n a b) (some (ab_I r)) [v, b']) := fun v b' r a' v1 v4 v2 st e => by
    rw [e]
    exact ⟨⟨⟨_, rfl⟩, _, _, rfl, _, _, rfl, rfl⟩, rfl, v, rfl, st, v1, v4, by rw [v2], by rw [v2]⟩
  have fr : ∀ {v : ab_Ob}, rd_f (ab_pf w 4 1) v → (∀ f, f ≠ 4 → f ≠ 6 → f ≠ 7 → f ≠ 8 → f ≠ 9 → v.1 f = w.1 f) ∧ v.1 4 = 1 ∧ v.2 = w.2 := fun {v} hv => ⟨fun f f4 f6 f7 f8 f9 => by rw [hv.1 f f6 f7 f8 f9]; exact hd_pf_ne f4, by rw [hv.1 4 (by decide) (by decide) (by decide) (by decide)]; rfl, hv.2⟩
  refine ab_ct kX4_readPiece rfl rfl (fun x hx => vX4_readPiece_0 hx w b 0 0 ⟨ab_i11, ab_xv2 (c_adv (d + 3) b h0) (fun v1 hv1 => ab_xrd (c_readNamed d b hv1.2 (by decide : 3 < 12) 1 64) (fun v2 f2 s2 => ⟨fun g1 => ?_, fun g1 => ?_⟩))⟩)
  · obtain ⟨n2, b2⟩ := rd_num s2 (pf_named_chk g1)
    rw [n2]
    refine ab_xv2 (c_adv (d + 3) _ s2) (fun v3 hv3 => ab_xrd (c_readNamed d _ hv3.2 (by decide : 4 < 12) 1 _) (fun v4 f4 s4 => ⟨fun g2 => ?_, fun g2 => ?_⟩))
    · obtain ⟨n4, b4⟩ := rd_num s4 (pf_named_chk g2)
      rw [n4]
      refine ab_xv2 (c_adv (d + 3) _ s4) (fun v5 hv5 => ab_xrd (c_readNamed d _ hv5.2 (by decide : 5 < 12) 0 11) (fun v6 f6 s6 => ⟨fun g3 => ?_, fun g3 => ?_⟩))
      · obtain ⟨n6, b6⟩ := rd_num s6 (pf_named_chk g3)
        rw [n6]
        refine ab_xv2 (c_adv (d + 3) _ s6) (fun v7 hv7 => ?_)
        obtain ⟨y1, y2, y3⟩ := fr (rd_f_t (rd_f_t (rd_f_t (rd_f_t (rd_f_t (rd_f_t hv1.1 f2) hv3.1) f4) hv5.1) f6) hv7.1)
        refine lf v7 _ _ _ y1 y2 y3 hv7.2 ?_
        unfold pf_piece
        rw [if_pos g1, if_pos g2, if_pos g3]
      · obtain ⟨y1, y2, y3⟩ := fr (rd_f_t (rd_f_t (rd_f_t (rd_f_t (rd_f_t hv1.1 f2) hv3.1) f4) hv5.1) f6)
        refine lf v6 _ _ _ y1 y2 y3 s6 ?_
        unfold pf_piece
        rw [if_pos g1, if_pos g2, if_neg g3]
    · obtain ⟨y1, y2, y3⟩ := fr (rd_f_t (rd_f_t (rd_f_t hv1.1 f2) hv3.1) f4)
      refine lf v4 _ _ _ y1 y2 y3 s4 ?_
      unfold pf_piece
      rw [if_pos g1, if_neg g2]
  · obtain ⟨y1, y2, y3⟩ := fr (rd_f_t hv1.1 f2)
    refine lf v2 _ _ _ y1 y2 y3 s2 ?_
    unfold pf_piece
    rw [if_neg g1]
theorem c_readNote (d : Nat) {w : ab_Ob} {T : Int → Int} {n a : Int} (b : ab_Ob) (h : rd_st w T n a) (hb : sc_len b) (hc : 0 ≤ b.1 3 ∧ b.1 3 < 24) : ab_Ct (d + 7) 0 0 mX4_readNote [ab_O 0] [w, b] (ab_Rp w T n (w.1 4) (w.2 5).2 (pf_note T n a b)) := by
  have lf : ∀ (v b' : ab_Ob) (r a' : Int), rd_f w v → rd_st v T n a' → pf_note T n a b = (r, a', b') → (((∃ z : Int, some (ab_I r) = some (ab_I z)) ∧ ab_shw [true, true] [w, b] [v, b']) ∧ ab_Rp w T n (w.1 4) (w.2 5).2 (pf_note T n a b) (some (ab_I r)) [v, b']) := fun v b' r a' f st e => by
    rw [e]
    exact ⟨⟨⟨_, rfl⟩, _, _, rfl, _, _, rfl, rfl⟩, rfl, v, rfl, st, fun g g4 g6 g7 g8 g9 => f.1 g g6 g7 g8 g9, f.1 4 (by decide) (by decide) (by decide) (by decide), by rw [f.2], by rw [f.2]⟩
  refine ab_ct kX4_readNote rfl rfl (fun x hx => vX4_readNote_0 hx w b 0 0 (ab_xv2 (c_adv (d + 3) b h) (fun v1 hv1 => ab_x1 (c_checkWhole (d + 5) b hv1.2 0 99) ⟨fun g1 => ?_, fun g1 => ?_⟩)))
  · obtain ⟨n1, b1⟩ := rd_num hv1.2 g1
    rw [n1]
    refine ab_xv2 (c_adv (d + 3) b hv1.2) (fun v2 hv2 => ab_xrd (c_readNamed d b hv2.2 (by decide : 6 < 12) 1 64) (fun v3 f3 s3 => ⟨fun g2 => ?_, fun g2 => ?_⟩))
    · obtain ⟨n3, b3⟩ := rd_num s3 (pf_named_chk g2)
      rw [n3]
      refine ab_xv1 (c_addNote (d + 5) b _ _ hb hc) (fun b' hb' => ab_xv2 (c_adv (d + 3) b' s3) (fun v4 hv4 => ?_))
      refine lf v4 b' _ _ (rd_f_t (rd_f_t (rd_f_t hv1.1 hv2.1) f3) hv4.1) hv4.2 ?_
      unfold pf_note
      rw [if_pos g1, if_pos g2, hb']
      rfl
    · refine lf v3 b _ _ (rd_f_t (rd_f_t hv1.1 hv2.1) f3) s3 ?_
      unfold pf_note
      rw [if_pos g1, if_neg g2]
  · refine lf v1 b _ _ hv1.1 hv1.2 ?_
    unfold pf_note
    rw [if_neg g1]
theorem c_ruleSaid (d : Nat) {w : ab_Ob} {T : Int → Int} {n a : Int} (b : ab_Ob) (h : rd_st w T n a) : ab_Ct (d + 6) 0 0 mX4_ruleSaid [ab_O 0] [w, b] (ab_Is (pf_rsd T n a) [w, b]) := by
  refine ab_ct kX4_ruleSaid rfl rfl (fun x hx => vX4_ruleSaid_0 hx w b 0 0 (ab_xb (c_says d b h (by decide : 7 < 12)) (fun p0 => ⟨fun g => absurd g (by decide), fun _ => ab_lf rfl ?_⟩) (fun p0 => ⟨fun _ => ab_xb (c_says d b h (by decide : 6 < 12)) (fun p1 => ⟨fun g => absurd g (by decide), fun _ => ab_lf rfl ?_⟩) (fun p1 => ⟨fun _ => ab_xb (c_says d b h (by decide : 8 < 12)) (fun p2 => ⟨fun g => absurd g (by decide), fun _ => ab_lf rfl ?_⟩) (fun p2 => ⟨fun _ => ab_xb (c_says d b h (by decide : 9 < 12)) (fun p3 => ⟨fun g => absurd g (by decide), fun _ => ab_lf rfl ?_⟩) (fun p3 => ⟨fun _ => ab_xb (c_says d b h (by decide : 10 < 12)) (fun p4 => ⟨fun g => absurd g (by decide), fun _ => ab_lf rfl ?_⟩) (fun p4 => ⟨fun _ => ab_xb (c_says d b h (by decide : 11 < 12)) (fun p5 => ⟨fun g => absurd g (by decide), fun _ => ab_lf rfl ?_⟩) (fun p5 => ⟨fun _ => ab_lf rfl ?_, fun g => absurd rfl g⟩), fun g => absurd rfl g⟩), fun g => absurd rfl g⟩), fun g => absurd rfl g⟩), fun g => absurd rfl g⟩), fun g => absurd rfl g⟩)))
  · unfold pf_rsd; rw [if_pos p0]
  · unfold pf_rsd; rw [if_neg p0, if_pos p1]
  · unfold pf_rsd; rw [if_neg p0, if_neg p1, if_pos p2]
  · unfold pf_rsd; rw [if_neg p0, if_neg p1, if_neg p2, if_pos p3]
  · unfold pf_rsd; rw [if_neg p0, if_neg p1, if_neg p2, if_neg p3, if_pos p4]
  · unfold pf_rsd; rw [if_neg p0, if_neg p1, if_neg p2, if_neg p3, if_neg p4, if_pos p5]
  · unfold pf_rsd; rw [if_neg p0, if_neg p1, if_neg p2, if_neg p3, if_neg p4, if_neg p5]
theorem pf_rsd_b (T : Int → Int) (n a : Int) : -1 ≤ pf_rsd T n a ∧ pf_rsd T n a ≤ 5 := by
  unfold pf_rsd
  repeat' split
  all_goals omega
abbrev ab_Rr (w : ab_Ob) (T : Int → Int) (n tl : Int) (R : Int × Int × ab_Ob × (Int → Int)) : Option ab_V → List ab_Ob → Prop := fun rv ws => rv = some (ab_I R.1) ∧ ∃ v, ws = [v, R.2.2.1] ∧ rd_st v T n R.2.1 ∧ (∀ f, f ≠ 4 → f ≠ 6 → f ≠ 7 → f ≠ 8 → f ≠ 9 → v.1 f = w.1 f) ∧ v.1 4 = tl ∧ v.2 1 = w.2 1 ∧ (v.2 5).2 = R.2.2.2
theorem c_readRule (d : Nat) {w : ab_Ob} {T : Int → Int} {n a : Int} (b : ab_Ob) (h : rd_st w T n a) (hb : sc_len b) : ab_Ct (d + 7) 0 0 mX4_readRule [ab_O 0] [w, b] (ab_Rr w T n (w.1 4) (pf_rule T n a b (w.2 5).2)) := by
  have rb := pf_rsd_b T n (lx_x T n a)
  have lf : ∀ (v b' : ab_Ob) (r a' : Int) (fl : Int → Int), (∀ f, f ≠ 6 → f ≠ 7 → f ≠ 8 → f ≠ 9 → v.1 f = w.1 f) → v.2 1 = w.2 1 → (v.2 5).2 = fl → rd_st v T n a' → pf_rule T n a b (w.2 5).2 = (r, a', b', fl) → (((∃ z : Int, some (ab_I r) = some (ab_I z)) ∧ ab_shw [true, true] [w, b] [v, b']) ∧ ab_Rr w T n (w.1 4) (pf_rule T n a b (w.2 5).2) (some (ab_I r)) [v, b']) := fun v b' r a' fl v1 v2 v5 st e => by
    rw [e]
    exact ⟨⟨⟨_, rfl⟩, _, _, rfl, _, _, rfl, rfl⟩, rfl, v, rfl, st, fun g g4 g6 g7 g8 g9 => v1 g g6 g7 g8 g9, v1 4 (by decide) (by decide) (by decide) (by decide), v2, v5⟩
  refine ab_ct kX4_readRule rfl rfl (fun x hx => vX4_readRule_0 hx w b 0 0 (ab_xv2 (c_adv (d + 3) b h) (fun v1 hv1 => ab_x1 (c_ruleSaid d b hv1.2) ⟨fun g1 => ?_, fun g1 => ?_⟩)))
  · have l5 := hv1.2.1.2.1
    have x5 : (v1.2 5).2 = (w.2 5).2 := by rw [hv1.1.2]
    refine ⟨by omega, ?_⟩
    rw [x5]
    refine ⟨fun g2 => ⟨by omega, ab_i11, ?_⟩, fun g2 => ?_⟩
    · have s1 : rd_st (ab_pa v1 5 (pf_rsd T n (lx_x T n a)) 1) T n (lx_x T n a) := by
        obtain ⟨⟨a1, a2, a3, a4⟩, q⟩ := hv1.2
        exact ⟨⟨a1, by rw [hd_pa_len]; exact a2, a3, a4⟩, q⟩
      have n6 := hb.2.2.1
      refine ab_xv2 (c_adv (d + 3) b s1) (fun v2 hv2 => ab_x1 (c_checkWhole (d + 5) b hv2.2 0 99) ⟨fun g3 => ⟨by omega, ?_⟩, fun g3 => ?_⟩)
      · obtain ⟨n2, b2⟩ := rd_num hv2.2 g3
        rw [n2]
        refine ab_xv2 (c_adv (d + 3) _ hv2.2) (fun v3 hv3 => ?_)
        have f := rd_f_t hv2.1 hv3.1
        refine lf v3 _ _ _ (ab_ui (w.2 5).2 (pf_rsd T n (lx_x T n a)) 1) (fun g g6 g7 g8 g9 => ?_) ?_ ?_ hv3.2 ?_
        · rw [f.1 g g6 g7 g8 g9]
          exact hv1.1.1 g g6 g7 g8 g9
        · rw [f.2, hd_pa_ne (by decide), hv1.1.2]
        · rw [f.2, hd_pa_eq]
          show ab_ui (v1.2 5).2 _ _ = _
          rw [x5]
        · unfold pf_rule
          rw [if_neg g1, if_pos g2, if_pos g3]
      · refine lf v2 b _ _ (ab_ui (w.2 5).2 (pf_rsd T n (lx_x T n a)) 1) (fun g g6 g7 g8 g9 => ?_) ?_ ?_ hv2.2 ?_
        · rw [hv2.1.1 g g6 g7 g8 g9]
          exact hv1.1.1 g g6 g7 g8 g9
        · rw [hv2.1.2, hd_pa_ne (by decide), hv1.1.2]
        · rw [hv2.1.2, hd_pa_eq]
          show ab_ui (v1.2 5).2 _ _ = _
          rw [x5]
        · unfold pf_rule
          rw [if_neg g1, if_pos g2, if_neg g3]
    · refine lf v1 b _ _ (w.2 5).2 hv1.1.1 (by rw [hv1.1.2]) x5 hv1.2 ?_
      unfold pf_rule
      rw [if_neg g1, if_neg g2]
  · refine lf v1 b _ _ (w.2 5).2 hv1.1.1 (by rw [hv1.1.2]) (by rw [hv1.1.2]) hv1.2 ?_
    unfold pf_rule
    rw [if_pos g1]
