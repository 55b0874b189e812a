/-! THE CLASS: what follows from the piece, made when asked for -/
def hF (x b sp cn wh : ab_Ob) : Prop := ch_st sp ∧ cn_st cn ∧ tb_len wh ∧ (¬ x.1 5 = 0 → ch_ok sp (sc_br b) (b.1 3) ((b.2 6).2 4)) ∧ (¬ x.1 7 = 0 → cn_ok cn (sc_br b) (b.1 3)) ∧ (¬ x.1 9 = 0 → ¬ x.1 5 = 0 ∧ tb_ok wh (sc_br b) 0 (b.1 3 - 1))
def hI (b x sp cn wh sw swc swt t1 t2 ly wi : ab_Ob) : Prop := hF x b sp cn wh ∧ sw_ok b sw swc swt ∧ tb_len t1 ∧ tb_len t2 ∧ ly_len ly ∧ ly_len wi
/-- cells and slots still to be made -/
def hk (sp cn sw swc : ab_Ob) : Nat := ch_k sp + cn_k cn + sw_k sw + ch_k swc
def hs (sp cn sw swc : ab_Ob) : Nat := ch_s sp + cn_s cn + sw_s sw + ch_s swc
/-- after a question -/
def hQ (w0 rd dr b ac kp : ab_Ob) (t : Int) (mc ms k s : Nat) (ws : List ab_Ob) : Prop := ∃ x sp cn wh sw swc swt t1 t2 ly wi, ws = [x, rd, dr, b, ac, sp, cn, wh, sw, swc, swt, kp, t1, t2, ly, wi] ∧ hI b x sp cn wh sw swc swt t1 t2 ly wi ∧ x.1 0 = t ∧ x.1 12 = w0.1 12 ∧ mc + hk sp cn sw swc ≤ k ∧ ms + hs sp cn sw swc ≤ s
def hE (d : Nat) (M : ab_M) (args : List ab_V) (P : Int × Int → Prop) (x rd dr b ac sp cn wh sw swc swt kp t1 t2 ly wi : ab_Ob) : Prop := ∃ mc ms, (mc ≤ hk sp cn sw swc ∧ ms ≤ hs sp cn sw swc) ∧ ab_Ct d mc ms M args [x, rd, dr, b, ac, sp, cn, wh, sw, swc, swt, kp, t1, t2, ly, wi] (fun rv w => ∃ RT : Int × Int, P RT ∧ rv = some (ab_I RT.1) ∧ hQ x rd dr b ac kp RT.2 mc ms (hk sp cn sw swc) (hs sp cn sw swc) w)
theorem hkb0 {sp cn sw swc : ab_Ob} : 0 ≤ hk sp cn sw swc ∧ 0 ≤ hs sp cn sw swc := ⟨Nat.zero_le _, Nat.zero_le _⟩
theorem hkb1 {sp cn sw swc : ab_Ob} : ch_k sp ≤ hk sp cn sw swc ∧ ch_s sp ≤ hs sp cn sw swc := by
  unfold hk hs
  omega
theorem hkb2 {sp cn sw swc : ab_Ob} : ch_k sp + cn_k cn ≤ hk sp cn sw swc ∧ ch_s sp + cn_s cn ≤ hs sp cn sw swc := by
  unfold hk hs
  omega
theorem hkb3 {sp cn sw swc : ab_Ob} : sw_k sw + ch_k swc ≤ hk sp cn sw swc ∧ sw_s sw + ch_s swc ≤ hs sp cn sw swc := by
  unfold hk hs
  omega
/-- what the piece is good for -/
def hB (b : ab_Ob) : Prop := sc_ok b ∧ sc_dd b
theorem hB_cb {b : ab_Ob} (h : hB b) : dp_cb (sc_br b) (b.1 3) := sc_br_cb h.1 (sc_dd_db h.2)
/-! what the calls share -/
theorem hl_gd {d : Nat} {a : Int} {x rd dr b ac sp cn wh sw swc swt kp t1 t2 ly wi : ab_Ob} {K : Int → ab_Ob → Prop} (k : K a (ab_pf x 0 0)) : ∃ Q : Option ab_V → List ab_Ob → Prop, ab_Ct (d + 1) 0 0 mX8_grant [ab_O 0, ab_I a] [x, rd, dr, b, ac, sp, cn, wh, sw, swc, swt, kp, t1, t2, ly, wi] Q ∧ ∀ (r : Int) (v : ab_Ob), Q (some (ab_I r)) [v, rd, dr, b, ac, sp, cn, wh, sw, swc, swt, kp, t1, t2, ly, wi] → K r v :=
  ⟨fun rv w => rv = some (ab_I a) ∧ w = [ab_pf x 0 0, rd, dr, b, ac, sp, cn, wh, sw, swc, swt, kp, t1, t2, ly, wi], ab_ct kX8_grant rfl rfl (fun c hc => vX8_grant_0 hc a x rd dr b ac sp cn wh sw swc swt kp t1 t2 ly wi 0 0 ⟨⟨⟨_, rfl⟩, _, _, rfl, ab_shw_self (ab_beq rfl)⟩, rfl, rfl⟩), fun r v h => by
    obtain ⟨h1, h2⟩ := h
    cases h1
    have e := (List.cons.inj h2).1
    rw [e]
    exact k⟩
theorem hl_rf {d : Nat} {a : Int} {x rd dr b ac sp cn wh sw swc swt kp t1 t2 ly wi : ab_Ob} {K : Int → ab_Ob → Prop} (k : K (-1) (ab_pf x 0 a)) : ∃ Q : Option ab_V → List ab_Ob → Prop, ab_Ct (d + 1) 0 0 mX8_refuse [ab_O 0, ab_I a] [x, rd, dr, b, ac, sp, cn, wh, sw, swc, swt, kp, t1, t2, ly, wi] Q ∧ ∀ (r : Int) (v : ab_Ob), Q (some (ab_I r)) [v, rd, dr, b, ac, sp, cn, wh, sw, swc, swt, kp, t1, t2, ly, wi] → K r v :=
  ⟨fun rv w => rv = some (ab_I (-1)) ∧ w = [ab_pf x 0 a, rd, dr, b, ac, sp, cn, wh, sw, swc, swt, kp, t1, t2, ly, wi], ab_ct kX8_refuse rfl rfl (fun c hc => vX8_refuse_0 hc a x rd dr b ac sp cn wh sw swc swt kp t1 t2 ly wi 0 0 ⟨⟨⟨_, rfl⟩, _, _, rfl, ab_shw_self (ab_beq rfl)⟩, rfl, rfl⟩), fun r v h => by
    obtain ⟨h1, h2⟩ := h
    cases h1
    have e := (List.cons.inj h2).1
    rw [e]
    exact k⟩
theorem h_hasPiece (d : Nat) (x rd dr b ac sp cn wh sw swc swt kp t1 t2 ly wi : ab_Ob) : ab_Ct (d + 1) 0 0 mX8_hasPiece [ab_O 0] [x, rd, dr, b, ac, sp, cn, wh, sw, swc, swt, kp, t1, t2, ly, wi] (ab_Bo (1 ≤ b.1 3) [x, rd, dr, b, ac, sp, cn, wh, sw, swc, swt, kp, t1, t2, ly, wi]) :=
  ab_ct kX8_hasPiece rfl rfl (fun c hc => vX8_hasPiece_0 hc x rd dr b ac sp cn wh sw swc swt kp t1 t2 ly wi 0 0 ⟨fun g => ⟨ab_i01, ab_l0b rfl (by omega)⟩, fun g => ⟨ab_i11, ab_l1b rfl (by omega)⟩⟩)
theorem h_hasNote (d : Nat) (k : Int) (x rd dr b ac sp cn wh sw swc swt kp t1 t2 ly wi : ab_Ob) : ab_Ct (d + 1) 0 0 mX8_hasNote [ab_O 0, ab_I k] [x, rd, dr, b, ac, sp, cn, wh, sw, swc, swt, kp, t1, t2, ly, wi] (ab_Bo (0 ≤ k ∧ k < b.1 3) [x, rd, dr, b, ac, sp, cn, wh, sw, swc, swt, kp, t1, t2, ly, wi]) :=
  ab_ct kX8_hasNote rfl rfl (fun c hc => vX8_hasNote_0 hc k x rd dr b ac sp cn wh sw swc swt kp t1 t2 ly wi 0 0 ⟨fun g => ⟨ab_i01, ab_l0b rfl (by omega)⟩, fun g => ⟨fun g2 => ⟨ab_i01, ab_l0b rfl (by omega)⟩, fun g2 => ⟨ab_i11, ab_l1b rfl (by omega)⟩⟩⟩)
theorem h_hasSpan (d : Nat) (i j : Int) (x rd dr b ac sp cn wh sw swc swt kp t1 t2 ly wi : ab_Ob) : ab_Ct (d + 1) 0 0 mX8_hasSpan [ab_O 0, ab_I i, ab_I j] [x, rd, dr, b, ac, sp, cn, wh, sw, swc, swt, kp, t1, t2, ly, wi] (ab_Bo (0 ≤ i ∧ i ≤ j ∧ j < b.1 3) [x, rd, dr, b, ac, sp, cn, wh, sw, swc, swt, kp, t1, t2, ly, wi]) :=
  ab_ct kX8_hasSpan rfl rfl (fun c hc => vX8_hasSpan_0 hc i j x rd dr b ac sp cn wh sw swc swt kp t1 t2 ly wi 0 0 ⟨fun g => ⟨ab_i01, ab_l0b rfl (by omega)⟩, fun g => ⟨fun g2 => ⟨ab_i01, ab_l0b rfl (by omega)⟩, fun g2 => ⟨fun g3 => ⟨ab_i01, ab_l0b rfl (by omega)⟩, fun g3 => ⟨ab_i11, ab_l1b rfl (by omega)⟩⟩⟩⟩)
theorem h_hasNotesFrom (d : Nat) (i n : Int) (x rd dr b ac sp cn wh sw swc swt kp t1 t2 ly wi : ab_Ob) (hb : sc_ok b) : ab_Ct (d + 1) 0 0 mX8_hasNotesFrom [ab_O 0, ab_I i, ab_I n] [x, rd, dr, b, ac, sp, cn, wh, sw, swc, swt, kp, t1, t2, ly, wi] (ab_Bo ((1 ≤ n ∧ n ≤ b.1 3) ∧ 0 ≤ i ∧ i ≤ b.1 3 - n) [x, rd, dr, b, ac, sp, cn, wh, sw, swc, swt, kp, t1, t2, ly, wi]) := by
  have hn := hb.2.1
  exact ab_ct kX8_hasNotesFrom rfl rfl (fun c hc => vX8_hasNotesFrom_0 hc i n x rd dr b ac sp cn wh sw swc swt kp t1 t2 ly wi 0 0 ⟨fun g => ⟨ab_i01, ab_l0b rfl (by omega)⟩, fun g => ⟨fun g2 => ⟨ab_i01, ab_l0b rfl (by omega)⟩, fun g2 => ⟨fun g3 => ⟨ab_i01, ab_l0b rfl (by omega)⟩, fun g3 => ⟨by omega, fun g4 => ⟨ab_i01, ab_l0b rfl (by omega)⟩, fun g4 => ⟨ab_i11, ab_l1b rfl (by omega)⟩⟩⟩⟩⟩)
theorem h_hasRule (d : Nat) (r : Int) (x rd dr b ac sp cn wh sw swc swt kp t1 t2 ly wi : ab_Ob) : ab_Ct (d + 2) 0 0 mX8_hasRule [ab_O 0, ab_I r] [x, rd, dr, b, ac, sp, cn, wh, sw, swc, swt, kp, t1, t2, ly, wi] (ab_Bo (1 ≤ b.1 3 ∧ 0 ≤ r ∧ r < 6) [x, rd, dr, b, ac, sp, cn, wh, sw, swc, swt, kp, t1, t2, ly, wi]) :=
  ab_ct kX8_hasRule rfl rfl (fun c hc => vX8_hasRule_0 hc r x rd dr b ac sp cn wh sw swc swt kp t1 t2 ly wi 0 0 (ab_xb (h_hasPiece d x rd dr b ac sp cn wh sw swc swt kp t1 t2 ly wi) (fun p => ⟨fun g => absurd g (by decide), fun _ => ⟨fun g => ⟨ab_i01, ab_l0b rfl (by omega)⟩, fun g => ⟨fun g2 => ⟨ab_i01, ab_l0b rfl (by omega)⟩, fun g2 => ⟨ab_i11, ab_l1b rfl (by omega)⟩⟩⟩⟩) (fun p => ⟨fun _ => ⟨ab_i01, ab_l0b rfl (by omega)⟩, fun g => absurd rfl g⟩)))
/-- the spans, fresh -/
theorem h_freshSpans (d : Nat) (x rd dr b ac sp cn wh sw swc swt kp t1 t2 ly wi : ab_Ob) (hb : hB b) (h : hF x b sp cn wh) : ab_Ct (d + 5) (ch_k sp) (ch_s sp) mX8_freshSpans [ab_O 0] [x, rd, dr, b, ac, sp, cn, wh, sw, swc, swt, kp, t1, t2, ly, wi] (fun rv w => rv = some (ab_O 5) ∧ ∃ x' sp', w = [x', rd, dr, b, ac, sp', cn, wh, sw, swc, swt, kp, t1, t2, ly, wi] ∧ hF x' b sp' cn wh ∧ ch_ok sp' (sc_br b) (b.1 3) ((b.2 6).2 4) ∧ ¬ x'.1 5 = 0 ∧ (∀ f, f ≠ 5 → x'.1 f = x.1 f)) := by
  refine ab_ct kX8_freshSpans rfl rfl (fun c hc => vX8_freshSpans_0 hc x rd dr b ac sp cn wh sw swc swt kp t1 t2 ly wi 0 0 ⟨fun g => ?_, fun g => ?_⟩)
  · exact ⟨⟨rfl, ab_shw_self (ab_beq rfl)⟩, rfl, x, sp, rfl, h, h.2.2.2.1 g, g, fun f _ => rfl⟩
  · refine ⟨_, _, ⟨Nat.le_of_eq (Nat.zero_add _), Nat.le_of_eq (Nat.zero_add _)⟩, _, c_fill d sp b h.1 hb.1 (sc_dd_db hb.2), fun v hv => ⟨ab_i11, ?_⟩⟩
    obtain ⟨_, u, e, hu⟩ := hv
    cases e
    refine ⟨⟨rfl, ?_⟩, rfl, _, _, rfl, ⟨Or.inl hu.1.1, h.2.1, h.2.2.1, fun _ => hu, h.2.2.2.2.1, fun g9 => absurd g (h.2.2.2.2.2 g9).1⟩, hu, (by rw [hd_pf_eq]; decide), fun f f5 => hd_pf_ne f5⟩
    repeat' first | exact rfl | refine ⟨_, rfl, ?_⟩ | refine ⟨_, _, rfl, ?_⟩

theorem hl_fs {d mc ms kc ks : Nat} {x rd dr b ac sp cn wh sw swc swt kp t1 t2 ly wi : ab_Ob} {K : ab_Ob → ab_Ob → Prop} (hb : hB b) (h : hF x b sp cn wh) (hc : kc + ch_k sp ≤ mc) (hs' : ks + ch_s sp ≤ ms) (k : ∀ x' sp', hF x' b sp' cn wh → ch_ok sp' (sc_br b) (b.1 3) ((b.2 6).2 4) → ¬ x'.1 5 = 0 → (∀ f, f ≠ 5 → x'.1 f = x.1 f) → K x' sp') : ∃ mc6 ms7 : Nat, (kc + mc6 ≤ mc ∧ ks + ms7 ≤ ms) ∧ ∃ Q : Option ab_V → List ab_Ob → Prop, ab_Ct (d + 5) mc6 ms7 mX8_freshSpans [ab_O 0] [x, rd, dr, b, ac, sp, cn, wh, sw, swc, swt, kp, t1, t2, ly, wi] Q ∧ ∀ v9 v10 : ab_Ob, Q (some (ab_O 5)) [v9, rd, dr, b, ac, v10, cn, wh, sw, swc, swt, kp, t1, t2, ly, wi] → K v9 v10 :=
  ⟨_, _, ⟨hc, hs'⟩, _, h_freshSpans d x rd dr b ac sp cn wh sw swc swt kp t1 t2 ly wi hb h, fun v9 v10 hq => by
    obtain ⟨_, x', sp', e, q1, q2, q3, q4⟩ := hq
    cases e
    exact k _ _ q1 q2 q3 q4⟩
theorem ch_k_0 {w : ab_Ob} (h : ch_len w) : ch_k w = 0 := if_pos (by rw [h.1]; decide)
theorem ch_s_0 {w : ab_Ob} (h : ch_len w) : ch_s w = 0 := if_pos (by rw [h.1]; decide)
theorem sw_k_0 {w : ab_Ob} (h : sw_ln w) : sw_k w = 0 := if_pos (by rw [h.1]; decide)
theorem sw_s_0 {w : ab_Ob} (h : sw_ln w) : sw_s w = 0 := if_pos (by rw [h.1]; decide)
theorem hB_ev {b : ab_Ob} (h : hB b) : 0 ≤ (b.2 6).2 4 ∧ (b.2 6).2 4 ≤ 99 := h.1.2.2.2.2.2.2 4 (by decide) (by decide)
/-- the tree, fresh -/
theorem h_freshTree (d : Nat) (x rd dr b ac sp cn wh sw swc swt kp t1 t2 ly wi : ab_Ob) (hb : hB b) (hn : 1 ≤ b.1 3) (h : hF x b sp cn wh) : ab_Ct (d + 7) (ch_k sp) (ch_s sp) mX8_freshTree [ab_O 0] [x, rd, dr, b, ac, sp, cn, wh, sw, swc, swt, kp, t1, t2, ly, wi] (fun rv w => rv = some (ab_O 7) ∧ ∃ x' sp' wh', w = [x', rd, dr, b, ac, sp', cn, wh', sw, swc, swt, kp, t1, t2, ly, wi] ∧ hF x' b sp' cn wh' ∧ ch_ok sp' (sc_br b) (b.1 3) ((b.2 6).2 4) ∧ tb_ok wh' (sc_br b) 0 (b.1 3 - 1) ∧ (¬ x'.1 5 = 0 ∧ ¬ x'.1 9 = 0) ∧ (∀ f, f ≠ 5 → f ≠ 9 → x'.1 f = x.1 f)) := by
  have h24 := hb.1.2.1
  refine ab_ct kX8_freshTree rfl rfl (fun c hc => vX8_freshTree_0 hc x rd dr b ac sp cn wh sw swc swt kp t1 t2 ly wi 0 0 ⟨fun g => ?_, fun g => ?_⟩)
  · have g5 := (h.2.2.2.2.2 g).1
    exact ⟨⟨rfl, ab_shw_self (ab_beq rfl)⟩, rfl, x, sp, wh, rfl, h, h.2.2.2.1 g5, (h.2.2.2.2.2 g).2, ⟨g5, g⟩, fun f _ _ => rfl⟩
  · refine hl_fs (d := d + 1) hb h (Nat.le_of_eq (Nat.zero_add _)) (Nat.le_of_eq (Nat.zero_add _)) (fun x' sp' q1 q2 q3 q4 => ⟨by omega, ab_xv2 (c_build d wh sp' h24.2 (hB_cb hb) (sc_br_ev b) (hB_ev hb) q2 h.2.2.1 (i := 0) (j := b.1 3 - 1) (by decide) (by omega) (by omega)) (fun v hv => ⟨ab_i11, ?_⟩)⟩)
    refine ⟨⟨rfl, ?_⟩, rfl, _, _, _, rfl, ⟨q1.1, q1.2.1, hv.1, q1.2.2.2.1, q1.2.2.2.2.1, fun _ => ⟨q3, hv⟩⟩, q2, hv, ⟨q3, by rw [hd_pf_eq]; decide⟩, fun f f5 f9 => (hd_pf_ne f9).trans (q4 f f5)⟩
    repeat' first | exact rfl | refine ⟨_, rfl, ?_⟩ | refine ⟨_, _, rfl, ?_⟩
theorem hl_ft {d mc ms kc ks : Nat} {x rd dr b ac sp cn wh sw swc swt kp t1 t2 ly wi : ab_Ob} {K : ab_Ob → ab_Ob → ab_Ob → Prop} (hb : hB b) (hn : 1 ≤ b.1 3) (h : hF x b sp cn wh) (hc : kc + ch_k sp ≤ mc) (hs' : ks + ch_s sp ≤ ms) (k : ∀ x' sp' wh', hF x' b sp' cn wh' → ch_ok sp' (sc_br b) (b.1 3) ((b.2 6).2 4) → tb_ok wh' (sc_br b) 0 (b.1 3 - 1) → (¬ x'.1 5 = 0 ∧ ¬ x'.1 9 = 0) → (∀ f, f ≠ 5 → f ≠ 9 → x'.1 f = x.1 f) → K x' sp' wh') : ∃ mc6 ms7 : Nat, (kc + mc6 ≤ mc ∧ ks + ms7 ≤ ms) ∧ ∃ Q : Option ab_V → List ab_Ob → Prop, ab_Ct (d + 7) mc6 ms7 mX8_freshTree [ab_O 0] [x, rd, dr, b, ac, sp, cn, wh, sw, swc, swt, kp, t1, t2, ly, wi] Q ∧ ∀ v9 v10 v11 : ab_Ob, Q (some (ab_O 7)) [v9, rd, dr, b, ac, v10, cn, v11, sw, swc, swt, kp, t1, t2, ly, wi] → K v9 v10 v11 :=
  ⟨_, _, ⟨hc, hs'⟩, _, h_freshTree d x rd dr b ac sp cn wh sw swc swt kp t1 t2 ly wi hb hn h, fun v9 v10 v11 hq => by
    obtain ⟨_, x', sp', wh', e, q1, q2, q3, q4, q5⟩ := hq
    cases e
    exact k _ _ _ q1 q2 q3 q4 q5⟩
/-- leaves: refused; answered with the spans or the tree fresh -/
theorem hz_r {bs : List Bool} {P : Int × Int → Prop} {t : Int} {x rd dr b ac sp cn wh sw swc swt kp t1 t2 ly wi : ab_Ob} (h : hI b x sp cn wh sw swc swt t1 t2 ly wi) (e : P ((-1 : Int), t)) (l : Nat.beq bs.length 15 = true) : ((∃ z : Int, some (ab_I (-1)) = some (ab_I z)) ∧ ab_shw (true :: bs) [x, rd, dr, b, ac, sp, cn, wh, sw, swc, swt, kp, t1, t2, ly, wi] [ab_pf x 0 t, rd, dr, b, ac, sp, cn, wh, sw, swc, swt, kp, t1, t2, ly, wi]) ∧ (∃ RT : Int × Int, P RT ∧ some (ab_I (-1)) = some (ab_I RT.1) ∧ hQ x rd dr b ac kp RT.2 0 0 (hk sp cn sw swc) (hs sp cn sw swc) [ab_pf x 0 t, rd, dr, b, ac, sp, cn, wh, sw, swc, swt, kp, t1, t2, ly, wi]) := by
  exact ⟨⟨⟨_, rfl⟩, _, _, rfl, ab_shw_self (ab_beq l)⟩, _, e, rfl, _, _, _, _, _, _, _, _, _, _, _, rfl, h, hd_pf_eq x 0 t, rfl, by omega, by omega⟩
/-- the same, without changing what is made -/
theorem hz_0 {bs : List Bool} {P : Int × Int → Prop} {a : Int} {x rd dr b ac sp cn wh sw swc swt kp t1 t2 ly wi : ab_Ob} (h : hI b x sp cn wh sw swc swt t1 t2 ly wi) (e : P (a, (0 : Int))) (l : Nat.beq bs.length 15 = true) : ((∃ z : Int, some (ab_I a) = some (ab_I z)) ∧ ab_shw (true :: bs) [x, rd, dr, b, ac, sp, cn, wh, sw, swc, swt, kp, t1, t2, ly, wi] [ab_pf x 0 0, rd, dr, b, ac, sp, cn, wh, sw, swc, swt, kp, t1, t2, ly, wi]) ∧ (∃ RT : Int × Int, P RT ∧ some (ab_I a) = some (ab_I RT.1) ∧ hQ x rd dr b ac kp RT.2 0 0 (hk sp cn sw swc) (hs sp cn sw swc) [ab_pf x 0 0, rd, dr, b, ac, sp, cn, wh, sw, swc, swt, kp, t1, t2, ly, wi]) := by
  exact ⟨⟨⟨_, rfl⟩, _, _, rfl, ab_shw_self (ab_beq l)⟩, _, e, rfl, _, _, _, _, _, _, _, _, _, _, _, rfl, h, hd_pf_eq x 0 0, rfl, by omega, by omega⟩
theorem hz_s {bs : List Bool} {P : Int × Int → Prop} {a t : Int} {x rd dr b ac sp cn wh sw swc swt kp t1 t2 ly wi x' sp' wh' t1' t2' ly' wi' : ab_Ob} (h : hI b x sp cn wh sw swc swt t1 t2 ly wi) (h' : hF x' b sp' cn wh') (hc : ch_len sp') (x12 : x'.1 12 = x.1 12) (l1 : tb_len t1') (l2 : tb_len t2') (l3 : ly_len ly') (l4 : ly_len wi') (e : P (a, t)) (m : ab_shw bs [x, rd, dr, b, ac, sp, cn, wh, sw, swc, swt, kp, t1, t2, ly, wi] [ab_pf x' 0 t, rd, dr, b, ac, sp', cn, wh', sw, swc, swt, kp, t1', t2', ly', wi']) : ((∃ z : Int, some (ab_I a) = some (ab_I z)) ∧ ab_shw bs [x, rd, dr, b, ac, sp, cn, wh, sw, swc, swt, kp, t1, t2, ly, wi] [ab_pf x' 0 t, rd, dr, b, ac, sp', cn, wh', sw, swc, swt, kp, t1', t2', ly', wi']) ∧ (∃ RT : Int × Int, P RT ∧ some (ab_I a) = some (ab_I RT.1) ∧ hQ x rd dr b ac kp RT.2 (ch_k sp) (ch_s sp) (hk sp cn sw swc) (hs sp cn sw swc) [ab_pf x' 0 t, rd, dr, b, ac, sp', cn, wh', sw, swc, swt, kp, t1', t2', ly', wi']) := by
  refine ⟨⟨⟨_, rfl⟩, m⟩, _, e, rfl, _, _, _, _, _, _, _, _, _, _, _, rfl, ⟨h', h.2.1, l1, l2, l3, l4⟩, hd_pf_eq x' 0 t, x12, ?_, ?_⟩
  · unfold hk
    rw [ch_k_0 hc]
    omega
  · unfold hs
    rw [ch_s_0 hc]
    omega
