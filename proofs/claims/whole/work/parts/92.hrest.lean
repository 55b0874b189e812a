theorem ac_ok_pop {a : ab_Ob} {R : List (Int × Int × Int)} {e : Int × Int × Int} (h : ac_ok a (R ++ [e])) : a.1 0 = R.length + 1 ∧ R.length < 10 ∧ ((a.2 1).2 R.length = e.1 ∧ (a.2 2).2 R.length = e.2.1 ∧ (a.2 3).2 R.length = e.2.2) ∧ ac_ok (ab_pf a 0 R.length) R := by
  obtain ⟨hl, h0, h10, hk⟩ := h
  rw [List.length_append] at h0 h10
  have z : [e].length = 1 := rfl
  rw [z] at h0 h10
  refine ⟨by rw [h0]; push_cast; rfl, by omega, hk R.length e (by rw [List.getElem?_append_right (Nat.le_refl _), Nat.sub_self]; rfl), hl, hd_pf_eq a 0 _, by omega, fun t e' he' => hk t e' ?_⟩
  obtain ⟨lt, _⟩ := List.getElem?_eq_some_iff.mp he'
  rw [List.getElem?_append_left lt]
  exact he'
theorem h_undo (d : Nat) (x rd dr b ac sp cn wh sw swc swt kp t1 t2 ly wi : ab_Ob) (hb : hB b) (h : hI b x sp cn wh sw swc swt t1 t2 ly wi) {R : List (Int × Int × Int)} {e : Int × Int × Int} (ha : ac_ok ac (R ++ [e])) (he : ev (b.1 3) e) {X : Int → Int} (hx : md_x b X) (hnb : nb (b.1 3) (rc (b.1 3) e X)) : ab_Ct (d + 9) 0 0 mX8_undo [ab_O 0] [x, rd, dr, b, ac, sp, cn, wh, sw, swc, swt, kp, t1, t2, ly, wi] (fun rv w => rv = some (ab_I 1) ∧ hAw x rd dr b kp R (rc (b.1 3) e X) (fun _ => True) 0 0 (hk sp cn sw swc) (hs sp cn sw swc) w) := by
  obtain ⟨a0, a1, ⟨a2, a3, a4⟩, a5⟩ := ac_ok_pop ha
  obtain ⟨n1, n2, n3⟩ := ha.1
  have e1 : ac.1 0 - 1 = R.length := by omega
  refine ab_ct kX8_undo rfl rfl (fun c hc => vX8_undo_0 hc x rd dr b ac sp cn wh sw swc swt kp t1 t2 ly wi 0 0 ⟨fun g => ?_, fun g => by omega⟩)
  rw [e1, a2, a3, a4]
  refine ⟨by omega, by omega, by omega, by omega, _, h_change (d + 4) x rd dr b (ab_pf ac 0 R.length) sp cn wh sw swc swt kp t1 t2 ly wi hb h he hx hnb, fun v2 v3 v4 hq => ⟨ab_i11, ?_⟩⟩
  obtain ⟨_, b', sw', e, hC', hI', s1, s2⟩ := hq
  cases e
  refine ⟨⟨⟨_, rfl⟩, (by repeat' first | exact rfl | refine ⟨_, rfl, ?_⟩ | refine ⟨_, _, rfl, ?_⟩)⟩, rfl, _, _, _, _, _, _, _, _, _, _, _, _, _, rfl, hC', trivial, a5, hI', hd_pf_eq _ 0 0, rfl, ?_, ?_⟩
  · unfold hk; rw [s1]; omega
  · unfold hs; rw [s2]; omega
theorem h_undo0 (d : Nat) (x rd dr b ac sp cn wh sw swc swt kp t1 t2 ly wi : ab_Ob) (h : hI b x sp cn wh sw swc swt t1 t2 ly wi) (h0 : ac.1 0 = 0) : ab_Ct (d + 9) 0 0 mX8_undo [ab_O 0] [x, rd, dr, b, ac, sp, cn, wh, sw, swc, swt, kp, t1, t2, ly, wi] (fun rv w => rv = some (ab_I 0) ∧ hQ x rd dr b ac kp 1 0 0 (hk sp cn sw swc) (hs sp cn sw swc) w) :=
  ab_ct kX8_undo rfl rfl (fun c hc => vX8_undo_0 hc x rd dr b ac sp cn wh sw swc swt kp t1 t2 ly wi 0 0 ⟨fun g => by omega, fun g => ⟨ab_i01, ⟨⟨_, rfl⟩, (by repeat' first | exact rfl | refine ⟨_, rfl, ?_⟩ | refine ⟨_, _, rfl, ?_⟩)⟩, rfl, _, _, _, _, _, _, _, _, _, _, _, rfl, h, hd_pf_eq x 0 1, rfl, by omega, by omega⟩⟩)
/-- after keeping -/
def hKw (rd dr b ac : ab_Ob) (mc ms k s : Nat) (ws : List ab_Ob) : Prop := ∃ kp x sp cn wh sw swc swt t1 t2 ly wi, ws = [x, rd, dr, b, ac, sp, cn, wh, sw, swc, swt, kp, t1, t2, ly, wi] ∧ tb_ok kp (sc_br b) 0 (b.1 3 - 1) ∧ hI b x sp cn wh sw swc swt t1 t2 ly wi ∧ x.1 0 = 0 ∧ ¬ x.1 12 = 0 ∧ mc + hk sp cn sw swc ≤ k ∧ ms + hs sp cn sw swc ≤ s
theorem h_keep (d : Nat) (x rd dr b ac sp cn wh sw swc swt kp t1 t2 ly wi : ab_Ob) (hb : hB b) (hn1 : 1 ≤ b.1 3) (h : hI b x sp cn wh sw swc swt t1 t2 ly wi) (hkp : tb_len kp) : ab_Ct (d + 9) (ch_k sp) (ch_s sp) mX8_keep [ab_O 0] [x, rd, dr, b, ac, sp, cn, wh, sw, swc, swt, kp, t1, t2, ly, wi] (fun rv w => rv = some (ab_I (an_B b 0 (b.1 3 - 1))) ∧ hKw rd dr b ac (ch_k sp) (ch_s sp) (hk sp cn sw swc) (hs sp cn sw swc) w) := by
  have hn := hb.1.2.1
  refine ab_ct kX8_keep rfl rfl (fun c hc => vX8_keep_0 hc x rd dr b ac sp cn wh sw swc swt kp t1 t2 ly wi 0 0 (ab_xb (h_hasPiece (d + 7) x rd dr b ac sp cn wh sw swc swt kp t1 t2 ly wi) (fun _ => ⟨fun _ => hl_fs2 (d := d + 3) hb h.1 (Nat.le_of_eq (Nat.zero_add _)) (Nat.le_of_eq (Nat.zero_add _)) (fun x' sp' q1 q2 q3 q4 => ⟨by omega, ab_xv2 (c_build (d + 2) kp sp' hn.2 (hB_cb hb) (sc_br_ev b) (hB_ev hb) q2 hkp (by decide) (by omega) (by omega)) (fun v hv => ⟨ab_i11, ?_⟩)⟩), fun g => absurd g (by decide)⟩) (fun q => absurd hn1 q)))
  refine ⟨_, _, ⟨?_, ?_⟩, _, h_wholeBreaks (d + 2) (ab_pf x' 12 1) rd dr b ac sp' cn wh sw swc swt v t1 t2 ly wi hb hn1 q1, fun r u1 u2 hq => ?_⟩
  · rw [ch_k_0 q2.1.1]; omega
  · rw [ch_s_0 q2.1.1]; omega
  · obtain ⟨er, x3, sp3, e, p1, p2, p3⟩ := hq
    cases er
    cases e
    refine hl_gd ⟨⟨⟨_, rfl⟩, (by repeat' first | exact rfl | refine ⟨_, rfl, ?_⟩ | refine ⟨_, _, rfl, ?_⟩)⟩, rfl, _, _, _, _, _, _, _, _, _, _, _, _, rfl, hv, ⟨p1, h.2⟩, hd_pf_eq _ 0 0, ?_, ?_, ?_⟩
    · have y : u1.1 12 = 1 := (p3 12 (by decide)).trans (hd_pf_eq x' 12 1)
      show ¬ u1.1 12 = 0
      omega
    · unfold hk
      rw [ch_k_0 p2]
      omega
    · unfold hs
      rw [ch_s_0 p2]
      omega
theorem h_keep0 (d : Nat) (x rd dr b ac sp cn wh sw swc swt kp t1 t2 ly wi : ab_Ob) (hn1 : ¬ 1 ≤ b.1 3) (h : hI b x sp cn wh sw swc swt t1 t2 ly wi) : hE0 (d + 9) mX8_keep [ab_O 0] 1 x rd dr b ac sp cn wh sw swc swt kp t1 t2 ly wi :=
  ab_ct kX8_keep rfl rfl (fun c hc => vX8_keep_0 hc x rd dr b ac sp cn wh sw swc swt kp t1 t2 ly wi 0 0 (ab_xb (h_hasPiece (d + 7) x rd dr b ac sp cn wh sw swc swt kp t1 t2 ly wi) (fun q => absurd q hn1) (fun _ => ⟨fun g => absurd rfl g, fun _ => hl_rf (hz_r h rfl rfl)⟩)))
/-! what is told -/
theorem h_trouble (d : Nat) (x rd dr b ac sp cn wh sw swc swt kp t1 t2 ly wi : ab_Ob) : ab_Ct (d + 9) 0 0 mX8_trouble [ab_O 0] [x, rd, dr, b, ac, sp, cn, wh, sw, swc, swt, kp, t1, t2, ly, wi] (ab_Is (x.1 0) [x, rd, dr, b, ac, sp, cn, wh, sw, swc, swt, kp, t1, t2, ly, wi]) :=
  ab_ct kX8_trouble rfl rfl (fun c hc => vX8_trouble_0 hc x rd dr b ac sp cn wh sw swc swt kp t1 t2 ly wi 0 0 (ab_lf rfl rfl))
theorem h_fault (d : Nat) (x rd dr b ac sp cn wh sw swc swt kp t1 t2 ly wi : ab_Ob) : ab_Ct (d + 9) 0 0 mX8_fault [ab_O 0] [x, rd, dr, b, ac, sp, cn, wh, sw, swc, swt, kp, t1, t2, ly, wi] (ab_Is (rd.1 10) [x, rd, dr, b, ac, sp, cn, wh, sw, swc, swt, kp, t1, t2, ly, wi]) :=
  ab_ct kX8_fault rfl rfl (fun c hc => vX8_fault_0 hc x rd dr b ac sp cn wh sw swc swt kp t1 t2 ly wi 0 0 (ab_lf rfl rfl))
theorem h_where (d : Nat) (x rd dr b ac sp cn wh sw swc swt kp t1 t2 ly wi : ab_Ob) : ab_Ct (d + 9) 0 0 mX8_where [ab_O 0] [x, rd, dr, b, ac, sp, cn, wh, sw, swc, swt, kp, t1, t2, ly, wi] (ab_Is (if x.1 0 = 4 then rd.1 7 else -1) [x, rd, dr, b, ac, sp, cn, wh, sw, swc, swt, kp, t1, t2, ly, wi]) :=
  ab_ct kX8_where rfl rfl (fun c hc => vX8_where_0 hc x rd dr b ac sp cn wh sw swc swt kp t1 t2 ly wi 0 0 ⟨fun g => ab_lf rfl (if_neg g).symm, fun g => ab_lf rfl (if_pos g).symm⟩)
theorem h_size (d : Nat) (x rd dr b ac sp cn wh sw swc swt kp t1 t2 ly wi : ab_Ob) (what : Int) : ab_Ct (d + 9) 0 0 mX8_size [ab_O 0, ab_I what] [x, rd, dr, b, ac, sp, cn, wh, sw, swc, swt, kp, t1, t2, ly, wi] (ab_Is (if what = 0 then rd.1 0 else if what = 1 then ac.1 0 else if what = 2 then (if x.1 12 = 0 then 0 else 1) else -1) [x, rd, dr, b, ac, sp, cn, wh, sw, swc, swt, kp, t1, t2, ly, wi]) :=
  ab_ct kX8_size rfl rfl (fun c hc => vX8_size_0 hc what x rd dr b ac sp cn wh sw swc swt kp t1 t2 ly wi 0 0 ⟨fun g => ab_lf rfl (by rw [if_neg (by omega), if_neg (by omega), if_neg (by omega)]), fun g => ab_lf rfl (by rw [if_pos g]), fun g => ab_lf rfl (by rw [if_neg (by omega), if_pos g]), fun g => ⟨fun g2 => ab_lf rfl (by rw [if_neg (by omega), if_neg (by omega), if_pos g, if_pos g2]), fun g2 => ab_lf rfl (by rw [if_neg (by omega), if_neg (by omega), if_pos g, if_neg g2])⟩, trivial⟩)
/-- twenty bytes are taken -/
def hfd (rd rd' : ab_Ob) (a b c d e : Int) : Prop := rd'.1 0 = rd.1 0 + 20 ∧ (∀ f, f ≠ 0 → rd'.1 f = rd.1 f) ∧ (∀ f, f ≠ 1 → rd'.2 f = rd.2 f) ∧ (rd'.2 1).1 = 700 ∧ ∀ q : Int, (rd'.2 1).2 q = if rd.1 0 ≤ q ∧ q < rd.1 0 + 20 then fe_s a b c d e (q - rd.1 0) else (rd.2 1).2 q
theorem fe_s_1 {a b c d e j : Int} (h : 0 ≤ j ∧ j < 20) : fe_s a b c d e j = if j < 4 then fe_by a (24 - 8 * j) else if j < 8 then fe_by b (24 - 8 * (j - 4)) else if j < 12 then fe_by c (24 - 8 * (j - 8)) else if j < 16 then fe_by d (24 - 8 * (j - 12)) else fe_by e (24 - 8 * (j - 16)) := by
  unfold fe_s fe_v
  rw [Int.tmod_eq_emod_of_nonneg h.1]
  by_cases g1 : j < 4
  · rw [if_neg (by omega), if_pos g1, show j % 4 = j by omega]
  · rw [if_pos (by omega), if_neg g1]
    by_cases g2 : j < 8
    · rw [if_neg (by omega), if_pos g2, show j % 4 = j - 4 by omega]
    · rw [if_pos (by omega), if_neg g2]
      by_cases g3 : j < 12
      · rw [if_neg (by omega), if_pos g3, show j % 4 = j - 8 by omega]
      · rw [if_pos (by omega), if_neg g3]
        by_cases g4 : j < 16
        · rw [if_neg (by omega), if_pos g4, show j % 4 = j - 12 by omega]
        · rw [if_pos (by omega), if_neg g4, show j % 4 = j - 16 by omega]
theorem h_feed (d : Nat) (x rd dr b ac sp cn wh sw swc swt kp t1 t2 ly wi : ab_Ob) (hl : (rd.2 1).1 = 700) (h0 : 0 ≤ rd.1 0 ∧ rd.1 0 ≤ 680) (a1 a2 a3 a4 a5 : Int) : ab_Ct (d + 9) 0 0 mX8_feed [ab_O 0, ab_I a1, ab_I a2, ab_I a3, ab_I a4, ab_I a5] [x, rd, dr, b, ac, sp, cn, wh, sw, swc, swt, kp, t1, t2, ly, wi] (fun rv w => rv = some (ab_I (rd.1 0 + 20)) ∧ ∃ rd', w = [x, rd', dr, b, ac, sp, cn, wh, sw, swc, swt, kp, t1, t2, ly, wi] ∧ hfd rd rd' a1 a2 a3 a4 a5) := by
  refine ab_ct kX8_feed rfl rfl (fun c hc => vX8_feed_0 hc a1 a2 a3 a4 a5 x rd dr b ac sp cn wh sw swc swt kp t1 t2 ly wi 0 0 ⟨fun _ => ab_xv2 (c_take (d + 7) dr hl (by omega) a1) (fun u1 h1 => ab_xv2 (c_take (d + 7) dr h1.2.2.2.1 (by omega) a2) (fun u2 h2 => ab_xv2 (c_take (d + 7) dr h2.2.2.2.1 (by omega) a3) (fun u3 h3 => ab_xv2 (c_take (d + 7) dr h3.2.2.2.1 (by omega) a4) (fun u4 h4 => ab_xv2 (c_take (d + 7) dr h4.2.2.2.1 (by omega) a5) (fun u5 h5 => ?_))))), fun g => by omega⟩)
  obtain ⟨p1, f1, g1, l1, q1⟩ := h1
  obtain ⟨p2, f2, g2, l2, q2⟩ := h2
  obtain ⟨p3, f3, g3, l3, q3⟩ := h3
  obtain ⟨p4, f4, g4, l4, q4⟩ := h4
  obtain ⟨p5, f5, g5, l5, q5⟩ := h5
  have s5 : u5.1 0 = rd.1 0 + 20 := by omega
  refine ⟨⟨⟨_, rfl⟩, (by repeat' first | exact rfl | refine ⟨_, rfl, ?_⟩ | refine ⟨_, _, rfl, ?_⟩)⟩, by rw [s5], u5, rfl, s5, fun f hf => by rw [f5 f hf, f4 f hf, f3 f hf, f2 f hf, f1 f hf], fun f hf => by rw [g5 f hf, g4 f hf, g3 f hf, g2 f hf, g1 f hf], l5, fun q => ?_⟩
  rw [q5, q4, q3, q2, q1]
  by_cases r : rd.1 0 ≤ q ∧ q < rd.1 0 + 20
  · rw [if_pos r, fe_s_1 (by omega)]
    by_cases c1 : q - rd.1 0 < 4
    · rw [if_neg (by omega), if_neg (by omega), if_neg (by omega), if_neg (by omega), if_pos (by omega), if_pos c1]
    · rw [if_neg c1]
      by_cases c2 : q - rd.1 0 < 8
      · rw [if_neg (by omega), if_neg (by omega), if_neg (by omega), if_pos (by omega), if_pos c2, p1, show q - (rd.1 0 + 4) = q - rd.1 0 - 4 by omega]
      · rw [if_neg c2]
        by_cases c3 : q - rd.1 0 < 12
        · rw [if_neg (by omega), if_neg (by omega), if_pos (by omega), if_pos c3, show q - u2.1 0 = q - rd.1 0 - 8 by omega]
        · rw [if_neg c3]
          by_cases c4 : q - rd.1 0 < 16
          · rw [if_neg (by omega), if_pos (by omega), if_pos c4, show q - u3.1 0 = q - rd.1 0 - 12 by omega]
          · rw [if_pos (by omega), if_neg c4, show q - u4.1 0 = q - rd.1 0 - 16 by omega]
  · rw [if_neg r, if_neg (by omega), if_neg (by omega), if_neg (by omega), if_neg (by omega), if_neg (by omega)]
theorem h_feed0 (d : Nat) (x rd dr b ac sp cn wh sw swc swt kp t1 t2 ly wi : ab_Ob) (h0 : 680 < rd.1 0) (a1 a2 a3 a4 a5 : Int) : ab_Ct (d + 9) 0 0 mX8_feed [ab_O 0, ab_I a1, ab_I a2, ab_I a3, ab_I a4, ab_I a5] [x, rd, dr, b, ac, sp, cn, wh, sw, swc, swt, kp, t1, t2, ly, wi] (ab_Is (-1) [x, rd, dr, b, ac, sp, cn, wh, sw, swc, swt, kp, t1, t2, ly, wi]) :=
  ab_ct kX8_feed rfl rfl (fun c hc => vX8_feed_0 hc a1 a2 a3 a4 a5 x rd dr b ac sp cn wh sw swc swt kp t1 t2 ly wi 0 0 ⟨fun g => by omega, fun _ => ab_lf rfl rfl⟩)
