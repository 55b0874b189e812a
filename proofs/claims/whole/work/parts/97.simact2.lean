theorem nb_0 {n k v : Int} {X : Int → Int} (hn : n ≤ 24) (h : nb n X) (hk : 0 ≤ k ∧ k < n) (hv : 0 ≤ v ∧ v ≤ 99) : nb n (rc n (0, k, v) X) := by
  show nb n (ab_ui X k v)
  refine ⟨by rw [hd_ui_ne (by omega)]; exact h.1, fun q q0 q1 => ?_, fun r r0 r1 => by rw [hd_ui_ne (by omega)]; exact h.2.2 r r0 r1⟩
  rw [hd_ui_ne (j := 24 + q) (by omega)]
  refine ⟨?_, (h.2.1 q q0 q1).2⟩
  by_cases y : q = k
  · rw [y, hd_ui_eq]; exact hv
  · rw [hd_ui_ne y]; exact (h.2.1 q q0 q1).1
theorem nb_1 {n k v : Int} {X : Int → Int} (hn : n ≤ 24) (h : nb n X) (hk : 0 ≤ k ∧ k < n) (hv : 1 ≤ v ∧ v ≤ 64) : nb n (rc n (1, k, v) X) := by
  show nb n (ab_ui X (24 + k) v)
  refine ⟨by rw [hd_ui_ne (by omega)]; exact h.1, fun q q0 q1 => ?_, fun r r0 r1 => by rw [hd_ui_ne (by omega)]; exact h.2.2 r r0 r1⟩
  rw [hd_ui_ne (j := q) (by omega)]
  refine ⟨(h.2.1 q q0 q1).1, ?_⟩
  by_cases y : q = k
  · rw [y, hd_ui_eq]; exact hv
  · rw [hd_ui_ne (by omega)]; exact (h.2.1 q q0 q1).2
theorem nb_2 {n k v : Int} {X : Int → Int} (hn : n ≤ 24) (h : nb n X) (hk : 0 ≤ k ∧ k < 6) (hv : 0 ≤ v ∧ v ≤ 99) : nb n (rc n (2, k, v) X) := by
  show nb n (ab_ui X (48 + k) v)
  refine ⟨by rw [hd_ui_ne (by omega)]; exact h.1, fun q q0 q1 => ?_, fun r r0 r1 => ?_⟩
  · rw [hd_ui_ne (j := q) (by omega), hd_ui_ne (j := 24 + q) (by omega)]
    exact h.2.1 q q0 q1
  · by_cases y : r = k
    · rw [y, hd_ui_eq]; exact hv
    · rw [hd_ui_ne (by omega)]; exact h.2.2 r r0 r1
theorem nb_3 {n v : Int} {X : Int → Int} (hn : n ≤ 24) (h : nb n X) (hv : 0 ≤ v ∧ v ≤ 11) : nb n (rc n (3, 0, v) X) := by
  show nb n (ab_ui X 54 v)
  refine ⟨by rw [hd_ui_eq]; exact hv, fun q q0 q1 => ?_, fun r r0 r1 => by rw [hd_ui_ne (by omega)]; exact h.2.2 r r0 r1⟩
  rw [hd_ui_ne (j := q) (by omega), hd_ui_ne (j := 24 + q) (by omega)]
  exact h.2.1 q q0 q1
theorem nb_4 {n v : Int} {X : Int → Int} (hn : n ≤ 24) (h : nb n X) (hv : ∀ k : Int, 0 ≤ k → k < n → 0 ≤ X k + v ∧ X k + v ≤ 99) : nb n (rc n (4, 0, v) X) := by
  show nb n (fun q => if 0 ≤ q ∧ q < n then X q + v else X q)
  refine ⟨by dsimp only; rw [if_neg (by omega)]; exact h.1, fun q q0 q1 => ?_, fun r r0 r1 => by dsimp only; rw [if_neg (by omega)]; exact h.2.2 r r0 r1⟩
  dsimp only
  rw [if_pos ⟨q0, q1⟩, if_neg (by omega)]
  exact ⟨hv q q0 q1, (h.2.1 q q0 q1).2⟩
theorem rb_u {X : Int → Int} {a o v q : Int} (h : X a = o) : X q = ab_ui (ab_ui X a v) a o q := by
  by_cases y : q = a
  · rw [y, hd_ui_eq]; exact h
  · rw [hd_ui_ne y, hd_ui_ne y]
theorem rb_4 {n : Int} {X : Int → Int} {v q : Int} : X q = rc n (4, 0, -v) (rc n (4, 0, v) X) q := by
  show X q = (fun q => if 0 ≤ q ∧ q < n then (fun q => if 0 ≤ q ∧ q < n then X q + v else X q) q + -v else (fun q => if 0 ≤ q ∧ q < n then X q + v else X q) q) q
  dsimp only
  split <;> omega
theorem md_p_rc {b b' m : ab_Ob} {a v : Int} {Y : Int → Int} (hp : md_p b m) (hC' : hC b b' Y) (e : Y = ab_ui (m.2 3).2 a v) : md_p b' (ab_pa m 3 a v) := by
  refine md_p_x.mpr ⟨⟨?_, ?_, ?_⟩, ?_⟩
  · rw [hC'.2.1]; exact hp.1
  · rw [hC'.2.2.1]; exact hp.2.1
  · rw [hC'.2.2.2.1]; exact hp.2.2.1
  · rw [hd_pa_eq]
    have := hC'.2.2.2.2
    rw [e] at this
    exact this
theorem s_pitch (d : Nat) {x rd dr b ac sp cn wh sw swc swt kp t1 t2 ly wi m : ab_Ob} (h : hR x rd dr b ac sp cn wh sw swc swt kp t1 t2 ly wi m) (k v : Int) : sim ab_I (d + 12) (d + 12) mX8_pitch mX9_pitch [ab_I k, ab_I v] x rd dr b ac sp cn wh sw swc swt kp t1 t2 ly wi m := by
  by_cases p : (0 ≤ k ∧ k < b.1 3) ∧ 0 ≤ v ∧ v ≤ 99
  · have mi := mi_S_I h.2.2.2.2.1 (by omega)
    have hn := h.1.1.2.1
    obtain ⟨L, a1, a2, a3, a4⟩ := hL_get h.2.2.2.2.2.2.2.2.1 mi.1
    have hp := mi.2.2.2.2.1
    have hx := (md_p_x.mp hp).2
    exact sim_a (F := fun _ => (b.2 4).2 k) (L := L) (e := (0, k, (b.2 4).2 k)) (Y := rc (b.1 3) (0, k, v) (m.2 3).2) h hkb0 mi.1 a2 a3 a4 (ev_0 p.1) (fun q _ => rb_u (hx.2.1 k p.1.1 p.1.2).1) (h_pitch (d + 3) x rd dr b ac sp cn wh sw swc swt kp t1 t2 ly wi h.1 h.2.1 a1 p.1 p.2 hx (nb_0 hn.2 (nb_of h.1.1 hx) p.1 p.2)) (fun _ _ q => hAw_F q) (fun b' hC' => c9_pitch (d + 3) mi (by omega) h.2.2.2.2.2.1.2.2.2.2.1 hC'.1.1 hC'.1.2 (by rw [hC'.2.1]; omega) p.1 p.2 (md_p_rc hp hC' rfl))
  · exact sim_0 h (h_pitch0 (d + 3) x rd dr b ac sp cn wh sw swc swt kp t1 t2 ly wi h.2.1 p) (c9_pitch0 (d + 9) h.2.2.2.2.1 k v p) (by split <;> decide)
theorem s_last (d : Nat) {x rd dr b ac sp cn wh sw swc swt kp t1 t2 ly wi m : ab_Ob} (h : hR x rd dr b ac sp cn wh sw swc swt kp t1 t2 ly wi m) (k v : Int) : sim ab_I (d + 12) (d + 12) mX8_last mX9_last [ab_I k, ab_I v] x rd dr b ac sp cn wh sw swc swt kp t1 t2 ly wi m := by
  by_cases p : (0 ≤ k ∧ k < b.1 3) ∧ 1 ≤ v ∧ v ≤ 64
  · have mi := mi_S_I h.2.2.2.2.1 (by omega)
    have hn := h.1.1.2.1
    obtain ⟨L, a1, a2, a3, a4⟩ := hL_get h.2.2.2.2.2.2.2.2.1 mi.1
    have hp := mi.2.2.2.2.1
    have hx := (md_p_x.mp hp).2
    exact sim_a (F := fun _ => (b.2 5).2 k) (L := L) (e := (1, k, (b.2 5).2 k)) (Y := rc (b.1 3) (1, k, v) (m.2 3).2) h hkb0 mi.1 a2 a3 a4 (ev_1 p.1) (fun q _ => rb_u (hx.2.1 k p.1.1 p.1.2).2) (h_last (d + 3) x rd dr b ac sp cn wh sw swc swt kp t1 t2 ly wi h.1 h.2.1 a1 p.1 p.2 hx (nb_1 hn.2 (nb_of h.1.1 hx) p.1 p.2)) (fun _ _ q => hAw_F q) (fun b' hC' => c9_last (d + 3) mi (by omega) h.2.2.2.2.2.1.2.2.2.2.1 hC'.1.1 hC'.1.2 (by rw [hC'.2.1]; omega) p.1 p.2 (md_p_rc hp hC' rfl))
  · exact sim_0 h (h_last0 (d + 3) x rd dr b ac sp cn wh sw swc swt kp t1 t2 ly wi h.2.1 p) (c9_last0 (d + 9) h.2.2.2.2.1 k v p) (by split <;> decide)
theorem s_weigh (d : Nat) {x rd dr b ac sp cn wh sw swc swt kp t1 t2 ly wi m : ab_Ob} (h : hR x rd dr b ac sp cn wh sw swc swt kp t1 t2 ly wi m) (k v : Int) : sim ab_I (d + 12) (d + 12) mX8_weigh mX9_weigh [ab_I k, ab_I v] x rd dr b ac sp cn wh sw swc swt kp t1 t2 ly wi m := by
  by_cases p : (1 ≤ b.1 3 ∧ 0 ≤ k ∧ k < 6) ∧ 0 ≤ v ∧ v ≤ 99
  · have mi := mi_S_I h.2.2.2.2.1 (by omega)
    have hn := h.1.1.2.1
    obtain ⟨L, a1, a2, a3, a4⟩ := hL_get h.2.2.2.2.2.2.2.2.1 mi.1
    have hp := mi.2.2.2.2.1
    have hx := (md_p_x.mp hp).2
    exact sim_a (F := fun _ => (b.2 6).2 k) (L := L) (e := (2, k, (b.2 6).2 k)) (Y := rc (b.1 3) (2, k, v) (m.2 3).2) h hkb0 mi.1 a2 a3 a4 (ev_2 p.1.2) (fun q _ => rb_u (hx.2.2 k p.1.2.1 p.1.2.2)) (h_weigh (d + 3) x rd dr b ac sp cn wh sw swc swt kp t1 t2 ly wi h.1 h.2.1 a1 p.1 p.2 hx (nb_2 hn.2 (nb_of h.1.1 hx) p.1.2 p.2)) (fun _ _ q => hAw_F q) (fun b' hC' => c9_weigh (d + 3) mi (by omega) h.2.2.2.2.2.1.2.2.2.2.1 hC'.1.1 hC'.1.2 (by rw [hC'.2.1]; omega) p.1.2 p.2 (md_p_rc hp hC' rfl))
  · exact sim_0 h (h_weigh0 (d + 3) x rd dr b ac sp cn wh sw swc swt kp t1 t2 ly wi h.2.1 p) (c9_weigh0 (d + 9) h.2.2.2.2.1 k v p) (by split <;> decide)
theorem s_key (d : Nat) {x rd dr b ac sp cn wh sw swc swt kp t1 t2 ly wi m : ab_Ob} (h : hR x rd dr b ac sp cn wh sw swc swt kp t1 t2 ly wi m) (v : Int) : sim ab_I (d + 12) (d + 12) mX8_key mX9_key [ab_I v] x rd dr b ac sp cn wh sw swc swt kp t1 t2 ly wi m := by
  by_cases p : 1 ≤ b.1 3 ∧ 0 ≤ v ∧ v ≤ 11
  · have mi := mi_S_I h.2.2.2.2.1 (by omega)
    have hn := h.1.1.2.1
    obtain ⟨L, a1, a2, a3, a4⟩ := hL_get h.2.2.2.2.2.2.2.2.1 mi.1
    have hp := mi.2.2.2.2.1
    have hx := (md_p_x.mp hp).2
    exact sim_a (F := fun _ => b.1 2) (L := L) (e := (3, 0, b.1 2)) (Y := rc (b.1 3) (3, 0, v) (m.2 3).2) h hkb0 mi.1 a2 a3 a4 ev_3 (fun q _ => rb_u hx.1) (h_key (d + 3) x rd dr b ac sp cn wh sw swc swt kp t1 t2 ly wi h.1 h.2.1 a1 p.1 p.2 hx (nb_3 hn.2 (nb_of h.1.1 hx) p.2)) (fun _ _ q => hAw_F q) (fun b' hC' => c9_key (d + 3) mi (by omega) h.2.2.2.2.2.1.2.2.2.2.1 hC'.1.1 hC'.1.2 (by rw [hC'.2.1]; omega) p.2 (md_p_rc hp hC' rfl))
  · exact sim_0 h (h_key0 (d + 3) x rd dr b ac sp cn wh sw swc swt kp t1 t2 ly wi h.2.1 p) (c9_key0 (d + 9) h.2.2.2.2.1 v p) (by split <;> decide)
theorem s_move (d : Nat) {x rd dr b ac sp cn wh sw swc swt kp t1 t2 ly wi m : ab_Ob} (h : hR x rd dr b ac sp cn wh sw swc swt kp t1 t2 ly wi m) (v : Int) : sim ab_I (d + 12) (d + 12) mX8_move mX9_move [ab_I v] x rd dr b ac sp cn wh sw swc swt kp t1 t2 ly wi m := by
  by_cases p : 1 ≤ b.1 3 ∧ (-99 ≤ v ∧ v ≤ 99) ∧ sc_cm b v
  · have mi := mi_S_I h.2.2.2.2.1 p.1
    have hn := h.1.1.2.1
    obtain ⟨L, a1, a2, a3, a4⟩ := hL_get h.2.2.2.2.2.2.2.2.1 mi.1
    have hp := mi.2.2.2.2.1
    have hx := (md_p_x.mp hp).2
    have hcm : ∀ k : Int, 0 ≤ k → k < b.1 3 → 0 ≤ (m.2 3).2 k + v ∧ (m.2 3).2 k + v ≤ 99 := fun k k0 k1 => by
      rw [(hx.2.1 k k0 k1).1]
      exact p.2.2 k k0 k1
    exact sim_a (F := fun b' => an_B b' 0 (b.1 3 - 1)) (L := L) (e := (4, 0, -v)) (Y := rc (b.1 3) (4, 0, v) (m.2 3).2) h hkb1 mi.1 a2 a3 a4 (ev_4 (by omega)) (fun q _ => rb_4) (h_move (d + 3) x rd dr b ac sp cn wh sw swc swt kp t1 t2 ly wi h.1 h.2.1 a1 p.1 p.2.1 p.2.2 hx (nb_4 hn.2 (nb_of h.1.1 hx) hcm)) (fun _ _ q => q) (fun b' hC' => c9_move (d + 4) mi (by omega) h.2.2.2.2.2.1.2.2.2.2.1 hC'.1.1 hC'.1.2 hC'.2.1 hC'.2.2.1 hC'.2.2.2.1 p.2.1 p.2.2 hC'.2.2.2.2)
  · exact sim_0 h (h_move0 (d + 3) x rd dr b ac sp cn wh sw swc swt kp t1 t2 ly wi h.1 h.2.1 p) (c9_move0 (d + 9) h.2.2.2.2.1 v p) (by split <;> first | decide | (split <;> decide))
