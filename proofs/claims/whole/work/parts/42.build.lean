/-! Tree.build -/
def tb_len (v : ab_Ob) : Prop := (v.2 3).1 = 24 ∧ (v.2 4).1 = 24 ∧ (v.2 5).1 = 24 ∧ (v.2 6).1 = 24 ∧ (v.2 7).1 = 24 ∧ (v.2 8).1 = 24 ∧ (v.2 9).1 = 24
def tb_op (v : ab_Ob) (q a b h d : Int) : ab_Ob := ab_pa (ab_pa (ab_pa (ab_pa v 3 q a) 4 q b) 6 q h) 8 q d
theorem tb_op_len {v : ab_Ob} (q a b h d : Int) (hv : tb_len v) : tb_len (tb_op v q a b h d) := by
  unfold tb_len tb_op
  simp only [hd_pa_len]
  exact hv
theorem c_open (dd : Nat) (v : ab_Ob) (hv : tb_len v) {q a b h d : Int} (h0 : 0 ≤ q) (h1 : q < 24) : ab_Ct (dd + 1) 0 0 mX7_open [ab_O 0, ab_I q, ab_I a, ab_I b, ab_I h, ab_I d] [v] (ab_V1 (fun w => w = tb_op v q a b h d)) := by
  obtain ⟨n3, n4, n5, n6, n7, n8, n9⟩ := hv
  exact ab_ct kX7_open rfl rfl (fun x hx => vX7_open_0 hx q a b h d v 0 0 ⟨by omega, by omega, by omega, by omega, ab_lv1 rfl⟩)
def tb_d1 (v : ab_Ob) (t s u : Int) : ab_Ob := ab_pa (ab_pa (ab_pa v 5 t s) 7 t u) 9 u t
def tb_d2 (v : ab_Ob) (t i s hl d : Int) : ab_Ob := if i < s then tb_op v (t + 1) i s hl d else v
def tb_d3 (v : ab_Ob) (t i j s hr d : Int) : ab_Ob := if s + 1 < j then tb_op v (t + 1 + s - i) (s + 1) j hr d else v
/-- a chart's answers are the best head, split and under -/
theorem ch_best {w : ab_Ob} {c : Int → Int → Int → Int → Int} {n ev : Int} (hw : ch_ok w c n ev) {i j : Int} (h0 : 0 ≤ i) (h1 : i ≤ j) (h2 : j < n) : hd_am (fun h => ch_c w i j h) i (j - i).toNat = dp_H c i j := by
  unfold dp_H
  refine hd_am_congr fun k k1 k2 => ?_
  rw [hw.2 i j h0 h1 h2 k (by omega) (by omega)]
  unfold ch_val
  rw [if_pos (by omega)]
theorem ch_least {w : ab_Ob} {c : Int → Int → Int → Int → Int} {n ev : Int} (hw : ch_ok w c n ev) {i j : Int} (h0 : 0 ≤ i) (h1 : i ≤ j) (h2 : j < n) : hd_mn (fun h => ch_c w i j h) i (j - i).toNat = hd_mn (fun h => dp_B c i j h) i (j - i).toNat := by
  refine hd_mn_congr fun k k1 k2 => ?_
  rw [hw.2 i j h0 h1 h2 k (by omega) (by omega)]
  unfold ch_val
  rw [if_pos (by omega)]
theorem c_bestSplit' (d : Nat) (w : ab_Ob) {c : Int → Int → Int → Int → Int} {n ev : Int} (hn : n ≤ 24) (hc : dp_cb c n) (hev : ∀ h u l r, c h u l r = c h u 1 1 + ev * sc_abs (l - r)) (he : 0 ≤ ev ∧ ev ≤ 99) (hw : ch_ok w c n ev) {i j h : Int} (h0 : 0 ≤ i) (h1 : i < j) (h2 : j < n) (h3 : i ≤ h) (h4 : h ≤ j) : ab_Ct (d + 4) 0 0 mX1_bestSplit [ab_O 0, ab_I i, ab_I j, ab_I h] [w] (ab_Is (dp_sp c i j h) [w]) := by
  have hs := ch_ok_sm hn hc he hw
  have s1 := dp_sp_in (c := c) (h := h) h1
  have e0 := hw.1.2.1
  have sv : ∀ s, i ≤ s → s < j → ch_sv w i j s h = dp_I c (dp_B c) i j h s := fun s a b => ch_sv_dp hev hw.1 a b (by omega) (by omega) h3 h4 (hw.2 i s h0 a (by omega)) (hw.2 (s + 1) j (by omega) (by omega) h2)
  have cc : ch_c w i j h = hd_mn (fun s => dp_I c (dp_B c) i j h s) i (j - i - 1).toNat := by
    rw [hw.2 i j h0 (by omega) h2 h (by omega) (by omega)]
    unfold ch_val
    rw [if_pos ⟨h3, h4⟩, dp_B_S h1 (by omega)]
    rfl
  refine c_bestSplit d w hw.1.1 hs h0 h1 (by omega) (by omega) (by omega) (by omega) s1.1 s1.2 ?_ (fun s a b => ?_)
  · rw [sv _ s1.1 s1.2, cc]
    exact hd_am_val (fun s => dp_I c (dp_B c) i j h s) i (j - i - 1).toNat
  · rw [sv s a (by omega), cc]
    have := hd_am_first (f := fun s => dp_I c (dp_B c) i j h s) (i := i) (m := (j - i - 1).toNat) a b
    omega
theorem c_bestUnder' (d : Nat) (w : ab_Ob) {c : Int → Int → Int → Int → Int} {n ev : Int} (hn : n ≤ 24) (hc : dp_cb c n) (he : 0 ≤ ev ∧ ev ≤ 99) (hw : ch_ok w c n ev) {i j h : Int} (h0 : 0 ≤ i) (h1 : i ≤ j) (h2 : j < n) (h3 : 0 ≤ h) (h4 : h < n) (h5 : ¬ (i ≤ h ∧ h ≤ j)) : ab_Ct (d + 4) 0 0 mX1_bestUnder [ab_O 0, ab_I i, ab_I j, ab_I h] [w] (ab_Is (hd_am (fun u => dp_B c i j u + c h u 1 1) i (j - i).toNat) [w]) := by
  have hs := ch_ok_sm hn hc he hw
  have e0 := hw.1.2.1
  have s1 := hd_am_in (fun u => dp_B c i j u + c h u 1 1) i (j - i).toNat
  have uv : ∀ u, i ≤ u → u ≤ j → ch_uv w i j h u = dp_B c i j u + c h u 1 1 := fun u a b => by
    unfold ch_uv
    rw [hw.2 i j h0 h1 h2 u (by omega) (by omega), hw.1.2.2.2 h u h3 h4 (by omega) (by omega)]
    unfold ch_val
    rw [if_pos ⟨a, b⟩]
  have cc : ch_c w i j h = hd_mn (fun u => dp_B c i j u + c h u 1 1) i (j - i).toNat := by
    rw [hw.2 i j h0 h1 h2 h h3 h4]
    unfold ch_val
    rw [if_neg h5]
    rfl
  refine c_bestUnder d w hw.1.1 hs h0 h1 (by omega) (by omega) (by omega) (by omega) s1.1 (by omega) ?_ (fun s a b => ?_)
  · rw [uv _ s1.1 (by omega), cc]
    exact hd_am_val (fun u => dp_B c i j u + c h u 1 1) i (j - i).toNat
  · rw [uv s a (by omega), cc]
    have := hd_am_first (f := fun u => dp_B c i j u + c h u 1 1) (i := i) (m := (j - i).toNat) a b
    omega
theorem hd_am_add {f : Int → Int} (a i : Int) (m : Nat) : hd_am (fun u => a + f u) i m = hd_am f i m := by
  have h := hd_am_in f i m
  refine hd_am_eq h.1 h.2 ?_ fun q q1 q2 => ?_
  · show a + f (hd_am f i m) = _
    rw [hd_mn_add, hd_am_val f]
  · rw [hd_mn_add]
    have := hd_am_first q1 q2
    show a + hd_mn f i m < a + f q
    omega
/-- the under of a best split, as a best under of the part -/
theorem dp_un_am {c : Int → Int → Int → Int → Int} {ev : Int} (hev : ∀ h u l r, c h u l r = c h u 1 1 + ev * sc_abs (l - r)) {i j h : Int} (h1 : i < j) : dp_un c i j h = if h ≤ dp_sp c i j h then hd_am (fun u => dp_B c (dp_sp c i j h + 1) j u + c h u 1 1) (dp_sp c i j h + 1) (j - (dp_sp c i j h + 1)).toNat else hd_am (fun u => dp_B c i (dp_sp c i j h) u + c h u 1 1) i (dp_sp c i j h - i).toNat := by
  unfold dp_un
  by_cases hs : h ≤ dp_sp c i j h
  · rw [if_pos hs, if_pos hs]
    have e : (fun u => dp_V c (dp_B c) i j h (dp_sp c i j h) u) = fun u => (dp_B c i (dp_sp c i j h) h + ev * sc_abs ((dp_sp c i j h - i + 1) - (j - dp_sp c i j h))) + (dp_B c (dp_sp c i j h + 1) j u + c h u 1 1) := by
      funext u
      unfold dp_V
      rw [if_pos hs, hev h u (dp_sp c i j h - i + 1) (j - dp_sp c i j h)]
      omega
    rw [e, hd_am_add]
    have : (j - dp_sp c i j h - 1).toNat = (j - (dp_sp c i j h + 1)).toNat := by omega
    rw [this]
  · rw [if_neg hs, if_neg hs]
    have e : (fun u => dp_V c (dp_B c) i j h (dp_sp c i j h) u) = fun u => (dp_B c (dp_sp c i j h + 1) j h + ev * sc_abs ((dp_sp c i j h - i + 1) - (j - dp_sp c i j h))) + (dp_B c i (dp_sp c i j h) u + c h u 1 1) := by
      funext u
      unfold dp_V
      rw [if_neg hs, hev h u (dp_sp c i j h - i + 1) (j - dp_sp c i j h)]
      omega
    rw [e, hd_am_add]
theorem c_divide (d : Nat) (v w : ab_Ob) {c : Int → Int → Int → Int → Int} {n ev : Int} (hn : n ≤ 24) (hc : dp_cb c n) (hev : ∀ h u l r, c h u l r = c h u 1 1 + ev * sc_abs (l - r)) (he : 0 ≤ ev ∧ ev ≤ 99) (hw : ch_ok w c n ev) (hv : tb_len v) {i j h t dp : Int} (h0 : 0 ≤ i) (h1 : i < j) (h2 : j < n) (h3 : i ≤ h) (h4 : h ≤ j) (ht0 : 0 ≤ t) (ht1 : t + (j - i) ≤ 23) (ei : (v.2 3).2 t = i) (ej : (v.2 4).2 t = j) (eh : (v.2 6).2 t = h) (ed : (v.2 8).2 t = dp) (hdp : 0 ≤ dp ∧ dp ≤ 100) :
    ab_Ct (d + 5) 0 0 mX7_divide [ab_O 0, ab_O 1, ab_I t] [v, w] (ab_V2 w (fun v' => v' = tb_d3 (tb_d2 (tb_d1 v t (dp_sp c i j h) (dp_un c i j h)) t i (dp_sp c i j h) (tr_hl c i j h) (dp + 1)) t i j (dp_sp c i j h) (tr_hr c i j h) (dp + 1))) := by
  obtain ⟨n3, n4, n5, n6, n7, n8, n9⟩ := id hv
  have s1 := dp_sp_in (c := c) (h := h) h1
  have u1 := dp_un_in (c := c) (h := h) h1
  have cs := c_bestSplit' d w hn hc hev he hw h0 h1 h2 h3 h4
  have eu := dp_un_am hev (h := h) h1
  have ub : i ≤ dp_un c i j h ∧ dp_un c i j h ≤ j := by
    by_cases g : h ≤ dp_sp c i j h
    · have := u1.1 g; omega
    · have := u1.2 g; omega
  have ehl : tr_hl c i j h = if h ≤ dp_sp c i j h then h else dp_un c i j h := rfl
  have ehr : tr_hr c i j h = if h ≤ dp_sp c i j h then dp_un c i j h else h := rfl
  have cul : h ≤ dp_sp c i j h → ab_Ct (d + 4) 0 0 mX1_bestUnder [ab_O 0, ab_I (dp_sp c i j h + 1), ab_I j, ab_I h] [w] (ab_Is (dp_un c i j h) [w]) := fun g => by
    have := c_bestUnder' d w hn hc he hw (i := dp_sp c i j h + 1) (j := j) (h := h) (by omega) (by omega) h2 (by omega) (by omega) (by omega)
    rw [if_pos g] at eu
    rw [eu]
    exact this
  have cur : ¬ h ≤ dp_sp c i j h → ab_Ct (d + 4) 0 0 mX1_bestUnder [ab_O 0, ab_I i, ab_I (dp_sp c i j h), ab_I h] [w] (ab_Is (dp_un c i j h) [w]) := fun g => by
    have := c_bestUnder' d w hn hc he hw (i := i) (j := dp_sp c i j h) (h := h) (by omega) (by omega) (by omega) (by omega) (by omega) (by omega)
    rw [if_neg g] at eu
    rw [eu]
    exact this
  generalize dp_sp c i j h = s at *
  generalize dp_un c i j h = u at *
  generalize tr_hl c i j h = hl at *
  generalize tr_hr c i j h = hr at *
  clear eu u1 hev hw he hc
  refine ab_ct kX7_divide rfl rfl (fun x hx => ?_)
  have l1 : tb_len (tb_d1 v t s u) := by unfold tb_len tb_d1; simp only [hd_pa_len]; exact hv
  have r8 : ((tb_d1 v t s u).2 8).2 t = dp := by unfold tb_d1; rw [hd_pa_ne (by decide), hd_pa_ne (by decide), hd_pa_ne (by decide)]; exact ed
  have l2 : tb_len (tb_d2 (tb_d1 v t s u) t i s hl (dp + 1)) := by
    unfold tb_d2
    split
    · exact tb_op_len _ _ _ _ _ l1
    · exact l1
  have r8' : ((tb_d2 (tb_d1 v t s u) t i s hl (dp + 1)).2 8).2 t = dp := by
    unfold tb_d2
    split
    · unfold tb_op
      rw [hd_pa_eq]
      show ab_ui _ (t + 1) (dp + 1) t = dp
      rw [hd_ui_ne (by omega), hd_pa_ne (by decide), hd_pa_ne (by decide), hd_pa_ne (by decide)]
      exact r8
    · exact r8
  have k139 : ∀ l7 : Int, (l7 = 0 → hr = h) → (¬ l7 = 0 → hr = u) → ab_J x 139 [some (ab_O 0), none, some (ab_I t), some (ab_I i), some (ab_I j), some (ab_I h), some (ab_I s), some (ab_I l7), some (ab_I u)] [] [tb_d2 (tb_d1 v t s u) t i s hl (dp + 1), w] 0 0 := by
    intro l7 q0 q1
    obtain ⟨m3, m4, m5, m6, m7, m8, m9⟩ := id l2
    have k175 : ¬ j ≤ s + 1 → ab_J x 175 [some (ab_O 0), none, some (ab_I t), none, none, none, none, none, none] [ab_I hr, ab_I j, ab_I (s + 1), ab_I (t + 1 + s - i), ab_O 0] [tb_d2 (tb_d1 v t s u) t i s hl (dp + 1), w] 0 0 := fun g => by
      refine vX7_divide_175 hx _ _ _ _ _ _ w 0 0 ⟨by omega, by rw [r8']; omega, ?_⟩
      rw [r8']
      refine ab_xv1 (c_open (d + 3) _ l2 (by omega) (by omega)) (fun v' hv' => ?_)
      refine vX7_divide_186 hx v' w 0 0 (ab_lv2 ?_)
      rw [hv']
      unfold tb_d3
      rw [if_pos (by omega)]
    refine vX7_divide_139 hx _ _ _ _ _ _ _ _ w 0 0 ⟨by omega, fun g => ?_, fun g => ⟨by omega, by omega, by omega, by omega, fun g7 => ?_, fun g7 => ?_⟩⟩
    · refine vX7_divide_186 hx _ w 0 0 (ab_lv2 ?_)
      unfold tb_d3
      rw [if_neg (by omega)]
    · have := k175 g; rw [q0 g7] at this; exact this
    · have := k175 g; rw [q1 g7] at this; exact this
  have k77 : ∀ l7 : Int, (l7 = 0 → hr = h ∧ hl = u) → (¬ l7 = 0 → hr = u ∧ hl = h) → ab_J x 77 [some (ab_O 0), none, some (ab_I t), some (ab_I i), some (ab_I j), some (ab_I h), some (ab_I s), some (ab_I l7), none] [ab_I u] [v, w] 0 0 := by
    intro l7 q0 q1
    have k9 := k139 l7 (fun g => (q0 g).1) (fun g => (q1 g).1)
    obtain ⟨m3, m4, m5, m6, m7, m8, m9⟩ := id l1
    have k128 : ¬ s ≤ i → ab_J x 128 [some (ab_O 0), none, some (ab_I t), some (ab_I i), some (ab_I j), some (ab_I h), some (ab_I s), some (ab_I l7), some (ab_I u)] [ab_I hl, ab_I s, ab_I i, ab_I (t + 1), ab_O 0] [tb_d1 v t s u, w] 0 0 := fun g => by
      refine vX7_divide_128 hx _ _ _ _ _ _ _ _ _ _ _ _ w 0 0 ⟨by omega, by rw [r8]; omega, ?_⟩
      rw [r8]
      refine ab_xv1 (c_open (d + 3) _ l1 (by omega) (by omega)) (fun v' hv' => ?_)
      have e : tb_d2 (tb_d1 v t s u) t i s hl (dp + 1) = v' := by rw [hv']; unfold tb_d2; rw [if_pos (by omega)]
      rw [← e]
      exact k9
    refine vX7_divide_77 hx _ _ _ _ _ _ _ v w 0 0 ⟨by omega, by omega, by omega, fun g => ?_, fun g => ⟨by omega, fun g7 => ?_, fun g7 => ?_⟩⟩
    · have e : tb_d2 (tb_d1 v t s u) t i s hl (dp + 1) = tb_d1 v t s u := by unfold tb_d2; rw [if_neg (by omega)]
      rw [e] at k9
      exact k9
    · have := k128 g; rw [(q0 g7).2] at this; exact this
    · have := k128 g; rw [(q1 g7).2] at this; exact this
  refine vX7_divide_0 hx t v w 0 0 ⟨by omega, by omega, by omega, ?_⟩
  rw [ei, ej, eh]
  refine ab_x1 cs ⟨fun g => ?_, fun g => ?_⟩
  · refine vX7_divide_46 hx _ _ _ _ _ _ v w 0 0 ⟨fun _ => ab_x1 (cur (by omega)) (k77 0 (fun _ => ?_) (fun g2 => absurd rfl g2)), fun g2 => absurd rfl g2⟩
    rw [ehl, ehr, if_neg (by omega), if_neg (by omega)]
    exact ⟨rfl, rfl⟩
  · refine vX7_divide_46 hx _ _ _ _ _ _ v w 0 0 ⟨fun g2 => absurd g2 (by decide), fun _ => ⟨by omega, ab_x1 (cul (by omega)) (k77 1 (fun g2 => absurd g2 (by decide)) (fun _ => ?_))⟩⟩
    rw [ehl, ehr, if_pos (by omega), if_pos (by omega)]
    exact ⟨rfl, rfl⟩
/-- all of a joining's part has room behind it -/
theorem tr_J_pos (c : Int → Int → Int → Int → Int) : ∀ (i j h dp : Int), i ≤ h → h ≤ j → ∀ (t : Nat) (i' j' h' d' : Int), (tr_J c i j h dp)[t]? = some (i', j', h', d') → (t : Int) + (j' - i') ≤ j - i := by
  refine tr_ind c (fun i dp t i' j' h' d' ht => ?_) (fun i j h dp hij a b p1 p2 t i' j' h' d' ht => ?_)
  · rw [tr_J_1] at ht; simp at ht
  · have s1 := dp_sp_in (c := c) (h := h) hij
    have l1 := tr_hl_in (c := c) hij a
    have len := tr_J_len c i (dp_sp c i j h) (tr_hl c i j h) (dp + 1) l1.1 l1.2
    rw [tr_J_s hij] at ht
    cases t with
    | zero =>
      simp only [List.getElem?_cons_zero, Option.some.injEq, Prod.mk.injEq] at ht
      obtain ⟨rfl, rfl, rfl, rfl⟩ := ht
      simp
    | succ t =>
      rw [List.getElem?_cons_succ] at ht
      by_cases hlt : t < (tr_J c i (dp_sp c i j h) (tr_hl c i j h) (dp + 1)).length
      · rw [List.getElem?_append_left hlt] at ht
        have := p1 t i' j' h' d' ht
        push_cast
        omega
      · rw [List.getElem?_append_right (by omega)] at ht
        have := p2 _ i' j' h' d' ht
        push_cast
        omega
/-- slot t of a tree's arrays holds a part -/
def tb_sl (v : ab_Ob) (t : Int) (e : Int × Int × Int × Int) : Prop := (v.2 3).2 t = e.1 ∧ (v.2 4).2 t = e.2.1 ∧ (v.2 6).2 t = e.2.2.1 ∧ (v.2 8).2 t = e.2.2.2
/-- slot t is divided -/
def tb_dn (c : Int → Int → Int → Int → Int) (v : ab_Ob) (t : Int) (e : Int × Int × Int × Int) : Prop := (v.2 5).2 t = dp_sp c e.1 e.2.1 e.2.2.1 ∧ (v.2 7).2 t = tr_un c e ∧ (v.2 9).2 (tr_un c e) = t
/-- an object that holds the best tree of a span -/
def tb_ok (v : ab_Ob) (c : Int → Int → Int → Int → Int) (i j : Int) : Prop := tb_len v ∧ v.1 0 = i ∧ v.1 1 = j ∧ v.1 2 = j - i ∧ (∀ (t : Nat) (e : Int × Int × Int × Int), (tr_J c i j (dp_H c i j) 0)[t]? = some e → tb_sl v t e ∧ tb_dn c v t e) ∧ (v.2 9).2 (dp_H c i j) = -1
theorem tb_op_rd (v : ab_Ob) (q a b h d : Int) : (tb_op v q a b h d).1 = v.1 ∧ (tb_op v q a b h d).2 5 = v.2 5 ∧ (tb_op v q a b h d).2 7 = v.2 7 ∧ (tb_op v q a b h d).2 9 = v.2 9 ∧ (∀ t, t ≠ q → ((tb_op v q a b h d).2 3).2 t = (v.2 3).2 t ∧ ((tb_op v q a b h d).2 4).2 t = (v.2 4).2 t ∧ ((tb_op v q a b h d).2 6).2 t = (v.2 6).2 t ∧ ((tb_op v q a b h d).2 8).2 t = (v.2 8).2 t) ∧ tb_sl (tb_op v q a b h d) q (a, b, h, d) := by
  refine ⟨rfl, rfl, rfl, rfl, fun t ht => ?_, ?_⟩
  · unfold tb_op
    simp [ab_pa, ab_ua, ab_ui, ht]
  · unfold tb_sl tb_op
    simp [ab_pa, ab_ua, ab_ui]
theorem tb_d2_rd (v : ab_Ob) (t i s hl d : Int) : (tb_d2 v t i s hl d).1 = v.1 ∧ (tb_d2 v t i s hl d).2 5 = v.2 5 ∧ (tb_d2 v t i s hl d).2 7 = v.2 7 ∧ (tb_d2 v t i s hl d).2 9 = v.2 9 ∧ (∀ q e, ¬ (i < s ∧ q = t + 1) → tb_sl v q e → tb_sl (tb_d2 v t i s hl d) q e) ∧ (i < s → tb_sl (tb_d2 v t i s hl d) (t + 1) (i, s, hl, d)) := by
  unfold tb_d2
  by_cases g : i < s
  · rw [if_pos g]
    obtain ⟨a1, a2, a3, a4, a5, a6⟩ := tb_op_rd v (t + 1) i s hl d
    refine ⟨a1, a2, a3, a4, fun q e hq hs => ?_, fun _ => a6⟩
    have := a5 q (fun h => hq ⟨g, h⟩)
    unfold tb_sl at hs ⊢
    rw [this.1, this.2.1, this.2.2.1, this.2.2.2]
    exact hs
  · rw [if_neg g]
    exact ⟨rfl, rfl, rfl, rfl, fun q e _ hs => hs, fun h => absurd h g⟩
theorem tb_d3_rd (v : ab_Ob) (t i j s hr d : Int) : (tb_d3 v t i j s hr d).1 = v.1 ∧ (tb_d3 v t i j s hr d).2 5 = v.2 5 ∧ (tb_d3 v t i j s hr d).2 7 = v.2 7 ∧ (tb_d3 v t i j s hr d).2 9 = v.2 9 ∧ (∀ q e, ¬ (s + 1 < j ∧ q = t + 1 + s - i) → tb_sl v q e → tb_sl (tb_d3 v t i j s hr d) q e) ∧ (s + 1 < j → tb_sl (tb_d3 v t i j s hr d) (t + 1 + s - i) (s + 1, j, hr, d)) := by
  unfold tb_d3
  by_cases g : s + 1 < j
  · rw [if_pos g]
    obtain ⟨a1, a2, a3, a4, a5, a6⟩ := tb_op_rd v (t + 1 + s - i) (s + 1) j hr d
    refine ⟨a1, a2, a3, a4, fun q e hq hs => ?_, fun _ => a6⟩
    have := a5 q (fun h => hq ⟨g, h⟩)
    unfold tb_sl at hs ⊢
    rw [this.1, this.2.1, this.2.2.1, this.2.2.2]
    exact hs
  · rw [if_neg g]
    exact ⟨rfl, rfl, rfl, rfl, fun q e _ hs => hs, fun h => absurd h g⟩
theorem c_build (d : Nat) (v w : ab_Ob) {c : Int → Int → Int → Int → Int} {n ev : Int} (hn : n ≤ 24) (hc : dp_cb c n) (hev : ∀ h u l r, c h u l r = c h u 1 1 + ev * sc_abs (l - r)) (he : 0 ≤ ev ∧ ev ≤ 99) (hw : ch_ok w c n ev) (hv : tb_len v) {i j : Int} (h0 : 0 ≤ i) (h1 : i ≤ j) (h2 : j < n) :
    ab_Ct (d + 6) 0 0 mX7_build [ab_O 0, ab_O 1, ab_I i, ab_I j] [v, w] (ab_V2 w (fun v' => tb_ok v' c i j)) := by
  have hH := dp_H_in (c := c) h1
  have cb := c_bestHead (d + 3) w hw.1.1 h0 h1 (by omega)
  rw [ch_best hw h0 h1 h2] at cb
  have tb_ok_eq : ∀ v', tb_ok v' c i j = (tb_len v' ∧ v'.1 0 = i ∧ v'.1 1 = j ∧ v'.1 2 = j - i ∧ (∀ (t : Nat) (e : Int × Int × Int × Int), (tr_J c i j (dp_H c i j) 0)[t]? = some e → tb_sl v' t e ∧ tb_dn c v' t e) ∧ (v'.2 9).2 (dp_H c i j) = -1) := fun _ => rfl
  simp only [tb_ok_eq]
  generalize dp_H c i j = top at *
  have len := tr_J_len c i j top 0 hH.1 hH.2
  have hok : ∀ (t : Nat) e, (tr_J c i j top 0)[t]? = some e → tr_ok i j 0 e ∧ e.1 < e.2.1 := fun t e h => tr_J_ok hH.1 hH.2 (List.mem_of_getElem? h)
  have hch := tr_J_ch c i j top 0 hH.1 hH.2
  have hup := tr_J_up c i j top 0 hH.1 hH.2
  have hun := tr_J_un c i j top 0 hH.1 hH.2
  have hfirst : i < j → (tr_J c i j top 0)[0]? = some (i, j, top, 0) := fun g => by rw [tr_J_s g]; rfl
  have hpos := tr_J_pos c i j top 0 hH.1 hH.2
  obtain ⟨n3, n4, n5, n6, n7, n8, n9⟩ := id hv
  refine ab_ct kX7_build rfl rfl (fun x hx => ?_)
  generalize hL : tr_J c i j top 0 = L at *
  have k53 : ∀ (q t : Nat) (v : ab_Ob), t + q = (j - i).toNat → tb_len v → v.1 0 = i → v.1 1 = j → v.1 2 = j - i → (v.2 9).2 top = -1 → (∀ (t' : Nat) e, L[t']? = some e → (t' = 0 ∨ ∃ t0, t0 < t ∧ tr_pa c L t0 t') → tb_sl v t' e) → (∀ (t' : Nat) e, t' < t → L[t']? = some e → tb_dn c v t' e) → ab_J x 53 [some (ab_O 0), some (ab_O 1), none, none, none, some (ab_I t)] [] [v, w] 0 0 := by
    intro q
    induction q with
    | zero =>
      intro t v ht lv e0 e1 e2 e9 hA hB
      refine vX7_build_53 hx _ v w 0 0 ⟨fun _ => ab_lv2 ⟨lv, e0, e1, e2, fun t' e he' => ?_, e9⟩, fun g => absurd (by omega) g⟩
      obtain ⟨wl, _⟩ := List.getElem?_eq_some_iff.mp he'
      refine ⟨hA t' e he' ?_, hB t' e (by omega) he'⟩
      by_cases g : t' = 0
      · exact Or.inl g
      · obtain ⟨t0, g1, g2⟩ := hup t' (by omega) wl
        exact Or.inr ⟨t0, by omega, g2⟩
    | succ q ih =>
      intro t v ht lv e0 e1 e2 e9 hA hB
      have tl : t < L.length := by omega
      have het : L[t]? = some L[t] := List.getElem?_eq_getElem tl
      generalize L[t] = e at het
      obtain ⟨i', j', h', d'⟩ := e
      have ok := hok t _ het
      unfold tr_ok at ok
      dsimp only at ok
      have sl : tb_sl v t (i', j', h', d') := hA t _ het (by
        by_cases g : t = 0
        · exact Or.inl g
        · obtain ⟨t0, g1, g2⟩ := hup t (by omega) tl
          exact Or.inr ⟨t0, g1, g2⟩)
      have ps := hpos t _ _ _ _ het
      have s1 := dp_sp_in (c := c) (h := h') ok.2
      refine vX7_build_53 hx _ v w 0 0 ⟨fun g => absurd g (by omega), fun _ => ab_xv2 (c_divide d v w hn hc hev he hw lv (i := i') (j := j') (h := h') (dp := d') (by omega) ok.2 (by omega) (by omega) (by omega) (by omega) (by omega) sl.1 sl.2.1 sl.2.2.1 sl.2.2.2 (by omega)) (fun v' hv' => ⟨by omega, ?_⟩)⟩
      obtain ⟨b1, b2, b3, b4, b5, b6⟩ := tb_d2_rd (tb_d1 v t (dp_sp c i' j' h') (dp_un c i' j' h')) t i' (dp_sp c i' j' h') (tr_hl c i' j' h') (d' + 1)
      obtain ⟨a1, a2, a3, a4, a5, a6⟩ := tb_d3_rd (tb_d2 (tb_d1 v t (dp_sp c i' j' h') (dp_un c i' j' h')) t i' (dp_sp c i' j' h') (tr_hl c i' j' h') (d' + 1)) t i' j' (dp_sp c i' j' h') (tr_hr c i' j' h') (d' + 1)
      rw [← hv'] at a1 a2 a3 a4 a5 a6
      have f1 : v'.1 = v.1 := a1.trans b1
      have f5 : (v'.2 5).2 = ab_ui (v.2 5).2 t (dp_sp c i' j' h') := by rw [a2, b2]; simp [tb_d1, ab_pa, ab_ua]
      have f7 : (v'.2 7).2 = ab_ui (v.2 7).2 t (dp_un c i' j' h') := by rw [a3, b3]; simp [tb_d1, ab_pa, ab_ua]
      have f9 : (v'.2 9).2 = ab_ui (v.2 9).2 (dp_un c i' j' h') t := by rw [a4, b4]; simp [tb_d1, ab_pa, ab_ua]
      have d1s : ∀ q e, tb_sl v q e → tb_sl (tb_d1 v t (dp_sp c i' j' h') (dp_un c i' j' h')) q e := fun q e h => by
        unfold tb_sl tb_d1 at *
        simp [ab_pa, ab_ua] at *
        exact h
      have eun : tr_un c (i', j', h', d') = dp_un c i' j' h' := rfl
      have unt := hun.1 _ (List.mem_of_getElem? het)
      rw [eun] at unt
      refine ih (t + 1) v' (by omega) ?_ (by rw [f1]; exact e0) (by rw [f1]; exact e1) (by rw [f1]; exact e2) ?_ (fun t' e he' hpa => ?_) (fun t' e ht' he' => ?_)
      · rw [hv']
        have l1 : tb_len (tb_d1 v t (dp_sp c i' j' h') (dp_un c i' j' h')) := by unfold tb_len tb_d1; simp only [hd_pa_len]; exact lv
        have l2 : tb_len (tb_d2 (tb_d1 v t (dp_sp c i' j' h') (dp_un c i' j' h')) t i' (dp_sp c i' j' h') (tr_hl c i' j' h') (d' + 1)) := by
          unfold tb_d2
          split
          · exact tb_op_len _ _ _ _ _ l1
          · exact l1
        unfold tb_d3
        split
        · exact tb_op_len _ _ _ _ _ l2
        · exact l2
      · rw [f9, hd_ui_ne (by omega)]; exact e9
      · have ch := hch t i' j' h' d' het
        by_cases gR : dp_sp c i' j' h' + 1 < j' ∧ (t' : Int) = t + 1 + dp_sp c i' j' h' - i'
        · have et : t' = t + 1 + (dp_sp c i' j' h' - i').toNat := by omega
          have := ch.2 gR.1
          rw [← et, he'] at this
          cases this
          rw [gR.2]
          exact a6 gR.1
        · refine a5 t' e gR ?_
          by_cases gL : i' < dp_sp c i' j' h' ∧ (t' : Int) = t + 1
          · have et : t' = t + 1 := by omega
            have := ch.1 gL.1
            rw [← et, he'] at this
            cases this
            rw [gL.2]
            exact b6 gL.1
          · refine b5 t' e gL (d1s _ _ (hA t' e he' ?_))
            rcases hpa with g | ⟨t0, g1, g2⟩
            · exact Or.inl g
            · by_cases gt : t0 = t
              · subst gt
                obtain ⟨x1, x2, x3, x4, y1, y2⟩ := g2
                rw [het] at y1
                cases y1
                exfalso
                rcases y2 with y2 | y2
                · exact gL ⟨y2.1, by omega⟩
                · exact gR ⟨y2.1, by omega⟩
              · exact Or.inr ⟨t0, by omega, g2⟩
      · unfold tb_dn
        rw [f5, f7, f9]
        by_cases gt : t' = t
        · subst gt
          rw [het] at he'
          cases he'
          exact ⟨by rw [hd_ui_eq], by rw [hd_ui_eq]; rfl, by rw [eun, hd_ui_eq]⟩
        · obtain ⟨z1, z2, z3⟩ := hB t' e (by omega) he'
          have ne : tr_un c e ≠ dp_un c i' j' h' := fun g => gt (hun.2.1 t' t e _ he' het g)
          exact ⟨by rw [hd_ui_ne (by omega)]; exact z1, by rw [hd_ui_ne (by omega)]; exact z2, by rw [hd_ui_ne ne]; exact z3⟩
  have len9 : tb_len (ab_pa (ab_pf (ab_pf (ab_pf v 0 i) 1 j) 2 (j - i)) 9 top (-1)) := by unfold tb_len; simp only [hd_pa_len]; exact hv
  have r9 : ((ab_pa (ab_pf (ab_pf (ab_pf v 0 i) 1 j) 2 (j - i)) 9 top (-1)).2 9).2 top = -1 := by simp [ab_pa, ab_ua, ab_ui]
  refine vX7_build_0 hx i j v w 0 0 ⟨by omega, ab_x1 cb ⟨by omega, fun g => ?_, fun g => ?_⟩⟩
  · exact k53 (j - i).toNat 0 _ (by omega) len9 (by simp [ab_pa, ab_pf, ab_up]) (by simp [ab_pa, ab_pf, ab_up]) (by simp [ab_pa, ab_pf, ab_up]) r9 (fun t' e he' => by
      obtain ⟨wl, _⟩ := List.getElem?_eq_some_iff.mp he'
      omega) (fun t' e ht' => absurd ht' (by omega))
  · refine ab_xv1 (c_open (d + 4) _ len9 (by omega) (by omega)) (fun v' hv' => ?_)
    obtain ⟨a1, a2, a3, a4, a5, a6⟩ := tb_op_rd (ab_pa (ab_pf (ab_pf (ab_pf v 0 i) 1 j) 2 (j - i)) 9 top (-1)) 0 i j top 0
    rw [← hv'] at a1 a2 a3 a4 a5 a6
    refine k53 (j - i).toNat 0 v' (by omega) (by rw [hv']; exact tb_op_len _ _ _ _ _ len9) (by rw [a1]; simp [ab_pa, ab_pf, ab_up]) (by rw [a1]; simp [ab_pa, ab_pf, ab_up]) (by rw [a1]; simp [ab_pa, ab_pf, ab_up]) (by rw [a4]; exact r9) (fun t' e he' hp => ?_) (fun t' e ht' => absurd ht' (by omega))
    rcases hp with g2 | ⟨t0, g2, _⟩
    · subst g2
      rw [hfirst (by omega)] at he'
      cases he'
      exact a6
    · omega
