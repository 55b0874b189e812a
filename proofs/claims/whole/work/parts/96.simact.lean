theorem mk_S_b {b b' m v : ab_Ob} {K : Prop} {c : Int → Int → Int → Int → Int} (e3 : b'.1 3 = b.1 3) (e14 : v.1 14 = m.1 14) (e15 : v.1 15 = m.1 15) (e51 : v.1 51 = m.1 51) (e : ∀ f, 45 ≤ f ∧ f ≤ 50 → v.2 f = m.2 f) (h : mk_S b m K c) : mk_S b' v K c := by
  unfold mk_S
  rw [e14, e15, e3]
  rcases h with h | ⟨h1, h2, h3, h4⟩
  · exact Or.inl h
  · refine Or.inr ⟨h1, h2, ?_, md_K_sm e51 e h4⟩
    unfold md_kl
    rw [e 45 (by omega), e 46 (by omega), e 47 (by omega), e 48 (by omega), e 49 (by omega), e 50 (by omega)]
    exact h3
theorem hR_act {x rd dr b ac sp cn wh sw swc swt kp t1 t2 ly wi m z b' : ab_Ob} (h : hR x rd dr b ac sp cn wh sw swc swt kp t1 t2 ly wi m) (i1 : ¬ m.1 14 = 0) {L : List (Int × Int × Int)} (h9 : m.1 9 = L.length) (h10 : L.length ≤ 10) (ha : ah (b.1 3) (hrow m) L.reverse (m.2 3).2) {e : Int × Int × Int} (he : ev (b.1 3) e) {Y : Int → Int} (hY : ∀ k, rl (b.1 3) k → (m.2 3).2 k = rc (b.1 3) e Y k) {ac' : ab_Ob} (hac : ac_ok ac' (ac_push L e)) (hC' : hC b b' Y) (hz : ax_ok b' m z) {x' sp' cn' wh' sw' swc' swt' t1' t2' ly' wi' : ab_Ob} (hI' : hI b' x' sp' cn' wh' sw' swc' swt' t1' t2' ly' wi') (x0 : x'.1 0 = 0) (x12 : x'.1 12 = x.1 12) : hR x' rd dr b' ac' sp' cn' wh' sw' swc' swt' kp t1' t2' ly' wi' z := by
  obtain ⟨h1, h2, h3, h4, h5, h6, h7, h8, _, h11⟩ := h
  obtain ⟨⟨f1, f2, f3⟩, rp, mi, z0, z1, z2⟩ := hz
  have hp : md_p b m := by
    rcases h5 with ⟨y, _⟩ | y
    · exact absurd y i1
    · exact y.2.2.2.2.1
  have hn := h1.1.2.1
  have e3 := hC'.2.1
  have nbm := nb_of h1.1 (md_p_x.mp hp).2
  have pu := ah_push hn.2 h9 h10 rp ha he nbm hY
  have xz : md_x b' (z.2 3).2 := (md_p_x.mp mi.2.2.2.2.1).2
  have zY := md_x_eq xz hC'.2.2.2.2
  rw [e3] at zY
  have e14 : z.1 14 = m.1 14 := f1 14 (by decide) (by decide) (by decide) (by decide) (by decide) (by decide)
  refine ⟨hC'.1, hI', h3, h4, Or.inr mi, mb_l_of f3 h6, ?_, ⟨by rw [z1, x0], by rw [z2, x0]; rfl⟩, ⟨_, hac, fun y => absurd (e14.symm.trans y) i1, fun _ => ⟨pu.1, ?_⟩⟩, ?_⟩
  · unfold hM
    rw [f1 17 (by decide) (by decide) (by decide) (by decide) (by decide) (by decide), f1 23 (by decide) (by decide) (by decide) (by decide) (by decide) (by decide), f2 16 (by decide) (by decide) (by decide)]
    exact h7
  · rw [e3]
    exact ah_congr (fun _ _ _ _ => rfl) zY pu.2
  · obtain ⟨c', k1, k2⟩ := h11
    unfold hKp
    rw [x12, e3]
    exact ⟨c', mk_S_b e3 e14 (f1 15 (by decide) (by decide) (by decide) (by decide) (by decide) (by decide)) (f1 51 (by decide) (by decide) (by decide) (by decide) (by decide) (by decide)) (fun f hf => f2 f (by omega) (by omega) (by omega)) k1, k2⟩
/-- a refusal of both -/
theorem sim_0 {d8 d9 : Nat} {M8 M9 : ab_M} {as : List ab_V} {x rd dr b ac sp cn wh sw swc swt kp t1 t2 ly wi m : ab_Ob} {t : Int} (h : hR x rd dr b ac sp cn wh sw swc swt kp t1 t2 ly wi m) (h8 : hE0 d8 M8 (ab_O 0 :: as) t x rd dr b ac sp cn wh sw swc swt kp t1 t2 ly wi) (h9 : ab_Ct d9 0 0 M9 (ab_O 0 :: as) [m] (ab_Is (-1) [md_an m t])) (ht : t ≠ 4) : sim ab_I d8 d9 M8 M9 as x rd dr b ac sp cn wh sw swc swt kp t1 t2 ly wi m := by
  refine sim_q h ⟨0, 0, hkb0, h8⟩ (fun RT e => ?_) (fun RT e => ?_)
  · rw [e]; exact h9
  · rw [e]; exact ht
/-- an act of both -/
theorem sim_a {d8 d9 mc ms : Nat} {M8 M9 : ab_M} {as : List ab_V} {x rd dr b ac sp cn wh sw swc swt kp t1 t2 ly wi m : ab_Ob} {L : List (Int × Int × Int)} {e : Int × Int × Int} {Y : Int → Int} {F : ab_Ob → Int} (h : hR x rd dr b ac sp cn wh sw swc swt kp t1 t2 ly wi m) (cb : mc ≤ hk sp cn sw swc ∧ ms ≤ hs sp cn sw swc) (i1 : ¬ m.1 14 = 0) (h9 : m.1 9 = L.length) (h10 : L.length ≤ 10) (ha : ah (b.1 3) (hrow m) L.reverse (m.2 3).2) (he : ev (b.1 3) e) (hY : ∀ k, rl (b.1 3) k → (m.2 3).2 k = rc (b.1 3) e Y k)
    {Q8 : Option ab_V → List ab_Ob → Prop} (c8 : ab_Ct d8 mc ms M8 (ab_O 0 :: as) [x, rd, dr, b, ac, sp, cn, wh, sw, swc, swt, kp, t1, t2, ly, wi] Q8) (q8 : ∀ rv w, Q8 rv w → hAw x rd dr b kp (ac_push L e) Y (fun b' => rv = some (ab_I (F b'))) mc ms (hk sp cn sw swc) (hs sp cn sw swc) w)
    (c9 : ∀ b', hC b b' Y → ab_Ct d9 0 0 M9 (ab_O 0 :: as) [m] (ab_Ax b' m (F b'))) : sim ab_I d8 d9 M8 M9 as x rd dr b ac sp cn wh sw swc swt kp t1 t2 ly wi m := by
  refine ⟨mc, ms, cb, _, c8, fun r ws hq => ?_⟩
  obtain ⟨b', ac', x', sp', cn', wh', sw', swc', swt', t1', t2', ly', wi', e1, hC', er, hac, hI', x0, x12, k1, k2⟩ := q8 _ _ hq
  cases er
  refine ⟨_, c9 b' hC', fun r' w' hw => ?_⟩
  obtain ⟨e2, z, e3, hz⟩ := hw
  cases e2
  exact ⟨rfl, z, e3, _, _, _, _, _, _, _, _, _, _, _, _, _, _, _, _, e1, hR_act h i1 h9 h10 ha he hY hac hC' hz hI' x0 x12, k1, k2⟩
theorem hL_get {b ac m : ab_Ob} (h : hL b ac m) (i1 : ¬ m.1 14 = 0) : ∃ L, ac_ok ac L ∧ m.1 9 = L.length ∧ L.length ≤ 10 ∧ ah (b.1 3) (hrow m) L.reverse (m.2 3).2 := by
  obtain ⟨L, a1, a2, a3⟩ := h
  exact ⟨L, a1, (a3 i1).1, a1.2.2.1, (a3 i1).2⟩
theorem hAw_F {w0 rd dr b kp : ab_Ob} {L : List (Int × Int × Int)} {Y : Int → Int} {mc ms k s : Nat} {rv : Option ab_V} {R : Int} {ws : List ab_Ob} (h : rv = some (ab_I R) ∧ hAw w0 rd dr b kp L Y (fun _ => True) mc ms k s ws) : hAw w0 rd dr b kp L Y (fun _ => rv = some (ab_I R)) mc ms k s ws := by
  obtain ⟨h0, b', ac', x', sp', cn', wh', sw', swc', swt', t1', t2', ly', wi', e1, hC', er, hac⟩ := h
  exact ⟨b', ac', x', sp', cn', wh', sw', swc', swt', t1', t2', ly', wi', e1, hC', h0, hac⟩
