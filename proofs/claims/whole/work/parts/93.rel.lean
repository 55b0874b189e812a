/-! CLASS AND REFERENCE, side by side -/
/-- the tape and what was read -/
def hM (rd m : ab_Ob) : Prop := (rd.2 1).1 = 700 ∧ (rd.2 5).1 = 6 ∧ m.1 17 = rd.1 0 ∧ (0 ≤ rd.1 0 ∧ rd.1 0 ≤ 700) ∧ (∀ q : Int, -128 ≤ (rd.2 1).2 q ∧ (rd.2 1).2 q ≤ 127) ∧ (m.2 16).2 = (rd.2 1).2 ∧ m.1 23 = rd.1 10
/-- the acts, and the rows before them -/
def ah (n : Int) (rows : Nat → Int → Int) : List (Int × Int × Int) → (Int → Int) → Prop
  | [], _ => True
  | e :: R, X => ev n e ∧ nb n (rows R.length) ∧ (∀ k, rl n k → rows R.length k = rc n e X k) ∧ ah n rows R (rows R.length)
def hrow (m : ab_Ob) : Nat → Int → Int := fun t k => (m.2 5).2 (55 * t + k)
def hL (b ac m : ab_Ob) : Prop := ∃ L, ac_ok ac L ∧ (m.1 14 = 0 → L = []) ∧ (¬ m.1 14 = 0 → m.1 9 = L.length ∧ ah (b.1 3) (hrow m) L.reverse (m.2 3).2)
def hKp (b x kp m : ab_Ob) : Prop := ∃ c', mk_S b m (¬ x.1 12 = 0) c' ∧ (¬ x.1 12 = 0 → 1 ≤ b.1 3 ∧ tb_ok kp c' 0 (b.1 3 - 1))
def hR (x rd dr b ac sp cn wh sw swc swt kp t1 t2 ly wi m : ab_Ob) : Prop := hB b ∧ hI b x sp cn wh sw swc swt t1 t2 ly wi ∧ tb_len kp ∧ sc_len dr ∧ mi_S b m ∧ mb_l m ∧ hM rd m ∧ (m.1 1 = x.1 0 ∧ m.1 2 = (if x.1 0 = 4 then rd.1 7 else -1)) ∧ hL b ac m ∧ hKp b x kp m
def hRw (ws : List ab_Ob) (m : ab_Ob) (mc ms k s : Nat) : Prop := ∃ x rd dr b ac sp cn wh sw swc swt kp t1 t2 ly wi, ws = [x, rd, dr, b, ac, sp, cn, wh, sw, swc, swt, kp, t1, t2, ly, wi] ∧ hR x rd dr b ac sp cn wh sw swc swt kp t1 t2 ly wi m ∧ mc + hk sp cn sw swc ≤ k ∧ ms + hs sp cn sw swc ≤ s
/-- a call of both: the answers are the same, and what holds goes on holding -/
def sim (tag : Int → ab_V) (d8 d9 : Nat) (M8 M9 : ab_M) (as : List ab_V) (x rd dr b ac sp cn wh sw swc swt kp t1 t2 ly wi m : ab_Ob) : Prop := ∃ mc ms, (mc ≤ hk sp cn sw swc ∧ ms ≤ hs sp cn sw swc) ∧ ∃ Q8 : Option ab_V → List ab_Ob → Prop, ab_Ct d8 mc ms M8 (ab_O 0 :: as) [x, rd, dr, b, ac, sp, cn, wh, sw, swc, swt, kp, t1, t2, ly, wi] Q8 ∧ ∀ r ws, Q8 (some (tag r)) ws → ∃ Q9 : Option ab_V → List ab_Ob → Prop, ab_Ct d9 0 0 M9 (ab_O 0 :: as) [m] Q9 ∧ ∀ r' w', Q9 (some (tag r')) w' → r' = r ∧ ∃ m', w' = [m'] ∧ hRw ws m' mc ms (hk sp cn sw swc) (hs sp cn sw swc)
/-- what questions leave of the reference -/
def sm (m v : ab_Ob) : Prop := (∀ f, f = 9 ∨ f = 14 ∨ f = 15 ∨ f = 17 ∨ f = 23 ∨ f = 51 → v.1 f = m.1 f) ∧ (∀ f, f = 3 ∨ f = 5 ∨ f = 16 ∨ (45 ≤ f ∧ f ≤ 50) → v.2 f = m.2 f) ∧ ∀ f, (v.2 f).1 = (m.2 f).1
theorem sm_an (m : ab_Ob) (t : Int) : sm m (md_an m t) := ⟨fun f hf => by
  unfold md_an
  rw [hd_pf_ne (by omega), hd_pf_ne (by omega), hd_pf_ne (by omega)], fun f _ => rfl, fun f => rfl⟩
theorem sm_af {b m v : ab_Ob} {t : Int} (h : md_af b m v t) : sm m v := ⟨fun f hf => h.1.1 f (by omega) (by omega) (by omega) (by omega) (by omega), fun f hf => h.1.2.1 f (by omega), h.1.2.2⟩
theorem md_K_sm {m v : ab_Ob} {c : Int → Int → Int → Int → Int} {n : Int} (e51 : v.1 51 = m.1 51) (e : ∀ f, 45 ≤ f ∧ f ≤ 50 → v.2 f = m.2 f) (h : md_K m c n) : md_K v c n := by
  unfold md_K kv_e at *
  rw [e51, e 45 (by omega), e 46 (by omega), e 47 (by omega), e 48 (by omega), e 49 (by omega), e 50 (by omega)]
  exact h
theorem mk_S_sm {b m v : ab_Ob} {K : Prop} {c : Int → Int → Int → Int → Int} (s : sm m v) (h : mk_S b m K c) : mk_S b v K c := by
  obtain ⟨s1, s2, s3⟩ := s
  unfold mk_S
  rw [s1 14 (by omega), s1 15 (by omega)]
  rcases h with h | ⟨h1, h2, h3, h4⟩
  · exact Or.inl h
  · refine Or.inr ⟨h1, h2, ?_, md_K_sm (s1 51 (by omega)) (fun f hf => s2 f (by omega)) h4⟩
    unfold md_kl
    simp only [s3]
    exact h3
theorem hM_sm {rd m v : ab_Ob} (s : sm m v) (h : hM rd m) : hM rd v := by
  obtain ⟨s1, s2, s3⟩ := s
  unfold hM
  rw [s1 17 (by omega), s1 23 (by omega), s2 16 (by omega)]
  exact h
theorem hL_sm {b ac m v : ab_Ob} (s : sm m v) (h : hL b ac m) : hL b ac v := by
  obtain ⟨s1, s2, s3⟩ := s
  unfold hL hrow
  rw [s1 14 (by omega), s1 9 (by omega), s2 3 (by omega), s2 5 (by omega)]
  exact h
theorem hR_sm {x rd dr b ac sp cn wh sw swc swt kp t1 t2 ly wi m v : ab_Ob} (h : hR x rd dr b ac sp cn wh sw swc swt kp t1 t2 ly wi m) (s : sm m v) (hi : mi_S b v) {t : Int} (v1 : v.1 1 = t) (v2 : v.1 2 = -1) (t4 : t ≠ 4) {mc ms k s' : Nat} {ws : List ab_Ob} (q : hQ x rd dr b ac kp t mc ms k s' ws) : hRw ws v mc ms k s' := by
  obtain ⟨h1, h2, h3, h4, h5, h6, h7, h8, h9, h10⟩ := h
  obtain ⟨x', sp', cn', wh', sw', swc', swt', t1', t2', ly', wi', e, q1, q2, q3, q4, q5⟩ := q
  refine ⟨x', rd, dr, b, ac, sp', cn', wh', sw', swc', swt', kp, t1', t2', ly', wi', e, ⟨h1, q1, h3, h4, hi, mb_l_of s.2.2 h6, hM_sm s h7, ⟨by rw [v1, q2], by rw [v2, q2, if_neg t4]⟩, hL_sm s h9, ?_⟩, q4, q5⟩
  obtain ⟨c', k1, k2⟩ := h10
  unfold hKp
  rw [q3]
  exact ⟨c', mk_S_sm s k1, k2⟩
theorem sim_q {d8 d9 : Nat} {M8 M9 : ab_M} {as : List ab_V} {P : Int × Int → Prop} {x rd dr b ac sp cn wh sw swc swt kp t1 t2 ly wi m : ab_Ob} (h : hR x rd dr b ac sp cn wh sw swc swt kp t1 t2 ly wi m) (h8 : hE d8 M8 (ab_O 0 :: as) P x rd dr b ac sp cn wh sw swc swt kp t1 t2 ly wi) (h9 : ∀ RT, P RT → ab_Ct d9 0 0 M9 (ab_O 0 :: as) [m] (ab_Is RT.1 [md_an m RT.2])) (ht : ∀ RT, P RT → RT.2 ≠ 4) : sim ab_I d8 d9 M8 M9 as x rd dr b ac sp cn wh sw swc swt kp t1 t2 ly wi m := by
  obtain ⟨mc, ms, cb, c8⟩ := h8
  refine ⟨mc, ms, cb, _, c8, fun r ws hq => ?_⟩
  obtain ⟨RT, p, er, q⟩ := hq
  cases er
  refine ⟨_, h9 RT p, fun r' w' hw => ?_⟩
  obtain ⟨e1, e2⟩ := hw
  cases e1
  exact ⟨rfl, _, e2, hR_sm h (sm_an m RT.2) (mi_S_an h.2.2.2.2.1 _) rfl rfl (ht RT p) q⟩
theorem sim_ql {d8 d9 : Nat} {M8 M9 : ab_M} {as : List ab_V} {P : Int × Int → Prop} {x rd dr b ac sp cn wh sw swc swt kp t1 t2 ly wi m : ab_Ob} (h : hR x rd dr b ac sp cn wh sw swc swt kp t1 t2 ly wi m) (h8 : hEL d8 M8 (ab_O 0 :: as) P x rd dr b ac sp cn wh sw swc swt kp t1 t2 ly wi) (h9 : ∀ RT, P RT → ab_Ct d9 0 0 M9 (ab_O 0 :: as) [m] (ab_IsL RT.1 [md_an m RT.2])) (ht : ∀ RT, P RT → RT.2 ≠ 4) : sim ab_L d8 d9 M8 M9 as x rd dr b ac sp cn wh sw swc swt kp t1 t2 ly wi m := by
  obtain ⟨mc, ms, cb, c8⟩ := h8
  refine ⟨mc, ms, cb, _, c8, fun r ws hq => ?_⟩
  obtain ⟨RT, p, er, q⟩ := hq
  cases er
  refine ⟨_, h9 RT p, fun r' w' hw => ?_⟩
  obtain ⟨e1, e2⟩ := hw
  cases e1
  exact ⟨rfl, _, e2, hR_sm h (sm_an m RT.2) (mi_S_an h.2.2.2.2.1 _) rfl rfl (ht RT p) q⟩
theorem sim_f {d8 d9 : Nat} {M8 M9 : ab_M} {as : List ab_V} {P : Int × Int → Prop} {x rd dr b ac sp cn wh sw swc swt kp t1 t2 ly wi m : ab_Ob} (h : hR x rd dr b ac sp cn wh sw swc swt kp t1 t2 ly wi m) (h8 : hE d8 M8 (ab_O 0 :: as) P x rd dr b ac sp cn wh sw swc swt kp t1 t2 ly wi) (h9 : ∀ RT, P RT → ab_Ct d9 0 0 M9 (ab_O 0 :: as) [m] (ab_Af b m RT)) (ht : ∀ RT, P RT → RT.2 ≠ 4) : sim ab_I d8 d9 M8 M9 as x rd dr b ac sp cn wh sw swc swt kp t1 t2 ly wi m := by
  obtain ⟨mc, ms, cb, c8⟩ := h8
  refine ⟨mc, ms, cb, _, c8, fun r ws hq => ?_⟩
  obtain ⟨RT, p, er, q⟩ := hq
  cases er
  refine ⟨_, h9 RT p, fun r' w' hw => ?_⟩
  obtain ⟨e1, v, e2, hv⟩ := hw
  cases e1
  exact ⟨rfl, v, e2, hR_sm h (sm_af hv) hv.2.1 hv.2.2.2.1 hv.2.2.2.2 (ht RT p) q⟩
