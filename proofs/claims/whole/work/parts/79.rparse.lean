/-! THE REFERENCE: the text of a piece -/
def rt_st (m : ab_Ob) (T : Int → Int) (n a : Int) : Prop := rt_l m ∧ (m.2 16).2 = T ∧ m.1 18 = n ∧ (∀ q : Int, -128 ≤ T q ∧ T q ≤ 127) ∧ (0 ≤ a ∧ a ≤ n) ∧ m.1 23 = 0 ∧ rt_at m T n a
def rt_bd (m : ab_Ob) (r a : Int) : Prop := m.1 23 = r ∧ m.1 21 = a ∧ m.1 20 = 0
/-- standing at a token, or at a fault -/
def rt_G (m : ab_Ob) (T : Int → Int) (n : Int) (R : Int × Int) : Prop := (R.1 = 0 ∧ rt_st m T n R.2) ∨ (1 ≤ R.1 ∧ rt_bd m R.1 R.2)
theorem c9_flaw (d : Nat) (m : ab_Ob) (r : Int) : ab_Ct (d + 1) 0 0 mX9_flaw [ab_O 0, ab_I r] [m] (ab_V1 (fun v => v = if m.1 23 = 0 then ab_pf (ab_pf m 23 r) 20 0 else ab_pf m 20 0)) :=
  ab_ct kX9_flaw rfl rfl (fun x hx => vX9_flaw_0 hx r m 0 0 ⟨fun g => ab_lv1 (by rw [if_neg g]), fun g => ab_lv1 (by rw [if_pos g])⟩)
/-- a fault is told where there is none yet -/
def fr_f (r : Int) (R : Int × Int) : Int × Int := if R.1 = 0 then (r, R.2) else R
theorem rt_flaw {m v : ab_Ob} {T : Int → Int} {n r : Int} {R : Int × Int} (h : rt_G m T n R) (hr : 1 ≤ r) (hv : v = if m.1 23 = 0 then ab_pf (ab_pf m 23 r) 20 0 else ab_pf m 20 0) : rt_f m v ∧ rt_G v T n (fr_f r R) ∧ 1 ≤ (fr_f r R).1 := by
  rcases h with ⟨h0, hs⟩ | ⟨h1, b1, b2, b3⟩
  · have f0 := hs.2.2.2.2.2.1
    rw [if_pos f0] at hv
    subst hv
    unfold fr_f
    rw [if_pos h0]
    refine ⟨⟨fun f f19 f20 f21 f22 f23 f24 => by rw [hd_pf_ne f20, hd_pf_ne f23], rfl⟩, Or.inr ⟨hr, rfl, ?_, rfl⟩, hr⟩
    show m.1 21 = _
    exact hs.2.2.2.2.2.2.1
  · rw [if_neg (by omega)] at hv
    subst hv
    unfold fr_f
    rw [if_neg (by omega)]
    exact ⟨⟨fun f f19 f20 f21 f22 f23 f24 => hd_pf_ne f20, rfl⟩, Or.inr ⟨h1, b1, b2, rfl⟩, h1⟩
theorem c9_nx (d : Nat) {m : ab_Ob} {T : Int → Int} {n p : Int} (hl : rt_l m) (e1 : (m.2 16).2 = T) (e2 : m.1 18 = n) (hT : ∀ q : Int, -128 ≤ T q ∧ T q ≤ 127) (h23 : m.1 23 = 0) (hp : m.1 19 = p) (p0 : 0 ≤ p) (p1 : p ≤ n) : ab_Ct (d + 3) 0 0 mX9_next [ab_O 0] [m] (ab_V1 (fun v => rt_f m v ∧ rt_st v T n (lx_sk T lx_sp n p))) := by
  have n7 := hl.2.2
  refine ab_ct kX9_next rfl rfl (fun x hx => ?_)
  have sb := lx_sk_b (T := T) (P := lx_sp) p1
  have key : ∀ (q : Nat) (u : ab_Ob), u.1 19 + q = n → p ≤ u.1 19 → (∀ f, f ≠ 19 → u.1 f = m.1 f) → u.2 = m.2 → lx_sk T lx_sp n (u.1 19) = lx_sk T lx_sp n p → ab_J x 8 [some (ab_O 0), none] [] [u] 0 0 := by
    intro q
    have tok : ∀ (u : ab_Ob), p ≤ u.1 19 → u.1 19 ≤ n → (∀ f, f ≠ 19 → u.1 f = m.1 f) → u.2 = m.2 → lx_sk T lx_sp n p = u.1 19 → ∃ Q3 : Option ab_V → List ab_Ob → Prop, ab_Ct (d + 2) 0 0 mX9_byteAt [ab_O 0, ab_I (u.1 19)] [(ab_pf u 21 (u.1 19))] Q3 ∧ (∀ r4 : Int, Q3 (some (ab_I r4)) [(ab_pf u 21 (u.1 19))] → ((¬ r4 = (-1) → (∃ Q5 : Option ab_V → List ab_Ob → Prop, ab_Ct (d + 2) 0 0 mX9_in [ab_I r4, ab_I 97, ab_I 122] [] Q5 ∧ (∀ r6 : Int, Q5 (some (ab_I r6)) [] → ((r6 = 0 → (∃ Q7 : Option ab_V → List ab_Ob → Prop, ab_Ct (d + 2) 0 0 mX9_in [ab_I r4, ab_I 48, ab_I 57] [] Q7 ∧ (∀ r8 : Int, Q7 (some (ab_I r8)) [] → ((r8 = 0 → ((¬ r4 = 59 → ((-2147483648 ≤ (u.1 19) + 1 ∧ (u.1 19) + 1 ≤ 2147483647) ∧ (((none : Option ab_V) = none ∧ ab_shw [true] [m] [(ab_pf (ab_pf (ab_pf u 21 (u.1 19)) 20 0) 19 ((u.1 19) + 1))]) ∧ ab_V1 (fun v => rt_f m v ∧ rt_st v T n (lx_sk T lx_sp n p)) none [(ab_pf (ab_pf (ab_pf u 21 (u.1 19)) 20 0) 19 ((u.1 19) + 1))]))) ∧ (r4 = 59 → ((-2147483648 ≤ (u.1 19) + 1 ∧ (u.1 19) + 1 ≤ 2147483647) ∧ (((none : Option ab_V) = none ∧ ab_shw [true] [m] [(ab_pf (ab_pf (ab_pf u 21 (u.1 19)) 20 4) 19 ((u.1 19) + 1))]) ∧ ab_V1 (fun v => rt_f m v ∧ rt_st v T n (lx_sk T lx_sp n p)) none [(ab_pf (ab_pf (ab_pf u 21 (u.1 19)) 20 4) 19 ((u.1 19) + 1))]))))) ∧ (¬ r8 = 0 → (∃ Q9 : Option ab_V → List ab_Ob → Prop, ab_Ct (d + 2) 0 0 mX9_nextWhole [ab_O 0] [(ab_pf u 21 (u.1 19))] Q9 ∧ (∀ v10 : ab_Ob, Q9 none [v10] → (((none : Option ab_V) = none ∧ ab_shw [true] [m] [v10]) ∧ ab_V1 (fun v => rt_f m v ∧ rt_st v T n (lx_sk T lx_sp n p)) none [v10]))))))) ) ∧ (¬ r6 = 0 → (∃ Q11 : Option ab_V → List ab_Ob → Prop, ab_Ct (d + 2) 0 0 mX9_nextWord [ab_O 0] [(ab_pf u 21 (u.1 19))] Q11 ∧ (∀ v12 : ab_Ob, Q11 none [v12] → (((none : Option ab_V) = none ∧ ab_shw [true] [m] [v12]) ∧ ab_V1 (fun v => rt_f m v ∧ rt_st v T n (lx_sk T lx_sp n p)) none [v12]))))))) ) ∧ (r4 = (-1) → (((none : Option ab_V) = none ∧ ab_shw [true] [m] [(ab_pf (ab_pf u 21 (u.1 19)) 20 1)]) ∧ ab_V1 (fun v => rt_f m v ∧ rt_st v T n (lx_sk T lx_sp n p)) none [(ab_pf (ab_pf u 21 (u.1 19)) 20 1)])))) := by
      intro u h8 h9 u1 u2 eA
      have e18 : u.1 18 = n := by rw [u1 18 (by decide)]; exact e2
      have e23 : u.1 23 = 0 := by rw [u1 23 (by decide)]; exact h23
      have xl : rt_l (ab_pf u 21 (u.1 19)) := ⟨by rw [hd_pf_2, u2]; exact hl.1, by rw [hd_pf_2, u2]; exact hl.2.1, by show 0 ≤ u.1 18; omega, by show u.1 18 ≤ 700; omega⟩
      have x16 : ((ab_pf u 21 (u.1 19)).2 16).2 = T := by rw [hd_pf_2, u2]; exact e1
      have x18 : (ab_pf u 21 (u.1 19)).1 18 = n := e18
      have cb := c9_byteAt (d + 1) (m := ab_pf u 21 (u.1 19)) xl x16 x18 hT (k := u.1 19) (by omega)
      rw [eA]
      have tb := hT (u.1 19)
      have frame : ∀ v : ab_Ob, (∀ f, f ≠ 19 → f ≠ 20 → f ≠ 21 → f ≠ 22 → f ≠ 24 → v.1 f = u.1 f) → v.2 = u.2 → rt_f m v ∧ rt_l v ∧ (v.2 16).2 = T ∧ v.1 18 = n ∧ v.1 23 = 0 := fun v v1 v2 => by
        have f : rt_f m v := ⟨fun f f19 f20 f21 f22 f23 f24 => by rw [v1 f f19 f20 f21 f22 f24]; exact u1 f f19, by rw [v2]; exact u2⟩
        exact ⟨f, rt_f_l f hl, by rw [f.2]; exact e1, by rw [v1 18 (by decide) (by decide) (by decide) (by decide) (by decide)]; exact e18, by rw [v1 23 (by decide) (by decide) (by decide) (by decide) (by decide)]; exact e23⟩
      refine ab_x1 cb ⟨fun g => ab_xb (c9_in (d + 1) _ 97 122) (fun p1 => ⟨fun g => absurd g (by decide), fun _ => ?_⟩) (fun p1 => ⟨fun _ => ab_xb (c9_in (d + 1) _ 48 57) (fun p2 => ⟨fun g => absurd g (by decide), fun _ => ?_⟩) (fun p2 => ⟨fun _ => ?_, fun g => absurd rfl g⟩), fun g => absurd rfl g⟩), fun g => ?_⟩
      · obtain ⟨lt, le⟩ := (rt_b_le hT).mp p1
        have cw := c9_nextWord d (m := ab_pf u 21 (u.1 19)) xl x16 x18 hT ⟨by show 0 ≤ u.1 19; omega, rfl, by show u.1 19 ≤ n; omega⟩
        refine ab_xv1 cw (fun v hv => ab_lv1 ?_)
        obtain ⟨vf, v21, v23, v19, v20, v24⟩ := hv
        have a21 : (ab_pf u 21 (u.1 19)).1 21 = u.1 19 := rfl
        rw [a21] at v21 v19 v20 v24
        have eE : lx_e T n (u.1 19) = lx_sk T lx_le n (u.1 19) := by
          unfold lx_e
          rw [if_neg (by omega), if_pos le]
        have eK : lx_k T n (u.1 19) = if lx_sk T lx_le n (u.1 19) - u.1 19 ≤ 6 then 2 else 0 := by
          unfold lx_k
          rw [if_neg (by omega), if_pos le, eE]
        have f : rt_f m v := ⟨fun f f19 f20 f21 f22 f23 f24 => by rw [vf.1 f f19 f20 f21 f22 f23 f24, hd_pf_ne f21]; exact u1 f f19, by rw [vf.2]; exact u2⟩
        refine ⟨f, rt_f_l f hl, by rw [f.2]; exact e1, by rw [f.1 18 (by decide) (by decide) (by decide) (by decide) (by decide) (by decide)]; exact e2, hT, by omega, by rw [v23]; exact e23, v21, by rw [eE]; exact v19, by rw [eK]; exact v20, fun k3 => ?_, fun k2 => ?_⟩
        · rw [eK] at k3
          split at k3 <;> omega
        · rw [eK] at k2
          rw [eE]
          refine v24 ?_
          split at k2 <;> omega
      · obtain ⟨lt, di⟩ := (rt_b_di hT).mp p2
        have nle : ¬ lx_le (T (u.1 19)) = true := fun y => p1 ((rt_b_le hT).mpr ⟨lt, y⟩)
        have cw := c9_nextWhole d (m := ab_pf u 21 (u.1 19)) xl x16 x18 hT ⟨by show 0 ≤ u.1 19; omega, rfl, by show u.1 19 ≤ n; omega⟩
        refine ab_xv1 cw (fun v hv => ab_lv1 ?_)
        obtain ⟨vf, v21, v23, v19, v20, w1, w2⟩ := hv
        have a21 : (ab_pf u 21 (u.1 19)).1 21 = u.1 19 := rfl
        rw [a21] at v21 v19 v20 w1 w2
        have eE : lx_e T n (u.1 19) = lx_sk T lx_di n (u.1 19) := by
          unfold lx_e
          rw [if_neg (by omega), if_neg nle, if_pos di]
        have eK : lx_k T n (u.1 19) = if lx_sk T lx_di n (u.1 19) - u.1 19 ≤ 2 then 3 else 0 := by
          unfold lx_k
          rw [if_neg (by omega), if_neg nle, if_pos di, eE]
        have eb := lx_e_b (T := T) (n := n) (a := u.1 19) (by omega)
        have f : rt_f m v := ⟨fun f f19 f20 f21 f22 f23 f24 => by rw [vf.1 f f19 f20 f21 f22 f23 f24, hd_pf_ne f21]; exact u1 f f19, by rw [vf.2]; exact u2⟩
        refine ⟨f, rt_f_l f hl, by rw [f.2]; exact e1, by rw [f.1 18 (by decide) (by decide) (by decide) (by decide) (by decide) (by decide)]; exact e2, hT, by omega, by rw [v23]; exact e23, v21, by rw [eE]; exact v19, by rw [eK]; exact v20, fun k3 => ?_, fun k2 => ?_⟩
        · rw [eK] at k3
          unfold lx_n
          rw [eE] at eb ⊢
          by_cases g : lx_sk T lx_di n (u.1 19) - u.1 19 = 1
          · rw [if_pos g]; exact w1 (by omega)
          · rw [if_neg g]
            refine w2 ?_
            split at k3 <;> omega
        · rw [eK] at k2
          split at k2 <;> omega
      · have lt : u.1 19 < n := by
          rcases Int.lt_or_le (u.1 19) n with y | y
          · exact y
          · exact absurd (if_pos y) g
        have nle : ¬ lx_le (T (u.1 19)) = true := fun y => p1 ((rt_b_le hT).mpr ⟨lt, y⟩)
        have ndi : ¬ lx_di (T (u.1 19)) = true := fun y => p2 ((rt_b_di hT).mpr ⟨lt, y⟩)
        have eE : lx_e T n (u.1 19) = u.1 19 + 1 := by
          unfold lx_e
          rw [if_neg (by omega), if_neg nle, if_neg ndi]
        have eK : lx_k T n (u.1 19) = if T (u.1 19) = 59 then 4 else 0 := by
          unfold lx_k
          rw [if_neg (by omega), if_neg nle, if_neg ndi]
        have e59 : rt_b T n (u.1 19) = 59 ↔ T (u.1 19) = 59 := by
          unfold rt_b
          rw [if_neg (by omega)]
          split <;> omega
        refine ⟨fun y => ⟨by omega, ab_lv1 ?_⟩, fun y => ⟨by omega, ab_lv1 ?_⟩⟩
        · obtain ⟨f1, f2, f3, f4, f5⟩ := frame (ab_pf (ab_pf (ab_pf u 21 (u.1 19)) 20 0) 19 (u.1 19 + 1)) (fun f f19 f20 f21 f22 f24 => by rw [hd_pf_ne f19, hd_pf_ne f20, hd_pf_ne f21]) rfl
          have ek : lx_k T n (u.1 19) = 0 := by rw [eK, if_neg (fun z => y (e59.mpr z))]
          exact ⟨f1, f2, f3, f4, hT, by omega, f5, rfl, by rw [eE]; rfl, by rw [ek]; rfl, fun k => by omega, fun k => by omega⟩
        · obtain ⟨f1, f2, f3, f4, f5⟩ := frame (ab_pf (ab_pf (ab_pf u 21 (u.1 19)) 20 4) 19 (u.1 19 + 1)) (fun f f19 f20 f21 f22 f24 => by rw [hd_pf_ne f19, hd_pf_ne f20, hd_pf_ne f21]) rfl
          have ek : lx_k T n (u.1 19) = 4 := by rw [eK, if_pos (e59.mp y)]
          exact ⟨f1, f2, f3, f4, hT, by omega, f5, rfl, by rw [eE]; rfl, by rw [ek]; rfl, fun k => by omega, fun k => by omega⟩
      · have ge : n ≤ u.1 19 := by
          rcases Int.lt_or_le (u.1 19) n with y | y
          · unfold rt_b at g
            rw [if_neg (by omega)] at g
            split at g <;> omega
          · exact y
        obtain ⟨f1, f2, f3, f4, f5⟩ := frame (ab_pf (ab_pf u 21 (u.1 19)) 20 1) (fun f f19 f20 f21 f22 f24 => by rw [hd_pf_ne f20, hd_pf_ne f21]) rfl
        have ek : lx_k T n (u.1 19) = 1 := if_pos ge
        have ee : lx_e T n (u.1 19) = u.1 19 := if_pos ge
        exact ab_lv1 ⟨f1, f2, f3, f4, hT, by omega, f5, rfl, by rw [ee]; rfl, by rw [ek]; rfl, fun k => by omega, fun k => by omega⟩
    induction q with
    | zero =>
      intro u hq h8 u1 u2 hE
      have e18 : u.1 18 = n := by rw [u1 18 (by decide)]; exact e2
      have cb := c9_byteAt (d + 1) (m := u) (T := T) (n := n) (k := u.1 19) ⟨by rw [u2]; exact hl.1, by rw [u2]; exact hl.2.1, by omega, by omega⟩ (by rw [u2]; exact e1) e18 hT (by omega)
      refine vX9_next_8 hx u 0 0 (ab_x1 cb ⟨fun g => tok u h8 (by omega) u1 u2 (by rw [← hE]; exact lx_sk_e (by omega)), fun g => absurd ((rt_b_sp hT).mp g).1 (by omega)⟩)
    | succ q ih =>
      intro u hq h8 u1 u2 hE
      push_cast at hq
      have e18 : u.1 18 = n := by rw [u1 18 (by decide)]; exact e2
      have cb := c9_byteAt (d + 1) (m := u) (T := T) (n := n) (k := u.1 19) ⟨by rw [u2]; exact hl.1, by rw [u2]; exact hl.2.1, by omega, by omega⟩ (by rw [u2]; exact e1) e18 hT (by omega)
      refine vX9_next_8 hx u 0 0 (ab_x1 cb ⟨fun g => tok u h8 (by omega) u1 u2 ?_, fun g => ⟨by omega, ih _ (by show u.1 19 + 1 + (q : Int) = _; omega) (by show p ≤ u.1 19 + 1; omega) (fun f hf => by rw [hd_pf_ne hf]; exact u1 f hf) u2 ?_⟩⟩)
      · rw [← hE]
        exact lx_sk_n (fun y => g ((rt_b_sp hT).mpr ⟨by omega, y⟩))
      · obtain ⟨q1, q2⟩ := (rt_b_sp hT).mp g
        rw [hd_pf_eq, ← lx_sk_y q1 q2]
        exact hE
  exact vX9_next_0 hx m 0 0 ⟨fun _ => key (n - p).toNat m (by omega) (by omega) (fun _ _ => rfl) rfl (by rw [hp]), fun g => absurd (by omega) g⟩
/-- the next token, if there is no fault -/
def fr_x (T : Int → Int) (n : Int) (R : Int × Int) : Int × Int := if R.1 = 0 then (0, lx_x T n R.2) else R
theorem c9_next (d : Nat) {m : ab_Ob} {T : Int → Int} {n : Int} {R : Int × Int} (h : rt_G m T n R) : ab_Ct (d + 3) 0 0 mX9_next [ab_O 0] [m] (ab_V1 (fun v => rt_f m v ∧ rt_G v T n (fr_x T n R))) := by
  rcases h with ⟨h0, hl, e1, e2, hT, ha, h23, h21, h19, h20, h22, h24⟩ | ⟨h1, b1, b2, b3⟩
  · have eb := lx_e_b (T := T) ha.2
    have c := c9_nx d hl e1 e2 hT h23 h19 (by omega) eb.2.1
    refine ⟨c.1, fun l E ad sz hok => ?_⟩
    have c2 := c.2 l E ad sz hok
    have e : (fun (r : Option ab_V) (ws : List ab_Ob) => (ab_shr (ab_rt mX9_next) (ab_rp mX9_next) r ∧ ab_shw (ab_wr mX9_next) [m] ws) ∧ ab_V1 (fun v => rt_f m v ∧ rt_st v T n (lx_sk T lx_sp n (lx_e T n R.2))) r ws) = (fun r ws => (ab_shr (ab_rt mX9_next) (ab_rp mX9_next) r ∧ ab_shw (ab_wr mX9_next) [m] ws) ∧ ab_V1 (fun v => rt_f m v ∧ rt_G v T n (fr_x T n R)) r ws) := by
      funext r ws
      have ex : fr_x T n R = (0, lx_sk T lx_sp n (lx_e T n R.2)) := if_pos h0
      rw [ex]
      refine propext ⟨fun q => ⟨q.1, q.2.1, ?_⟩, fun q => ⟨q.1, q.2.1, ?_⟩⟩
      · obtain ⟨v, ev, f, hv⟩ := q.2.2
        exact ⟨v, ev, f, Or.inl ⟨rfl, hv⟩⟩
      · obtain ⟨v, ev, f, hv⟩ := q.2.2
        rcases hv with ⟨_, hv⟩ | ⟨hv, _⟩
        · exact ⟨v, ev, f, hv⟩
        · have : (1 : Int) ≤ 0 := hv
          omega
    rw [e] at c2
    exact c2
  · refine ab_ct kX9_next rfl rfl (fun x hx => vX9_next_0 hx m 0 0 ⟨fun g => absurd g (by omega), fun _ => ab_lv1 ⟨rt_f_r m, ?_⟩⟩)
    have ex : fr_x T n R = R := if_neg (by omega)
    rw [ex]
    exact Or.inr ⟨h1, b1, b2, b3⟩
theorem ab_cmp_eq {x y : Int} : ab_cmp x y = 0 ↔ x = y := by
  unfold ab_cmp
  repeat' split
  all_goals omega
def sg (s : Nat) (t : Nat) : Int := (ab_str s).getD t 0
theorem sg_b : ∀ s : Fin 12, (ab_str s.val).length ≤ 6 ∧ ∀ t : Fin 6, t.val < (ab_str s.val).length → 97 ≤ sg s.val t.val ∧ sg s.val t.val ≤ 122 := by decide +kernel
theorem sg_at {s t : Nat} {z : Int} (h : (ab_str s)[t]? = some z) : sg s t = z := by
  unfold sg
  rw [List.getD_eq_getElem?_getD, h]
  rfl
theorem sg_l {s : Nat} (hs : s < 12) : (ab_str s).length ≤ 6 ∧ ∀ t : Nat, t < (ab_str s).length → 97 ≤ sg s t ∧ sg s t ≤ 122 := by
  have h := sg_b ⟨s, hs⟩
  refine ⟨h.1, fun t ht => h.2 ⟨t, by have := h.1; dsimp only at this; omega⟩ ht⟩
theorem c9_isWord (d : Nat) (m : ab_Ob) {s : Nat} (hs : s < 12) : ab_Ct (d + 5) 0 0 mX9_isWord [ab_O 0, ab_S s] [m] (ab_Bo (m.1 20 = 2 ∧ m.1 24 = pd (sg s) (ab_str s).length) [m]) := by
  have sl := sg_l hs
  refine ab_ct kX9_isWord rfl rfl (fun x hx => vX9_isWord_0 hx s m 0 0 ?_)
  have key : ∀ (q t : Nat), t + q = (ab_str s).length → ab_J x 5 [some (ab_O 0), some (ab_S s), some (ab_L (pd (sg s) t)), none, some (ab_I t)] [] [m] 0 0 := by
    intro q
    induction q with
    | zero =>
      intro t ht
      have et : (ab_str s).length = t := by omega
      refine vX9_isWord_5 hx _ _ _ m 0 0 ⟨hs, ab_x1 (c_length d hs) ⟨fun _ => ⟨fun g => ⟨ab_i01, ab_l0b rfl (fun y => g y.1)⟩, fun g => ⟨fun g2 => ⟨ab_i01, ab_l0b rfl (fun y => g2 (ab_cmp_eq.mpr (by rw [← et]; exact y.2)))⟩, fun g2 => ⟨ab_i11, ab_l1b rfl ⟨g, by rw [et]; exact ab_cmp_eq.mp g2⟩⟩⟩⟩, fun g => absurd (by omega) g⟩⟩
    | succ q ih =>
      intro t ht
      have hz := List.getElem?_eq_getElem (l := ab_str s) (i := t) (by omega)
      have ez := sg_at hz
      have zb := sl.2 t (by omega)
      have pb := pd_b (D := sg s) (k := t) (fun z hz => by have := sl.2 z (by omega); omega)
      have p5 := pk_p5 ⟨t, by omega⟩
      dsimp only at p5
      refine vX9_isWord_5 hx _ _ _ m 0 0 ⟨hs, ab_x1 (c_length d hs) ⟨fun g => absurd g (by omega), fun _ => ⟨hs, ab_x1 (c_charAt d hs hz) ⟨by omega, ?_⟩⟩⟩⟩
      rw [← ez, pk_st (by omega) (by omega)]
      exact ih (t + 1) (by omega)
  exact key (ab_str s).length 0 (by omega)
theorem rt_word {m : ab_Ob} {T : Int → Int} {n a : Int} (h : rt_st m T n a) {s : Nat} (hs : s < 12) : (m.1 20 = 2 ∧ m.1 24 = pd (sg s) (ab_str s).length) ↔ ps_w T n a (ab_str s) = true := by
  obtain ⟨hl, e1, e2, hT, ha, h23, h21, h19, h20, h22, h24⟩ := h
  have sl := sg_l hs
  have eb := lx_e_b (T := T) ha.2
  rw [ps_w_iff, h20]
  constructor
  · rintro ⟨k2, hw⟩
    rw [h24 k2] at hw
    -- a word's signs are letters
    have hk : lx_k T n a = 2 := k2
    have lt : a < n := by
      rcases Int.lt_or_le a n with y | y
      · exact y
      · unfold lx_k at hk; rw [if_pos y] at hk; omega
    have le : lx_le (T a) = true := by
      unfold lx_k at hk
      rw [if_neg (by omega)] at hk
      by_cases y : lx_le (T a) = true
      · exact y
      · rw [if_neg y] at hk
        repeat' split at hk
        all_goals omega
    have eE : lx_e T n a = lx_sk T lx_le n a := by
      unfold lx_e
      rw [if_neg (by omega), if_pos le]
    have let' := (lx_sk_b (T := T) (P := lx_le) (n := n) (p := a) ha.2).2.2
    obtain ⟨em, et⟩ := pd_inj (D := fun t => T (a + t)) (D' := sg s) (m := (lx_e T n a - a).toNat) (m' := (ab_str s).length) (fun t ht => by
      have := lx_le_iff.mp (let' (a + t) (by omega) (by omega))
      omega) (fun t ht => by have := sl.2 t ht; omega) hw
    refine ⟨k2, by omega, ps_eq_iff.mpr (fun t z hz => ?_)⟩
    obtain ⟨wl, _⟩ := List.getElem?_eq_some_iff.mp hz
    have := et t (by omega)
    rw [sg_at hz] at this
    exact this
  · rintro ⟨k2, hlen, heq⟩
    refine ⟨k2, ?_⟩
    rw [h24 k2, show (lx_e T n a - a).toNat = (ab_str s).length by omega]
    refine pd_congr (fun t ht => ?_)
    have hz := List.getElem?_eq_getElem (l := ab_str s) (i := t) ht
    rw [sg_at hz]
    exact ps_eq_iff.mp heq t _ hz
/-- is the token that word; never at a fault -/
theorem c9_isW (d : Nat) {m : ab_Ob} {T : Int → Int} {n : Int} {R : Int × Int} (h : rt_G m T n R) {s : Nat} (hs : s < 12) : ab_Ct (d + 5) 0 0 mX9_isWord [ab_O 0, ab_S s] [m] (ab_Bo (R.1 = 0 ∧ ps_w T n R.2 (ab_str s) = true) [m]) := by
  have c := c9_isWord d m hs
  have e : (m.1 20 = 2 ∧ m.1 24 = pd (sg s) (ab_str s).length) = (R.1 = 0 ∧ ps_w T n R.2 (ab_str s) = true) := by
    rcases h with ⟨h0, hst⟩ | ⟨h1, b1, b2, b3⟩
    · exact propext ⟨fun y => ⟨h0, (rt_word hst hs).mp y⟩, fun y => (rt_word hst hs).mpr y.2⟩
    · exact propext ⟨fun y => by omega, fun y => by omega⟩
  rw [e] at c
  exact c
def fr_w (T : Int → Int) (n lo hi : Int) (R : Int × Int) : Int × Int := if R.1 = 0 then (if pf_chk T n R.2 lo hi = 0 then (0, lx_x T n R.2) else (pf_chk T n R.2 lo hi, R.2)) else R
theorem c9_readWhole (d : Nat) {m : ab_Ob} {T : Int → Int} {n : Int} {R : Int × Int} (h : rt_G m T n R) (lo hi : Int) : ab_Ct (d + 4) 0 0 mX9_readWhole [ab_O 0, ab_I lo, ab_I hi] [m] (fun rv ws => rv = some (ab_I (if (fr_w T n lo hi R).1 = 0 then lx_n T n R.2 else lo)) ∧ ∃ v, ws = [v] ∧ rt_f m v ∧ rt_G v T n (fr_w T n lo hi R)) := by
  refine ab_ct kX9_readWhole rfl rfl (fun x hx => vX9_readWhole_0 hx lo hi m 0 0 ?_)
  -- at a fault
  have bad : ∀ (r : Int), 1 ≤ r → fr_f r R = fr_w T n lo hi R → ∃ Q9 : Option ab_V → List ab_Ob → Prop, ab_Ct (d + 3) 0 0 mX9_flaw [ab_O 0, ab_I r] [m] Q9 ∧ ∀ v10 : ab_Ob, Q9 none [v10] → ∃ Q11 : Option ab_V → List ab_Ob → Prop, ab_Ct (d + 3) 0 0 mX9_next [ab_O 0] [v10] Q11 ∧ ∀ v12 : ab_Ob, Q11 none [v12] → ((v12.1 23 ≤ 0 → (((∃ y : Int, some (ab_I (v10.1 22)) = some (ab_I y)) ∧ ab_shw [true] [m] [v12]) ∧ (some (ab_I (v10.1 22)) = some (ab_I (if (fr_w T n lo hi R).1 = 0 then lx_n T n R.2 else lo)) ∧ ∃ v, [v12] = [v] ∧ rt_f m v ∧ rt_G v T n (fr_w T n lo hi R)))) ∧ (¬ v12.1 23 ≤ 0 → (((∃ y : Int, some (ab_I lo) = some (ab_I y)) ∧ ab_shw [true] [m] [v12]) ∧ (some (ab_I lo) = some (ab_I (if (fr_w T n lo hi R).1 = 0 then lx_n T n R.2 else lo)) ∧ ∃ v, [v12] = [v] ∧ rt_f m v ∧ rt_G v T n (fr_w T n lo hi R))))) := fun r hr he => by
    refine ab_xv1 (c9_flaw (d + 2) m r) (fun v hv => ?_)
    obtain ⟨f, g, g1⟩ := rt_flaw h hr hv
    refine ab_xv1 (c9_next d g) (fun v2 hv2 => ?_)
    have ex : fr_x T n (fr_f r R) = fr_f r R := if_neg (by omega)
    obtain ⟨f2, hg2⟩ := hv2
    rw [ex, he] at hg2
    rw [he] at g1
    have h23 : v2.1 23 = (fr_w T n lo hi R).1 := by
      rcases hg2 with ⟨y, _⟩ | ⟨_, y⟩
      · omega
      · exact y.1
    refine ⟨fun y => absurd y (by omega), fun _ => ⟨⟨⟨_, rfl⟩, _, _, rfl, rfl⟩, ?_, v2, rfl, rt_f_t f f2, hg2⟩⟩
    rw [if_neg (by omega)]
  rcases id h with ⟨h0, hst⟩ | ⟨h1, b1, b2, b3⟩
  · have h20 : m.1 20 = lx_k T n R.2 := hst.2.2.2.2.2.2.2.2.1
    have h22 := hst.2.2.2.2.2.2.2.2.2.1
    have e0 : fr_w T n lo hi R = if pf_chk T n R.2 lo hi = 0 then (0, lx_x T n R.2) else (pf_chk T n R.2 lo hi, R.2) := if_pos h0
    have ef : ∀ r, fr_f r R = (r, R.2) := fun r => if_pos h0
    refine ⟨fun k3 => ?_, fun k3 => ?_⟩
    · have hk : lx_k T n R.2 = 3 := by rw [← h20]; exact k3
      rw [h22 hk]
      refine ab_xb (c9_in (d + 2) _ lo hi) (fun p => ⟨fun _ => ?_, fun g => absurd g (by decide)⟩) (fun p => ⟨fun g => absurd rfl g, fun _ => bad 2 (by decide) ?_⟩)
      · have hc : pf_chk T n R.2 lo hi = 0 := by
          unfold pf_chk
          rw [if_pos hk, if_neg (by omega), if_pos (by omega)]
        rw [if_pos hc] at e0
        refine ab_xv1 (c9_next d h) (fun v hv => ?_)
        have ex : fr_x T n R = (0, lx_x T n R.2) := if_pos h0
        obtain ⟨f, hg⟩ := hv
        rw [ex] at hg
        rcases hg with ⟨_, hg⟩ | ⟨y, _⟩
        · have v23 : v.1 23 = 0 := hg.2.2.2.2.2.1
          refine ⟨fun _ => ⟨⟨⟨_, rfl⟩, _, _, rfl, rfl⟩, ?_, v, rfl, f, ?_⟩, fun y => absurd (by omega) y⟩
          · rw [e0, if_pos rfl]
          · rw [e0]
            exact Or.inl ⟨rfl, hg⟩
        · have : (1 : Int) ≤ 0 := y
          omega
      · have hc : pf_chk T n R.2 lo hi = 2 := by
          unfold pf_chk
          rw [if_pos hk]
          by_cases y : lx_n T n R.2 < lo
          · rw [if_pos y]
          · rw [if_neg y, if_neg (by omega)]
        rw [ef, e0, hc, if_neg (by decide)]
    · have hc : pf_chk T n R.2 lo hi = 1 := by
        unfold pf_chk
        rw [if_neg (by rw [← h20]; exact k3)]
      refine bad 1 (by decide) ?_
      rw [ef, e0, hc, if_neg (by decide)]
  · have e0 : fr_w T n lo hi R = R := if_neg (by omega)
    have ef : ∀ r, fr_f r R = R := fun r => if_neg (by omega)
    exact ⟨fun k3 => by omega, fun k3 => bad 1 (by decide) (by rw [ef, e0])⟩
def fr_p (T : Int → Int) (n : Int) (s : List Int) (lo hi : Int) (R : Int × Int) : Int × Int := if R.1 = 0 then (if ps_w T n R.2 s = true then fr_w T n lo hi (0, lx_x T n R.2) else (1, R.2)) else R
theorem c9_readPart (d : Nat) {m : ab_Ob} {T : Int → Int} {n : Int} {R : Int × Int} (h : rt_G m T n R) {s : Nat} (hs : s < 12) (lo hi : Int) : ab_Ct (d + 6) 0 0 mX9_readPart [ab_O 0, ab_S s, ab_I lo, ab_I hi] [m] (fun rv ws => rv = some (ab_I (if (fr_p T n (ab_str s) lo hi R).1 = 0 then lx_n T n (lx_x T n R.2) else lo)) ∧ ∃ v, ws = [v] ∧ rt_f m v ∧ rt_G v T n (fr_p T n (ab_str s) lo hi R)) := by
  refine ab_ct kX9_readPart rfl rfl (fun x hx => vX9_readPart_0 hx lo hi s m 0 0 (ab_xb (c9_isW d h hs) (fun p => ⟨fun _ => ?_, fun g => absurd g (by decide)⟩) (fun p => ⟨fun g => absurd rfl g, fun _ => ?_⟩)))
  · have e0 : fr_p T n (ab_str s) lo hi R = fr_w T n lo hi (0, lx_x T n R.2) := by
      unfold fr_p
      rw [if_pos p.1, if_pos p.2]
    refine ab_xv1 (c9_next (d + 2) h) (fun v hv => ?_)
    have ex : fr_x T n R = (0, lx_x T n R.2) := if_pos p.1
    obtain ⟨f, hg⟩ := hv
    rw [ex] at hg
    refine ⟨_, c9_readWhole (d + 1) hg lo hi, fun r w hw => ?_⟩
    obtain ⟨er, u, eu, f2, hg2⟩ := hw
    cases eu
    rw [e0]
    exact ⟨⟨⟨_, rfl⟩, _, _, rfl, rfl⟩, er, w, rfl, rt_f_t f f2, hg2⟩
  · have e0 : fr_p T n (ab_str s) lo hi R = fr_f 1 R := by
      unfold fr_p fr_f
      by_cases g : R.1 = 0
      · rw [if_pos g, if_pos g, if_neg (fun y => p ⟨g, y⟩)]
      · rw [if_neg g, if_neg g]
    refine ab_xv1 (c9_flaw (d + 4) m 1) (fun v hv => ?_)
    obtain ⟨f, hg, g1⟩ := rt_flaw h (by decide : (1 : Int) ≤ 1) hv
    refine ab_xv1 (c9_next (d + 2) hg) (fun v2 hv2 => ?_)
    have ex : fr_x T n (fr_f 1 R) = fr_f 1 R := if_neg (by omega)
    obtain ⟨f2, hg2⟩ := hv2
    rw [ex] at hg2
    refine ⟨_, c9_readWhole (d + 1) hg2 lo hi, fun r w hw => ?_⟩
    have ew : fr_w T n lo hi (fr_f 1 R) = fr_f 1 R := if_neg (by omega)
    rw [ew] at hw
    obtain ⟨er, u, eu, f3, hg3⟩ := hw
    cases eu
    rw [if_neg (by omega)] at er
    rw [e0, if_neg (by omega)]
    exact ⟨⟨⟨_, rfl⟩, _, _, rfl, rfl⟩, er, w, rfl, rt_f_t (rt_f_t f f2) f3, hg3⟩
theorem fr_p_named {T : Int → Int} {n a : Int} {s : List Int} {lo hi : Int} : fr_p T n s lo hi (0, a) = if (pf_named T n s lo hi a).1 = 0 then (0, lx_x T n (pf_named T n s lo hi a).2) else pf_named T n s lo hi a := by
  unfold fr_p pf_named
  rw [if_pos rfl]
  by_cases g : ps_w T n a s = true
  · rw [if_pos g, if_pos g]
    unfold fr_w
    rw [if_pos rfl]
  · rw [if_neg g, if_neg g, if_neg (by show ¬ (1 : Int) = 0; decide)]
