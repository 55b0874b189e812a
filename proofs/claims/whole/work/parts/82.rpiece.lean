/-! THE REFERENCE: a whole text, a piece -/
def rp_E (v dr : ab_Ob) : Prop := (v.1 12 = dr.1 3 ∧ v.1 10 = dr.1 0 ∧ v.1 11 = dr.1 1) ∧ 1 ≤ dr.1 3 ∧ md_x dr (v.2 4).2
theorem rp_D_E {v dr : ab_Ob} {tl : Int} {fl : Int → Int} (h : rp_D v dr tl fl) (hc : 0 < dr.1 3) : rp_E v dr := by
  obtain ⟨d1, d2, d3, d4, d5, d6, d7⟩ := h
  rcases d1 with y | y
  · exact absurd y.1 (d7 hc)
  · exact ⟨⟨d2, y.2.1, y.2.2.2.1⟩, by omega, y.2.2.2.2, d4, d5⟩
/-- what reading a text leaves -/
def ra_ok (m v : ab_Ob) (R : Int × Int × ab_Ob) : Prop := rt_F m v ∧ v.1 23 = R.1 ∧ (¬ R.1 = 0 → 1 ≤ R.1 ∧ v.1 21 = R.2.1) ∧ (R.1 = 0 → rp_E v R.2.2)
theorem c9_readAll (d : Nat) {m : ab_Ob} {T : Int → Int} {n : Int} {dr : ab_Ob} (hl : rt_l m) (e1 : (m.2 16).2 = T) (e2 : m.1 18 = n) (hT : ∀ q : Int, -128 ≤ T q ∧ T q ≤ 127) (h23 : m.1 23 = 0) (h19 : m.1 19 = 0) (hd3 : dr.1 3 = 0) (hd6 : ∀ r : Int, 0 ≤ r → r < 6 → (dr.2 6).2 r = 0) : ab_Ct (d + 9) 0 0 mX9_readAll [ab_O 0] [m] (ab_V1 (fun v => ra_ok m v (pf_all T n dr))) := by
  generalize hR : pf_all T n dr = R
  obtain ⟨l16, l4, n0, n7⟩ := id hl
  refine ab_ct kX9_readAll rfl rfl (fun x hx => vX9_readAll_0 hx m 0 0 ?_)
  have k44 : ∀ (k : Nat) (v : ab_Ob) (a : Int) (b' : ab_Ob) (tl : Int) (fl : Int → Int), n - a ≤ k → 0 ≤ a → a ≤ n → rl_ok m v T n (pf_line T n a b' tl fl) → pf_lines T n (k + 1) a b' tl fl = R → ab_J x 44 [some (ab_O 0), none] [] [v] 0 0 := by
    intro k
    induction k with
    | zero =>
      intro v a b' tl fl hk a0 a1 hv hE
      have mono := pf_line_m (T := T) (n := n) (a := a) (dr := b') (tl := tl) (fl := fl) a1
      simp only [pf_lines] at hE
      generalize pf_line T n a b' tl fl = L at *
      obtain ⟨F, G, D⟩ := hv
      have k1 : lx_k T n L.2.1 = 1 := if_pos (by omega)
      rcases G with ⟨g0, st⟩ | ⟨g0, bd⟩
      · have v20 : v.1 20 = 1 := by rw [st.2.2.2.2.2.2.2.2.1]; exact k1
        have v23 : v.1 23 = 0 := st.2.2.2.2.2.1
        have D' := D g0
        have v12 : v.1 12 = L.2.2.1.1 3 := D'.2.1
        rw [if_pos g0, if_pos k1] at hE
        refine vX9_readAll_44 hx v 0 0 ⟨fun _ => ⟨fun _ => ⟨fun y => absurd v23 y, fun _ => ⟨fun y => ab_lv1 ?_, fun y => ab_xv1 (c9_flaw (d + 7) v 5) (fun u hu => ab_lv1 ?_)⟩⟩, fun y => absurd v20 y⟩, fun y => by omega⟩
        · have pc := D'.2.2.1
          rw [if_neg (by omega)] at hE
          rw [← hE]
          exact ⟨F, v23, fun y => absurd rfl y, fun _ => rp_D_E (dr := L.2.2.1) D' (by omega)⟩
        · rw [if_pos (by omega)] at hE
          obtain ⟨f, G2, _⟩ := rt_flaw (Or.inl ⟨g0, st⟩ : rt_G v T n (L.1, L.2.1)) (by decide : (1 : Int) ≤ 5) hu
          have e5 : fr_f 5 (L.1, L.2.1) = (5, L.2.1) := if_pos g0
          rw [e5] at G2
          rcases G2 with ⟨y, _⟩ | ⟨_, bd⟩
          · exact absurd y (by show ¬ (5 : Int) = 0; decide)
          · rw [← hE]
            exact ⟨rt_F_t F (rt_F_f f), bd.1, fun _ => ⟨by show (1 : Int) ≤ 5; decide, bd.2.1⟩, fun y => absurd y (by show ¬ (5 : Int) = 0; decide)⟩
      · have g0' : 1 ≤ L.1 := g0
        have v20 : v.1 20 = 0 := bd.2.2
        rw [if_neg (by omega)] at hE
        refine vX9_readAll_44 hx v 0 0 ⟨fun _ => ⟨fun y => by omega, fun _ => ab_xv1 (c9_flaw (d + 7) v 1) (fun u hu => ?_)⟩, fun y => by omega⟩
        obtain ⟨f, G2, _⟩ := rt_flaw (Or.inr ⟨g0, bd⟩ : rt_G v T n (L.1, L.2.1)) (by decide : (1 : Int) ≤ 1) hu
        have e5 : fr_f 1 (L.1, L.2.1) = (L.1, L.2.1) := if_neg (by show ¬ L.1 = 0; omega)
        rw [e5] at G2
        rcases G2 with ⟨y, _⟩ | ⟨_, bd2⟩
        · exact absurd y (by show ¬ L.1 = 0; omega)
        · have u23 : u.1 23 = L.1 := bd2.1
          refine ⟨fun _ => ab_lv1 ?_, fun y => by omega⟩
          rw [← hE]
          exact ⟨rt_F_t F (rt_F_f f), bd2.1, fun _ => ⟨g0', bd2.2.1⟩, fun y => absurd y (by show ¬ L.1 = 0; omega)⟩
    | succ k ih =>
      intro v a b' tl fl hk a0 a1 hv hE
      push_cast at hk
      have mono := pf_line_m (T := T) (n := n) (a := a) (dr := b') (tl := tl) (fl := fl) a1
      rw [pf_lines] at hE
      generalize pf_line T n a b' tl fl = L at *
      obtain ⟨F, G, D⟩ := hv
      rcases G with ⟨g0, st⟩ | ⟨g0, bd⟩
      · have v20 : v.1 20 = lx_k T n L.2.1 := st.2.2.2.2.2.2.2.2.1
        have v23 : v.1 23 = 0 := st.2.2.2.2.2.1
        have D' := D g0
        have v12 : v.1 12 = L.2.2.1.1 3 := D'.2.1
        have pc := D'.2.2.1
        rw [if_pos g0] at hE
        refine vX9_readAll_44 hx v 0 0 ⟨fun q4 => ⟨fun q1 => ⟨fun y => absurd v23 y, fun _ => ⟨fun y => ab_lv1 ?_, fun y => ab_xv1 (c9_flaw (d + 7) v 5) (fun u hu => ab_lv1 ?_)⟩⟩, fun q1 => ab_xv1 (c9_flaw (d + 7) v 1) (fun u hu => ?_)⟩, fun q4 => ?_⟩
        · have k1 : lx_k T n L.2.1 = 1 := by rw [← v20]; exact q1
          rw [if_pos k1, if_neg (by omega)] at hE
          rw [← hE]
          exact ⟨F, v23, fun y => absurd rfl y, fun _ => rp_D_E (dr := L.2.2.1) D' (by omega)⟩
        · have k1 : lx_k T n L.2.1 = 1 := by rw [← v20]; exact q1
          rw [if_pos k1, if_pos (by omega)] at hE
          obtain ⟨f, G2, _⟩ := rt_flaw (Or.inl ⟨g0, st⟩ : rt_G v T n (L.1, L.2.1)) (by decide : (1 : Int) ≤ 5) hu
          have e5 : fr_f 5 (L.1, L.2.1) = (5, L.2.1) := if_pos g0
          rw [e5] at G2
          rcases G2 with ⟨y, _⟩ | ⟨_, bd⟩
          · exact absurd y (by show ¬ (5 : Int) = 0; decide)
          · rw [← hE]
            exact ⟨rt_F_t F (rt_F_f f), bd.1, fun _ => ⟨by show (1 : Int) ≤ 5; decide, bd.2.1⟩, fun y => absurd y (by show ¬ (5 : Int) = 0; decide)⟩
        · have k1 : ¬ lx_k T n L.2.1 = 1 := by rw [← v20]; exact q1
          have k4 : ¬ lx_k T n L.2.1 = 4 := by rw [← v20]; exact q4
          rw [if_neg k1, if_neg k4] at hE
          obtain ⟨f, G2, _⟩ := rt_flaw (Or.inl ⟨g0, st⟩ : rt_G v T n (L.1, L.2.1)) (by decide : (1 : Int) ≤ 1) hu
          have e5 : fr_f 1 (L.1, L.2.1) = (1, L.2.1) := if_pos g0
          rw [e5] at G2
          rcases G2 with ⟨y, _⟩ | ⟨_, bd⟩
          · exact absurd y (by show ¬ (1 : Int) = 0; decide)
          · have u23 : u.1 23 = 1 := bd.1
            refine ⟨fun _ => ab_lv1 ?_, fun y => by omega⟩
            rw [← hE]
            exact ⟨rt_F_t F (rt_F_f f), bd.1, fun _ => ⟨by show (1 : Int) ≤ 1; decide, bd.2.1⟩, fun y => absurd y (by show ¬ (1 : Int) = 0; decide)⟩
        · have k4 : lx_k T n L.2.1 = 4 := by rw [← v20]; exact q4
          have k1 : ¬ lx_k T n L.2.1 = 1 := by omega
          rw [if_neg k1, if_pos k4] at hE
          have lt : L.2.1 < n := by
            rcases Int.lt_or_le L.2.1 n with y | y
            · exact y
            · exact absurd (if_pos y) k1
          have eb := lx_e_b (T := T) (n := n) (a := L.2.1) mono.2
          have xb := lx_x_b (T := T) (n := n) (a := L.2.1) mono.2
          have G0 : rt_G v T n (0, L.2.1) := Or.inl ⟨rfl, st⟩
          refine ab_xv1 (c9_next (d + 5) G0) (fun u hu => ?_)
          rw [fr_x_0] at hu
          obtain ⟨f, G2⟩ := hu
          have st2 : rt_st u T n (lx_x T n L.2.1) := by
            rcases G2 with ⟨_, y⟩ | ⟨y, _⟩
            · exact y
            · have : (1 : Int) ≤ 0 := y
              omega
          have Fu : rt_F m u := rt_F_t F (rt_F_f f)
          refine ab_xv1 (c9_readLine d st2 (rp_D_f f D') (by rw [Fu.2.2]; exact l4)) (fun w hw => ih w (lx_x T n L.2.1) _ _ _ (by omega) (by omega) (by omega) ⟨rt_F_t Fu hw.1, hw.2.1, hw.2.2⟩ hE)
      · have g0' : 1 ≤ L.1 := g0
        have v20 : v.1 20 = 0 := bd.2.2
        rw [if_neg (by omega)] at hE
        refine vX9_readAll_44 hx v 0 0 ⟨fun _ => ⟨fun y => by omega, fun _ => ab_xv1 (c9_flaw (d + 7) v 1) (fun u hu => ?_)⟩, fun y => by omega⟩
        obtain ⟨f, G2, _⟩ := rt_flaw (Or.inr ⟨g0, bd⟩ : rt_G v T n (L.1, L.2.1)) (by decide : (1 : Int) ≤ 1) hu
        have e5 : fr_f 1 (L.1, L.2.1) = (L.1, L.2.1) := if_neg (by show ¬ L.1 = 0; omega)
        rw [e5] at G2
        rcases G2 with ⟨y, _⟩ | ⟨_, bd2⟩
        · exact absurd y (by show ¬ L.1 = 0; omega)
        · have u23 : u.1 23 = L.1 := bd2.1
          refine ⟨fun _ => ab_lv1 ?_, fun y => by omega⟩
          rw [← hE]
          exact ⟨rt_F_t F (rt_F_f f), bd2.1, fun _ => ⟨g0', bd2.2.1⟩, fun y => absurd y (by show ¬ L.1 = 0; omega)⟩
  have k2 : ∀ (q : Nat) (t : Int) (v : ab_Ob), t + q = 55 → 0 ≤ t → v.1 = m.1 → (∀ f, f ≠ 4 → v.2 f = m.2 f) → (v.2 4).1 = 55 → (∀ k : Int, 0 ≤ k → k < t → (v.2 4).2 k = 0) → ab_J x 2 [some (ab_O 0), some (ab_I t)] [] [v] 0 0 := by
    intro q
    induction q with
    | zero =>
      intro t v ht t0 v1 v2 vl hz
      have F : rt_F m (ab_pf (ab_pf (ab_pf v 10 0) 12 0) 13 0) := ⟨fun f f10 f11 f12 f13 _ _ _ _ _ _ => by rw [hd_pf_ne f13, hd_pf_ne f12, hd_pf_ne f10, v1], v2, by rw [hd_pf_2, hd_pf_2, hd_pf_2, vl, l4]⟩
      have hl' : rt_l (ab_pf (ab_pf (ab_pf v 10 0) 12 0) 13 0) := ⟨by show (v.2 16).1 = 700; rw [v2 16 (by decide)]; exact l16, vl, by show 0 ≤ v.1 18; rw [v1]; exact n0, by show v.1 18 ≤ 700; rw [v1]; exact n7⟩
      have sb := lx_sk_b (T := T) (P := lx_sp) (n := n) (p := 0) (by omega)
      refine vX9_readAll_2 hx _ v 0 0 ⟨fun _ => ab_xv1 (c9_nx (d + 5) (T := T) (n := n) (p := 0) hl' (by show (v.2 16).2 = T; rw [v2 16 (by decide)]; exact e1) (by show v.1 18 = n; rw [v1]; exact e2) hT (by show v.1 23 = 0; rw [v1]; exact h23) (by show v.1 19 = 0; rw [v1]; exact h19) (by omega) (by omega)) (fun u hu => ?_), fun g => absurd (by omega) g⟩
      obtain ⟨f, st⟩ := hu
      have D0 : rp_D u dr 0 (fun _ => 0) := by
        refine rp_D_f f ⟨Or.inl ⟨rfl, rfl⟩, by rw [hd3]; rfl, by omega, fun k k0 k1 => by omega, fun r r0 r1 => ?_, ⟨⟨by show (0 : Int) ≤ 0; decide, by show (0 : Int) < 64; decide⟩, fun r r0 r1 => ?_⟩, fun y => by omega⟩
        · rw [hd6 r r0 r1]
          exact hz (48 + r) (by omega) (by omega)
        · have := rr_0 ⟨r.toNat, by omega⟩
          have er : ((r.toNat : Nat) : Int) = r := by omega
          simp only [er] at this
          exact this.symm
      have Fu := rt_F_t F (rt_F_f f)
      refine ab_xv1 (c9_readLine d st D0 (by rw [Fu.2.2]; exact l4)) (fun w hw => k44 n.toNat w (lx_sk T lx_sp n 0) dr 0 (fun _ => 0) (by omega) (by omega) (by omega) ⟨rt_F_t Fu hw.1, hw.2.1, hw.2.2⟩ ?_)
      rw [← hR]
      unfold pf_all
      rw [show (n + 1).toNat = n.toNat + 1 by omega]
    | succ q ih =>
      intro t v ht t0 v1 v2 vl hz
      push_cast at ht
      refine vX9_readAll_2 hx _ v 0 0 ⟨fun g => absurd g (by omega), fun _ => ⟨by omega, by omega, ih (t + 1) _ (by omega) (by omega) v1 (fun f hf => by rw [hd_pa_ne hf]; exact v2 f hf) (by rw [hd_pa_len]; exact vl) (fun k k0 k1 => ?_)⟩⟩
      rw [hd_pa_eq]
      show ab_ui (v.2 4).2 t 0 k = 0
      by_cases e : k = t
      · subst e; rw [hd_ui_eq]
      · rw [hd_ui_ne e]; exact hz k k0 (by omega)
  exact k2 55 0 m (by omega) (by omega) rfl (fun _ _ => rfl) l4 (fun k k0 k1 => absurd k1 (by omega))
def mb_l (m : ab_Ob) : Prop := md_len m ∧ md_len2 m ∧ md_kl m ∧ md_wl m ∧ (m.2 5).1 = 550 ∧ (m.2 16).1 = 700 ∧ (m.2 4).1 = 55
theorem mb_l_of {m v : ab_Ob} (h : ∀ f, (v.2 f).1 = (m.2 f).1) (hm : mb_l m) : mb_l v := by
  obtain ⟨h1, h2, h3, h4, h5, h6, h7⟩ := hm
  refine ⟨md_len_of h h1, md_len2_of h h2, ?_, ?_, by rw [h]; exact h5, by rw [h]; exact h6, by rw [h]; exact h7⟩
  · unfold md_kl
    simp only [h]
    exact h3
  · unfold md_wl
    simp only [h]
    exact h4
theorem c9_piece0 (d : Nat) {m : ab_Ob} {N : Int} (h : N < 0 ∨ m.1 17 < N) : ab_Ct (d + 2) 0 0 mX9_piece [ab_O 0, ab_I N] [m] (ab_Is (-1) [md_an m 2]) := by
  refine ab_ct kX9_piece rfl rfl (fun x hx => vX9_piece_0 hx N m 0 0 ⟨fun g => md_rf (RT := (-1, 2)) rfl, fun g => ⟨fun g2 => by omega, fun g2 => md_rf (RT := (-1, 2)) rfl⟩⟩)
/-- a text with a fault leaves the piece as it is -/
def pz_f (m v : ab_Ob) (R : Int × Int × ab_Ob) : Prop := (∀ f, f ≠ 0 → f ≠ 1 → f ≠ 2 → f ≠ 10 → f ≠ 11 → f ≠ 12 → f ≠ 13 → f ≠ 17 → f ≠ 18 → f ≠ 19 → f ≠ 20 → f ≠ 21 → f ≠ 22 → f ≠ 23 → f ≠ 24 → v.1 f = m.1 f) ∧ (∀ f, f ≠ 4 → v.2 f = m.2 f) ∧ (v.2 4).1 = (m.2 4).1 ∧ v.1 0 = 0 ∧ v.1 1 = 4 ∧ v.1 2 = R.2.1 ∧ v.1 17 = 0 ∧ v.1 23 = R.1
def pz_g (b m v : ab_Ob) : Prop := (∀ f, f < 25 ∨ 39 < f → f ≠ 3 → f ≠ 4 → v.2 f = m.2 f) ∧ (∀ f, (v.2 f).1 = (m.2 f).1) ∧ mi_I b v ∧ v.1 9 = 0 ∧ v.1 15 = 0 ∧ v.1 0 = 0 ∧ v.1 1 = 0 ∧ v.1 2 = -1 ∧ v.1 17 = 0 ∧ v.1 23 = 0
theorem c9_piece (d : Nat) {m dr b : ab_Ob} {N : Int} (hm : mb_l m) (hN : 0 ≤ N ∧ N ≤ m.1 17) (h17 : m.1 17 ≤ 700) (hT : ∀ q : Int, -128 ≤ (m.2 16).2 q ∧ (m.2 16).2 q ≤ 127) (hd3 : dr.1 3 = 0) (hd6 : ∀ r : Int, 0 ≤ r → r < 6 → (dr.2 6).2 r = 0) (hb : sc_ok b) (hdd : sc_dd b) (hbn : b.1 = (pf_all (m.2 16).2 N dr).2.2.1) (hb4 : b.2 4 = (pf_all (m.2 16).2 N dr).2.2.2 4) (hb5 : b.2 5 = (pf_all (m.2 16).2 N dr).2.2.2 5) (hb6 : b.2 6 = (pf_all (m.2 16).2 N dr).2.2.2 6) : ab_Ct (d + 10) 0 0 mX9_piece [ab_O 0, ab_I N] [m] (fun rv w => ∃ v, w = [v] ∧ ((¬ (pf_all (m.2 16).2 N dr).1 = 0 ∧ rv = some (ab_I (-1)) ∧ pz_f m v (pf_all (m.2 16).2 N dr)) ∨ ((pf_all (m.2 16).2 N dr).1 = 0 ∧ 1 ≤ b.1 3 ∧ rv = some (ab_I (b.1 3)) ∧ pz_g b m v))) := by
  obtain ⟨h1, h2, h3, h4, h5, h6, h7⟩ := id hm
  have n3 := h1.1
  refine ab_ct kX9_piece rfl rfl (fun x hx => ?_)
  generalize hR : pf_all (m.2 16).2 N dr = R at *
  have ra := c9_readAll d (m := ab_pf (ab_pf (ab_pf (ab_pf (ab_pf m 0 0) 18 N) 17 0) 19 0) 23 0) (T := (m.2 16).2) (n := N) (dr := dr) ⟨h6, h7, hN.1, by show N ≤ 700; omega⟩ rfl rfl hT rfl rfl hd3 hd6
  rw [hR] at ra
  refine vX9_piece_0 hx N m 0 0 ⟨fun g => absurd g (by omega), fun _ => ⟨fun _ => ab_xv1 ra (fun v hv => ?_), fun g => absurd (by omega) g⟩⟩
  obtain ⟨F, v23, vb, vg⟩ := hv
  by_cases q : R.1 = 0
  · have E := vg q
    have q_eq := q
    obtain ⟨⟨x12, x10, x11⟩, c1, mx⟩ := E
    refine ⟨fun _ => ⟨ab_i11, ab_i01, ?_⟩, fun y => absurd (by omega) y⟩
    have nb : b.1 3 = R.2.2.1 3 := by rw [hbn]
    have mxb : md_x b (v.2 4).2 := by
      unfold md_x
      rw [hbn, hb4, hb5, hb6]
      exact mx
    have vl : ∀ f, (v.2 f).1 = (m.2 f).1 := fun f => by
      by_cases e : f = 4
      · subst e; rw [F.2.2]; rfl
      · rw [F.2.1 f e]; rfl
    have key : ∀ (q : Nat) (t : Int) (u : ab_Ob), t + q = 55 → 0 ≤ t → u.1 = (ab_pf (ab_pf (ab_pf (ab_pf (ab_pf v 14 1) 15 0) 6 (v.1 10)) 7 (v.1 11)) 8 (v.1 12)).1 → (∀ f, f ≠ 3 → u.2 f = v.2 f) → (u.2 3).1 = 55 → (∀ k : Int, 0 ≤ k → k < t → (u.2 3).2 k = (v.2 4).2 k) → ab_J x 105 [some (ab_O 0), none, some (ab_I t)] [] [u] 0 0 := by
      intro q
      induction q with
      | zero =>
        intro t u ht t0 u1 u2 u3 hk
        have ul : ∀ f, ((ab_pf u 9 0).2 f).1 = (m.2 f).1 := fun f => by
          by_cases e : f = 3
          · subst e; rw [hd_pf_2, u3, n3]
          · rw [hd_pf_2, u2 f e]; exact vl f
        have hp : md_p b (ab_pf u 9 0) := by
          rw [md_p_x]
          refine ⟨⟨?_, ?_, ?_⟩, ?_⟩
          · show u.1 8 = _
            rw [u1, nb]; exact x12
          · show u.1 6 = _
            rw [u1, hbn]; exact x10
          · show u.1 7 = _
            rw [u1, hbn]; exact x11
          · refine ⟨?_, fun k k0 k1 => ?_, fun r r0 r1 => ?_⟩
            · show (u.2 3).2 54 = _
              rw [hk 54 (by omega) (by omega)]; exact mxb.1
            · have := hb.2.1
              show (u.2 3).2 k = _ ∧ (u.2 3).2 (24 + k) = _
              rw [hk k k0 (by omega), hk (24 + k) (by omega) (by omega)]; exact mxb.2.1 k k0 k1
            · show (u.2 3).2 (48 + r) = _
              rw [hk (48 + r) (by omega) (by omega)]; exact mxb.2.2 r r0 r1
        have hl := md_len_of ul h1
        have hl2 := md_len2_of ul h2
        have h14 : ¬ (ab_pf u 9 0).1 14 = 0 := by
          show ¬ u.1 14 = 0
          rw [u1]
          show ¬ (1 : Int) = 0
          decide
        refine vX9_piece_105 hx _ u 0 0 ⟨fun _ => ab_xv1 (c9_lays (d + 2) b (ab_pf u 9 0) hb hdd (by omega) hp hl hl2) (fun z hz => ⟨_, c9_good (d + 8) z _, fun r w hw => ?_⟩), fun g => absurd (by omega) g⟩
        have hI := ax_lay hb hdd (by omega) h14 hp hl hl2 hz
        obtain ⟨lf, -, -, -⟩ := hz
        obtain ⟨y1, y2⟩ := hw
        cases y1
        cases y2
        have z8 : z.1 8 = b.1 3 := hI.2.2.2.2.1.1
        have zf : ∀ f, f ≠ 40 → f ≠ 41 → f ≠ 9 → f ≠ 14 → f ≠ 15 → f ≠ 6 → f ≠ 7 → f ≠ 8 → z.1 f = v.1 f := fun f a1 a2 a3 a4 a5 a6 a7 a8 => by
          rw [lf.1 f a1 a2, hd_pf_ne a3, u1, hd_pf_ne a8, hd_pf_ne a7, hd_pf_ne a6, hd_pf_ne a5, hd_pf_ne a4]
        refine ⟨⟨⟨_, rfl⟩, _, _, rfl, rfl⟩, _, rfl, Or.inr ⟨q_eq, by omega, by rw [z8], ⟨fun f hf f3 f4 => ?_, fun f => ?_, hI, ?_, ?_, ?_, rfl, rfl, ?_, ?_⟩⟩⟩
        · rw [hd_pf_2, hd_pf_2, lf.2.1 f hf, hd_pf_2, u2 f f3, F.2.1 f f4]
          rfl
        · rw [hd_pf_2, hd_pf_2, lf.2.2]
          exact ul f
        · show z.1 9 = 0
          rw [lf.1 9 (by decide) (by decide)]
          rfl
        · show z.1 15 = 0
          rw [lf.1 15 (by decide) (by decide)]
          show u.1 15 = 0
          rw [u1]
          rfl
        · show z.1 0 = 0
          rw [zf 0 (by decide) (by decide) (by decide) (by decide) (by decide) (by decide) (by decide) (by decide), F.1 0 (by decide) (by decide) (by decide) (by decide) (by decide) (by decide) (by decide) (by decide) (by decide) (by decide)]
          rfl
        · show z.1 17 = 0
          rw [zf 17 (by decide) (by decide) (by decide) (by decide) (by decide) (by decide) (by decide) (by decide), F.1 17 (by decide) (by decide) (by decide) (by decide) (by decide) (by decide) (by decide) (by decide) (by decide) (by decide)]
          rfl
        · show z.1 23 = 0
          rw [zf 23 (by decide) (by decide) (by decide) (by decide) (by decide) (by decide) (by decide) (by decide), v23]
          exact q_eq
      | succ q ih =>
        intro t u ht t0 u1 u2 u3 hk
        push_cast at ht
        have l4 : (u.2 4).1 = 55 := by rw [u2 4 (by decide), vl 4]; exact h7
        have x4 : (u.2 4).2 = (v.2 4).2 := by rw [u2 4 (by decide)]
        refine vX9_piece_105 hx _ u 0 0 ⟨fun g => absurd g (by omega), fun _ => ⟨by omega, by omega, by omega, ih (t + 1) _ (by omega) (by omega) u1 (fun f hf => by rw [hd_pa_ne hf]; exact u2 f hf) (by rw [hd_pa_len]; exact u3) (fun k k0 k1 => ?_)⟩⟩
        rw [hd_pa_eq]
        show ab_ui (u.2 3).2 t _ k = _
        by_cases e : k = t
        · subst e; rw [hd_ui_eq, x4]
        · rw [hd_ui_ne e]; exact hk k k0 (by omega)
    exact key 55 0 _ (by omega) (by omega) rfl (fun _ _ => rfl) (by show (v.2 3).1 = 55; rw [vl 3]; exact n3) (fun k k0 k1 => absurd k1 (by omega))
  · obtain ⟨p1, v21⟩ := vb q
    refine ⟨fun y => absurd y (by omega), fun _ => ⟨⟨⟨_, rfl⟩, _, _, rfl, rfl⟩, _, rfl, Or.inl ⟨q, rfl, fun f f0 f1 f2 f10 f11 f12 f13 f17 f18 f19 f20 f21 f22 f23 f24 => ?_, fun f hf => ?_, ?_, ?_, rfl, v21, ?_, v23⟩⟩⟩
    · rw [hd_pf_ne f2, hd_pf_ne f1, F.1 f f10 f11 f12 f13 f19 f20 f21 f22 f23 f24, hd_pf_ne f23, hd_pf_ne f19, hd_pf_ne f17, hd_pf_ne f18, hd_pf_ne f0]
    · rw [hd_pf_2, hd_pf_2, F.2.1 f hf]
      rfl
    · rw [hd_pf_2, hd_pf_2, F.2.2]
      rfl
    · show v.1 0 = 0
      rw [F.1 0 (by decide) (by decide) (by decide) (by decide) (by decide) (by decide) (by decide) (by decide) (by decide) (by decide)]
      rfl
    · show v.1 17 = 0
      rw [F.1 17 (by decide) (by decide) (by decide) (by decide) (by decide) (by decide) (by decide) (by decide) (by decide) (by decide)]
      rfl
