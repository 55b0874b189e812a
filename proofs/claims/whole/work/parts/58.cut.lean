/-! Layer.cut -/
theorem lq_cv_ge : ∀ {L : List (Int × Int × Int × Int)} {i j : Int}, lq_cv i L j → ∀ e ∈ L, i ≤ e.1 ∧ e.1 ≤ e.2.1 ∧ e.2.1 ≤ j
  | [], _, _, _, e, he => by simp at he
  | x :: L, i, j, ⟨h1, h2, h3⟩, e, he => by
    have up : x.2.1 ≤ j := lq_cv_top h3
    rcases List.mem_cons.mp he with rfl | he
    · omega
    · have := lq_cv_ge h3 e he
      omega
where lq_cv_top : ∀ {L : List (Int × Int × Int × Int)} {s j : Int}, lq_cv (s + 1) L j → s ≤ j
  | [], s, j, h => by
    have : s + 1 = j + 1 := h
    omega
  | x :: L, s, j, ⟨h1, h2, h3⟩ => by
    have := lq_cv_top h3
    omega
theorem lq_cv_len : ∀ {L : List (Int × Int × Int × Int)} {i j : Int}, lq_cv i L j → (L.length : Int) ≤ j + 1 - i
  | [], i, j, h => by
    have : i = j + 1 := h
    simp
    omega
  | x :: L, i, j, ⟨h1, h2, h3⟩ => by
    have := lq_cv_len h3
    simp only [List.length_cons]
    push_cast
    omega
theorem lq_cv_uni : ∀ {L : List (Int × Int × Int × Int)} {i j : Int}, lq_cv i L j → ∀ e ∈ L, ∀ x ∈ L, e.1 = x.1 → e = x
  | [], _, _, _, e, he, _, _, _ => by simp at he
  | y :: L, i, j, ⟨h1, h2, h3⟩, e, he, x, hx, g => by
    rcases List.mem_cons.mp he with e1 | e1
    · rcases List.mem_cons.mp hx with e2 | e2
      · rw [e1, e2]
      · have := lq_cv_ge h3 x e2
        rw [e1] at g
        omega
    · rcases List.mem_cons.mp hx with e2 | e2
      · have := lq_cv_ge h3 e e1
        rw [e2] at g
        omega
      · exact lq_cv_uni h3 e e1 x e2 g
theorem c_cut (d : Nat) {v w : ab_Ob} {c : Int → Int → Int → Int → Int} {n dd : Int} (hn : 1 ≤ n ∧ n ≤ 24) (hv : ly_len v) (hw : tb_ok w c 0 (n - 1)) (hd : 0 ≤ dd) : ab_Ct (d + 1) 0 0 mX3_cut [ab_O 0, ab_O 1, ab_I dd, ab_I n] [v, w] (ab_V2 w (fun v' => ly_ok v' (lq_L c n dd))) := by
  have hH := dp_H_in (c := c) (i := 0) (j := n - 1) (by omega)
  have e2 : w.1 2 = n - 1 - 0 := hw.2.2.2.1
  have len := tb_at hw (by omega)
  obtain ⟨m3, m4, m5, m6, m7, m8, m9⟩ := hw.1
  have cov : lq_cv 0 (lq_L c n dd) (n - 1) := lq_cover c 0 (n - 1) (dp_H c 0 (n - 1)) 0 hH.1 hH.2 dd hd
  have lenL := lq_cv_len cov
  have uni := lq_cv_uni cov
  have ord := tr_order c 0 (n - 1) (dp_H c 0 (n - 1)) 0 hH.1 hH.2
  have memL : ∀ e ∈ lq_L c n dd, e ∈ tr_Q c 0 (n - 1) (dp_H c 0 (n - 1)) 0 ∧ lq_at dd e = true := fun e he => List.mem_filter.mp he
  have okQ := tr_Q_ok c 0 (n - 1) (dp_H c 0 (n - 1)) 0 hH.1 hH.2
  have elem := fun (t : Nat) e (h : (tr_J c 0 (n - 1) (dp_H c 0 (n - 1)) 0)[t]? = some e) => tb_e hw (by omega) (by omega) (by omega) h
  have inJ : ∀ e, e ∈ tr_J c 0 (n - 1) (dp_H c 0 (n - 1)) 0 ↔ (e ∈ tr_Q c 0 (n - 1) (dp_H c 0 (n - 1)) 0 ∧ e.1 < e.2.1) := fun e => by unfold tr_J; rw [List.mem_filter]; simp
  refine ab_ct kX3_cut rfl rfl (fun x hx => ?_)
  generalize hJ : tr_J c 0 (n - 1) (dp_H c 0 (n - 1)) 0 = J at *
  generalize hLL : lq_L c n dd = L at *
  have k14 : ∀ (q : Nat) (k cv : Int) (t : Nat) (E R : List (Int × Int × Int × Int)) (u : ab_Ob), k + q = n → 0 ≤ k → k ≤ cv + 1 → E ++ R = L → lq_cv (cv + 1) R (n - 1) → ly_ok u E → (t : Int) ≤ n - 1 → (∀ (t' : Nat) e, t' < t → J[t']? = some e → e.2.2.2 ≠ dd ∨ e.1 < cv + 1) → ab_J x 14 [some (ab_O 0), some (ab_O 1), some (ab_I dd), some (ab_I n), some (ab_I t), some (ab_I cv), some (ab_I k), none] [] [u, w] 0 0 := by
    intro q
    induction q with
    | zero =>
      intro k cv t E R u hk k0 hkc hER hcv hu ht hinv
      refine vX3_cut_14 hx _ _ _ _ _ u w 0 0 ⟨fun _ => ab_lv2 ?_, fun g => absurd (by omega) g⟩
      cases R with
      | nil =>
        rw [List.append_nil] at hER
        rw [← hER]
        exact hu
      | cons e R =>
        have := lq_cv_ge hcv e List.mem_cons_self
        omega
    | succ q ih =>
      intro k cv t E R u hk k0 hkc hER hcv hu ht hinv
      refine vX3_cut_14 hx _ _ _ _ _ u w 0 0 ⟨fun g => absurd g (by omega), fun _ => ⟨fun g => ?_, fun g => ?_⟩⟩
      · exact vX3_cut_170 hx _ _ _ _ _ u w 0 0 ⟨by omega, ih (k + 1) cv t E R u (by push_cast at hk; omega) (by omega) (by omega) hER hcv hu ht hinv⟩
      · have ek : cv + 1 = k := by omega
        rw [ek] at hcv hinv
        cases R with
        | nil =>
          have : k = n - 1 + 1 := hcv
          omega
        | cons e R =>
          obtain ⟨c1, c2, c3⟩ := hcv
          have eL : e ∈ L := by rw [← hER]; exact List.mem_append_right _ List.mem_cons_self
          obtain ⟨eQ, eat⟩ := memL e eL
          have eok := okQ e eQ
          unfold tr_ok at eok
          have szE : (E.length : Int) < 24 := by
            have := congrArg List.length hER
            simp only [List.length_append, List.length_cons] at this
            omega
          obtain ⟨⟨l1, l2, l3⟩, u0, ue⟩ := id hu
          -- the new layer
          have k137 : ∀ (t : Nat), (t : Int) ≤ n - 1 → (∀ (t' : Nat) e, t' < t → J[t']? = some e → e.2.2.2 ≠ dd ∨ e.1 < k) → ab_J x 137 [some (ab_O 0), some (ab_O 1), some (ab_I dd), some (ab_I n), some (ab_I t), some (ab_I e.2.1), some (ab_I k), none] [ab_I e.2.2.1, ab_I (u.1 0), ab_A 0 1] [u, w] 0 0 := by
            intro t ht hinv
            refine vX3_cut_137 hx _ _ _ _ _ _ _ u w 0 0 ⟨by omega, by omega, by omega, by omega, ?_⟩
            refine vX3_cut_170 hx _ _ _ _ _ _ w 0 0 ⟨by omega, ih (k + 1) e.2.1 t (E ++ [e]) R _ (by push_cast at hk; omega) (by omega) (by omega) (by rw [← hER]; simp) c3 ?_ ht (fun t' e' y1 y2 => (hinv t' e' y1 y2).imp id (fun g => by omega))⟩
            refine ⟨⟨by rw [hd_pf_2, hd_pa_len, hd_pa_len, hd_pa_len]; exact l1, by rw [hd_pf_2, hd_pa_len, hd_pa_len, hd_pa_len]; exact l2, by rw [hd_pf_2, hd_pa_len, hd_pa_len, hd_pa_len]; exact l3⟩, by rw [hd_pf_eq, u0]; simp, fun s y hy => ?_⟩
            by_cases hs : s < E.length
            · rw [List.getElem?_append_left hs] at hy
              have := ue s y hy
              have ne : (s : Int) ≠ u.1 0 := by omega
              simp [ab_pf, ab_pa, ab_ua, ab_ui, ne]
              exact this
            · rw [List.getElem?_append_right (by omega)] at hy
              obtain ⟨wl, _⟩ := List.getElem?_eq_some_iff.mp hy
              simp at wl
              have es : s = E.length := by omega
              rw [es, Nat.sub_self] at hy
              simp only [List.getElem?_cons_zero, Option.some.injEq] at hy
              subst hy
              have eq : (s : Int) = u.1 0 := by omega
              rw [eq]
              simp [ab_pf, ab_pa, ab_ua, ab_ui]
              omega
          -- the pointer stands
          have k65 : ∀ (t : Nat), (t : Int) ≤ n - 1 → (∀ (t' : Nat) e, t' < t → J[t']? = some e → e.2.2.2 ≠ dd ∨ e.1 < k) → (∀ y, J[t]? = some y → y.2.2.2 = dd ∧ k ≤ y.1) → ab_J x 65 [some (ab_O 0), some (ab_O 1), some (ab_I dd), some (ab_I n), some (ab_I t), none, some (ab_I k), none] [] [u, w] 0 0 := by
            intro t ht hinv hst
            have k9 := k137 t ht hinv
            have leaf : e.1 = e.2.1 → ab_J x 90 [some (ab_O 0), some (ab_O 1), some (ab_I dd), some (ab_I n), some (ab_I t), none, some (ab_I k), none] [] [u, w] 0 0 := fun g => by
              have e1 : e.2.1 = k := by omega
              have e3 : e.2.2.1 = k := by omega
              rw [e1, e3] at k9
              exact vX3_cut_90 hx _ _ _ _ u w 0 0 (vX3_cut_91 hx _ _ _ _ _ u w 0 0 ⟨fun _ => vX3_cut_110 hx _ _ _ _ _ _ u w 0 0 ⟨fun _ => k9, fun h => absurd rfl h⟩, fun h => absurd rfl h⟩)
            by_cases ej : e.1 < e.2.1
            · have edd : e.2.2.2 = dd := by
                unfold lq_at tr_jn at eat
                simp [ej] at eat
                exact eat
              obtain ⟨te, hte⟩ := List.getElem?_of_mem ((inJ e).mpr ⟨eQ, ej⟩)
              obtain ⟨tel, _⟩ := List.getElem?_eq_some_iff.mp hte
              have tt : t = te := by
                rcases Nat.lt_trichotomy t te with h | h | h
                · have tl : t < J.length := by omega
                  have hy := List.getElem?_eq_getElem tl
                  have y1 := hst _ hy
                  have y2 := ord t te _ e hy hte h (by rw [y1.1, edd])
                  have y3 := (elem t _ hy).2.2.2.1
                  omega
                · exact h
                · rcases hinv te e h hte with g | g
                  · exact absurd edd g
                  · omega
              subst tt
              obtain ⟨a1, ⟨r1, r2, r3, r4⟩, a3, a4, a5, a6, a7, a8⟩ := elem t e hte
              refine vX3_cut_65 hx _ _ _ _ u w 0 0 ⟨fun g => absurd g (by omega), fun _ => ⟨by omega, ?_⟩⟩
              rw [r1]
              refine ⟨fun g => absurd c1 g, fun _ => ?_⟩
              refine vX3_cut_91 hx _ _ _ _ _ u w 0 0 ⟨fun h => absurd h (by decide), fun _ => ⟨by omega, ?_⟩⟩
              rw [r2]
              refine vX3_cut_110 hx _ _ _ _ _ _ u w 0 0 ⟨fun h => absurd h (by decide), fun _ => ⟨by omega, ?_⟩⟩
              rw [r3]
              exact k9
            · have el : e.1 = e.2.1 := by omega
              refine vX3_cut_65 hx _ _ _ _ u w 0 0 ⟨fun _ => leaf el, fun g => ?_⟩
              have tl : t < J.length := by omega
              have hy := List.getElem?_eq_getElem tl
              generalize J[t] = y at hy
              obtain ⟨a1, ⟨r1, r2, r3, r4⟩, a3, a4, a5, a6, a7, a8⟩ := elem t y hy
              refine ⟨by omega, ?_⟩
              rw [r1]
              refine ⟨fun _ => leaf el, fun g2 => ?_⟩
              exfalso
              have yJ := (inJ y).mp (List.mem_of_getElem? hy)
              have yL : y ∈ L := by
                rw [← hLL]
                exact List.mem_filter.mpr ⟨yJ.1, by simp [lq_at, (hst y hy).1]⟩
              have := uni e eL y yL (by omega)
              subst this
              omega
          -- the pointer goes on
          have k27 : ∀ (r t : Nat), (t : Int) + r = n - 1 → (∀ (t' : Nat) e, t' < t → J[t']? = some e → e.2.2.2 ≠ dd ∨ e.1 < k) → ab_J x 27 [some (ab_O 0), some (ab_O 1), some (ab_I dd), some (ab_I n), some (ab_I t), none, some (ab_I k), none] [] [u, w] 0 0 := by
            intro r
            induction r with
            | zero =>
              intro t ht hinv
              exact vX3_cut_27 hx _ _ _ _ u w 0 0 ⟨fun _ => k65 t (by omega) hinv (fun y hy => by
                obtain ⟨wl, _⟩ := List.getElem?_eq_some_iff.mp hy
                omega), fun g => absurd (by omega) g⟩
            | succ r ihr =>
              intro t ht hinv
              have tl : t < J.length := by omega
              have hy := List.getElem?_eq_getElem tl
              generalize J[t] = y at hy
              obtain ⟨a1, ⟨r1, r2, r3, r4⟩, a3, a4, a5, a6, a7, a8⟩ := elem t y hy
              have go : (y.2.2.2 ≠ dd ∨ y.1 < k) → ab_J x 59 [some (ab_O 0), some (ab_O 1), some (ab_I dd), some (ab_I n), some (ab_I t), none, some (ab_I k), none] [] [u, w] 0 0 := fun g =>
                vX3_cut_59 hx _ _ _ _ u w 0 0 ⟨by omega, ihr (t + 1) (by push_cast; omega) (fun t' e' y1 y2 => by
                  by_cases eq : t' = t
                  · subst eq
                    rw [hy] at y2
                    cases y2
                    exact g
                  · exact hinv t' e' (by omega) y2)⟩
              refine vX3_cut_27 hx _ _ _ _ u w 0 0 ⟨fun g => absurd g (by omega), fun _ => ⟨by omega, ?_⟩⟩
              rw [r1, r4]
              refine ⟨fun g => go (Or.inl g), fun g => ⟨by omega, fun g2 => k65 t (by omega) hinv (fun y' hy' => ?_), fun g2 => go (Or.inr (by omega))⟩⟩
              rw [hy] at hy'
              cases hy'
              exact ⟨g, g2⟩
          exact k27 (n - 1 - t).toNat t (by omega) hinv
  refine vX3_cut_0 hx dd n v w 0 0 ?_
  exact k14 n.toNat 0 (-1) 0 [] L (ab_pf v 0 0) (by omega) (by omega) (by omega) rfl cov ⟨hv, by rw [hd_pf_eq]; rfl, fun t e h => by simp at h⟩ (by omega) (fun t' e h => absurd h (by omega))
