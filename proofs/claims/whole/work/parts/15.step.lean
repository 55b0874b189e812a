/-! SOUNDNESS, last part: one step -/
theorem ab_mi : .initialized "java/lang/Math" ∈ ab_gw := ab_lk_in (p := 109) (by decide +kernel)
theorem ab_ms_max : .static Lib.Math.max.name ∈ ab_gw := ab_lk_in (p := 863) (by decide +kernel)
theorem ab_mc_max : .code Lib.Math.max.name Lib.Math.max.code 2 (some .int) ∈ ab_gw := ab_lk_in (p := 864) (by decide +kernel)
theorem ab_ms_min : .static Lib.Math.min.name ∈ ab_gw := ab_lk_in (p := 462) (by decide +kernel)
theorem ab_mc_min : .code Lib.Math.min.name Lib.Math.min.code 2 (some .int) ∈ ab_gw := ab_lk_in (p := 463) (by decide +kernel)
theorem ab_ms_abs : .static Lib.Math.abs.name ∈ ab_gw := ab_lk_in (p := 670) (by decide +kernel)
theorem ab_mc_abs : .code Lib.Math.abs.name Lib.Math.abs.code 1 (some .int) ∈ ab_gw := ab_lk_in (p := 671) (by decide +kernel)
theorem ab_ms_minl : .static Lib.MathLoose.min_long.x ∈ ab_gw := ab_lk_in (p := 796) (by decide +kernel)
theorem ab_mc_minl : .code Lib.MathLoose.min_long.x Lib.MathLoose.min_long.code 4 (some .long) ∈ ab_gw := ab_lk_in (p := 797) (by decide +kernel)
theorem ab_tx_in {own : String} {i n : Nat} (h : ab_tx own i n = true) : ∃ tx, (own, i, tx, n) ∈ ab_sts := by
  unfold ab_tx at h
  obtain ⟨q, hq, h⟩ := List.any_eq_true.mp h
  simp only [Bool.and_eq_true, decide_eq_true_eq] at h
  obtain ⟨rfl, rfl, rfl⟩ := h
  exact ⟨q.2.2.1, hq⟩
theorem ab_fl_ok {own : String} {i a f p : Nat} (h : ab_fl own i a f p = true) : a < 10 ∧ f < (ab_lay a).length ∧ .fieldLink own i (ab_T a f).1 (ab_T a f).2.1 (ab_T a f).2.2.1 ∈ ab_gw := by
  unfold ab_fl at h
  simp only [Bool.and_eq_true, decide_eq_true_eq] at h
  exact ⟨h.1, h.2.1, ab_lk_in h.2.2⟩
theorem ab_if_mono {cn : Jvm.ClassFile.Cond} {a b : Int} {kt kf kt' kf' : Prop} (h : ab_if cn a b kt kf) (h1 : kt → kt') (h2 : kf → kf') : ab_if cn a b kt' kf' := by
  cases cn <;> exact ⟨fun e => h1 (h.1 e), fun e => h2 (h.2 e)⟩
theorem ab_sw_mono {a hi : Int} : ∀ {ts : List Nat} {v : Int} {k k' : Nat → Prop}, ab_sw a hi v ts k → (∀ t, k t → k' t) → ab_sw a hi v ts k'
  | [], _, _, _, _, _ => trivial
  | t :: ts, v, k, k', h, hk => ⟨fun e => hk t (h.1 e), ab_sw_mono (ts := ts) (v := v + 1) h.2 hk⟩
theorem ab_getf_mono {G : List Nat} {ws : List ab_Ob} {o a f : Nat} {k k' : ab_V → Prop} (h : ab_getf G ws o a f k) (hk : ∀ v, k v → k' v) : ab_getf G ws o a f k' := by
  unfold ab_getf at h ⊢
  split at h
  · split at h
    · split at h <;> exact hk _ h
    · exact h.elim
  · exact h.elim
theorem ab_putf_mono {G : List Nat} {ws : List ab_Ob} {o a f : Nat} {v : ab_V} {k k' : List ab_Ob → Prop} (h : ab_putf G ws o a f v k) (hk : ∀ v, k v → k' v) : ab_putf G ws o a f v k' := by
  unfold ab_putf at h ⊢
  simp only [ab_frc_eq] at h ⊢
  split at h
  · split at h
    · split at h
      · exact hk _ h
      · exact ⟨h.1, hk _ h.2⟩
      · exact hk _ h
      · exact h.elim
    · exact h.elim
  · exact h.elim
theorem ab_newf_mono {G : List Nat} {ws : List ab_Ob} {o a f : Nat} {n : Int} {q : Nat → Bool} {k k' : List ab_Ob → Prop} (h : ab_newf G ws o a f n q k) (hk : ∀ v, k v → k' v) : ab_newf G ws o a f n q k' := by
  unfold ab_newf at h ⊢
  simp only [ab_frc_eq] at h ⊢
  split at h
  · split at h
    · exact hk _ h
    · exact h.elim
  · exact h.elim
theorem ab_ald_mono {G : List Nat} {ws : List ab_Ob} {o f : Nat} {i : Int} {q : Nat → Bool} {k k' : Nat → Int → Prop} (h : ab_ald G ws o f i q k) (hk : ∀ a b, k a b → k' a b) : ab_ald G ws o f i q k' := by
  unfold ab_ald at h ⊢
  split at h
  · split at h
    · exact ⟨h.1, hk _ _ h.2⟩
    · exact h.elim
  · exact h.elim
theorem ab_ast_mono {G : List Nat} {ws : List ab_Ob} {o f : Nat} {i : Int} {q : Nat → Bool} {k k' : Nat → (Int → List ab_Ob) → Prop} (h : ab_ast G ws o f i q k) (hk : ∀ a b, k a b → k' a b) : ab_ast G ws o f i q k' := by
  unfold ab_ast at h ⊢
  split at h
  · split at h
    · exact ⟨h.1, hk _ _ h.2⟩
    · exact h.elim
  · exact h.elim
theorem ab_ld_mono {lv : List (Option ab_V)} {i : Nat} {k k' : ab_V → Prop} (hk : ∀ v, k v → k' v) : (ab_ldI lv i k → ab_ldI lv i k') ∧ (ab_ldL lv i k → ab_ldL lv i k') ∧ (ab_ldA lv i k → ab_ldA lv i k') := by
  refine ⟨fun h => ?_, fun h => ?_, fun h => ?_⟩
  · unfold ab_ldI at h ⊢
    split at h
    · exact hk _ h
    · exact h.elim
  · unfold ab_ldL at h ⊢
    split at h
    · exact hk _ h
    · exact h.elim
  · unfold ab_ldA at h ⊢
    split at h
    · exact hk _ h
    · exact h.elim
theorem ab_pI_ok {st : List ab_V} {k : Int → List ab_V → Prop} (h : ab_pI st k) : ∃ z st', st = .inl z :: st' ∧ k z st' := by
  unfold ab_pI at h
  split at h
  · exact ⟨_, _, rfl, h⟩
  · exact h.elim
theorem ab_pL_ok {st : List ab_V} {k : Int → List ab_V → Prop} (h : ab_pL st k) : ∃ z st', st = .inr (.inl z) :: st' ∧ k z st' := by
  unfold ab_pL at h
  split at h
  · exact ⟨_, _, rfl, h⟩
  · exact h.elim
theorem ab_pR_ok {st : List ab_V} {k : Nat ⊕ ((Nat × Nat) ⊕ Nat) → List ab_V → Prop} (h : ab_pR st k) : ∃ z st', st = .inr (.inr z) :: st' ∧ k z st' := by
  unfold ab_pR at h
  split at h
  · exact ⟨_, _, rfl, h⟩
  · exact h.elim
theorem ab_pO_ok {st : List ab_V} {k : Nat → List ab_V → Prop} (h : ab_pO st k) : ∃ o st', st = ab_O o :: st' ∧ k o st' := by
  unfold ab_pO at h
  split at h
  · exact ⟨_, _, rfl, h⟩
  · exact h.elim
theorem ab_pA_ok {st : List ab_V} {k : Nat → Nat → List ab_V → Prop} (h : ab_pA st k) : ∃ o f st', st = .inr (.inr (.inr (.inl (o, f)))) :: st' ∧ k o f st' := by
  unfold ab_pA at h
  split at h
  · exact ⟨_, _, _, rfl, h⟩
  · exact h.elim
theorem ab_pY_ok {st : List ab_V} {k : ab_V → List ab_V → Prop} (h : ab_pY st k) : ∃ v st', st = v :: st' ∧ k v st' := by
  unfold ab_pY at h
  split at h
  · exact ⟨_, _, rfl, h⟩
  · exact h.elim
theorem ab_pV_ok {st : List ab_V} {k : ab_V → List ab_V → Prop} (h : ab_pV st k) : ∃ v st', st = v :: st' ∧ ab_cat v = 1 ∧ k v st' := by
  unfold ab_pV at h
  split at h
  · split at h
    · rename_i hv
      exact ⟨_, _, rfl, hv, h⟩
    · exact h.elim
  · exact h.elim
theorem ab_nil_ok {st : List ab_V} {k : Prop} (h : ab_nil st k) : st = [] ∧ k := by
  unfold ab_nil at h
  split at h
  · exact ⟨rfl, h⟩
  · exact h.elim
theorem ab_one_ok {ts : List Nat} {k : Nat → Prop} (h : ab_one ts k) : ∃ t, ts = [t] ∧ k t := by
  unfold ab_one at h
  split at h
  · exact ⟨_, rfl, h⟩
  · exact h.elim
theorem ab_hd_ok {ts : List Nat} {k : Nat → List Nat → Prop} (h : ab_hd ts k) : ∃ t l, ts = t :: l ∧ k t l := by
  unfold ab_hd at h
  split at h
  · exact ⟨_, _, rfl, h⟩
  · exact h.elim
theorem ab_iinc_ok {lv : List (Option ab_V)} {i : Nat} {k : Int → Prop} (h : ab_iinc lv i k) : ∃ z, ab_at lv i = some (some (.inl z)) ∧ k z := by
  unfold ab_iinc at h
  split at h
  · rename_i z hz
    exact ⟨z, hz, h⟩
  · exact h.elim
theorem ab_pnx_ok {b : Bool} {rs : List ab_R} {k : Nat → Nat → List ab_R → Prop} (h : ab_pnx b rs k) : b = true ∧ ∃ pc i len a f c t M rs2, rs = (pc, .putfield i, len, a, f, c, t, M) :: rs2 ∧ k a f rs2 := by
  unfold ab_pnx at h
  split at h
  · exact ⟨rfl, _, _, _, _, _, _, _, _, _, rfl, h⟩
  · exact h.elim
theorem ab_aln_ok {G : List Nat} {ws : List ab_Ob} {o f : Nat} {k : Int → Prop} (h : ab_aln G ws o f k) : ∃ ci ob, ab_at G o = some ci ∧ ab_at ws o = some ob ∧ ab_arr (ab_kd ci f) ∧ k (ob.2 f).1 := by
  unfold ab_aln at h
  split at h
  · rename_i ci ob hG hob
    split at h
    · rename_i hb
      simp only [Bool.and_eq_true] at hb
      exact ⟨ci, ob, hG, hob, ⟨Nat.le_of_ble_eq_true hb.1, Nat.le_of_ble_eq_true hb.2⟩, h⟩
    · exact h.elim
  · exact h.elim
theorem ab_le8_ok {st : List ab_V} {k : Prop} (h : ab_le8 st k) : ab_cats st ≤ 8 ∧ k := by
  unfold ab_le8 at h
  split at h
  · rename_i hb
    exact ⟨Nat.le_of_ble_eq_true hb, h⟩
  · exact h.elim
theorem ab_vir_ok {G : List Nat} {Mo : Option ab_M} {st : List ab_V} {k : ab_M → List ab_V → List ab_V → Prop} (h : ab_vir G Mo st k) : ∃ M as rest, Mo = some M ∧ st = as.reverse ++ rest ∧ ab_st M = false ∧ as.length = ab_na M + 1 ∧ ((∃ o ci as0, as = ab_O o :: as0 ∧ ab_at G o = some ci ∧ ci = ab_ci M ∧ ci < 10) ∨ ∃ n as0, as = ab_S n :: as0 ∧ ab_ci M = 100 ∧ n < 12) ∧ k M as rest := by
  unfold ab_vir at h
  split at h
  · rename_i M
    split at h
    · rename_i o as rest hs htk
      obtain ⟨t1, t2⟩ := ab_take_ok htk
      split at h
      · rename_i ci hG
        split at h
        · rename_i hb
          simp only [Bool.and_eq_true] at hb
          exact ⟨M, _, rest, rfl, t1, hs, by simpa using t2, Or.inl ⟨o, ci, as, rfl, hG, ab_beq hb.1, Nat.le_of_ble_eq_true hb.2⟩, h⟩
        · exact h.elim
      · exact h.elim
    · rename_i n as rest hs htk
      obtain ⟨t1, t2⟩ := ab_take_ok htk
      split at h
      · rename_i hb
        exact ⟨M, _, rest, rfl, t1, hs, by simpa using t2, Or.inr ⟨n, as, rfl, ab_beq hb, h.1⟩, h.2⟩
      · exact h.elim
    · exact h.elim
  · exact h.elim
theorem ab_sta_ok {Mo : Option ab_M} {st : List ab_V} {k : ab_M → List ab_V → List ab_V → Prop} (h : ab_sta Mo st k) : ∃ M as rest, Mo = some M ∧ st = as.reverse ++ rest ∧ ab_st M = true ∧ as.length = ab_na M ∧ k M as rest := by
  unfold ab_sta at h
  split at h
  · rename_i M
    split at h
    · rename_i as rest hs htk
      obtain ⟨t1, t2⟩ := ab_take_ok htk
      exact ⟨M, as, rest, rfl, t1, hs, by simpa using t2, h⟩
    · exact h.elim
  · exact h.elim
/-- ONE STEP -/
theorem ab_step_ok {x0 : ab_Cx} {Post : Option ab_V → List ab_Ob → Prop} {K : ab_KT} {rows : List ab_R} {r : ab_R} {rs : List ab_R} {lv : List (Option ab_V)} {st : List ab_V} {ws : List ab_Ob} {kc ks : Nat} (X : ab_X x0) (XQ : ab_XQ x0 Post) (hrows : ab_okS (ab_cM x0) rows) (hr : ab_okS (ab_cM x0) (r :: rs))
    (hK : ∀ rs' lv st ws kc ks, ab_okS (ab_cM x0) rs' → K rs' lv st ws kc ks → ∃ r' rs'', rs' = r' :: rs'' ∧ ab_J x0 r'.1 lv st ws kc ks)
    (k : ab_step (ab_G (ab_cM x0)) rows (ab_cd' x0) (ab_cc x0) (ab_ck x0) (ab_mv (ab_cM x0)) (ab_rt (ab_cM x0)) Post K r rs lv st ws kc ks) : ab_J x0 r.1 lv st ws kc ks := by
  obtain ⟨⟨pp, hB⟩, hnx, hrs⟩ := ab_okS_tl hr
  obtain ⟨pc, ins, len, ra, rb, rc, ts, Mo⟩ := r
  have nx : ∀ lv st ws kc ks, K rs lv st ws kc ks → ab_J x0 (pc + len) lv st ws kc ks := fun lv st ws kc ks h => by
    obtain ⟨r', rs'', e, hj⟩ := hK _ _ _ _ _ _ hrs h
    have := hnx r' rs'' e
    rw [this] at hj
    exact hj
  have jp : ∀ t lv st ws kc ks, K (ab_seek rows t) lv st ws kc ks → ab_J x0 t lv st ws kc ks := fun t lv st ws kc ks h => by
    obtain ⟨h1, h2⟩ := ab_okS_seek hrows t
    obtain ⟨r', rs'', e, hj⟩ := hK _ _ _ _ _ _ h1 h
    rw [h2 r' rs'' e] at hj
    exact hj
  obtain ⟨hd0, hB0⟩ := (Bool.and_eq_true _ _).mp hB
  clear hB
  have hd : ab_dec x0 pc ins len := of_decide_eq_true hd0
  clear hd0
  show ab_J x0 pc lv st ws kc ks
  cases ins
  case iconst z =>
    have hB : (decide (len = 1 ∧ -1 ≤ z ∧ z ≤ 5)) = true := hB0
    have k0 : K rs lv (.inl z :: st) ws kc ks := k
    clear k
    obtain ⟨hl, hz⟩ := of_decide_eq_true hB
    subst hl
    exact ab_r_iconst X hz hd (nx _ _ _ _ _ k0)
  case bipush z =>
    have hB : (decide (len = 2 ∧ -128 ≤ z ∧ z ≤ 127)) = true := hB0
    have k0 : K rs lv (.inl z :: st) ws kc ks := k
    clear k
    obtain ⟨hl, hz⟩ := of_decide_eq_true hB
    subst hl
    exact ab_r_bipush X hz hd (nx _ _ _ _ _ k0)
  case sipush z =>
    have hB : (decide (len = 3 ∧ -32768 ≤ z ∧ z ≤ 32767)) = true := hB0
    have k0 : K rs lv (.inl z :: st) ws kc ks := k
    clear k
    obtain ⟨hl, hz⟩ := of_decide_eq_true hB
    subst hl
    exact ab_r_sipush X hz hd (nx _ _ _ _ _ k0)
  case ldc i =>
    have hB : (decide (len = 2) && ab_ldB (ab_nm (ab_cM x0)).cls i rb rc pp) = true := hB0
    have k0 : ab_sel rc (K rs lv (.inl (rb : Nat) :: st) ws kc ks) (K rs lv (ab_S rb :: st) ws kc ks) := k
    clear k
    obtain ⟨hl, hB1⟩ := (Bool.and_eq_true _ _).mp hB
    have hl := of_decide_eq_true hl
    clear hB hB0
    subst hl
    cases rc with
    | zero =>
      obtain ⟨h1, h2⟩ := (Bool.and_eq_true _ _).mp hB1
      exact ab_r_ldc X (of_decide_eq_true h1) (ab_lk_in h2) hd (nx _ _ _ _ _ k0)
    | succ rc =>
      obtain ⟨tx, htx⟩ := ab_tx_in hB1
      exact ab_r_ldcS X htx hd (nx _ _ _ _ _ k0)
  case ldc_w i =>
    have hB : (decide (len = 3) && (decide (rb ≤ 2147483647) && ab_lk (.constant (ab_nm (ab_cM x0)).cls i (Int32.ofInt (rb : Nat))) pp)) = true := hB0
    have k0 : K rs lv (.inl (rb : Nat) :: st) ws kc ks := k
    clear k
    obtain ⟨hl, hB1⟩ := (Bool.and_eq_true _ _).mp hB
    have hl := of_decide_eq_true hl
    clear hB hB0
    subst hl
    obtain ⟨h1, h2⟩ := (Bool.and_eq_true _ _).mp hB1
    exact ab_r_ldcw X (of_decide_eq_true h1) (ab_lk_in h2) hd (nx _ _ _ _ _ k0)
  case ldc2_w i =>
    have hB : (decide (len = 3) && (decide (rb ≤ 9223372036854775807) && ab_lk (.constantLong (ab_nm (ab_cM x0)).cls i (Int64.ofInt (rb : Nat))) pp)) = true := hB0
    have k0 : K rs lv (.inr (.inl (rb : Nat)) :: st) ws kc ks := k
    clear k
    obtain ⟨hl, hB1⟩ := (Bool.and_eq_true _ _).mp hB
    have hl := of_decide_eq_true hl
    clear hB hB0
    subst hl
    obtain ⟨h1, h2⟩ := (Bool.and_eq_true _ _).mp hB1
    exact ab_r_ldc2 X (of_decide_eq_true h1) (ab_lk_in h2) hd (nx _ _ _ _ _ k0)
  case lconst z =>
    have hB : (decide (len = 1)) = true := hB0
    have k0 : K rs lv (.inr (.inl (z : Nat)) :: st) ws kc ks := k
    clear k
    have hl := of_decide_eq_true hB
    subst hl
    exact ab_r_lconst X hd (nx _ _ _ _ _ k0)
  case iload i =>
    have hB : (decide (len = 2)) = true := hB0
    have k0 : ab_ldI lv i fun v => K rs lv (v :: st) ws kc ks := k
    clear k
    have hl := of_decide_eq_true hB
    subst hl
    exact ab_r_iload X hd ((ab_ld_mono (fun v h => nx _ _ _ _ _ h)).1 k0)
  case iload_n i =>
    have hB : (decide (len = 1)) = true := hB0
    have k0 : ab_ldI lv i fun v => K rs lv (v :: st) ws kc ks := k
    clear k
    have hl := of_decide_eq_true hB
    subst hl
    exact ab_r_iload_n X hd ((ab_ld_mono (fun v h => nx _ _ _ _ _ h)).1 k0)
  case lload i =>
    have hB : (decide (len = 2)) = true := hB0
    have k0 : ab_ldL lv i fun v => K rs lv (v :: st) ws kc ks := k
    clear k
    have hl := of_decide_eq_true hB
    subst hl
    exact ab_r_lload X hd ((ab_ld_mono (fun v h => nx _ _ _ _ _ h)).2.1 k0)
  case lload_n i =>
    have hB : (decide (len = 1)) = true := hB0
    have k0 : ab_ldL lv i fun v => K rs lv (v :: st) ws kc ks := k
    clear k
    have hl := of_decide_eq_true hB
    subst hl
    exact ab_r_lload_n X hd ((ab_ld_mono (fun v h => nx _ _ _ _ _ h)).2.1 k0)
  case aload i =>
    have hB : (decide (len = 2)) = true := hB0
    have k0 : ab_ldA lv i fun v => K rs lv (v :: st) ws kc ks := k
    clear k
    have hl := of_decide_eq_true hB
    subst hl
    exact ab_r_aload X hd ((ab_ld_mono (fun v h => nx _ _ _ _ _ h)).2.2 k0)
  case aload_n i =>
    have hB : (decide (len = 1)) = true := hB0
    have k0 : ab_ldA lv i fun v => K rs lv (v :: st) ws kc ks := k
    clear k
    have hl := of_decide_eq_true hB
    subst hl
    exact ab_r_aload_n X hd ((ab_ld_mono (fun v h => nx _ _ _ _ _ h)).2.2 k0)
  case istore i =>
    have hB : (decide (len = 2 ∧ i < ab_ml (ab_cM x0))) = true := hB0
    have k0 : ab_pI st fun z st => ab_frc (ab_s1 lv i (.inl z)) fun lv1 => K rs lv1 st ws kc ks := k
    clear k
    obtain ⟨hl, hz⟩ := of_decide_eq_true hB
    subst hl
    obtain ⟨z, st, e1_2, k1⟩ := ab_pI_ok k0
    clear k0
    subst e1_2
    rw [ab_frc_eq] at k1
    exact ab_r_istore X hz hd (nx _ _ _ _ _ k1)
  case istore_n i =>
    have hB : (decide (len = 1 ∧ (i : Nat) < ab_ml (ab_cM x0))) = true := hB0
    have k0 : ab_pI st fun z st => ab_frc (ab_s1 lv i (.inl z)) fun lv1 => K rs lv1 st ws kc ks := k
    clear k
    obtain ⟨hl, hz⟩ := of_decide_eq_true hB
    subst hl
    obtain ⟨z, st, e1_2, k1⟩ := ab_pI_ok k0
    clear k0
    subst e1_2
    rw [ab_frc_eq] at k1
    exact ab_r_istore_n X hz hd (nx _ _ _ _ _ k1)
  case lstore i =>
    have hB : (decide (len = 2 ∧ i + 1 < ab_ml (ab_cM x0))) = true := hB0
    have k0 : ab_pL st fun z st => ab_frc (ab_s2 lv i (.inr (.inl z))) fun lv1 => K rs lv1 st ws kc ks := k
    clear k
    obtain ⟨hl, hz⟩ := of_decide_eq_true hB
    subst hl
    obtain ⟨z, st, e1_2, k1⟩ := ab_pL_ok k0
    clear k0
    subst e1_2
    rw [ab_frc_eq] at k1
    exact ab_r_lstore X hz hd (nx _ _ _ _ _ k1)
  case lstore_n i =>
    have hB : (decide (len = 1 ∧ (i : Nat) + 1 < ab_ml (ab_cM x0))) = true := hB0
    have k0 : ab_pL st fun z st => ab_frc (ab_s2 lv i (.inr (.inl z))) fun lv1 => K rs lv1 st ws kc ks := k
    clear k
    obtain ⟨hl, hz⟩ := of_decide_eq_true hB
    subst hl
    obtain ⟨z, st, e1_2, k1⟩ := ab_pL_ok k0
    clear k0
    subst e1_2
    rw [ab_frc_eq] at k1
    exact ab_r_lstore_n X hz hd (nx _ _ _ _ _ k1)
  case astore i =>
    have hB : (decide (len = 2 ∧ i < ab_ml (ab_cM x0))) = true := hB0
    have k0 : ab_pR st fun z st => ab_frc (ab_s1 lv i (.inr (.inr z))) fun lv1 => K rs lv1 st ws kc ks := k
    clear k
    obtain ⟨hl, hz⟩ := of_decide_eq_true hB
    subst hl
    obtain ⟨z, st, e1_2, k1⟩ := ab_pR_ok k0
    clear k0
    subst e1_2
    rw [ab_frc_eq] at k1
    exact ab_r_astore X hz hd (nx _ _ _ _ _ k1)
  case astore_n i =>
    have hB : (decide (len = 1 ∧ (i : Nat) < ab_ml (ab_cM x0))) = true := hB0
    have k0 : ab_pR st fun z st => ab_frc (ab_s1 lv i (.inr (.inr z))) fun lv1 => K rs lv1 st ws kc ks := k
    clear k
    obtain ⟨hl, hz⟩ := of_decide_eq_true hB
    subst hl
    obtain ⟨z, st, e1_2, k1⟩ := ab_pR_ok k0
    clear k0
    subst e1_2
    rw [ab_frc_eq] at k1
    exact ab_r_astore_n X hz hd (nx _ _ _ _ _ k1)
  case iinc i n =>
    have hB : (decide (len = 3 ∧ i < ab_ml (ab_cM x0))) = true := hB0
    have k0 : ab_iinc lv i fun z => ab_num (z + n) (ab_frc (ab_s1 lv i (.inl (z + n))) fun lv1 => K rs lv1 st ws kc ks) := k
    clear k
    obtain ⟨hl, hz⟩ := of_decide_eq_true hB
    subst hl
    obtain ⟨z, hz2, k1⟩ := ab_iinc_ok k0
    clear k0
    rw [ab_frc_eq] at k1
    exact ab_r_iinc X hz hz2 hd ⟨k1.1, nx _ _ _ _ _ k1.2⟩
  case iadd =>
    have hB : (decide (len = 1)) = true := hB0
    have k0 : ab_pI st fun y st => ab_pI st fun x st => ab_num (x + y) (K rs lv (.inl (x + y) :: st) ws kc ks) := k
    clear k
    have hl := of_decide_eq_true hB
    subst hl
    obtain ⟨y, st, e1_2, k1⟩ := ab_pI_ok k0
    clear k0
    subst e1_2
    obtain ⟨x, st, e2_2, k2⟩ := ab_pI_ok k1
    clear k1
    subst e2_2
    exact ab_r_iadd X hd ⟨k2.1, nx _ _ _ _ _ k2.2⟩
  case isub =>
    have hB : (decide (len = 1)) = true := hB0
    have k0 : ab_pI st fun y st => ab_pI st fun x st => ab_num (x - y) (K rs lv (.inl (x - y) :: st) ws kc ks) := k
    clear k
    have hl := of_decide_eq_true hB
    subst hl
    obtain ⟨y, st, e1_2, k1⟩ := ab_pI_ok k0
    clear k0
    subst e1_2
    obtain ⟨x, st, e2_2, k2⟩ := ab_pI_ok k1
    clear k1
    subst e2_2
    exact ab_r_isub X hd ⟨k2.1, nx _ _ _ _ _ k2.2⟩
  case imul =>
    have hB : (decide (len = 1)) = true := hB0
    have k0 : ab_pI st fun y st => ab_pI st fun x st => ab_num (x * y) (K rs lv (.inl (x * y) :: st) ws kc ks) := k
    clear k
    have hl := of_decide_eq_true hB
    subst hl
    obtain ⟨y, st, e1_2, k1⟩ := ab_pI_ok k0
    clear k0
    subst e1_2
    obtain ⟨x, st, e2_2, k2⟩ := ab_pI_ok k1
    clear k1
    subst e2_2
    exact ab_r_imul X hd ⟨k2.1, nx _ _ _ _ _ k2.2⟩
  case ineg =>
    have hB : (decide (len = 1)) = true := hB0
    have k0 : ab_pI st fun x st => ab_num (-x) (K rs lv (.inl (-x) :: st) ws kc ks) := k
    clear k
    have hl := of_decide_eq_true hB
    subst hl
    obtain ⟨x, st, e1_2, k1⟩ := ab_pI_ok k0
    clear k0
    subst e1_2
    exact ab_r_ineg X hd ⟨k1.1, nx _ _ _ _ _ k1.2⟩
  case idiv =>
    have hB : (decide (len = 1)) = true := hB0
    have k0 : ab_pI st fun y st => ab_pI st fun x st => (¬ y = 0) ∧ ab_num (x.tdiv y) (K rs lv (.inl (x.tdiv y) :: st) ws kc ks) := k
    clear k
    have hl := of_decide_eq_true hB
    subst hl
    obtain ⟨y, st, e1_2, k1⟩ := ab_pI_ok k0
    clear k0
    subst e1_2
    obtain ⟨x, st, e2_2, k2⟩ := ab_pI_ok k1
    clear k1
    subst e2_2
    exact ab_r_idiv X hd ⟨k2.1, k2.2.1, nx _ _ _ _ _ k2.2.2⟩
  case irem =>
    have hB : (decide (len = 1)) = true := hB0
    have k0 : ab_pI st fun y st => ab_pI st fun x st => (¬ y = 0) ∧ ab_num (x.tmod y) (K rs lv (.inl (x.tmod y) :: st) ws kc ks) := k
    clear k
    have hl := of_decide_eq_true hB
    subst hl
    obtain ⟨y, st, e1_2, k1⟩ := ab_pI_ok k0
    clear k0
    subst e1_2
    obtain ⟨x, st, e2_2, k2⟩ := ab_pI_ok k1
    clear k1
    subst e2_2
    exact ab_r_irem X hd ⟨k2.1, k2.2.1, nx _ _ _ _ _ k2.2.2⟩
  case iand =>
    have hB : (decide (len = 1)) = true := hB0
    have k0 : ab_pI st fun y st => ab_pI st fun x st => K rs lv (.inl (Int32.ofInt x &&& Int32.ofInt y).toInt :: st) ws kc ks := k
    clear k
    have hl := of_decide_eq_true hB
    subst hl
    obtain ⟨y, st, e1_2, k1⟩ := ab_pI_ok k0
    clear k0
    subst e1_2
    obtain ⟨x, st, e2_2, k2⟩ := ab_pI_ok k1
    clear k1
    subst e2_2
    exact ab_r_iand X hd (nx _ _ _ _ _ k2)
  case ior =>
    have hB : (decide (len = 1)) = true := hB0
    have k0 : ab_pI st fun y st => ab_pI st fun x st => K rs lv (.inl (Int32.ofInt x ||| Int32.ofInt y).toInt :: st) ws kc ks := k
    clear k
    have hl := of_decide_eq_true hB
    subst hl
    obtain ⟨y, st, e1_2, k1⟩ := ab_pI_ok k0
    clear k0
    subst e1_2
    obtain ⟨x, st, e2_2, k2⟩ := ab_pI_ok k1
    clear k1
    subst e2_2
    exact ab_r_ior X hd (nx _ _ _ _ _ k2)
  case ixor =>
    have hB : (decide (len = 1)) = true := hB0
    have k0 : ab_pI st fun y st => ab_pI st fun x st => K rs lv (.inl (Int32.ofInt x ^^^ Int32.ofInt y).toInt :: st) ws kc ks := k
    clear k
    have hl := of_decide_eq_true hB
    subst hl
    obtain ⟨y, st, e1_2, k1⟩ := ab_pI_ok k0
    clear k0
    subst e1_2
    obtain ⟨x, st, e2_2, k2⟩ := ab_pI_ok k1
    clear k1
    subst e2_2
    exact ab_r_ixor X hd (nx _ _ _ _ _ k2)
  case ishl =>
    have hB : (decide (len = 1)) = true := hB0
    have k0 : ab_pI st fun y st => ab_pI st fun x st => K rs lv (.inl (Int32.ofInt x <<< (Int32.ofInt y &&& 31)).toInt :: st) ws kc ks := k
    clear k
    have hl := of_decide_eq_true hB
    subst hl
    obtain ⟨y, st, e1_2, k1⟩ := ab_pI_ok k0
    clear k0
    subst e1_2
    obtain ⟨x, st, e2_2, k2⟩ := ab_pI_ok k1
    clear k1
    subst e2_2
    exact ab_r_ishl X hd (nx _ _ _ _ _ k2)
  case ishr =>
    have hB : (decide (len = 1)) = true := hB0
    have k0 : ab_pI st fun y st => ab_pI st fun x st => K rs lv (.inl (Int32.ofInt x >>> (Int32.ofInt y &&& 31)).toInt :: st) ws kc ks := k
    clear k
    have hl := of_decide_eq_true hB
    subst hl
    obtain ⟨y, st, e1_2, k1⟩ := ab_pI_ok k0
    clear k0
    subst e1_2
    obtain ⟨x, st, e2_2, k2⟩ := ab_pI_ok k1
    clear k1
    subst e2_2
    exact ab_r_ishr X hd (nx _ _ _ _ _ k2)
  case i2b =>
    have hB : (decide (len = 1)) = true := hB0
    have k0 : ab_pI st fun x st => K rs lv (.inl (ab_i8 x) :: st) ws kc ks := k
    clear k
    have hl := of_decide_eq_true hB
    subst hl
    obtain ⟨x, st, e1_2, k1⟩ := ab_pI_ok k0
    clear k0
    subst e1_2
    exact ab_r_i2b X hd (nx _ _ _ _ _ k1)
  case i2l =>
    have hB : (decide (len = 1)) = true := hB0
    have k0 : ab_pI st fun x st => K rs lv (.inr (.inl x) :: st) ws kc ks := k
    clear k
    have hl := of_decide_eq_true hB
    subst hl
    obtain ⟨x, st, e1_2, k1⟩ := ab_pI_ok k0
    clear k0
    subst e1_2
    exact ab_r_i2l X hd (nx _ _ _ _ _ k1)
  case ladd =>
    have hB : (decide (len = 1)) = true := hB0
    have k0 : ab_pL st fun y st => ab_pL st fun x st => ab_lng (x + y) (K rs lv (.inr (.inl (x + y)) :: st) ws kc ks) := k
    clear k
    have hl := of_decide_eq_true hB
    subst hl
    obtain ⟨y, st, e1_2, k1⟩ := ab_pL_ok k0
    clear k0
    subst e1_2
    obtain ⟨x, st, e2_2, k2⟩ := ab_pL_ok k1
    clear k1
    subst e2_2
    exact ab_r_ladd X hd ⟨k2.1, nx _ _ _ _ _ k2.2⟩
  case lmul =>
    have hB : (decide (len = 1)) = true := hB0
    have k0 : ab_pL st fun y st => ab_pL st fun x st => ab_lng (x * y) (K rs lv (.inr (.inl (x * y)) :: st) ws kc ks) := k
    clear k
    have hl := of_decide_eq_true hB
    subst hl
    obtain ⟨y, st, e1_2, k1⟩ := ab_pL_ok k0
    clear k0
    subst e1_2
    obtain ⟨x, st, e2_2, k2⟩ := ab_pL_ok k1
    clear k1
    subst e2_2
    exact ab_r_lmul X hd ⟨k2.1, nx _ _ _ _ _ k2.2⟩
  case ldiv =>
    have hB : (decide (len = 1)) = true := hB0
    have k0 : ab_pL st fun y st => ab_pL st fun x st => (¬ y = 0) ∧ ab_lng (x.tdiv y) (K rs lv (.inr (.inl (x.tdiv y)) :: st) ws kc ks) := k
    clear k
    have hl := of_decide_eq_true hB
    subst hl
    obtain ⟨y, st, e1_2, k1⟩ := ab_pL_ok k0
    clear k0
    subst e1_2
    obtain ⟨x, st, e2_2, k2⟩ := ab_pL_ok k1
    clear k1
    subst e2_2
    exact ab_r_ldiv X hd ⟨k2.1, k2.2.1, nx _ _ _ _ _ k2.2.2⟩
  case lor =>
    have hB : (decide (len = 1)) = true := hB0
    have k0 : ab_pL st fun y st => ab_pL st fun x st => K rs lv (.inr (.inl (Int64.ofInt x ||| Int64.ofInt y).toInt) :: st) ws kc ks := k
    clear k
    have hl := of_decide_eq_true hB
    subst hl
    obtain ⟨y, st, e1_2, k1⟩ := ab_pL_ok k0
    clear k0
    subst e1_2
    obtain ⟨x, st, e2_2, k2⟩ := ab_pL_ok k1
    clear k1
    subst e2_2
    exact ab_r_lor X hd (nx _ _ _ _ _ k2)
  case lshl =>
    have hB : (decide (len = 1)) = true := hB0
    have k0 : ab_pI st fun y st => ab_pL st fun x st => K rs lv (.inr (.inl (Int64.ofInt x <<< ((Int32.ofInt y).toInt64 &&& 63)).toInt) :: st) ws kc ks := k
    clear k
    have hl := of_decide_eq_true hB
    subst hl
    obtain ⟨y, st, e1_2, k1⟩ := ab_pI_ok k0
    clear k0
    subst e1_2
    obtain ⟨x, st, e2_2, k2⟩ := ab_pL_ok k1
    clear k1
    subst e2_2
    exact ab_r_lshl X hd (nx _ _ _ _ _ k2)
  case lcmp =>
    have hB : (decide (len = 1)) = true := hB0
    have k0 : ab_pL st fun y st => ab_pL st fun x st => K rs lv (.inl (ab_cmp x y) :: st) ws kc ks := k
    clear k
    have hl := of_decide_eq_true hB
    subst hl
    obtain ⟨y, st, e1_2, k1⟩ := ab_pL_ok k0
    clear k0
    subst e1_2
    obtain ⟨x, st, e2_2, k2⟩ := ab_pL_ok k1
    clear k1
    subst e2_2
    exact ab_r_lcmp X hd (nx _ _ _ _ _ k2)
  case dup =>
    have hB : (decide (len = 1)) = true := hB0
    have k0 : ab_pV st fun v st => K rs lv (v :: v :: st) ws kc ks := k
    clear k
    have hl := of_decide_eq_true hB
    subst hl
    obtain ⟨v, st, e1_2, hv, k1⟩ := ab_pV_ok k0
    clear k0
    subst e1_2
    exact ab_r_dup X hv hd (nx _ _ _ _ _ k1)
  case pop =>
    have hB : (decide (len = 1)) = true := hB0
    have k0 : ab_pV st fun _ st => K rs lv st ws kc ks := k
    clear k
    have hl := of_decide_eq_true hB
    subst hl
    obtain ⟨v, st, e1_2, hv, k1⟩ := ab_pV_ok k0
    clear k0
    subst e1_2
    exact ab_r_pop X hv hd (nx _ _ _ _ _ k1)
  case dup2 =>
    have hB : (decide (len = 1)) = true := hB0
    have k0 : ab_pV st fun v st => ab_pV st fun w st => K rs lv (v :: w :: v :: w :: st) ws kc ks := k
    clear k
    have hl := of_decide_eq_true hB
    subst hl
    obtain ⟨v, st, e1_2, hv, k1⟩ := ab_pV_ok k0
    clear k0
    subst e1_2
    obtain ⟨w, st, e2_2, hw, k2⟩ := ab_pV_ok k1
    clear k1
    subst e2_2
    exact ab_r_dup2 X hv hw hd (nx _ _ _ _ _ k2)
  case ifCond cn off =>
    have hB : (decide (len = 3) && ab_tg pc off ts) = true := hB0
    have k0 : ab_pI st fun x st => ab_one ts fun t => ab_if cn x 0 (K (ab_seek rows t) lv st ws kc ks) (K rs lv st ws kc ks) := k
    clear k
    obtain ⟨hl, hB1⟩ := (Bool.and_eq_true _ _).mp hB
    have hl := of_decide_eq_true hl
    clear hB hB0
    subst hl
    obtain ⟨x, st, e1_2, k1⟩ := ab_pI_ok k0
    clear k0
    subst e1_2
    obtain ⟨t, e2_1, k2⟩ := ab_one_ok k1
    clear k1
    subst e2_1
    exact ab_r_if X (of_decide_eq_true hB1) hd (ab_if_mono k2 (jp _ _ _ _ _ _) (nx _ _ _ _ _))
  case if_icmp cn off =>
    have hB : (decide (len = 3) && ab_tg pc off ts) = true := hB0
    have k0 : ab_pI st fun y st => ab_pI st fun x st => ab_one ts fun t => ab_if cn x y (K (ab_seek rows t) lv st ws kc ks) (K rs lv st ws kc ks) := k
    clear k
    obtain ⟨hl, hB1⟩ := (Bool.and_eq_true _ _).mp hB
    have hl := of_decide_eq_true hl
    clear hB hB0
    subst hl
    obtain ⟨y, st, e1_2, k1⟩ := ab_pI_ok k0
    clear k0
    subst e1_2
    obtain ⟨x, st, e2_2, k2⟩ := ab_pI_ok k1
    clear k1
    subst e2_2
    obtain ⟨t, e3_1, k3⟩ := ab_one_ok k2
    clear k2
    subst e3_1
    exact ab_r_icmp X (of_decide_eq_true hB1) hd (ab_if_mono k3 (jp _ _ _ _ _ _) (nx _ _ _ _ _))
  case goto off =>
    have hB : (decide (len = 3) && ab_tg pc off ts) = true := hB0
    have k0 : ab_one ts fun t => K (ab_seek rows t) lv st ws kc ks := k
    clear k
    obtain ⟨hl, hB1⟩ := (Bool.and_eq_true _ _).mp hB
    have hl := of_decide_eq_true hl
    clear hB hB0
    subst hl
    obtain ⟨t, e1_1, k1⟩ := ab_one_ok k0
    clear k0
    subst e1_1
    exact ab_r_goto X (of_decide_eq_true hB1) hd (jp _ _ _ _ _ _ k1)
  case tableswitch dflt lo hi offs =>
    have hB : (ab_tsw pc dflt lo hi offs.toList ts) = true := hB0
    have k0 : ab_pI st fun x st => ab_hd ts fun t ts => (x < lo ∨ hi < x → K (ab_seek rows t) lv st ws kc ks) ∧ ab_sw x hi lo ts (fun t => K (ab_seek rows t) lv st ws kc ks) := k
    clear k
    obtain ⟨x, st, e1_2, k1⟩ := ab_pI_ok k0
    clear k0
    subst e1_2
    obtain ⟨t, ts, e2_2, k2⟩ := ab_hd_ok k1
    clear k1
    subst e2_2
    obtain ⟨b1, b2, b3⟩ := of_decide_eq_true hB
    exact ab_r_switch X hd b1 b2 b3 ⟨fun h => jp _ _ _ _ _ _ (k2.1 h), ab_sw_mono k2.2 (fun t h => jp _ _ _ _ _ _ h)⟩
  case getfield i =>
    have hB : (decide (len = 3) && ab_fl (ab_nm (ab_cM x0)).cls i ra rb pp) = true := hB0
    have k0 : ab_pO st fun o st => ab_getf (ab_G (ab_cM x0)) ws o ra rb fun v => K rs lv (v :: st) ws kc ks := k
    clear k
    obtain ⟨hl, hB1⟩ := (Bool.and_eq_true _ _).mp hB
    have hl := of_decide_eq_true hl
    clear hB hB0
    subst hl
    obtain ⟨b1, b2, b3⟩ := ab_fl_ok hB1
    obtain ⟨o, st, e1_2, k1⟩ := ab_pO_ok k0
    clear k0
    subst e1_2
    exact ab_r_getf X b1 b2 b3 hd (ab_getf_mono k1 (fun v h => nx _ _ _ _ _ h))
  case putfield i =>
    have hB : (decide (len = 3) && ab_fl (ab_nm (ab_cM x0)).cls i ra rb pp) = true := hB0
    have k0 : ab_pY st fun v st => ab_pO st fun o st => ab_putf (ab_G (ab_cM x0)) ws o ra rb v fun ws' => K rs lv st ws' kc ks := k
    clear k
    obtain ⟨hl, hB1⟩ := (Bool.and_eq_true _ _).mp hB
    have hl := of_decide_eq_true hl
    clear hB hB0
    subst hl
    obtain ⟨b1, b2, b3⟩ := ab_fl_ok hB1
    obtain ⟨v, st, e1_2, k1⟩ := ab_pY_ok k0
    clear k0
    subst e1_2
    obtain ⟨o, st, e2_2, k2⟩ := ab_pO_ok k1
    clear k1
    subst e2_2
    exact ab_r_putf X b1 b2 b3 hd (ab_putf_mono k2 (fun v h => nx _ _ _ _ _ h))
  case newarray ty =>
    have hB : (decide (len = 2) && (decide (newarray.typeOf ty = ab_kt (ab_atk ty) ∧ (ab_atk ty = 3 ∨ ab_atk ty = 5 ∨ ab_atk ty = 6)) && (ab_lk (.arrayClass (newarray.typeOf ty)) pp && ab_nfin rs))) = true := hB0
    have k0 : ab_pI st fun n st => ab_pO st fun o st => ab_pnx (ab_mv (ab_cM x0) && (ab_nas st && ab_nal lv)) rs fun a f rs2 => (0 ≤ n ∧ n ≤ 100000) ∧ (kc + 1 ≤ ab_cc x0 ∧ ks + n.toNat ≤ ab_ck x0) ∧ ab_newf (ab_G (ab_cM x0)) ws o a f n (ab_isN (ab_atk ty)) fun ws' => K rs2 lv st ws' (kc + 1) (ks + n.toNat) := k
    clear k
    obtain ⟨hl, hB1⟩ := (Bool.and_eq_true _ _).mp hB
    have hl := of_decide_eq_true hl
    clear hB hB0
    subst hl
    simp only [Bool.and_eq_true, decide_eq_true_eq] at hB1
    obtain ⟨⟨hty, htk⟩, hac, hfin⟩ := hB1
    obtain ⟨n, st, e1_2, k1⟩ := ab_pI_ok k0
    clear k0
    subst e1_2
    obtain ⟨o, st, e2_2, k2⟩ := ab_pO_ok k1
    clear k1
    subst e2_2
    obtain ⟨hmv, pc2, i2, len2, a2, f2, c2, t2, M2, rs2, e3_10, k3⟩ := ab_pnx_ok k2
    clear k2
    subst e3_10
    simp only [Bool.and_eq_true] at hmv
    obtain ⟨⟨pp2, hB2⟩, hnx2, hrs2⟩ := ab_okS_tl hrs
    have hpc2 : pc2 = pc + 2 := hnx _ _ rfl
    subst hpc2
    obtain ⟨hd2, hB2⟩ := (Bool.and_eq_true _ _).mp hB2
    have hd2 := of_decide_eq_true hd2
    obtain ⟨hl2, hB2⟩ := (Bool.and_eq_true _ _).mp (show (decide (len2 = 3) && ab_fl (ab_nm (ab_cM x0)).cls i2 a2 f2 pp2) = true from hB2)
    have hl2 := of_decide_eq_true hl2
    subst hl2
    obtain ⟨b1, b2, b3⟩ := ab_fl_ok hB2
    refine ab_r_newa X b1 b2 (by simpa [ab_nfin] using hfin) b3 hty htk (ab_lk_in hac) hd hd2 hmv.1 hmv.2.1 hmv.2.2 k3.1 k3.2.1 (ab_newf_mono k3.2.2 (fun v h => ?_))
    obtain ⟨r', rs'', e, hj⟩ := hK _ _ _ _ _ _ hrs2 h
    rw [hnx2 r' rs'' e] at hj
    exact hj
  case iaload =>
    have hB : (decide (len = 1)) = true := hB0
    have k0 : ab_pI st fun i st => ab_pA st fun o f st => ab_ald (ab_G (ab_cM x0)) ws o f i (ab_isN 3) fun _ z => K rs lv (.inl z :: st) ws kc ks := k
    clear k
    have hl := of_decide_eq_true hB
    subst hl
    obtain ⟨i, st, e1_2, k1⟩ := ab_pI_ok k0
    clear k0
    subst e1_2
    obtain ⟨o, f, st, e2_3, k2⟩ := ab_pA_ok k1
    clear k1
    subst e2_3
    exact ab_r_iald X hd (ab_ald_mono k2 (fun a b h => nx _ _ _ _ _ h))
  case baload =>
    have hB : (decide (len = 1)) = true := hB0
    have k0 : ab_pI st fun i st => ab_pA st fun o f st => ab_ald (ab_G (ab_cM x0)) ws o f i ab_isB fun _ z => K rs lv (.inl z :: st) ws kc ks := k
    clear k
    have hl := of_decide_eq_true hB
    subst hl
    obtain ⟨i, st, e1_2, k1⟩ := ab_pI_ok k0
    clear k0
    subst e1_2
    obtain ⟨o, f, st, e2_3, k2⟩ := ab_pA_ok k1
    clear k1
    subst e2_3
    exact ab_r_bald X hd (ab_ald_mono k2 (fun a b h => nx _ _ _ _ _ h))
  case laload =>
    have hB : (decide (len = 1)) = true := hB0
    have k0 : ab_pI st fun i st => ab_pA st fun o f st => ab_ald (ab_G (ab_cM x0)) ws o f i (ab_isN 5) fun _ z => K rs lv (.inr (.inl z) :: st) ws kc ks := k
    clear k
    have hl := of_decide_eq_true hB
    subst hl
    obtain ⟨i, st, e1_2, k1⟩ := ab_pI_ok k0
    clear k0
    subst e1_2
    obtain ⟨o, f, st, e2_3, k2⟩ := ab_pA_ok k1
    clear k1
    subst e2_3
    exact ab_r_lald X hd (ab_ald_mono k2 (fun a b h => nx _ _ _ _ _ h))
  case iastore =>
    have hB : (decide (len = 1)) = true := hB0
    have k0 : ab_pI st fun x st => ab_pI st fun i st => ab_pA st fun o f st => ab_ast (ab_G (ab_cM x0)) ws o f i (ab_isN 3) fun _ w => ab_frc (w x) fun ws1 => K rs lv st ws1 kc ks := k
    clear k
    have hl := of_decide_eq_true hB
    subst hl
    obtain ⟨z, st, e1_2, k1⟩ := ab_pI_ok k0
    clear k0
    subst e1_2
    obtain ⟨i, st, e2_2, k2⟩ := ab_pI_ok k1
    clear k1
    subst e2_2
    obtain ⟨o, f, st, e3_3, k3⟩ := ab_pA_ok k2
    clear k2
    subst e3_3
    exact ab_r_iast X hd (ab_ast_mono k3 (fun a b h => nx _ _ _ _ _ (by rw [ab_frc_eq] at h; exact h)))
  case lastore =>
    have hB : (decide (len = 1)) = true := hB0
    have k0 : ab_pL st fun x st => ab_pI st fun i st => ab_pA st fun o f st => ab_ast (ab_G (ab_cM x0)) ws o f i (ab_isN 5) fun _ w => ab_frc (w x) fun ws1 => K rs lv st ws1 kc ks := k
    clear k
    have hl := of_decide_eq_true hB
    subst hl
    obtain ⟨z, st, e1_2, k1⟩ := ab_pL_ok k0
    clear k0
    subst e1_2
    obtain ⟨i, st, e2_2, k2⟩ := ab_pI_ok k1
    clear k1
    subst e2_2
    obtain ⟨o, f, st, e3_3, k3⟩ := ab_pA_ok k2
    clear k2
    subst e3_3
    exact ab_r_last X hd (ab_ast_mono k3 (fun a b h => nx _ _ _ _ _ (by rw [ab_frc_eq] at h; exact h)))
  case bastore =>
    have hB : (decide (len = 1)) = true := hB0
    have k0 : ab_pI st fun x st => ab_pI st fun i st => ab_pA st fun o f st => ab_ast (ab_G (ab_cM x0)) ws o f i ab_isB fun k w => ab_bst k x fun z => ab_frc (w z) fun ws1 => K rs lv st ws1 kc ks := k
    clear k
    have hl := of_decide_eq_true hB
    subst hl
    obtain ⟨z, st, e1_2, k1⟩ := ab_pI_ok k0
    clear k0
    subst e1_2
    obtain ⟨i, st, e2_2, k2⟩ := ab_pI_ok k1
    clear k1
    subst e2_2
    obtain ⟨o, f, st, e3_3, k3⟩ := ab_pA_ok k2
    clear k2
    subst e3_3
    refine ab_r_bast X hd (ab_ast_mono k3 (fun a b h => ?_))
    unfold ab_bst at h
    simp only [ab_frc_eq] at h
    split at h
    · exact nx _ _ _ _ _ h
    · rename_i hne
      split
      · exact absurd rfl hne
      · exact ⟨h.1, nx _ _ _ _ _ h.2⟩
  case arraylength =>
    have hB : (decide (len = 1)) = true := hB0
    have k0 : ab_pA st fun o f st => ab_aln (ab_G (ab_cM x0)) ws o f fun n => K rs lv (.inl n :: st) ws kc ks := k
    clear k
    have hl := of_decide_eq_true hB
    subst hl
    obtain ⟨o, f, st, e1_3, k1⟩ := ab_pA_ok k0
    clear k0
    subst e1_3
    obtain ⟨ci, ob, hG, hob, ha, k2⟩ := ab_aln_ok k1
    clear k1
    exact ab_r_alen X hG hob ha hd (nx _ _ _ _ _ k2)
  case ireturn =>
    have hB : (decide (len = 1)) = true := hB0
    have k0 : ab_pI st fun z st => ab_nil st (ab_irt (ab_rt (ab_cM x0)) z (Post (some (.inl z)) ws)) := k
    clear k
    have hl := of_decide_eq_true hB
    subst hl
    obtain ⟨z, st, e1_2, k1⟩ := ab_pI_ok k0
    clear k0
    subst e1_2
    obtain ⟨e2_0, k2⟩ := ab_nil_ok k1
    clear k1
    subst e2_0
    unfold ab_irt at k2
    split at k2
    · rename_i hrt
      exact ab_r_iret X XQ hrt hd k2
    · rename_i hrt
      exact ab_r_zret X XQ hrt k2.1 hd k2.2
    · exact k2.elim
  case lreturn =>
    have hB : (decide (len = 1)) = true := hB0
    have k0 : ab_pL st fun z st => ab_nil st (ab_lrt (ab_rt (ab_cM x0)) (Post (some (.inr (.inl z))) ws)) := k
    clear k
    have hl := of_decide_eq_true hB
    subst hl
    obtain ⟨z, st, e1_2, k1⟩ := ab_pL_ok k0
    clear k0
    subst e1_2
    obtain ⟨e2_0, k2⟩ := ab_nil_ok k1
    clear k1
    subst e2_0
    unfold ab_lrt at k2
    split at k2
    · rename_i hrt
      exact ab_r_lret X XQ hrt hd k2
    · exact k2.elim
  case areturn =>
    have hB : (decide (len = 1)) = true := hB0
    have k0 : ab_pO st fun o st => ab_nil st (ab_art (ab_rt (ab_cM x0)) (Post (some (ab_O o)) ws)) := k
    clear k
    have hl := of_decide_eq_true hB
    subst hl
    obtain ⟨z, st, e1_2, k1⟩ := ab_pO_ok k0
    clear k0
    subst e1_2
    obtain ⟨e2_0, k2⟩ := ab_nil_ok k1
    clear k1
    subst e2_0
    unfold ab_art at k2
    split at k2
    · rename_i hrt
      exact ab_r_aret X XQ hrt hd k2
    · exact k2.elim
  case return_ =>
    have hB : (decide (len = 1)) = true := hB0
    have k0 : ab_nil st (ab_vrt (ab_rt (ab_cM x0)) (Post none ws)) := k
    clear k
    have hl := of_decide_eq_true hB
    subst hl
    obtain ⟨e1_0, k1⟩ := ab_nil_ok k0
    clear k0
    subst e1_0
    unfold ab_vrt at k1
    split at k1
    · rename_i hrt
      exact ab_r_vret X XQ hrt hd k1
    · exact k1.elim
  case invokevirtual i =>
    have hB : (decide (len = 3) && ab_ml1 (ab_nm (ab_cM x0)).cls i Mo pp) = true := hB0
    have k0 : ab_vir (ab_G (ab_cM x0)) Mo st fun M as rest => ab_inv (ab_G (ab_cM x0)) (ab_cd' x0) (ab_cc x0) (ab_ck x0) (ab_mv (ab_cM x0)) K M rs lv as rest ws kc ks := k
    clear k
    obtain ⟨hl, hB1⟩ := (Bool.and_eq_true _ _).mp hB
    have hl := of_decide_eq_true hl
    clear hB hB0
    subst hl
    obtain ⟨M, as, rest, e1_3, e1_4, hs, hna, hrec, k1⟩ := ab_vir_ok k0
    clear k0
    subst e1_3
    subst e1_4
    exact ab_r_inv X (ab_lk_in hB1) (by rw [hs]; simpa using hna) (by rw [hs]; exact hd) (Or.inr hrec) nx k1
  case invokestatic i =>
    have hB : (decide (len = 3) && ab_ml2 (ab_nm (ab_cM x0)).cls i rc Mo pp) = true := hB0
    have k0 : ab_imth rc (ab_pI st fun y st => ab_pI st fun x st => ab_le8 st (K rs lv (.inl (if x < y then y else x) :: st) ws kc ks)) (ab_pI st fun y st => ab_pI st fun x st => ab_le8 st (K rs lv (.inl (if y < x then y else x) :: st) ws kc ks)) (ab_pI st fun x st => ab_le8 st (ab_num (-x) (K rs lv (.inl (if 0 ≤ x then x else 0 - x) :: st) ws kc ks))) (ab_pL st fun y st => ab_pL st fun x st => ab_le8 st (K rs lv (.inr (.inl (if y < x then y else x)) :: st) ws kc ks)) (ab_sta Mo st fun M as rest => ab_inv (ab_G (ab_cM x0)) (ab_cd' x0) (ab_cc x0) (ab_ck x0) (ab_mv (ab_cM x0)) K M rs lv as rest ws kc ks) := k
    clear k
    obtain ⟨hl, hB1⟩ := (Bool.and_eq_true _ _).mp hB
    have hl := of_decide_eq_true hl
    clear hB hB0
    subst hl
    unfold ab_imth at k0
    split at k0
    · obtain ⟨y, st, e1_2, k1⟩ := ab_pI_ok k0
      clear k0
      subst e1_2
      obtain ⟨z, st, e2_2, k2⟩ := ab_pI_ok k1
      clear k1
      subst e2_2
      obtain ⟨h8, k3⟩ := ab_le8_ok k2
      clear k2
      exact ab_r_mmax X (ab_lk_in hB1) ab_ms_max ab_mi ab_mc_max h8 hd (nx _ _ _ _ _ k3)
    · obtain ⟨y, st, e4_2, k4⟩ := ab_pI_ok k0
      clear k0
      subst e4_2
      obtain ⟨z, st, e5_2, k5⟩ := ab_pI_ok k4
      clear k4
      subst e5_2
      obtain ⟨h8, k6⟩ := ab_le8_ok k5
      clear k5
      exact ab_r_mmin X (ab_lk_in hB1) ab_ms_min ab_mi ab_mc_min h8 hd (nx _ _ _ _ _ k6)
    · obtain ⟨z, st, e7_2, k7⟩ := ab_pI_ok k0
      clear k0
      subst e7_2
      obtain ⟨h8, k8⟩ := ab_le8_ok k7
      clear k7
      exact ab_r_mabs X (ab_lk_in hB1) ab_ms_abs ab_mi ab_mc_abs h8 hd ⟨k8.1, nx _ _ _ _ _ k8.2⟩
    · obtain ⟨y, st, e9_2, k9⟩ := ab_pL_ok k0
      clear k0
      subst e9_2
      obtain ⟨z, st, e10_2, k10⟩ := ab_pL_ok k9
      clear k9
      subst e10_2
      obtain ⟨h8, k11⟩ := ab_le8_ok k10
      clear k10
      exact ab_r_mminl X (ab_lk_in hB1) ab_ms_minl ab_mi ab_mc_minl h8 hd (nx _ _ _ _ _ k11)
    · obtain ⟨M, as, rest, e12_3, e12_4, hs, hna, k12⟩ := ab_sta_ok k0
      clear k0
      subst e12_3
      subst e12_4
      exact ab_r_inv X (ab_lk_in hB1) (by rw [hs]; simpa using hna) (by rw [hs]; exact hd) (Or.inl hs) nx k12
    · exact k0.elim
  all_goals exact (k : False).elim
