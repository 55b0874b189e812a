/-! THE LAW: its context, its script, its calls -/
def mL : ab_M := ((⟨"HeadTreesLaw", "law", "([I)Z"⟩, code, 7, some .boolean), ([8, 4, 5, 5, 0, 1, 2, 7, 6, 1, 7, 7, 7, 7, 3, 3, 10, 9], [], [], true, true, 0), (true, 100, 1))
/-- what of the law's run doesn't change: p l e s m b | below meth c | E -/
abbrev lw_C : Type := (Program × Launch × Env × State × MethodId × Nat) × (List Frame × Method × Code) × ab_E
abbrev lw_s (C : lw_C) : State := C.1.2.2.2.1
abbrev lw_b (C : lw_C) : Nat := C.1.2.2.2.2.2
def lw_x (C : lw_C) (ad0 : Nat → Nat → Nat) : ab_Cx := ((C.1.1, C.1.2.1, C.1.2.2.1, room_1, lw_s C, C.1.2.2.2.2.1, #[Value.ref (lw_b C)]), (C.2.1.1, C.2.1.2.1, C.2.1.2.2, lw_Z C.2.1.1 #[Value.ref (lw_b C)] (lw_s C)), (C.2.2, ad0, mL, (fun q => (lw_s C).heap.size ≤ q), 13, 601024, 7293034))
def lw_ok (C : lw_C) (L : Nat) (xs : Nat → Int32) : Prop := L ≤ 3072 ∧ (∀ ad0, ab_X (lw_x C ad0)) ∧ C.2.2.2.2.1 12 = lw_b C ∧ va_X (lw_b C) L xs (lw_s C) (lw_s C).heap ∧ lw_b C < (lw_s C).heap.size
abbrev lw_lv (i : Int) : List (Option ab_V) := [some (ab_S 12), some (ab_O 0), some (ab_O 17), some (ab_O 16), some (ab_I i), none, none]
def sc (xs : Nat → Int32) (i : Int) : Int := (xs i.toNat).toInt
def lw_aB (pc j : Nat) : Bool := decide (decode code pc = .ok (.aload_n 0, 1)) && (decide (decode code (pc + 1) = .ok (.iload 4, 2)) && (decide (decode code (pc + 3) = .ok (.iconst (j : Int), 1)) && (decide (decode code (pc + 4) = .ok (.iadd, 1)) && decide (decode code (pc + 5) = .ok (.iaload, 1)))))
theorem lw_a1 {C : lw_C} {L : Nat} {xs : Nat → Int32} (K : lw_ok C L xs) {ad0 : Nat → Nat → Nat} {pc : Nat} {st : List ab_V} {ws : List ab_Ob} {kc ks : Nat} {i : Int} (hi : 0 ≤ i ∧ i + 6 ≤ L) {j : Nat} (hj : j < 6) (hd : lw_aB pc j = true) (k : ab_J (lw_x C ad0) (pc + 6) (lw_lv i) (ab_I (sc xs (i + j)) :: st) ws kc ks) : ab_J (lw_x C ad0) pc (lw_lv i) st ws kc ks := by
  have X := K.2.1 ad0
  have hL := K.1
  simp only [lw_aB, Bool.and_eq_true, decide_eq_true_eq] at hd
  obtain ⟨d0, d1, d2, d3, d4⟩ := hd
  refine ab_r_aload_n X (i := 0) d0 ?_
  refine ab_r_iload X (i := 4) d1 ?_
  refine ab_r_iconst X (z := (j : Int)) ⟨by omega, by omega⟩ d2 ?_
  refine ab_r_iadd X d3 ⟨⟨by omega, by omega⟩, ?_⟩
  exact lw_sld X K.2.2.1 K.2.2.2.1 K.2.2.2.2 (Nat.not_le.mpr K.2.2.2.2) (i := i + j) ⟨by omega, by omega⟩ d4 k
/-- what puts these numbers on the stack -/
def lw_push (C : lw_C) (i : Int) (p q : Nat) (as : List ab_V) : Prop := ∀ (ad0 : Nat → Nat → Nat) (st : List ab_V) (ws : List ab_Ob) (kc ks : Nat), ab_J (lw_x C ad0) q (lw_lv i) (as.reverse ++ st) ws kc ks → ab_J (lw_x C ad0) p (lw_lv i) st ws kc ks
def lw_as (xs : Nat → Int32) (i : Int) : Nat → Nat → List ab_V
  | _, 0 => []
  | j, k + 1 => ab_I (sc xs (i + j)) :: lw_as xs i (j + 1) k
def lw_sB : Nat → Nat → Nat → Bool
  | _, _, 0 => true
  | pc, j, k + 1 => lw_aB pc j && lw_sB (pc + 6) (j + 1) k
theorem lw_args {C : lw_C} {L : Nat} {xs : Nat → Int32} (K : lw_ok C L xs) {i : Int} (hi : 0 ≤ i ∧ i + 6 ≤ L) : ∀ (k j pc : Nat), j + k ≤ 6 → lw_sB pc j k = true → lw_push C i pc (pc + 6 * k) (lw_as xs i j k) := by
  intro k
  induction k with
  | zero =>
    intro j pc _ _ ad0 st ws kc ks h
    rw [Nat.mul_zero, Nat.add_zero] at h
    simpa [lw_as] using h
  | succ k ih =>
    intro j pc hj hd ad0 st ws kc ks h
    simp only [lw_sB, Bool.and_eq_true] at hd
    refine lw_a1 K hi (j := j) (by omega) hd.1 ?_
    refine ih (j + 1) (pc + 6) (by omega) hd.2 ad0 _ ws kc ks ?_
    have e : (lw_as xs i (j + 1) k).reverse ++ ab_I (sc xs (i + j)) :: st = (lw_as xs i j (k + 1)).reverse ++ st := by simp [lw_as]
    rw [e, show pc + 6 + 6 * k = pc + 6 * (k + 1) by omega]
    exact h
def lw_int : List ab_V → Bool
  | [] => true
  | .inl _ :: l => lw_int l
  | _ => false
theorem lw_int_B : ∀ {as : List ab_V}, lw_int as = true → ab_fsB as = true
  | [], _ => rfl
  | .inl z :: l, h => lw_int_B (as := l) h
  | .inr z :: l, h => by simp [lw_int] at h
theorem lw_int_r (o : Nat) : ∀ {as : List ab_V}, lw_int as = true → ab_rens [o] as = some as
  | [], _ => rfl
  | .inl z :: l, h => by
    have := lw_int_r o (as := l) h
    simp [ab_rens, ab_ren, this]
  | .inr z :: l, h => by simp [lw_int] at h
theorem ab_shw_len : ∀ {bs : List Bool} {os l : List ab_Ob}, ab_shw bs os l → l.length = os.length
  | [], [], l, h => by cases h; rfl
  | true :: bs, o :: os, l, h => by
    obtain ⟨y, l', rfl, h⟩ := h
    simp [ab_shw_len h]
  | false :: bs, o :: os, l, h => by
    obtain ⟨l', rfl, h⟩ := h
    simp [ab_shw_len h]
  | [], _ :: _, _, h => h.elim
  | true :: _, [], _, h => h.elim
  | false :: _, [], _, h => h.elim
theorem lw_l16 {l : List ab_Ob} (h : l.length = 16) : ∃ x rd dr b ac sp cn wh sw swc swt kp t1 t2 ly wi : ab_Ob, l = [x, rd, dr, b, ac, sp, cn, wh, sw, swc, swt, kp, t1, t2, ly, wi] := by
  match l, h with
  | [x, rd, dr, b, ac, sp, cn, wh, sw, swc, swt, kp, t1, t2, ly, wi], _ => exact ⟨x, rd, dr, b, ac, sp, cn, wh, sw, swc, swt, kp, t1, t2, ly, wi, rfl⟩
/-- a call of an object's method, in any context -/
theorem lw_inv {x : ab_Cx} (X : ab_X x) {pc : Nat} {lv : List (Option ab_V)} {ws : List ab_Ob} {kc ks : Nat} {M : ab_M} {mc ms i : Nat} {as0 as' rest : List ab_V} {o : Nat} {pl G' : List Nat} {ws' : List ab_Ob} {Q0 : Option ab_V → List ab_Ob → Prop} (hC : ab_WC (ab_cd' x) mc ms M as' ws' Q0) (hw : .methodLink (ab_nm (ab_cM x)).cls i (ab_nm M) ∈ ab_gw) (hst : ab_st M = false) (hna : as0.length = ab_na M) (hd : ab_dec x pc (.invokevirtual i) 3)
    (hGo : ab_at (ab_G (ab_cM x)) o = some (ab_ci M)) (hlt : ab_ci M < 10) (hrens : ab_rens pl (ab_O o :: as0) = some as') (hsub : ab_sub ws pl = some ws') (hsG : ab_sub (ab_G (ab_cM x)) pl = some G') (hnd : ab_nd pl = true) (heq : ab_eqs G' (ab_G M) = true) (hck : ab_ck2 pl 0 pl G' = true) (hcat : ab_cats rest ≤ 8) (hmv : ab_mv M = true → ab_mv (ab_cM x) = true ∧ ab_nas rest = true ∧ ab_nal lv = true) (hroom0 : kc + mc ≤ ab_cc x ∧ ks + ms ≤ ab_ck x)
    (k0 : ∀ rv ws'', Q0 rv ws'' → ∃ st', ab_back pl rv rest = some st' ∧ ab_J x (pc + 3) lv st' (ab_put ws pl ws'') (kc + mc) (ks + ms)) : ab_J x pc lv ((ab_O o :: as0).reverse ++ rest) ws kc ks := by
  have hm := hC.1
  refine ab_r_call X hC hrens hsub hsG hnd heq hck hmv (fun _ => hroom0) ?_ k0
  intro ad H locs ls adC hadC hW hI hS hl hok hroom hMet hPre
  have hR : (ab_rm (ab_cd' x) mc ms).frames + 1 ≤ (ab_cR x).frames ∧ 8 + (ab_ml M + 11) + (ab_rm (ab_cd' x) mc ms).locals ≤ (ab_cR x).locals := by
    rw [X.R]
    refine ⟨Nat.le_refl _, ?_⟩
    show 8 + (ab_ml M + 11) + 37 * ab_cd' x ≤ 37 * (ab_cd' x + 1)
    have := hm.2.2.2.1
    omega
  have hf : kc + mc ≤ (ab_cR x).cells ∧ ks + ms ≤ (ab_cR x).slots := by rw [X.R]; exact hroom
  have hfix : CallFix x.1.1 (ab_cm x) x.2.1.2.2.1 (ab_cd (ab_cM x)) (ab_ml (ab_cM x)) (ab_cs x) (ab_ca x) ab_gw (ab_nm (ab_cM x)).cls := ⟨X.ex, X.cd, X.ml, X.own, X.ts⟩
  have hm5 := hm.2.2.2.2
  rw [if_neg (by rw [hst]; decide)] at hm5
  have cw := cwV (own := (ab_nm (ab_cM x)).cls) (index := i) (C := (ab_nm M).cls) (ab_na M) X.ts (ab_good_all hm (ws0 := [.methodLink (ab_nm (ab_cM x)).cls i (ab_nm M), .instanceMethod (ab_nm M), .selects (ab_nm M).cls (ab_nm M) (ab_nm M), .initialized (ab_nm M).cls]) (fun w h => by
    simp only [List.mem_cons, List.not_mem_nil, or_false] at h
    rcases h with rfl | rfl | rfl | rfl
    · exact hw
    · exact hm5.1
    · exact hm5.2.1
    · exact hm.2.1)) rfl rfl rfl ⟨rfl, hm.2.2.1⟩ hR
  have hrcv : ∃ cell : Cell, H[ad o 0]? = some cell ∧ cell.vm.isStatics = false ∧ (ab_cs x).vm.findClass (ab_nm M).cls = some cell.cls := by
    have hol := ab_at_lt hGo
    rw [← hW.1] at hol
    obtain ⟨ob, hob⟩ : ∃ ob, ab_at ws o = some ob := ⟨ws[o], by rw [ab_at_eq]; simp [hol]⟩
    obtain ⟨⟨cell, q1, q2, q3, q4⟩, _⟩ := hW.2 o _ ob hGo hob
    rcases hm5.2.2 with ⟨T, N, hcl⟩ | ⟨h100, _⟩
    · exact ⟨cell, q1, by rw [q3]; rfl, by rw [q2]; exact (X.K.1.1 _ _ hcl).2.1⟩
    · omega
  refine va_runV (As := as0.map (ab_cv ad (ab_cE x).2.2.1)) (b := ad o 0) hfix hMet cw ⟨hPre.1, hrcv, hPre.2⟩ rfl (by rw [List.length_map]; exact hna) hl.1 ?_ (ab_hW hcat) hd hf
  show ((ab_O o :: as0).reverse ++ rest).map _ = _
  simp [List.map_append, List.map_reverse, ab_cv]
/-- from here the law goes on, whatever came before, while it is so -/
def lw_N (C : lw_C) (ad0 : Nat → Nat → Nat) (pc : Nat) (i : Int) (o : ab_Ob) (A B : Nat) : Prop := ∀ (x rd dr b ac sp cn wh sw swc swt kp t1 t2 ly wi m : ab_Ob) (kc ks : Nat), hR x rd dr b ac sp cn wh sw swc swt kp t1 t2 ly wi m → kc + hk sp cn sw swc ≤ A → ks + hs sp cn sw swc ≤ B → ab_J (lw_x C ad0) pc (lw_lv i) [] [x, rd, dr, b, ac, sp, cn, wh, sw, swc, swt, kp, t1, t2, ly, wi, o, m] kc ks
theorem lw_N_le {C : lw_C} {ad0 : Nat → Nat → Nat} {pc : Nat} {i : Int} {o : ab_Ob} {A B A' B' : Nat} (h : lw_N C ad0 pc i o A B) (h1 : A' ≤ A) (h2 : B' ≤ B) : lw_N C ad0 pc i o A' B' := fun x rd dr b ac sp cn wh sw swc swt kp t1 t2 ly wi m kc ks r a b' => h x rd dr b ac sp cn wh sw swc swt kp t1 t2 ly wi m kc ks r (by omega) (by omega)
def lw_m (ci : Nat) (G : List Nat) (M : ab_M) (n i : Nat) : Prop := ab_st M = false ∧ ab_na M = n ∧ ab_ci M = ci ∧ ab_eqs G (ab_G M) = true ∧ .methodLink "HeadTreesLaw" i (ab_nm M) ∈ ab_gw
def lw_cB (pc pa pb i8 i9 : Nat) : Bool := decide (decode code pc = .ok (.aload_n 1, 1)) && (decide (decode code pa = .ok (.invokevirtual i8, 3)) && (decide (decode code (pa + 3) = .ok (.aload_n 2, 1)) && (decide (decode code pb = .ok (.invokevirtual i9, 3)) && decide (decode code (pb + 3) = .ok (.if_icmp .eq (1750 - ((pb + 3 : Nat) : Int)), 3)))))
def lw_cL (pc pa pb i8 i9 : Nat) : Bool := decide (decode code pc = .ok (.aload_n 1, 1)) && (decide (decode code pa = .ok (.invokevirtual i8, 3)) && (decide (decode code (pa + 3) = .ok (.aload_n 2, 1)) && (decide (decode code pb = .ok (.invokevirtual i9, 3)) && (decide (decode code (pb + 3) = .ok (.lcmp, 1)) && decide (decode code (pb + 4) = .ok (.ifCond .eq (1750 - ((pb + 4 : Nat) : Int)), 3))))))
/-- a case of the law: both are asked, both answer alike -/
theorem lw_case {C : lw_C} {L : Nat} {xs : Nat → Int32} (K : lw_ok C L xs) {i : Int} {A B : Nat} (hA : A ≤ 601024) (hB' : B ≤ 7293034) {ad0 : Nat → Nat → Nat} {o : ab_Ob} (kN : lw_N C ad0 1750 i o A B) {M8 M9 : ab_M} {pc pa pb i8 i9 : Nat} {as : List ab_V} (h8 : lw_m 8 ab_g8 M8 as.length i8) (h9 : lw_m 9 [9] M9 as.length i9) (r8 : ∀ r, ab_shr (ab_rt M8) (ab_rp M8) r → ∃ z : Int, r = some (ab_I z)) (r9 : ∀ r, ab_shr (ab_rt M9) (ab_rp M9) r → ∃ z : Int, r = some (ab_I z)) (hint : lw_int as = true) (p8 : lw_push C i (pc + 1) pa as) (p9 : lw_push C i (pa + 4) pb as) (hd : lw_cB pc pa pb i8 i9 = true) (S : ∀ x rd dr b ac sp cn wh sw swc swt kp t1 t2 ly wi m : ab_Ob, hR x rd dr b ac sp cn wh sw swc swt kp t1 t2 ly wi m → sim ab_I 13 13 M8 M9 as x rd dr b ac sp cn wh sw swc swt kp t1 t2 ly wi m) : lw_N C ad0 pc i o A B := by
  intro x rd dr b ac sp cn wh sw swc swt kp t1 t2 ly wi m kc ks h hk1 hs1
  have X := K.2.1 ad0
  simp only [lw_cB, Bool.and_eq_true, decide_eq_true_eq] at hd
  obtain ⟨d0, d1, d2, d3, d4⟩ := hd
  obtain ⟨mc, ms, ⟨b1, b2⟩, Q8, c8, q8⟩ := S x rd dr b ac sp cn wh sw swc swt kp t1 t2 ly wi m h
  refine ab_r_aload_n X (i := 1) d0 ?_
  refine p8 ad0 _ _ _ _ ?_
  have e : as.reverse ++ [ab_O 0] = (ab_O 0 :: as).reverse ++ [] := by simp
  show ab_J (lw_x C ad0) pa (lw_lv i) (as.reverse ++ [ab_O 0]) [x, rd, dr, b, ac, sp, cn, wh, sw, swc, swt, kp, t1, t2, ly, wi, o, m] kc ks
  rw [e]
  refine lw_inv X (M := M8) (pl := ab_p16) (G' := ab_g8) (ws' := [x, rd, dr, b, ac, sp, cn, wh, sw, swc, swt, kp, t1, t2, ly, wi]) (as' := ab_O 0 :: as) c8 h8.2.2.2.2 h8.1 h8.2.1.symm d1 (by rw [h8.2.2.1]; rfl) (by rw [h8.2.2.1]; decide) (ab_rens_16 (by show (Nat.ble (0 + 1) 16 && ab_fsB as) = true; rw [lw_int_B hint]; rfl)) rfl rfl (by decide) h8.2.2.2.1 (by decide) (Nat.zero_le _) (fun _ => ⟨rfl, rfl, rfl⟩) ⟨by show kc + mc ≤ 601024; omega, by show ks + ms ≤ 7293034; omega⟩ (fun rv ws'' hq => ?_)
  obtain ⟨⟨hs1', hs2'⟩, hq⟩ := hq
  obtain ⟨r, rfl⟩ := r8 _ hs1'
  obtain ⟨y0, y1, y2, y3, y4, y5, y6, y7, y8, y9, y10, y11, y12, y13, y14, y15, rfl⟩ := lw_l16 (ab_shw_len hs2')
  obtain ⟨Q9, c9, q9⟩ := q8 r _ hq
  refine ⟨[ab_I r], rfl, ?_⟩
  show ab_J (lw_x C ad0) (pa + 3) (lw_lv i) [ab_I r] [y0, y1, y2, y3, y4, y5, y6, y7, y8, y9, y10, y11, y12, y13, y14, y15, o, m] (kc + mc) (ks + ms)
  refine ab_r_aload_n X (i := 2) d2 ?_
  refine p9 ad0 _ _ _ _ ?_
  have e : as.reverse ++ [ab_O 17, ab_I r] = (ab_O 17 :: as).reverse ++ [ab_I r] := by simp
  show ab_J (lw_x C ad0) pb (lw_lv i) (as.reverse ++ [ab_O 17, ab_I r]) [y0, y1, y2, y3, y4, y5, y6, y7, y8, y9, y10, y11, y12, y13, y14, y15, o, m] (kc + mc) (ks + ms)
  rw [e]
  refine lw_inv X (M := M9) (pl := [17]) (G' := [9]) (ws' := [m]) (as' := ab_O 0 :: as) c9 h9.2.2.2.2 h9.1 h9.2.1.symm d3 (by rw [h9.2.2.1]; rfl) (by rw [h9.2.2.1]; decide) (by simp [ab_rens, ab_ren, ab_ix, lw_int_r 17 hint]) rfl rfl (by decide) h9.2.2.2.1 (by decide) (Nat.le_of_ble_eq_true rfl) (fun _ => ⟨rfl, rfl, rfl⟩) ⟨by show kc + mc + 0 ≤ 601024; omega, by show ks + ms + 0 ≤ 7293034; omega⟩ (fun rv ws'' hq => ?_)
  obtain ⟨⟨hs1', hs2'⟩, hq⟩ := hq
  obtain ⟨r', rfl⟩ := r9 _ hs1'
  obtain ⟨er, m', ew, x', rd', dr', b', ac', sp', cn', wh', sw', swc', swt', kp', t1', t2', ly', wi', ew2, hR', k1, k2⟩ := q9 r' _ hq
  subst er
  subst ew
  cases ew2
  refine ⟨[ab_I r', ab_I r'], rfl, ?_⟩
  show ab_J (lw_x C ad0) (pb + 3) (lw_lv i) [ab_I r', ab_I r'] [y0, y1, y2, y3, y4, y5, y6, y7, y8, y9, y10, y11, y12, y13, y14, y15, o, m'] (kc + mc + 0) (ks + ms + 0)
  refine ab_r_icmp X (cn := .eq) (t := 1750) (by omega) d4 ⟨fun _ => ?_, fun g => absurd rfl g⟩
  exact kN _ _ _ _ _ _ _ _ _ _ _ _ _ _ _ _ _ _ _ hR' (by omega) (by omega)
/-- a case of the law: both are asked, both answer alike -/
theorem lw_caseL {C : lw_C} {L : Nat} {xs : Nat → Int32} (K : lw_ok C L xs) {i : Int} {A B : Nat} (hA : A ≤ 601024) (hB' : B ≤ 7293034) {ad0 : Nat → Nat → Nat} {o : ab_Ob} (kN : lw_N C ad0 1750 i o A B) {M8 M9 : ab_M} {pc pa pb i8 i9 : Nat} {as : List ab_V} (h8 : lw_m 8 ab_g8 M8 as.length i8) (h9 : lw_m 9 [9] M9 as.length i9) (r8 : ∀ r, ab_shr (ab_rt M8) (ab_rp M8) r → ∃ z : Int, r = some (ab_L z)) (r9 : ∀ r, ab_shr (ab_rt M9) (ab_rp M9) r → ∃ z : Int, r = some (ab_L z)) (hint : lw_int as = true) (p8 : lw_push C i (pc + 1) pa as) (p9 : lw_push C i (pa + 4) pb as) (hd : lw_cL pc pa pb i8 i9 = true) (S : ∀ x rd dr b ac sp cn wh sw swc swt kp t1 t2 ly wi m : ab_Ob, hR x rd dr b ac sp cn wh sw swc swt kp t1 t2 ly wi m → sim ab_L 13 13 M8 M9 as x rd dr b ac sp cn wh sw swc swt kp t1 t2 ly wi m) : lw_N C ad0 pc i o A B := by
  intro x rd dr b ac sp cn wh sw swc swt kp t1 t2 ly wi m kc ks h hk1 hs1
  have X := K.2.1 ad0
  simp only [lw_cL, Bool.and_eq_true, decide_eq_true_eq] at hd
  obtain ⟨d0, d1, d2, d3, d4, d5⟩ := hd
  obtain ⟨mc, ms, ⟨b1, b2⟩, Q8, c8, q8⟩ := S x rd dr b ac sp cn wh sw swc swt kp t1 t2 ly wi m h
  refine ab_r_aload_n X (i := 1) d0 ?_
  refine p8 ad0 _ _ _ _ ?_
  have e : as.reverse ++ [ab_O 0] = (ab_O 0 :: as).reverse ++ [] := by simp
  show ab_J (lw_x C ad0) pa (lw_lv i) (as.reverse ++ [ab_O 0]) [x, rd, dr, b, ac, sp, cn, wh, sw, swc, swt, kp, t1, t2, ly, wi, o, m] kc ks
  rw [e]
  refine lw_inv X (M := M8) (pl := ab_p16) (G' := ab_g8) (ws' := [x, rd, dr, b, ac, sp, cn, wh, sw, swc, swt, kp, t1, t2, ly, wi]) (as' := ab_O 0 :: as) c8 h8.2.2.2.2 h8.1 h8.2.1.symm d1 (by rw [h8.2.2.1]; rfl) (by rw [h8.2.2.1]; decide) (ab_rens_16 (by show (Nat.ble (0 + 1) 16 && ab_fsB as) = true; rw [lw_int_B hint]; rfl)) rfl rfl (by decide) h8.2.2.2.1 (by decide) (Nat.zero_le _) (fun _ => ⟨rfl, rfl, rfl⟩) ⟨by show kc + mc ≤ 601024; omega, by show ks + ms ≤ 7293034; omega⟩ (fun rv ws'' hq => ?_)
  obtain ⟨⟨hs1', hs2'⟩, hq⟩ := hq
  obtain ⟨r, rfl⟩ := r8 _ hs1'
  obtain ⟨y0, y1, y2, y3, y4, y5, y6, y7, y8, y9, y10, y11, y12, y13, y14, y15, rfl⟩ := lw_l16 (ab_shw_len hs2')
  obtain ⟨Q9, c9, q9⟩ := q8 r _ hq
  refine ⟨[ab_L r], rfl, ?_⟩
  show ab_J (lw_x C ad0) (pa + 3) (lw_lv i) [ab_L r] [y0, y1, y2, y3, y4, y5, y6, y7, y8, y9, y10, y11, y12, y13, y14, y15, o, m] (kc + mc) (ks + ms)
  refine ab_r_aload_n X (i := 2) d2 ?_
  refine p9 ad0 _ _ _ _ ?_
  have e : as.reverse ++ [ab_O 17, ab_L r] = (ab_O 17 :: as).reverse ++ [ab_L r] := by simp
  show ab_J (lw_x C ad0) pb (lw_lv i) (as.reverse ++ [ab_O 17, ab_L r]) [y0, y1, y2, y3, y4, y5, y6, y7, y8, y9, y10, y11, y12, y13, y14, y15, o, m] (kc + mc) (ks + ms)
  rw [e]
  refine lw_inv X (M := M9) (pl := [17]) (G' := [9]) (ws' := [m]) (as' := ab_O 0 :: as) c9 h9.2.2.2.2 h9.1 h9.2.1.symm d3 (by rw [h9.2.2.1]; rfl) (by rw [h9.2.2.1]; decide) (by simp [ab_rens, ab_ren, ab_ix, lw_int_r 17 hint]) rfl rfl (by decide) h9.2.2.2.1 (by decide) (Nat.le_of_ble_eq_true rfl) (fun _ => ⟨rfl, rfl, rfl⟩) ⟨by show kc + mc + 0 ≤ 601024; omega, by show ks + ms + 0 ≤ 7293034; omega⟩ (fun rv ws'' hq => ?_)
  obtain ⟨⟨hs1', hs2'⟩, hq⟩ := hq
  obtain ⟨r', rfl⟩ := r9 _ hs1'
  obtain ⟨er, m', ew, x', rd', dr', b', ac', sp', cn', wh', sw', swc', swt', kp', t1', t2', ly', wi', ew2, hR', k1, k2⟩ := q9 r' _ hq
  subst er
  subst ew
  cases ew2
  refine ⟨[ab_L r', ab_L r'], rfl, ?_⟩
  show ab_J (lw_x C ad0) (pb + 3) (lw_lv i) [ab_L r', ab_L r'] [y0, y1, y2, y3, y4, y5, y6, y7, y8, y9, y10, y11, y12, y13, y14, y15, o, m'] (kc + mc + 0) (ks + ms + 0)
  refine ab_r_lcmp X d4 ?_
  refine ab_r_if X (cn := .eq) (t := 1750) (by omega) d5 ⟨fun _ => ?_, fun g => absurd ?_ g⟩
  · exact kN _ _ _ _ _ _ _ _ _ _ _ _ _ _ _ _ _ _ _ hR' (by omega) (by omega)
  · unfold ab_cmp
    rw [if_neg (by omega), if_pos rfl]
