/-! SOUNDNESS, third part: stores, arithmetic, branches, answers -/
section
variable {x : ab_Cx} {pc : Nat} {lv : List (Option ab_V)} {st : List ab_V} {ws : List ab_Ob} {kc ks : Nat}
theorem ab_r_istore (X : ab_X x) {i : Nat} {z : Int} (hi : i < ab_ml (ab_cM x)) (hd : ab_dec x pc (.istore i) 2) (k : ab_J x (pc + 2) (ab_s1 lv i (.inl z)) st ws kc ks) : ab_J x pc lv (.inl z :: st) ws kc ks := by
  intro ad H locs ls h1 h2 h3 h4 h5 h6 h7 h8 h9
  exact lv_istore X.ex X.cd hd h5 hi rfl (fun ls' hl => k ad H locs ls' h1 h2 h3 h4 (ab_lc_s1 (v := .inl z) hl) (ab_okt h6) (ab_s1_ok h7 (h6 _ List.mem_cons_self)) (by rw [ab_s1_len]; exact h8) h9)
theorem ab_r_istore_n (X : ab_X x) {i : Fin 4} {z : Int} (hi : (i : Nat) < ab_ml (ab_cM x)) (hd : ab_dec x pc (.istore_n i) 1) (k : ab_J x (pc + 1) (ab_s1 lv i (.inl z)) st ws kc ks) : ab_J x pc lv (.inl z :: st) ws kc ks := by
  intro ad H locs ls h1 h2 h3 h4 h5 h6 h7 h8 h9
  exact lv_istore_n X.ex X.cd hd rfl h5 hi rfl (fun ls' hl => k ad H locs ls' h1 h2 h3 h4 (ab_lc_s1 (v := .inl z) hl) (ab_okt h6) (ab_s1_ok h7 (h6 _ List.mem_cons_self)) (by rw [ab_s1_len]; exact h8) h9)
theorem ab_r_lstore (X : ab_X x) {i : Nat} {z : Int} (hi : i + 1 < ab_ml (ab_cM x)) (hd : ab_dec x pc (.lstore i) 2) (k : ab_J x (pc + 2) (ab_s2 lv i (.inr (.inl z))) st ws kc ks) : ab_J x pc lv (.inr (.inl z) :: st) ws kc ks := by
  intro ad H locs ls h1 h2 h3 h4 h5 h6 h7 h8 h9
  exact lv_lstore X.ex X.cd hd h5 hi rfl (fun ls' hl => k ad H locs ls' h1 h2 h3 h4 (ab_lc_s2 (v := .inr (.inl z)) hl) (ab_okt h6) (ab_s2_ok h7 (h6 _ List.mem_cons_self)) (by rw [ab_s2_len]; exact h8) h9)
theorem ab_r_lstore_n (X : ab_X x) {i : Fin 4} {z : Int} (hi : (i : Nat) + 1 < ab_ml (ab_cM x)) (hd : ab_dec x pc (.lstore_n i) 1) (k : ab_J x (pc + 1) (ab_s2 lv i (.inr (.inl z))) st ws kc ks) : ab_J x pc lv (.inr (.inl z) :: st) ws kc ks := by
  intro ad H locs ls h1 h2 h3 h4 h5 h6 h7 h8 h9
  exact lv_lstore_n X.ex X.cd hd rfl h5 hi rfl (fun ls' hl => k ad H locs ls' h1 h2 h3 h4 (ab_lc_s2 (v := .inr (.inl z)) hl) (ab_okt h6) (ab_s2_ok h7 (h6 _ List.mem_cons_self)) (by rw [ab_s2_len]; exact h8) h9)
theorem ab_r_astore (X : ab_X x) {i : Nat} {r : Nat ⊕ ((Nat × Nat) ⊕ Nat)} (hi : i < ab_ml (ab_cM x)) (hd : ab_dec x pc (.astore i) 2) (k : ab_J x (pc + 2) (ab_s1 lv i (.inr (.inr r))) st ws kc ks) : ab_J x pc lv (.inr (.inr r) :: st) ws kc ks := by
  intro ad H locs ls h1 h2 h3 h4 h5 h6 h7 h8 h9
  obtain ⟨a, ha⟩ := ab_cvr ad (ab_cE x).2.2.1 r
  rw [List.map_cons, ha]
  exact lv_astore X.ex X.cd hd h5 hi rfl (fun ls' hl => k ad H locs ls' h1 h2 h3 h4 (ab_lc_s1 (v := .inr (.inr r)) (by rw [ha]; exact hl)) (ab_okt h6) (ab_s1_ok h7 (h6 _ List.mem_cons_self)) (by rw [ab_s1_len]; exact h8) h9)
theorem ab_r_astore_n (X : ab_X x) {i : Fin 4} {r : Nat ⊕ ((Nat × Nat) ⊕ Nat)} (hi : (i : Nat) < ab_ml (ab_cM x)) (hd : ab_dec x pc (.astore_n i) 1) (k : ab_J x (pc + 1) (ab_s1 lv i (.inr (.inr r))) st ws kc ks) : ab_J x pc lv (.inr (.inr r) :: st) ws kc ks := by
  intro ad H locs ls h1 h2 h3 h4 h5 h6 h7 h8 h9
  obtain ⟨a, ha⟩ := ab_cvr ad (ab_cE x).2.2.1 r
  rw [List.map_cons, ha]
  exact lv_astore_n X.ex X.cd hd rfl h5 hi rfl (fun ls' hl => k ad H locs ls' h1 h2 h3 h4 (ab_lc_s1 (v := .inr (.inr r)) (by rw [ha]; exact hl)) (ab_okt h6) (ab_s1_ok h7 (h6 _ List.mem_cons_self)) (by rw [ab_s1_len]; exact h8) h9)
theorem ab_r_iinc (X : ab_X x) {i : Nat} {n z : Int} (hi : i < ab_ml (ab_cM x)) (hz : ab_at lv i = some (some (.inl z))) (hd : ab_dec x pc (.iinc i n) 3) (k : ab_num (z + n) (ab_J x (pc + 3) (ab_s1 lv i (.inl (z + n))) st ws kc ks)) : ab_J x pc lv st ws kc ks := by
  intro ad H locs ls h1 h2 h3 h4 h5 h6 h7 h8 h9
  obtain ⟨j, hj⟩ := List.getElem?_of_mem (ab_lc_mem (ad := ad) (ak := (ab_cE x).2.2.1) (n := 0) (q := (i, ab_cv ad (ab_cE x).2.2.1 (.inl z))) |>.mpr ⟨i, .inl z, hz, by simp⟩)
  refine lv_iinc (k := j) X.ex X.cd hd h5 hj (v := Int32.ofInt (z + n)) (by rw [Int32.ofInt_add]) hi rfl (fun ls' hl => k.2 ad H locs ls' h1 h2 h3 h4 (ab_lc_s1 (v := .inl (z + n)) hl) h6 (ab_s1_ok h7 k.1) (by rw [ab_s1_len]; exact h8) h9)
theorem ab_r_iadd (X : ab_X x) {a b : Int} (hd : ab_dec x pc .iadd 1) (k : ab_num (a + b) (ab_J x (pc + 1) lv (.inl (a + b) :: st) ws kc ks)) : ab_J x pc lv (.inl b :: .inl a :: st) ws kc ks :=
  ab_s_st (ab_ok2 (v := .inl (a + b)) fun _ _ => k.1) (fun _ _ _ _ _ _ kk => lv_iadd X.ex X.cd hd (by rw [← Int32.ofInt_add]; exact kk)) k.2
theorem ab_r_isub (X : ab_X x) {a b : Int} (hd : ab_dec x pc .isub 1) (k : ab_num (a - b) (ab_J x (pc + 1) lv (.inl (a - b) :: st) ws kc ks)) : ab_J x pc lv (.inl b :: .inl a :: st) ws kc ks :=
  ab_s_st (ab_ok2 (v := .inl (a - b)) fun _ _ => k.1) (fun _ _ _ _ _ _ kk => lv_isub X.ex X.cd hd (by rw [← Int32.ofInt_sub]; exact kk)) k.2
theorem ab_r_imul (X : ab_X x) {a b : Int} (hd : ab_dec x pc .imul 1) (k : ab_num (a * b) (ab_J x (pc + 1) lv (.inl (a * b) :: st) ws kc ks)) : ab_J x pc lv (.inl b :: .inl a :: st) ws kc ks :=
  ab_s_st (ab_ok2 (v := .inl (a * b)) fun _ _ => k.1) (fun _ _ _ _ _ _ kk => lv_imul X.ex X.cd hd (by rw [← Int32.ofInt_mul]; exact kk)) k.2
theorem ab_r_ineg (X : ab_X x) {a : Int} (hd : ab_dec x pc .ineg 1) (k : ab_num (-a) (ab_J x (pc + 1) lv (.inl (-a) :: st) ws kc ks)) : ab_J x pc lv (.inl a :: st) ws kc ks :=
  ab_s_st (ab_ok1 (v := .inl (-a)) fun _ => k.1) (fun _ _ _ _ _ _ kk => lv_ineg X.ex X.cd hd (by rw [← Int32.ofInt_neg]; exact kk)) k.2
theorem ab_div32 {a b : Int} (ha : ab_okk 0 a) (hb : ab_okk 0 b) : Int32.ofInt a / Int32.ofInt b = Int32.ofInt (a.tdiv b) := by
  rw [← Int32.toInt_inj, Int32.toInt_div, ab_t32 ha, ab_t32 hb, Int32.toInt_ofInt]
theorem ab_div64 {a b : Int} (ha : ab_okk 2 a) (hb : ab_okk 2 b) : Int64.ofInt a / Int64.ofInt b = Int64.ofInt (a.tdiv b) := by
  rw [← Int64.toInt_inj, Int64.toInt_div, ab_t64 ha, ab_t64 hb, Int64.toInt_ofInt]
theorem ab_ne32 {b : Int} (hb : ab_okk 0 b) (h : ¬ b = 0) : ¬ Int32.ofInt b = 0 := by rw [← ab_of0, ab_eq32 hb ab_ok0]; exact h
theorem ab_ne64 {b : Int} (hb : ab_okk 2 b) (h : ¬ b = 0) : ¬ Int64.ofInt b = 0 := by
  rw [← Int64.toInt_inj, ab_t64 hb]; exact h
theorem ab_r_idiv (X : ab_X x) {a b : Int} (hd : ab_dec x pc .idiv 1) (k : (¬ b = 0) ∧ ab_num (a.tdiv b) (ab_J x (pc + 1) lv (.inl (a.tdiv b) :: st) ws kc ks)) : ab_J x pc lv (.inl b :: .inl a :: st) ws kc ks :=
  ab_s_st (ab_ok2 (v := .inl (a.tdiv b)) fun _ _ => k.2.1) (fun _ _ _ _ h _ kk => lv_idiv X.ex X.cd hd (ab_ne32 (h _ List.mem_cons_self) k.1) (by rw [ab_div32 (h _ (List.mem_cons_of_mem _ List.mem_cons_self)) (h _ List.mem_cons_self)]; exact kk)) k.2.2
theorem ab_r_irem (X : ab_X x) {a b : Int} (hd : ab_dec x pc .irem 1) (k : (¬ b = 0) ∧ ab_num (a.tmod b) (ab_J x (pc + 1) lv (.inl (a.tmod b) :: st) ws kc ks)) : ab_J x pc lv (.inl b :: .inl a :: st) ws kc ks :=
  ab_s_st (ab_ok2 (v := .inl (a.tmod b)) fun _ _ => k.2.1) (fun _ _ _ _ h _ kk => lv_irem X.ex X.cd hd (ab_ne32 (h _ List.mem_cons_self) k.1) (by
    rw [ab_div32 (h _ (List.mem_cons_of_mem _ List.mem_cons_self)) (h _ List.mem_cons_self), ← Int32.ofInt_mul, ← Int32.ofInt_sub, Int.mul_comm, ← Int.tmod_def]; exact kk)) k.2.2
theorem ab_r_iand (X : ab_X x) {a b : Int} (hd : ab_dec x pc .iand 1) (k : ab_J x (pc + 1) lv (.inl (Int32.ofInt a &&& Int32.ofInt b).toInt :: st) ws kc ks) : ab_J x pc lv (.inl b :: .inl a :: st) ws kc ks :=
  ab_s_st (ab_ok2 (v := .inl (Int32.ofInt a &&& Int32.ofInt b).toInt) fun _ _ => ab_okT _) (fun _ _ _ _ _ _ kk => lv_iand X.ex X.cd hd (by rw [List.map_cons] at kk; simp only [ab_cv, Int32.ofInt_toInt] at kk; exact kk)) k
theorem ab_r_ior (X : ab_X x) {a b : Int} (hd : ab_dec x pc .ior 1) (k : ab_J x (pc + 1) lv (.inl (Int32.ofInt a ||| Int32.ofInt b).toInt :: st) ws kc ks) : ab_J x pc lv (.inl b :: .inl a :: st) ws kc ks :=
  ab_s_st (ab_ok2 (v := .inl (Int32.ofInt a ||| Int32.ofInt b).toInt) fun _ _ => ab_okT _) (fun _ _ _ _ _ _ kk => lv_ior X.ex X.cd hd (by rw [List.map_cons] at kk; simp only [ab_cv, Int32.ofInt_toInt] at kk; exact kk)) k
theorem ab_r_ixor (X : ab_X x) {a b : Int} (hd : ab_dec x pc .ixor 1) (k : ab_J x (pc + 1) lv (.inl (Int32.ofInt a ^^^ Int32.ofInt b).toInt :: st) ws kc ks) : ab_J x pc lv (.inl b :: .inl a :: st) ws kc ks :=
  ab_s_st (ab_ok2 (v := .inl (Int32.ofInt a ^^^ Int32.ofInt b).toInt) fun _ _ => ab_okT _) (fun _ _ _ _ _ _ kk => lv_ixor X.ex X.cd hd (by rw [List.map_cons] at kk; simp only [ab_cv, Int32.ofInt_toInt] at kk; exact kk)) k
theorem ab_r_ishl (X : ab_X x) {a b : Int} (hd : ab_dec x pc .ishl 1) (k : ab_J x (pc + 1) lv (.inl (Int32.ofInt a <<< (Int32.ofInt b &&& 31)).toInt :: st) ws kc ks) : ab_J x pc lv (.inl b :: .inl a :: st) ws kc ks :=
  ab_s_st (ab_ok2 (v := .inl (Int32.ofInt a <<< (Int32.ofInt b &&& 31)).toInt) fun _ _ => ab_okT _) (fun _ _ _ _ _ _ kk => lv_ishl X.ex X.cd hd (by rw [List.map_cons] at kk; simp only [ab_cv, Int32.ofInt_toInt] at kk; exact kk)) k
theorem ab_r_ishr (X : ab_X x) {a b : Int} (hd : ab_dec x pc .ishr 1) (k : ab_J x (pc + 1) lv (.inl (Int32.ofInt a >>> (Int32.ofInt b &&& 31)).toInt :: st) ws kc ks) : ab_J x pc lv (.inl b :: .inl a :: st) ws kc ks :=
  ab_s_st (ab_ok2 (v := .inl (Int32.ofInt a >>> (Int32.ofInt b &&& 31)).toInt) fun _ _ => ab_okT _) (fun _ _ _ _ _ _ kk => lv_ishr X.ex X.cd hd (by rw [List.map_cons] at kk; simp only [ab_cv, Int32.ofInt_toInt] at kk; exact kk)) k
theorem ab_i8_ok (z : Int) : -128 ≤ ab_i8 z ∧ ab_i8 z ≤ 127 := by
  unfold ab_i8
  have h1 := (Int8.ofInt z).le_toInt
  have h2 := (Int8.ofInt z).toInt_lt
  omega
theorem ab_i8_32 (z : Int) : (Int32.ofInt z).toInt8.toInt32 = Int32.ofInt (ab_i8 z) := by
  rw [← Int32.toInt_inj, ab_t32 (z := ab_i8 z) (by have := ab_i8_ok z; exact ⟨by omega, by omega⟩)]
  simp [ab_i8]
theorem ab_r_i2b (X : ab_X x) {a : Int} (hd : ab_dec x pc .i2b 1) (k : ab_J x (pc + 1) lv (.inl (ab_i8 a) :: st) ws kc ks) : ab_J x pc lv (.inl a :: st) ws kc ks :=
  ab_s_st (ab_ok1 (v := .inl (ab_i8 a)) fun _ => by have := ab_i8_ok a; exact ⟨by omega, by omega⟩) (fun _ _ _ _ _ _ kk => lv_i2b X.ex X.cd hd (ab_i8_32 a) kk) k
theorem ab_r_i2l (X : ab_X x) {a : Int} (hd : ab_dec x pc .i2l 1) (k : ab_J x (pc + 1) lv (.inr (.inl a) :: st) ws kc ks) : ab_J x pc lv (.inl a :: st) ws kc ks :=
  ab_s_st (ab_ok1 (v := .inr (.inl a)) fun h => ⟨by have := h.1; omega, by have := h.2; omega⟩) (fun _ _ _ _ h _ kk => lv_i2l X.ex X.cd hd (by
    have h0 : ab_okk 0 a := h _ List.mem_cons_self
    rw [← Int64.toInt_inj, Int32.toInt_toInt64, ab_t32 h0, ab_t64 (z := a) ⟨by have := h0.1; omega, by have := h0.2; omega⟩]) kk) k
theorem ab_r_ladd (X : ab_X x) {a b : Int} (hd : ab_dec x pc .ladd 1) (k : ab_lng (a + b) (ab_J x (pc + 1) lv (.inr (.inl (a + b)) :: st) ws kc ks)) : ab_J x pc lv (.inr (.inl b) :: .inr (.inl a) :: st) ws kc ks :=
  ab_s_st (ab_ok2 (v := .inr (.inl (a + b))) fun _ _ => k.1) (fun _ _ _ _ _ _ kk => lv_ladd X.ex X.cd hd (by rw [← Int64.ofInt_add]; exact kk)) k.2
theorem ab_r_lmul (X : ab_X x) {a b : Int} (hd : ab_dec x pc .lmul 1) (k : ab_lng (a * b) (ab_J x (pc + 1) lv (.inr (.inl (a * b)) :: st) ws kc ks)) : ab_J x pc lv (.inr (.inl b) :: .inr (.inl a) :: st) ws kc ks :=
  ab_s_st (ab_ok2 (v := .inr (.inl (a * b))) fun _ _ => k.1) (fun _ _ _ _ _ _ kk => lv_lmul X.ex X.cd hd (by rw [← Int64.ofInt_mul]; exact kk)) k.2
theorem ab_r_ldiv (X : ab_X x) {a b : Int} (hd : ab_dec x pc .ldiv 1) (k : (¬ b = 0) ∧ ab_lng (a.tdiv b) (ab_J x (pc + 1) lv (.inr (.inl (a.tdiv b)) :: st) ws kc ks)) : ab_J x pc lv (.inr (.inl b) :: .inr (.inl a) :: st) ws kc ks :=
  ab_s_st (ab_ok2 (v := .inr (.inl (a.tdiv b))) fun _ _ => k.2.1) (fun _ _ _ _ h _ kk => lv_ldiv X.ex X.cd hd (ab_ne64 (h _ List.mem_cons_self) k.1) (by rw [ab_div64 (h _ (List.mem_cons_of_mem _ List.mem_cons_self)) (h _ List.mem_cons_self)]; exact kk)) k.2.2
theorem ab_r_lor (X : ab_X x) {a b : Int} (hd : ab_dec x pc .lor 1) (k : ab_J x (pc + 1) lv (.inr (.inl (Int64.ofInt a ||| Int64.ofInt b).toInt) :: st) ws kc ks) : ab_J x pc lv (.inr (.inl b) :: .inr (.inl a) :: st) ws kc ks :=
  ab_s_st (ab_ok2 (v := .inr (.inl (Int64.ofInt a ||| Int64.ofInt b).toInt)) fun _ _ => ab_okT64 _) (fun _ _ _ _ _ _ kk => lv_lor X.ex X.cd hd (by rw [List.map_cons] at kk; simp only [ab_cv, Int64.ofInt_toInt] at kk; exact kk)) k
theorem ab_r_lshl (X : ab_X x) {a b : Int} (hd : ab_dec x pc .lshl 1) (k : ab_J x (pc + 1) lv (.inr (.inl (Int64.ofInt a <<< ((Int32.ofInt b).toInt64 &&& 63)).toInt) :: st) ws kc ks) : ab_J x pc lv (.inl b :: .inr (.inl a) :: st) ws kc ks :=
  ab_s_st (ab_ok2 (v := .inr (.inl (Int64.ofInt a <<< ((Int32.ofInt b).toInt64 &&& 63)).toInt)) fun _ _ => ab_okT64 _) (fun _ _ _ _ _ _ kk => lv_lshl X.ex X.cd hd rfl (by rw [List.map_cons] at kk; simp only [ab_cv, Int64.ofInt_toInt] at kk; exact kk)) k
theorem ab_cmp64 {a b : Int} (ha : ab_okk 2 a) (hb : ab_okk 2 b) : lg_cmp (Int64.ofInt a) (Int64.ofInt b) = Int32.ofInt (ab_cmp a b) := by
  unfold lg_cmp ab_cmp
  simp only [gt_iff_lt, Int64.lt_iff_toInt_lt, ← Int64.toInt_inj, ab_t64 ha, ab_t64 hb]
  split
  · rfl
  · split
    · rfl
    · rfl
theorem ab_cmp_ok (a b : Int) : ab_okk 0 (ab_cmp a b) := by
  unfold ab_cmp
  split
  · exact ⟨by omega, by omega⟩
  · split <;> exact ⟨by omega, by omega⟩
theorem ab_r_lcmp (X : ab_X x) {a b : Int} (hd : ab_dec x pc .lcmp 1) (k : ab_J x (pc + 1) lv (.inl (ab_cmp a b) :: st) ws kc ks) : ab_J x pc lv (.inr (.inl b) :: .inr (.inl a) :: st) ws kc ks :=
  ab_s_st (ab_ok2 (v := .inl (ab_cmp a b)) fun _ _ => ab_cmp_ok a b) (fun _ _ _ _ h _ kk => W.lcmp X.ex X.cd hd (by rw [ab_cmp64 (h _ (List.mem_cons_of_mem _ List.mem_cons_self)) (h _ List.mem_cons_self)]; exact kk)) k
theorem ab_r_dup (X : ab_X x) {v : ab_V} (hv : ab_cat v = 1) (hd : ab_dec x pc .dup 1) (k : ab_J x (pc + 1) lv (v :: v :: st) ws kc ks) : ab_J x pc lv (v :: st) ws kc ks :=
  ab_s_st (fun h => ab_okc (h _ List.mem_cons_self) h) (fun ad _ _ _ _ _ kk => lv_dup X.ex X.cd hd (by rw [ab_cv_cat]; exact hv) kk) k
theorem ab_r_pop (X : ab_X x) {v : ab_V} (hv : ab_cat v = 1) (hd : ab_dec x pc .pop 1) (k : ab_J x (pc + 1) lv st ws kc ks) : ab_J x pc lv (v :: st) ws kc ks :=
  ab_s_st ab_okt (fun ad _ _ _ _ _ kk => lv_pop X.ex X.cd hd (by rw [ab_cv_cat]; exact hv) kk) k
theorem ab_r_dup2 (X : ab_X x) {v w : ab_V} (hv : ab_cat v = 1) (hw : ab_cat w = 1) (hd : ab_dec x pc .dup2 1) (k : ab_J x (pc + 1) lv (v :: w :: v :: w :: st) ws kc ks) : ab_J x pc lv (v :: w :: st) ws kc ks :=
  ab_s_st (fun h => ab_okc (h _ List.mem_cons_self) (ab_okc (h _ (List.mem_cons_of_mem _ List.mem_cons_self)) h)) (fun ad _ _ _ _ _ kk => lv_dup2_11 X.ex X.cd hd (by rw [ab_cv_cat]; exact hv) (by rw [ab_cv_cat]; exact hw) kk) k
theorem ab_r_goto (X : ab_X x) {off : Int} {t : Nat} (ht : (pc : Int) + off = (t : Int)) (hd : ab_dec x pc (.goto off) 3) (k : ab_J x t lv st ws kc ks) : ab_J x pc lv st ws kc ks :=
  ab_s_st (fun h => h) (fun _ _ _ _ _ _ kk => lv_goto X.ex X.cd hd ht kk) k
theorem ab_r_if (X : ab_X x) {cn : Jvm.ClassFile.Cond} {off a : Int} {t : Nat} (ht : (pc : Int) + off = (t : Int)) (hd : ab_dec x pc (.ifCond cn off) 3) (k : ab_if cn a 0 (ab_J x t lv st ws kc ks) (ab_J x (pc + 3) lv st ws kc ks)) : ab_J x pc lv (.inl a :: st) ws kc ks := by
  intro ad H locs ls h1 h2 h3 h4 h5 h6 h7 h8 h9
  have ha : ab_okk 0 a := h6 _ List.mem_cons_self
  have h6' := ab_okt h6
  cases cn with
  | eq => exact lv_if_eq X.ex X.cd hd ht (fun e => k.1 ((ab_eq32 ha ab_ok0).mp e) ad H locs ls h1 h2 h3 h4 h5 h6' h7 h8 h9) (fun e => k.2 (fun q => e ((ab_eq32 ha ab_ok0).mpr q)) ad H locs ls h1 h2 h3 h4 h5 h6' h7 h8 h9)
  | ne => exact lv_if_ne X.ex X.cd hd ht (fun e => k.1 (fun q => e ((ab_eq32 ha ab_ok0).mpr q)) ad H locs ls h1 h2 h3 h4 h5 h6' h7 h8 h9) (fun e => k.2 ((ab_eq32 ha ab_ok0).mp e) ad H locs ls h1 h2 h3 h4 h5 h6' h7 h8 h9)
  | lt => exact lv_if_lt X.ex X.cd hd ht (fun e => k.1 ((ab_lt32 ha ab_ok0).mp e) ad H locs ls h1 h2 h3 h4 h5 h6' h7 h8 h9) (fun e => k.2 (fun q => e ((ab_lt32 ha ab_ok0).mpr q)) ad H locs ls h1 h2 h3 h4 h5 h6' h7 h8 h9)
  | ge => exact lv_if_ge X.ex X.cd hd ht (fun e => k.1 ((ab_le32 ab_ok0 ha).mp e) ad H locs ls h1 h2 h3 h4 h5 h6' h7 h8 h9) (fun e => k.2 (fun q => e ((ab_le32 ab_ok0 ha).mpr q)) ad H locs ls h1 h2 h3 h4 h5 h6' h7 h8 h9)
  | gt => exact lv_if_gt X.ex X.cd hd ht (fun e => k.1 ((ab_lt32 ab_ok0 ha).mp e) ad H locs ls h1 h2 h3 h4 h5 h6' h7 h8 h9) (fun e => k.2 (fun q => e ((ab_lt32 ab_ok0 ha).mpr q)) ad H locs ls h1 h2 h3 h4 h5 h6' h7 h8 h9)
  | le => exact lv_if_le X.ex X.cd hd ht (fun e => k.1 ((ab_le32 ha ab_ok0).mp e) ad H locs ls h1 h2 h3 h4 h5 h6' h7 h8 h9) (fun e => k.2 (fun q => e ((ab_le32 ha ab_ok0).mpr q)) ad H locs ls h1 h2 h3 h4 h5 h6' h7 h8 h9)
theorem ab_r_icmp (X : ab_X x) {cn : Jvm.ClassFile.Cond} {off a b : Int} {t : Nat} (ht : (pc : Int) + off = (t : Int)) (hd : ab_dec x pc (.if_icmp cn off) 3) (k : ab_if cn a b (ab_J x t lv st ws kc ks) (ab_J x (pc + 3) lv st ws kc ks)) : ab_J x pc lv (.inl b :: .inl a :: st) ws kc ks := by
  intro ad H locs ls h1 h2 h3 h4 h5 h6 h7 h8 h9
  have hb : ab_okk 0 b := h6 _ List.mem_cons_self
  have ha : ab_okk 0 a := h6 _ (List.mem_cons_of_mem _ List.mem_cons_self)
  have h6' := ab_okt (ab_okt h6)
  cases cn with
  | eq => exact lv_icmp_eq X.ex X.cd hd ht (fun e => k.1 ((ab_eq32 ha hb).mp e) ad H locs ls h1 h2 h3 h4 h5 h6' h7 h8 h9) (fun e => k.2 (fun q => e ((ab_eq32 ha hb).mpr q)) ad H locs ls h1 h2 h3 h4 h5 h6' h7 h8 h9)
  | ne => exact lv_icmp_ne X.ex X.cd hd ht (fun e => k.1 (fun q => e ((ab_eq32 ha hb).mpr q)) ad H locs ls h1 h2 h3 h4 h5 h6' h7 h8 h9) (fun e => k.2 ((ab_eq32 ha hb).mp e) ad H locs ls h1 h2 h3 h4 h5 h6' h7 h8 h9)
  | lt => exact lv_icmp_lt X.ex X.cd hd ht (fun e => k.1 ((ab_lt32 ha hb).mp e) ad H locs ls h1 h2 h3 h4 h5 h6' h7 h8 h9) (fun e => k.2 (fun q => e ((ab_lt32 ha hb).mpr q)) ad H locs ls h1 h2 h3 h4 h5 h6' h7 h8 h9)
  | ge => exact lv_icmp_ge X.ex X.cd hd ht (fun e => k.1 ((ab_le32 hb ha).mp e) ad H locs ls h1 h2 h3 h4 h5 h6' h7 h8 h9) (fun e => k.2 (fun q => e ((ab_le32 hb ha).mpr q)) ad H locs ls h1 h2 h3 h4 h5 h6' h7 h8 h9)
  | gt => exact lv_icmp_gt X.ex X.cd hd ht (fun e => k.1 ((ab_lt32 hb ha).mp e) ad H locs ls h1 h2 h3 h4 h5 h6' h7 h8 h9) (fun e => k.2 (fun q => e ((ab_lt32 hb ha).mpr q)) ad H locs ls h1 h2 h3 h4 h5 h6' h7 h8 h9)
  | le => exact lv_icmp_le X.ex X.cd hd ht (fun e => k.1 ((ab_le32 ha hb).mp e) ad H locs ls h1 h2 h3 h4 h5 h6' h7 h8 h9) (fun e => k.2 (fun q => e ((ab_le32 ha hb).mpr q)) ad H locs ls h1 h2 h3 h4 h5 h6' h7 h8 h9)
end
