/-! SOUNDNESS, seventh part: answers, Math -/
def ab_XQ (x : ab_Cx) (Post : Option ab_V → List ab_Ob → Prop) : Prop :=
  (∀ t : State, MQ x.2.1.1 (ab_Q (ab_cE x) (ab_c0 x) (ab_cs x).heap.size (ab_cM x) Post) (ab_ca x) (ab_cs x) (ab_cc x) (ab_ck x) (ab_cA x) t → x.2.1.2.2.2 t) ∧ ab_cA x = ab_rg (ab_G (ab_cM x)) (ab_c0 x) (ab_cs x).heap.size
theorem ab_W_to {p : Program} {l : Launch} {e : Env} {R : Room} {s : State} {m : MethodId} {args : Array Value} {below : List Frame} {meth : Method} {c : Code} {H : Heap} {locs : List Loc} {cells slots : Nat} {Q Q' : State → Prop} {g : JFrame} (h : ∀ t, Q t → Q' t) (k : W p l e R s m args below meth c H locs cells slots Q g) : W p l e R s m args below meth c H locs cells slots Q' g := fun T hT X => by
  obtain ⟨t, a, b⟩ := k T hT X
  exact ⟨t, a, h t b⟩
section
variable {x : ab_Cx} {pc : Nat} {lv : List (Option ab_V)} {st : List ab_V} {ws : List ab_Ob} {kc ks : Nat} {Post : Option ab_V → List ab_Ob → Prop}
theorem ab_ret {ad : Nat → Nat → Nat} {H : Heap} {locs : List Loc} {rv : Option ab_V} (XQ : ab_XQ x Post) (k : Post rv ws) (hr : ∀ v, rv = some v → ab_okv v) (h1 : ab_rel (ab_mv (ab_cM x)) (ab_c0 x) ad) (h2 : ab_W (ab_cE x) ad (ab_G (ab_cM x)) ws H) (h3 : ab_ia ad (ab_G (ab_cM x)) (ab_cA x)) (h4 : va_S (ab_cA x) (ab_cs x).heap H locs) (t : State) (ht : t.heap = H) :
    ab_Q (ab_cE x) (ab_c0 x) (ab_cs x).heap.size (ab_cM x) Post (ab_ca x) (ab_cs x) (.returned (rv.map (ab_cv ad (ab_cE x).2.2.1))) t := by
  rw [XQ.2] at h3 h4
  exact ⟨⟨rv, ws, ad, rfl, k, hr, by rw [ht]; exact h2, h1, h3⟩, h4.F ht⟩
theorem ab_r_iret (X : ab_X x) (XQ : ab_XQ x Post) {z : Int} (hrt : ab_rt (ab_cM x) = some .int) (hd : ab_dec x pc .ireturn 1) (k : Post (some (.inl z)) ws) : ab_J x pc lv [.inl z] ws kc ks := by
  intro ad H locs ls h1 h2 h3 h4 h5 h6 h7 h8 h9
  show W _ _ _ _ _ _ _ _ _ _ H locs kc ks x.2.1.2.2.2 _
  refine ab_W_to XQ.1 ?_
  refine W.widen h9.1 h9.2 ?_
  exact W.iret X.ex X.cd (X.rt.trans hrt) (fun t ht _ => ab_ret (rv := some (.inl z)) XQ k (fun v hv => by cases hv; exact h6 _ List.mem_cons_self) h1 h2 h3 h4 t ht) h4.2.2 hd X.lk
theorem ab_r_zret (X : ab_X x) (XQ : ab_XQ x Post) {z : Int} (hrt : ab_rt (ab_cM x) = some .boolean) (hz : z = 0 ∨ z = 1) (hd : ab_dec x pc .ireturn 1) (k : Post (some (.inl z)) ws) : ab_J x pc lv [.inl z] ws kc ks := by
  intro ad H locs ls h1 h2 h3 h4 h5 h6 h7 h8 h9
  show W _ _ _ _ _ _ _ _ _ _ H locs kc ks x.2.1.2.2.2 _
  refine ab_W_to XQ.1 ?_
  refine W.widen h9.1 h9.2 ?_
  exact W.zret X.ex X.cd (X.rt.trans hrt) (by
    rcases hz with rfl | rfl
    · exact (by decide : narrow .boolean (.int (Int32.ofInt 0)) = .int (Int32.ofInt 0))
    · exact (by decide : narrow .boolean (.int (Int32.ofInt 1)) = .int (Int32.ofInt 1))) (fun t ht _ => ab_ret (rv := some (.inl z)) XQ k (fun v hv => by cases hv; exact h6 _ List.mem_cons_self) h1 h2 h3 h4 t ht) h4.2.2 hd X.lk
theorem ab_r_lret (X : ab_X x) (XQ : ab_XQ x Post) {z : Int} (hrt : ab_rt (ab_cM x) = some .long) (hd : ab_dec x pc .lreturn 1) (k : Post (some (.inr (.inl z))) ws) : ab_J x pc lv [.inr (.inl z)] ws kc ks := by
  intro ad H locs ls h1 h2 h3 h4 h5 h6 h7 h8 h9
  show W _ _ _ _ _ _ _ _ _ _ H locs kc ks x.2.1.2.2.2 _
  refine ab_W_to XQ.1 ?_
  refine W.widen h9.1 h9.2 ?_
  exact W.lret X.ex X.cd (X.rt.trans hrt) (fun t ht _ => ab_ret (rv := some (.inr (.inl z))) XQ k (fun v hv => by cases hv; exact h6 _ List.mem_cons_self) h1 h2 h3 h4 t ht) h4.2.2 hd X.lk
theorem ab_r_aret (X : ab_X x) (XQ : ab_XQ x Post) {o : Nat} {nm : String} (hrt : ab_rt (ab_cM x) = some (.object nm)) (hd : ab_dec x pc .areturn 1) (k : Post (some (ab_O o)) ws) : ab_J x pc lv [ab_O o] ws kc ks := by
  intro ad H locs ls h1 h2 h3 h4 h5 h6 h7 h8 h9
  show W _ _ _ _ _ _ _ _ _ _ H locs kc ks x.2.1.2.2.2 _
  refine ab_W_to XQ.1 ?_
  refine W.widen h9.1 h9.2 ?_
  exact W.aret (v := .ref (ad o 0)) X.ex X.cd (X.rt.trans hrt) (Or.inl ⟨nm, rfl⟩) (Or.inr ⟨_, rfl⟩) (fun t ht _ => ab_ret (rv := some (ab_O o)) XQ k (fun v hv => by cases hv; trivial) h1 h2 h3 h4 t ht) h4.2.2 hd X.lk
theorem ab_r_vret (X : ab_X x) (XQ : ab_XQ x Post) (hrt : ab_rt (ab_cM x) = none) (hd : ab_dec x pc .return_ 1) (k : Post none ws) : ab_J x pc lv [] ws kc ks := by
  intro ad H locs ls h1 h2 h3 h4 h5 h6 h7 h8 h9
  show W _ _ _ _ _ _ _ _ _ _ H locs kc ks x.2.1.2.2.2 _
  refine ab_W_to XQ.1 ?_
  refine W.widen h9.1 h9.2 ?_
  exact W.vret X.ex X.cd (X.rt.trans hrt) (fun t ht _ => ab_ret (rv := none) XQ k (fun v hv => by cases hv) h1 h2 h3 h4 t ht) h4.2.2 hd X.lk
theorem ab_cats_map (ad : Nat → Nat → Nat) (ak : Nat → Nat) (l : List ab_V) : ((l.map (ab_cv ad ak)).map fun v => v.category).sum = ab_cats l := by
  induction l with
  | nil => rfl
  | cons v l ih => simp only [List.map_cons, List.sum_cons, ih, ab_cv_cat, ab_cats]
theorem ab_r_mmax (X : ab_X x) {i : Nat} {a b : Int} (hw : .methodLink (ab_nm (ab_cM x)).cls i Lib.Math.max.name ∈ ab_gw) (hs : .static Lib.Math.max.name ∈ ab_gw) (hn : .initialized "java/lang/Math" ∈ ab_gw) (hc : .code Lib.Math.max.name Lib.Math.max.code 2 (some .int) ∈ ab_gw) (hst : ab_cats st ≤ 8) (hd : ab_dec x pc (.invokestatic i) 3) (k : ab_J x (pc + 3) lv (.inl (if a < b then b else a) :: st) ws kc ks) : ab_J x pc lv (.inl b :: .inl a :: st) ws kc ks := by
  intro ad H locs ls h1 h2 h3 h4 h5 h6 h7 h8 h9
  have hb : ab_okk 0 b := h6 _ List.mem_cons_self
  have ha : ab_okk 0 a := h6 _ (List.mem_cons_of_mem _ List.mem_cons_self)
  refine va_mmax X.ex X.cd (X.ml.trans h5.1.symm) X.own (X.ts _ hw) (X.ts _ hs) (X.ts _ hn) (X.ts _ hc) (by rw [X.R]; exact Nat.le_add_left _ _) (by rw [ab_cats_map, X.R]; show ab_cats st + 13 ≤ 37 * (ab_cd' x + 1); omega) (by rw [X.R]; exact h9.1) (by rw [X.R]; exact h9.2) hd ?_
  have kk := k ad H locs ls h1 h2 h3 h4 h5 (ab_ok2 (v := .inl (if a < b then b else a)) (fun _ _ => by split; exact hb; exact ha) h6) h7 h8 h9
  have e : (if Int32.ofInt a < Int32.ofInt b then Int32.ofInt b else Int32.ofInt a) = Int32.ofInt (if a < b then b else a) := by
    by_cases h : a < b
    · rw [if_pos h, if_pos ((ab_lt32 ha hb).mpr h)]
    · rw [if_neg h, if_neg (fun q => h ((ab_lt32 ha hb).mp q))]
  rw [e]
  exact kk
theorem ab_r_mmin (X : ab_X x) {i : Nat} {a b : Int} (hw : .methodLink (ab_nm (ab_cM x)).cls i Lib.Math.min.name ∈ ab_gw) (hs : .static Lib.Math.min.name ∈ ab_gw) (hn : .initialized "java/lang/Math" ∈ ab_gw) (hc : .code Lib.Math.min.name Lib.Math.min.code 2 (some .int) ∈ ab_gw) (hst : ab_cats st ≤ 8) (hd : ab_dec x pc (.invokestatic i) 3) (k : ab_J x (pc + 3) lv (.inl (if b < a then b else a) :: st) ws kc ks) : ab_J x pc lv (.inl b :: .inl a :: st) ws kc ks := by
  intro ad H locs ls h1 h2 h3 h4 h5 h6 h7 h8 h9
  have hb : ab_okk 0 b := h6 _ List.mem_cons_self
  have ha : ab_okk 0 a := h6 _ (List.mem_cons_of_mem _ List.mem_cons_self)
  refine va_mmin X.ex X.cd (X.ml.trans h5.1.symm) X.own (X.ts _ hw) (X.ts _ hs) (X.ts _ hn) (X.ts _ hc) (by rw [X.R]; exact Nat.le_add_left _ _) (by rw [ab_cats_map, X.R]; show ab_cats st + 13 ≤ 37 * (ab_cd' x + 1); omega) (by rw [X.R]; exact h9.1) (by rw [X.R]; exact h9.2) hd ?_
  have kk := k ad H locs ls h1 h2 h3 h4 h5 (ab_ok2 (v := .inl (if b < a then b else a)) (fun _ _ => by split; exact hb; exact ha) h6) h7 h8 h9
  have e : (if Int32.ofInt b < Int32.ofInt a then Int32.ofInt b else Int32.ofInt a) = Int32.ofInt (if b < a then b else a) := by
    by_cases h : b < a
    · rw [if_pos h, if_pos ((ab_lt32 hb ha).mpr h)]
    · rw [if_neg h, if_neg (fun q => h ((ab_lt32 hb ha).mp q))]
  rw [e]
  exact kk
theorem ab_r_mabs (X : ab_X x) {i : Nat} {a : Int} (hw : .methodLink (ab_nm (ab_cM x)).cls i Lib.Math.abs.name ∈ ab_gw) (hs : .static Lib.Math.abs.name ∈ ab_gw) (hn : .initialized "java/lang/Math" ∈ ab_gw) (hc : .code Lib.Math.abs.name Lib.Math.abs.code 1 (some .int) ∈ ab_gw) (hst : ab_cats st ≤ 8) (hd : ab_dec x pc (.invokestatic i) 3) (k : ab_num (-a) (ab_J x (pc + 3) lv (.inl (if 0 ≤ a then a else 0 - a) :: st) ws kc ks)) : ab_J x pc lv (.inl a :: st) ws kc ks := by
  intro ad H locs ls h1 h2 h3 h4 h5 h6 h7 h8 h9
  have ha : ab_okk 0 a := h6 _ List.mem_cons_self
  refine va_mabs X.ex X.cd (X.ml.trans h5.1.symm) X.own (X.ts _ hw) (X.ts _ hs) (X.ts _ hn) (X.ts _ hc) (by rw [X.R]; exact Nat.le_add_left _ _) (by rw [ab_cats_map, X.R]; show ab_cats st + 13 ≤ 37 * (ab_cd' x + 1); omega) (by rw [X.R]; exact h9.1) (by rw [X.R]; exact h9.2) hd ?_
  have kk := k.2 ad H locs ls h1 h2 h3 h4 h5 (ab_ok1 (v := .inl (if 0 ≤ a then a else 0 - a)) (fun _ => by split; exact ha; have := k.1; exact ⟨by omega, by omega⟩) h6) h7 h8 h9
  have e : (if 0 ≤ Int32.ofInt a then Int32.ofInt a else 0 - Int32.ofInt a) = Int32.ofInt (if 0 ≤ a then a else 0 - a) := by
    by_cases h : 0 ≤ a
    · rw [if_pos h, if_pos (by rw [← ab_of0]; exact (ab_le32 ab_ok0 ha).mpr h)]
    · rw [if_neg h, if_neg (fun q => h (by rw [← ab_of0] at q; exact (ab_le32 ab_ok0 ha).mp q)), Int32.ofInt_sub]; rfl
  rw [e]
  exact kk
theorem ab_lt64 {a b : Int} (ha : ab_okk 2 a) (hb : ab_okk 2 b) : Int64.ofInt a < Int64.ofInt b ↔ a < b := by
  rw [Int64.lt_iff_toInt_lt, ab_t64 ha, ab_t64 hb]
theorem ab_r_mminl (X : ab_X x) {i : Nat} {a b : Int} (hw : .methodLink (ab_nm (ab_cM x)).cls i Lib.MathLoose.min_long.x ∈ ab_gw) (hs : .static Lib.MathLoose.min_long.x ∈ ab_gw) (hn : .initialized "java/lang/Math" ∈ ab_gw) (hc : .code Lib.MathLoose.min_long.x Lib.MathLoose.min_long.code 4 (some .long) ∈ ab_gw) (hst : ab_cats st ≤ 8) (hd : ab_dec x pc (.invokestatic i) 3) (k : ab_J x (pc + 3) lv (.inr (.inl (if b < a then b else a)) :: st) ws kc ks) : ab_J x pc lv (.inr (.inl b) :: .inr (.inl a) :: st) ws kc ks := by
  intro ad H locs ls h1 h2 h3 h4 h5 h6 h7 h8 h9
  have hb : ab_okk 2 b := h6 _ List.mem_cons_self
  have ha : ab_okk 2 a := h6 _ (List.mem_cons_of_mem _ List.mem_cons_self)
  refine va_mmin_long X.ex X.cd (X.ml.trans h5.1.symm) X.own (X.ts _ hw) (X.ts _ hs) (X.ts _ hn) (X.ts _ hc) (by rw [X.R]; exact Nat.le_add_left _ _) (by rw [ab_cats_map, X.R]; show ab_cats st + 15 ≤ 37 * (ab_cd' x + 1); omega) (by rw [X.R]; exact h9.1) (by rw [X.R]; exact h9.2) hd ?_
  have kk := k ad H locs ls h1 h2 h3 h4 h5 (ab_ok2 (v := .inr (.inl (if b < a then b else a))) (fun _ _ => by split; exact hb; exact ha) h6) h7 h8 h9
  have e : (if Int64.ofInt b < Int64.ofInt a then Int64.ofInt b else Int64.ofInt a) = Int64.ofInt (if b < a then b else a) := by
    by_cases h : b < a
    · rw [if_pos h, if_pos ((ab_lt64 hb ha).mpr h)]
    · rw [if_neg h, if_neg (fun q => h ((ab_lt64 hb ha).mp q))]
  rw [e]
  exact kk
end
