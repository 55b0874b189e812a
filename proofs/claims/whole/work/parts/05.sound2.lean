/-! SOUNDNESS, second part: the judgement, rows that touch stack and locals alone -/
/-- the machine's own: p l e R s m args | below meth c Q | E ad0 M A d mc ms -/
abbrev ab_Cx : Type := (Program × Launch × Env × Room × State × MethodId × Array Value) × (List Frame × Method × Code × (State → Prop)) × (ab_E × (Nat → Nat → Nat) × ab_M × (Nat → Prop) × Nat × Nat × Nat)
abbrev ab_cs (x : ab_Cx) : State := x.1.2.2.2.2.1
abbrev ab_cm (x : ab_Cx) : MethodId := x.1.2.2.2.2.2.1
abbrev ab_ca (x : ab_Cx) : Array Value := x.1.2.2.2.2.2.2
abbrev ab_cR (x : ab_Cx) : Room := x.1.2.2.2.1
abbrev ab_cE (x : ab_Cx) : ab_E := x.2.2.1
abbrev ab_c0 (x : ab_Cx) : Nat → Nat → Nat := x.2.2.2.1
abbrev ab_cM (x : ab_Cx) : ab_M := x.2.2.2.2.1
abbrev ab_cA (x : ab_Cx) : Nat → Prop := x.2.2.2.2.2.1
abbrev ab_cd' (x : ab_Cx) : Nat := x.2.2.2.2.2.2.1
abbrev ab_cc (x : ab_Cx) : Nat := x.2.2.2.2.2.2.2.1
abbrev ab_ck (x : ab_Cx) : Nat := x.2.2.2.2.2.2.2.2
abbrev ab_Wx (x : ab_Cx) (H : Heap) (locs : List Loc) (kc ks : Nat) (g : JFrame) : Prop :=
  W x.1.1 x.1.2.1 x.1.2.2.1 (ab_cR x) (ab_cs x) (ab_cm x) (ab_ca x) x.2.1.1 x.2.1.2.1 x.2.1.2.2.1 H locs kc ks x.2.1.2.2.2 g
def ab_J (x : ab_Cx) (pc : Nat) (lv : List (Option ab_V)) (st : List ab_V) (ws : List ab_Ob) (kc ks : Nat) : Prop :=
  ∀ (ad : Nat → Nat → Nat) (H : Heap) (locs : List Loc) (ls : Array Slot), ab_rel (ab_mv (ab_cM x)) (ab_c0 x) ad → ab_W (ab_cE x) ad (ab_G (ab_cM x)) ws H → ab_ia ad (ab_G (ab_cM x)) (ab_cA x) → va_S (ab_cA x) (ab_cs x).heap H locs → lv_has ls (ab_ml (ab_cM x)) (ab_lc ad (ab_cE x).2.2.1 0 lv) → (∀ v ∈ st, ab_okv v) → (∀ v, some v ∈ lv → ab_okv v) → lv.length = ab_ml (ab_cM x) → kc ≤ ab_cc x ∧ ks ≤ ab_ck x →
    ab_Wx x H locs kc ks (F0 (ab_cm x) pc ls (st.map (ab_cv ad (ab_cE x).2.2.1)))
def ab_X (x : ab_Cx) : Prop :=
  x.1.1.tables.exec = Jvm.exec ∧ x.2.1.2.2.1.code = ab_cd (ab_cM x) ∧ x.2.1.2.2.1.maxLocals = ab_ml (ab_cM x) ∧ (ab_cs x).vm.findClass (ab_nm (ab_cM x)).cls = some (ab_cm x).cls ∧ (∀ w ∈ ab_gw, w.before (ab_ca x) (ab_cs x) = true) ∧ x.2.1.2.1.sig.returnType = ab_rt (ab_cM x) ∧ x.2.1.2.1.locks = false ∧ ab_K (ab_cE x) (ab_cA x) (ab_cs x) (ab_cs x).heap ∧ (∀ q, (ab_cs x).heap.size ≤ q → ab_cA x q) ∧ ab_cR x = ab_rm (ab_cd' x + 1) (ab_cc x) (ab_ck x)
theorem ab_X.ex {x : ab_Cx} (X : ab_X x) : x.1.1.tables.exec = Jvm.exec := X.1
theorem ab_X.cd {x : ab_Cx} (X : ab_X x) : x.2.1.2.2.1.code = ab_cd (ab_cM x) := X.2.1
theorem ab_X.ml {x : ab_Cx} (X : ab_X x) : x.2.1.2.2.1.maxLocals = ab_ml (ab_cM x) := X.2.2.1
theorem ab_X.own {x : ab_Cx} (X : ab_X x) : (ab_cs x).vm.findClass (ab_nm (ab_cM x)).cls = some (ab_cm x).cls := X.2.2.2.1
theorem ab_X.ts {x : ab_Cx} (X : ab_X x) : ∀ w ∈ ab_gw, w.before (ab_ca x) (ab_cs x) = true := X.2.2.2.2.1
theorem ab_X.rt {x : ab_Cx} (X : ab_X x) : x.2.1.2.1.sig.returnType = ab_rt (ab_cM x) := X.2.2.2.2.2.1
theorem ab_X.lk {x : ab_Cx} (X : ab_X x) : x.2.1.2.1.locks = false := X.2.2.2.2.2.2.1
theorem ab_X.K {x : ab_Cx} (X : ab_X x) : ab_K (ab_cE x) (ab_cA x) (ab_cs x) (ab_cs x).heap := X.2.2.2.2.2.2.2.1
theorem ab_X.A {x : ab_Cx} (X : ab_X x) : ∀ q, (ab_cs x).heap.size ≤ q → ab_cA x q := X.2.2.2.2.2.2.2.2.1
theorem ab_X.R {x : ab_Cx} (X : ab_X x) : ab_cR x = ab_rm (ab_cd' x + 1) (ab_cc x) (ab_ck x) := X.2.2.2.2.2.2.2.2.2
abbrev ab_dec (x : ab_Cx) (pc : Nat) (i : Instr) (n : Nat) : Prop := decode (ab_cd (ab_cM x)) pc = .ok (i, n)
/-- rows that change the stack alone -/
theorem ab_s_st {x : ab_Cx} {pc pc' : Nat} {lv : List (Option ab_V)} {st st' : List ab_V} {ws : List ab_Ob} {kc ks : Nat} (hok : (∀ v ∈ st, ab_okv v) → ∀ v ∈ st', ab_okv v)
    (hW : ∀ (ad : Nat → Nat → Nat) (H : Heap) (locs : List Loc) (ls : Array Slot), (∀ v ∈ st, ab_okv v) → lv_has ls (ab_ml (ab_cM x)) (ab_lc ad (ab_cE x).2.2.1 0 lv) → ab_Wx x H locs kc ks (F0 (ab_cm x) pc' ls (st'.map (ab_cv ad (ab_cE x).2.2.1))) → ab_Wx x H locs kc ks (F0 (ab_cm x) pc ls (st.map (ab_cv ad (ab_cE x).2.2.1))))
    (k : ab_J x pc' lv st' ws kc ks) : ab_J x pc lv st ws kc ks := by
  intro ad H locs ls h1 h2 h3 h4 h5 h6 h7 h8 h9
  exact hW ad H locs ls h6 h5 (k ad H locs ls h1 h2 h3 h4 h5 (hok h6) h7 h8 h9)
section
variable {x : ab_Cx} {pc : Nat} {lv : List (Option ab_V)} {st : List ab_V} {ws : List ab_Ob} {kc ks : Nat}
theorem ab_okc {v : ab_V} (hv : ab_okv v) : (∀ w ∈ st, ab_okv w) → ∀ w ∈ v :: st, ab_okv w := fun h w hw => by
  rcases List.mem_cons.mp hw with rfl | hw
  · exact hv
  · exact h w hw
theorem ab_ok2 {a b v : ab_V} (hv : ab_okv a → ab_okv b → ab_okv v) : (∀ w ∈ a :: b :: st, ab_okv w) → ∀ w ∈ v :: st, ab_okv w := fun h w hw => by
  rcases List.mem_cons.mp hw with rfl | hw
  · exact hv (h _ List.mem_cons_self) (h _ (List.mem_cons_of_mem _ List.mem_cons_self))
  · exact h w (List.mem_cons_of_mem _ (List.mem_cons_of_mem _ hw))
theorem ab_ok1 {a v : ab_V} (hv : ab_okv a → ab_okv v) : (∀ w ∈ a :: st, ab_okv w) → ∀ w ∈ v :: st, ab_okv w := fun h w hw => by
  rcases List.mem_cons.mp hw with rfl | hw
  · exact hv (h _ List.mem_cons_self)
  · exact h w (List.mem_cons_of_mem _ hw)
theorem ab_okt {a : ab_V} : (∀ w ∈ a :: st, ab_okv w) → ∀ w ∈ st, ab_okv w := fun h w hw => h w (List.mem_cons_of_mem _ hw)
theorem ab_r_iconst (X : ab_X x) {z : Int} (hz : -1 ≤ z ∧ z ≤ 5) (hd : ab_dec x pc (.iconst z) 1) (k : ab_J x (pc + 1) lv (.inl z :: st) ws kc ks) : ab_J x pc lv st ws kc ks :=
  ab_s_st (ab_okc (v := .inl z) ⟨by omega, by omega⟩) (fun _ _ _ _ _ _ kk => lv_iconst X.ex X.cd hd rfl kk) k
theorem ab_r_bipush (X : ab_X x) {z : Int} (hz : -128 ≤ z ∧ z ≤ 127) (hd : ab_dec x pc (.bipush z) 2) (k : ab_J x (pc + 2) lv (.inl z :: st) ws kc ks) : ab_J x pc lv st ws kc ks :=
  ab_s_st (ab_okc (v := .inl z) ⟨by omega, by omega⟩) (fun _ _ _ _ _ _ kk => lv_bipush X.ex X.cd hd (by
    rw [← Int32.toInt_inj, ab_t32 (z := z) ⟨by omega, by omega⟩]
    simp [Int8.toInt_ofInt_of_le (n := z) (by omega) (by omega)]) kk) k
theorem ab_r_sipush (X : ab_X x) {z : Int} (hz : -32768 ≤ z ∧ z ≤ 32767) (hd : ab_dec x pc (.sipush z) 3) (k : ab_J x (pc + 3) lv (.inl z :: st) ws kc ks) : ab_J x pc lv st ws kc ks :=
  ab_s_st (ab_okc (v := .inl z) ⟨by omega, by omega⟩) (fun _ _ _ _ _ _ kk => lv_sipush X.ex X.cd hd (by
    rw [← Int32.toInt_inj, ab_t32 (z := z) ⟨by omega, by omega⟩]
    simp [Int16.toInt_ofInt_of_le (n := z) (by omega) (by omega)]) kk) k
theorem ab_r_lconst (X : ab_X x) {z : Fin 2} (hd : ab_dec x pc (.lconst z) 1) (k : ab_J x (pc + 1) lv (.inr (.inl (z : Nat)) :: st) ws kc ks) : ab_J x pc lv st ws kc ks :=
  ab_s_st (ab_okc (v := .inr (.inl (z : Nat))) ⟨by omega, by omega⟩) (fun _ _ _ _ _ _ kk => lv_lconst X.ex X.cd hd Int64.ofInt_eq_ofNat.symm kk) k
theorem ab_r_ldc (X : ab_X x) {i b : Nat} (hb : b ≤ 2147483647) (hw : .constant (ab_nm (ab_cM x)).cls i (Int32.ofInt (b : Nat)) ∈ ab_gw) (hd : ab_dec x pc (.ldc i) 2) (k : ab_J x (pc + 2) lv (.inl (b : Nat) :: st) ws kc ks) : ab_J x pc lv st ws kc ks :=
  ab_s_st (ab_okc (v := .inl (b : Nat)) ⟨by omega, by omega⟩) (fun _ _ _ _ _ _ kk => lv_ldc X.ex X.cd X.own (X.ts _ hw) hd kk) k
theorem ab_r_ldcw (X : ab_X x) {i b : Nat} (hb : b ≤ 2147483647) (hw : .constant (ab_nm (ab_cM x)).cls i (Int32.ofInt (b : Nat)) ∈ ab_gw) (hd : ab_dec x pc (.ldc_w i) 3) (k : ab_J x (pc + 3) lv (.inl (b : Nat) :: st) ws kc ks) : ab_J x pc lv st ws kc ks :=
  ab_s_st (ab_okc (v := .inl (b : Nat)) ⟨by omega, by omega⟩) (fun _ _ _ _ _ _ kk => lv_ldcw X.ex X.cd X.own (X.ts _ hw) hd kk) k
theorem ab_r_ldc2 (X : ab_X x) {i b : Nat} (hb : b ≤ 9223372036854775807) (hw : .constantLong (ab_nm (ab_cM x)).cls i (Int64.ofInt (b : Nat)) ∈ ab_gw) (hd : ab_dec x pc (.ldc2_w i) 3) (k : ab_J x (pc + 3) lv (.inr (.inl (b : Nat)) :: st) ws kc ks) : ab_J x pc lv st ws kc ks :=
  ab_s_st (ab_okc (v := .inr (.inl (b : Nat))) ⟨by omega, by omega⟩) (fun _ _ _ _ _ _ kk => lv_ldc2 X.ex X.cd X.own (X.ts _ hw) hd kk) k
theorem ab_r_ldcS (X : ab_X x) {i n : Nat} {tx : String} (hw : ((ab_nm (ab_cM x)).cls, i, tx, n) ∈ ab_sts) (hd : ab_dec x pc (.ldc i) 2) (k : ab_J x (pc + 2) lv (ab_S n :: st) ws kc ks) : ab_J x pc lv st ws kc ks :=
  ab_s_st (ab_okc (v := ab_S n) trivial) (fun _ _ _ _ _ _ kk => va_ldcS X.ex X.cd X.own (X.K.2.2.1 _ hw) hd kk) k
theorem ab_r_iload (X : ab_X x) {i : Nat} (hd : ab_dec x pc (.iload i) 2) (k : ab_ldI lv i fun v => ab_J x (pc + 2) lv (v :: st) ws kc ks) : ab_J x pc lv st ws kc ks := by
  unfold ab_ldI at k
  split at k
  · rename_i z hz
    intro ad H locs ls h1 h2 h3 h4 h5 h6 h7 h8 h9
    exact lv_iload X.ex X.cd hd (ab_lc_at h5 hz) (k ad H locs ls h1 h2 h3 h4 h5 (ab_okc (h7 _ (ab_at_mem hz)) h6) h7 h8 h9)
  · exact k.elim
theorem ab_r_iload_n (X : ab_X x) {i : Fin 4} (hd : ab_dec x pc (.iload_n i) 1) (k : ab_ldI lv i fun v => ab_J x (pc + 1) lv (v :: st) ws kc ks) : ab_J x pc lv st ws kc ks := by
  unfold ab_ldI at k
  split at k
  · rename_i z hz
    intro ad H locs ls h1 h2 h3 h4 h5 h6 h7 h8 h9
    exact lv_iload_n X.ex X.cd hd rfl (ab_lc_at h5 hz) (k ad H locs ls h1 h2 h3 h4 h5 (ab_okc (h7 _ (ab_at_mem hz)) h6) h7 h8 h9)
  · exact k.elim
theorem ab_r_lload (X : ab_X x) {i : Nat} (hd : ab_dec x pc (.lload i) 2) (k : ab_ldL lv i fun v => ab_J x (pc + 2) lv (v :: st) ws kc ks) : ab_J x pc lv st ws kc ks := by
  unfold ab_ldL at k
  split at k
  · rename_i z hz
    intro ad H locs ls h1 h2 h3 h4 h5 h6 h7 h8 h9
    exact lv_lload X.ex X.cd hd (ab_lc_at h5 hz) (k ad H locs ls h1 h2 h3 h4 h5 (ab_okc (h7 _ (ab_at_mem hz)) h6) h7 h8 h9)
  · exact k.elim
theorem ab_r_lload_n (X : ab_X x) {i : Fin 4} (hd : ab_dec x pc (.lload_n i) 1) (k : ab_ldL lv i fun v => ab_J x (pc + 1) lv (v :: st) ws kc ks) : ab_J x pc lv st ws kc ks := by
  unfold ab_ldL at k
  split at k
  · rename_i z hz
    intro ad H locs ls h1 h2 h3 h4 h5 h6 h7 h8 h9
    exact lv_lload_n X.ex X.cd hd rfl (ab_lc_at h5 hz) (k ad H locs ls h1 h2 h3 h4 h5 (ab_okc (h7 _ (ab_at_mem hz)) h6) h7 h8 h9)
  · exact k.elim
theorem ab_cvr (ad : Nat → Nat → Nat) (ak : Nat → Nat) (r : Nat ⊕ ((Nat × Nat) ⊕ Nat)) : ∃ a : Nat, ab_cv ad ak (.inr (.inr r)) = .ref a := by
  rcases r with o | q | n
  · exact ⟨_, rfl⟩
  · exact ⟨_, rfl⟩
  · exact ⟨_, rfl⟩
theorem ab_r_aload (X : ab_X x) {i : Nat} (hd : ab_dec x pc (.aload i) 2) (k : ab_ldA lv i fun v => ab_J x (pc + 2) lv (v :: st) ws kc ks) : ab_J x pc lv st ws kc ks := by
  unfold ab_ldA at k
  split at k
  · rename_i z hz
    intro ad H locs ls h1 h2 h3 h4 h5 h6 h7 h8 h9
    obtain ⟨a, ha⟩ := ab_cvr ad (ab_cE x).2.2.1 z
    have hl := ab_lc_at h5 hz
    have kk := k ad H locs ls h1 h2 h3 h4 h5 (ab_okc (h7 _ (ab_at_mem hz)) h6) h7 h8 h9
    rw [ha] at hl
    rw [List.map_cons, ha] at kk
    exact lv_aload X.ex X.cd hd hl kk
  · exact k.elim
theorem ab_r_aload_n (X : ab_X x) {i : Fin 4} (hd : ab_dec x pc (.aload_n i) 1) (k : ab_ldA lv i fun v => ab_J x (pc + 1) lv (v :: st) ws kc ks) : ab_J x pc lv st ws kc ks := by
  unfold ab_ldA at k
  split at k
  · rename_i z hz
    intro ad H locs ls h1 h2 h3 h4 h5 h6 h7 h8 h9
    obtain ⟨a, ha⟩ := ab_cvr ad (ab_cE x).2.2.1 z
    have hl := ab_lc_at h5 hz
    have kk := k ad H locs ls h1 h2 h3 h4 h5 (ab_okc (h7 _ (ab_at_mem hz)) h6) h7 h8 h9
    rw [ha] at hl
    rw [List.map_cons, ha] at kk
    exact lv_aload_n X.ex X.cd hd rfl hl kk
  · exact k.elim
end
