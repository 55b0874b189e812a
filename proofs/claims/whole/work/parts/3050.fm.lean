/-! Math.floorMod(a, 12), out of the library -/
theorem fm_val : ∀ k : Fin 111, Jvm.Free.MCB.fmod (Int32.ofInt ((k.val : Int) - 11)) 12 = Int32.ofInt (((k.val : Int) - 11) % 12) := by decide +kernel
theorem fm_eq {a : Int} (ha : -11 ≤ a ∧ a ≤ 99) : Jvm.Free.MCB.fmod (Int32.ofInt a) 12 = Int32.ofInt (a % 12) := by
  have h := fm_val ⟨(a + 11).toNat, by omega⟩
  have e : (((a + 11).toNat : Nat) : Int) - 11 = a := by omega
  simp only [e] at h
  exact h
theorem fm_code : ab_cd mJ_floorMod = Jvm.Free.MCB.FloorMod.yB := by decide +kernel
theorem c_floorMod (d : Nat) (a : Int) (ha : -11 ≤ a ∧ a ≤ 99) : ab_Ct (d + 1) 0 0 mJ_floorMod [ab_I a, ab_I 12] [] (ab_Is (a % 12) []) := by
  refine ⟨⟨ab_lk_in (p := 597) (by decide +kernel), ab_lk_in (p := 109) (by decide +kernel), by decide +kernel, by decide, ?_⟩, fun l E ad sz hok => ?_⟩
  · rw [if_pos (show ab_st mJ_floorMod = true from rfl)]
    exact ab_lk_in (p := 596) (by decide +kernel)
  · intro p e hadm hc hk s m args below hf happ hP hK
    obtain ⟨rfl, hsz, hW, hI, hKK⟩ := hP
    obtain ⟨a1, a2, a3, a4, a5, a6, a7, a8⟩ := (Spec.appliesLoose_iff hf).mp happ
    have hcode := atoms_spec (ws := ab_ws mJ_floorMod) a8 _ List.mem_cons_self
    rw [fm_code] at hcode
    obtain ⟨n, o, h1, h2, h3, h4⟩ := Jvm.Free.MCB.FloorMod.gets l (Int32.ofInt a) 12 p e hadm hc hk s m _ below hf ((Spec.appliesLoose_iff hf).mpr ⟨a1, a2, a3, a4, a5, a6, Jvm.Free.hasRoom_mono (Nat.zero_le _) (Nat.zero_le _) (Nat.zero_le _) (Nat.zero_le _) a7, by
      simp only [Jvm.Free.MCB.FloorMod.spec, Jvm.Free.MCB.FloorMod.tab, Cond.before_and, Bool.and_eq_true]
      exact ⟨rfl, hcode⟩⟩) ⟨rfl, by decide⟩ trivial
    obtain ⟨o1, o2, o3⟩ := h4
    refine ⟨n, o, h1, h2, h3, ⟨⟨some (ab_I (a % 12)), [], ad, ?_, ⟨⟨⟨_, rfl⟩, rfl⟩, rfl, rfl⟩, fun v hv => ?_, ?_, ⟨fun _ => rfl, fun _ _ _ => rfl⟩, ⟨hI.1, fun o f h => Or.inl ⟨o, f, h, rfl⟩⟩⟩, ?_⟩, [], o3, fun q hq => by cases hq⟩
    · rw [o1, fm_eq ha]; rfl
    · cases hv
      show -2147483648 ≤ a % 12 ∧ a % 12 ≤ 2147483647
      omega
    · rw [o2]; exact hW
    · exact ⟨by rw [o2]; exact Nat.le_refl _, fun q _ _ => by rw [o2]⟩
