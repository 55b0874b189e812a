/-! the reference's tables: mathematics -/
def md_fr (i h s : Int) : Int := if h ≤ s then s + 1 else i
def md_ln (i j h s : Int) : Nat := if h ≤ s then (j - s).toNat else (s - i + 1).toNat
def md_G (c : Int → Int → Int → Int → Int) (i j h s u : Int) : Int := if h ≤ s then dw_W c i s h * dw_W c (s + 1) j u else dw_W c (s + 1) j h * dw_W c i s u
theorem md_I {c : Int → Int → Int → Int → Int} {T : Int → Int → Int → Int} {i j h s : Int} (h1 : i ≤ s) (h2 : s < j) : dp_I c T i j h s = hd_mn (fun u => dp_V c T i j h s u) (md_fr i h s) (md_ln i j h s - 1) := by
  unfold dp_I md_fr md_ln
  split
  · have : (j - s).toNat - 1 = (j - s - 1).toNat := by omega
    rw [this]
  · have : (s - i + 1).toNat - 1 = (s - i).toNat := by omega
    rw [this]
theorem md_ln_1 {i j h s : Int} (h1 : i ≤ s) (h2 : s < j) : 1 ≤ md_ln i j h s := by
  unfold md_ln
  split <;> omega
theorem md_row {c : Int → Int → Int → Int → Int} {ev : Int} (hev : ∀ h u l r, c h u l r = c h u 1 1 + ev * sc_abs (l - r)) {i j h s : Int} (h1 : i ≤ s) (h2 : s < j) (h3 : i ≤ h) (h4 : h ≤ j) (hB : dp_B c i j h ≤ dp_I c (dp_B c) i j h s) : lx_row (fun s u => dp_V c (dp_B c) i j h s u) (fun s u => md_G c i j h s u) (dp_B c i j h) s (md_fr i h s) (md_ln i j h s) = if dp_I c (dp_B c) i j h s = dp_B c i j h then dw_X c (dw_W c) i s h * dw_X c (dw_W c) (s + 1) j h else 0 := by
  unfold lx_row
  by_cases e : dp_I c (dp_B c) i j h s = dp_B c i j h
  · rw [if_pos e]
    have eI := dp_I_eq hev ⟨h1, h2⟩ (h := h)
    have e2 : s - i + 1 - (j - s) = s + 1 - i - (j - s) := by omega
    by_cases hs : h ≤ s
    · have x1 : dw_X c (dw_W c) i s h = dw_W c i s h := by unfold dw_X; rw [if_pos ⟨h3, hs⟩]
      have x2 : dw_X c (dw_W c) (s + 1) j h = hd_sm (fun u => if dp_B c (s + 1) j u + c h u 1 1 = dp_U c (s + 1) j h then dw_W c (s + 1) j u else 0) (s + 1) (j - (s + 1) + 1).toNat := by unfold dw_X; rw [if_neg (by omega)]
      have en : (j - (s + 1) + 1).toNat = md_ln i j h s := by unfold md_ln; rw [if_pos hs]; omega
      have ef : md_fr i h s = s + 1 := by unfold md_fr; rw [if_pos hs]
      rw [x1, x2, en, ef, ← hd_sm_mull]
      refine hd_sm_congr fun u u1 u2 => ?_
      rw [if_pos hs] at eI
      show (if dp_V c (dp_B c) i j h s u = dp_B c i j h then md_G c i j h s u else 0) = dw_W c i s h * (if dp_B c (s + 1) j u + c h u 1 1 = dp_U c (s + 1) j h then dw_W c (s + 1) j u else 0)
      have eV : dp_V c (dp_B c) i j h s u = dp_B c i s h + dp_B c (s + 1) j u + (c h u 1 1 + ev * sc_abs (s + 1 - i - (j - s))) := by
        unfold dp_V
        rw [if_pos hs, hev h u (s - i + 1) (j - s), e2]
      have eG : md_G c i j h s u = dw_W c i s h * dw_W c (s + 1) j u := by unfold md_G; rw [if_pos hs]
      by_cases g : dp_B c (s + 1) j u + c h u 1 1 = dp_U c (s + 1) j h
      · rw [if_pos g, if_pos (by omega), eG]
      · rw [if_neg g, if_neg (by omega), Int.mul_zero]
    · have x1 : dw_X c (dw_W c) (s + 1) j h = dw_W c (s + 1) j h := by unfold dw_X; rw [if_pos ⟨by omega, h4⟩]
      have x2 : dw_X c (dw_W c) i s h = hd_sm (fun u => if dp_B c i s u + c h u 1 1 = dp_U c i s h then dw_W c i s u else 0) i (s - i + 1).toNat := by unfold dw_X; rw [if_neg (by omega)]
      have en : (s - i + 1).toNat = md_ln i j h s := by unfold md_ln; rw [if_neg hs]
      have ef : md_fr i h s = i := by unfold md_fr; rw [if_neg hs]
      rw [x1, x2, en, ef, Int.mul_comm, ← hd_sm_mull]
      refine hd_sm_congr fun u u1 u2 => ?_
      rw [if_neg hs] at eI
      show (if dp_V c (dp_B c) i j h s u = dp_B c i j h then md_G c i j h s u else 0) = dw_W c (s + 1) j h * (if dp_B c i s u + c h u 1 1 = dp_U c i s h then dw_W c i s u else 0)
      have eV : dp_V c (dp_B c) i j h s u = dp_B c (s + 1) j h + dp_B c i s u + (c h u 1 1 + ev * sc_abs (s + 1 - i - (j - s))) := by
        unfold dp_V
        rw [if_neg hs, hev h u (s - i + 1) (j - s), e2]
      have eG : md_G c i j h s u = dw_W c (s + 1) j h * dw_W c i s u := by unfold md_G; rw [if_neg hs]
      by_cases g : dp_B c i s u + c h u 1 1 = dp_U c i s h
      · rw [if_pos g, if_pos (by omega), eG]
      · rw [if_neg g, if_neg (by omega), Int.mul_zero]
  · rw [if_neg e]
    have : hd_sm (fun u => if dp_V c (dp_B c) i j h s u = dp_B c i j h then md_G c i j h s u else 0) (md_fr i h s) (md_ln i j h s) = hd_sm (fun _ => 0) (md_fr i h s) (md_ln i j h s) := hd_sm_congr fun u u1 u2 => by
      show (if dp_V c (dp_B c) i j h s u = dp_B c i j h then md_G c i j h s u else 0) = 0
      rw [md_I h1 h2] at e hB
      have l1 := md_ln_1 (h := h) h1 h2
      have := hd_mn_le (f := fun u => dp_V c (dp_B c) i j h s u) (i := md_fr i h s) (m := md_ln i j h s - 1) (k := u) u1 (by omega)
      rw [if_neg (by show ¬ dp_V c (dp_B c) i j h s u = dp_B c i j h; omega)]
    exact this.trans (hd_sm_z _ _)
/-- where the scan ends -/
theorem md_end {c : Int → Int → Int → Int → Int} {ev : Int} (hev : ∀ h u l r, c h u l r = c h u 1 1 + ev * sc_abs (l - r)) {F i j h : Int} {m : Nat} {B S U W : Int} (hij : i < j) (h2 : j - i ≤ 24) (hm : i + m = j) (h3 : i ≤ h) (h4 : h ≤ j) (hv : lx_inv (fun s u => dp_V c (dp_B c) i j h s u) (fun s u => md_G c i j h s u) (fun s => md_fr i h s) (fun s => md_ln i j h s) F i m 0 B S U W) : B = dp_B c i j h ∧ S = dp_sp c i j h ∧ U = dp_un c i j h ∧ W = hd_lim (dw_W c i j h) := by
  obtain ⟨h1, hx, hw⟩ := hv
  have inn : ∀ s u, i ≤ s → s < j → md_fr i h s ≤ u → u < md_fr i h s + md_ln i j h s → lx_in (fun s => md_fr i h s) (fun s => md_ln i j h s) i m 0 s u := fun s u a1 a2 a3 a4 => ⟨a3, Or.inl ⟨a1, by omega, a4⟩⟩
  have exI : ∀ s, i ≤ s → s < j → ∃ u, md_fr i h s ≤ u ∧ u < md_fr i h s + md_ln i j h s ∧ dp_I c (dp_B c) i j h s = dp_V c (dp_B c) i j h s u := fun s a1 a2 => by
    obtain ⟨u, u1, u2, u3⟩ := hd_mn_ex (fun u => dp_V c (dp_B c) i j h s u) (md_fr i h s) (md_ln i j h s - 1)
    have l1 := md_ln_1 (h := h) a1 a2
    exact ⟨u, u1, by omega, by rw [md_I a1 a2]; exact u3⟩
  have leI : ∀ s u, i ≤ s → s < j → md_fr i h s ≤ u → u < md_fr i h s + md_ln i j h s → dp_I c (dp_B c) i j h s ≤ dp_V c (dp_B c) i j h s u := fun s u a1 a2 a3 a4 => by
    have l1 := md_ln_1 (h := h) a1 a2
    have := hd_mn_le (f := fun u => dp_V c (dp_B c) i j h s u) (i := md_fr i h s) (m := md_ln i j h s - 1) (k := u) a3 (by omega)
    rw [md_I a1 a2]
    exact this
  rcases hx with ⟨_, hx⟩ | ⟨hx1, hx2, hx3⟩
  · obtain ⟨u, u1, u2, _⟩ := exI i (by omega) hij
    exact absurd (inn i u (by omega) hij u1 u2) (hx i u)
  · obtain ⟨s1, s2 | s2⟩ := hx1
    · obtain ⟨s3, s4, s5⟩ := s2
      dsimp only at s1 s5 hx2
      have s4' : S < j := by omega
      have eS : dp_I c (dp_B c) i j h S = B := by
        have a := leI S U s3 s4' s1 s5
        obtain ⟨u, u1, u2, u3⟩ := exI S s3 s4'
        have b := h1 S u (inn S u s3 s4' u1 u2)
        dsimp only at b
        omega
      have leB : ∀ s, i ≤ s → s < j → B ≤ dp_I c (dp_B c) i j h s := fun s a1 a2 => by
        obtain ⟨u, u1, u2, u3⟩ := exI s a1 a2
        have b := h1 s u (inn s u a1 a2 u1 u2)
        dsimp only at b
        omega
      have eB : dp_B c i j h = B := by
        rw [dp_B_S hij h2]
        exact hd_mn_eq (fun k k1 k2 => leB k k1 (by omega)) ⟨S, s3, by omega, eS.symm⟩
      have eSp : dp_sp c i j h = S := by
        have em : hd_mn (fun s => dp_I c (dp_B c) i j h s) i (j - i - 1).toNat = B := by rw [← eB, dp_B_S hij h2]; rfl
        refine hd_am_eq s3 (by omega) (by rw [em]; exact eS) fun q q1 q2 => ?_
        rw [em]
        obtain ⟨u, u1, u2, u3⟩ := exI q q1 (by omega)
        have := hx3 q u (inn q u q1 (by omega) u1 u2) (Or.inl q2)
        dsimp only at this ⊢
        omega
      have l1 := md_ln_1 (h := h) s3 s4'
      have eU : hd_am (fun u => dp_V c (dp_B c) i j h S u) (md_fr i h S) (md_ln i j h S - 1) = U := by
        have em : hd_mn (fun u => dp_V c (dp_B c) i j h S u) (md_fr i h S) (md_ln i j h S - 1) = B := by rw [← md_I s3 s4']; exact eS
        refine hd_am_eq s1 (by omega) (by rw [em]; exact hx2) fun q q1 q2 => ?_
        rw [em]
        exact hx3 S q (inn S q s3 s4' q1 (by omega)) (Or.inr ⟨rfl, q2⟩)
      refine ⟨eB.symm, eSp.symm, ?_, ?_⟩
      · rw [← eU]
        unfold dp_un
        rw [eSp]
        unfold md_fr md_ln
        by_cases hs : h ≤ S
        · rw [if_pos hs, if_pos hs, if_pos hs]
          have : (j - S).toNat - 1 = (j - S - 1).toNat := by omega
          rw [this]
        · rw [if_neg hs, if_neg hs, if_neg hs]
          have : (S - i + 1).toNat - 1 = (S - i).toNat := by omega
          rw [this]
      · rw [hw, dw_W_S hij h2]
        congr 1
        unfold lx_sum dw_S
        have em : (j - i).toNat = m := by omega
        rw [em]
        have z : lx_row (fun s u => dp_V c (dp_B c) i j h s u) (fun s u => md_G c i j h s u) B (i + m) (md_fr i h (i + m)) 0 = 0 := rfl
        dsimp only
        rw [z, Int.add_zero]
        refine hd_sm_congr fun s t1 t2 => ?_
        have := md_row hev t1 (by omega : s < j) h3 h4 (by rw [eB]; exact leB s t1 (by omega))
        rw [← eB]
        exact this
    · have := s2.2
      dsimp only at this s1
      omega
