/-! THE BEGINNING: what the constructors leave -/
def n_o (s : Nat → Int) (l : Nat → Int) : ab_Ob := (s, fun f => (l f, fun _ => 0))
def i_x : ab_Ob := n_o (fun _ => 0) (fun _ => 0)
def i_rd : ab_Ob := n_o (fun _ => 0) (fun f => if f = 1 then 700 else if f = 5 then 6 else 0)
def i_sc : ab_Ob := n_o (fun f => if f = 0 then 1 else if f = 1 then 1 else 0) (fun f => if f = 6 then 6 else 24)
def i_ac : ab_Ob := n_o (fun _ => 0) (fun _ => 10)
def i_ch : ab_Ob := n_o (fun _ => 0) (fun _ => 0)
def i_cn : ab_Ob := n_o (fun _ => 0) (fun _ => 0)
def i_tr : ab_Ob := n_o (fun _ => 0) (fun _ => 24)
def i_sw : ab_Ob := n_o (fun _ => 0) (fun f => if f = 6 then 100 else 0)
def i_ly : ab_Ob := n_o (fun _ => 0) (fun _ => 24)
def i_m : ab_Ob := n_o (fun f => if f = 2 then -1 else 0) (fun f => if f = 3 then 55 else if f = 4 then 55 else if f = 5 then 550 else if f = 16 then 700 else if f = 25 then 24 else if f = 26 then 24 else if f ≤ 30 then 13824 else if f ≤ 34 then 48 else if f = 35 then 24 else if f ≤ 44 then 48 else 24)
theorem hR_i : hR i_x i_rd i_sc i_sc i_ac i_ch i_cn i_tr i_sw i_ch i_tr i_tr i_tr i_tr i_ly i_ly i_m := by
  have n3 : i_sc.1 3 = 0 := rfl
  have tl : tb_len i_tr := ⟨rfl, rfl, rfl, rfl, rfl, rfl, rfl⟩
  have ll : ly_len i_ly := ⟨rfl, rfl, rfl⟩
  have sl : sc_len i_sc := ⟨rfl, rfl, rfl, rfl, rfl, rfl⟩
  have cs : ch_st i_ch := Or.inr rfl
  refine ⟨⟨⟨sl, ⟨by rw [n3]; decide, by rw [n3]; decide⟩, ⟨by decide, by decide⟩, ⟨by decide, by decide⟩, ⟨by decide, by decide⟩, fun k k0 k1 => ?_, fun r _ _ => ⟨?_, ?_⟩⟩, fun k k0 k1 => ?_⟩, ⟨⟨cs, Or.inr rfl, tl, fun g => absurd rfl g, fun g => absurd rfl g, fun g => absurd rfl g⟩, ⟨rfl, tl, Or.inr ⟨rfl, cs⟩, fun r v _ _ _ _ hk => ?_⟩, tl, tl, ll, ll⟩, tl, sl, Or.inl ⟨rfl, rfl, by decide, by decide⟩, ⟨⟨rfl, rfl, rfl, rfl, rfl, rfl, rfl⟩, ⟨rfl, rfl, rfl, rfl, rfl, rfl, rfl, rfl, rfl⟩, ⟨rfl, rfl, rfl, rfl, rfl, rfl⟩, ⟨rfl, rfl, rfl⟩, rfl, rfl, rfl⟩, ⟨rfl, rfl, rfl, ⟨by decide, by decide⟩, fun q => ⟨?_, ?_⟩, rfl, rfl⟩, ⟨rfl, rfl⟩, ⟨[], ⟨⟨rfl, rfl, rfl⟩, rfl, by decide, fun t e he => ?_⟩, fun _ => rfl, fun g => absurd rfl g⟩, ⟨fun _ _ _ _ => 0, Or.inl ⟨Or.inl rfl, fun y => y rfl⟩, fun y => absurd rfl y⟩⟩
  · rw [n3] at k1; omega
  · show (0 : Int) ≤ 0; decide
  · show (0 : Int) ≤ 99; decide
  · rw [n3] at k1; omega
  · have : (0 : Int) = 600 := hk.1
    omega
  · show (-128 : Int) ≤ 0; decide
  · show (0 : Int) ≤ 127; decide
  · simp at he
theorem hk_i : hk i_ch i_cn i_sw i_ch = 9 := rfl
theorem hs_i : hs i_ch i_cn i_sw i_ch = 25152 := rfl
