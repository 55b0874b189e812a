/-! String.length, String.charAt -/
theorem c_length (d : Nat) {n : Nat} (hn : n < 12) : ab_Ct (d + 4) 0 0 mJ_length [ab_S n] [] (ab_Is ((ab_str n).length : Int) []) := sorry
theorem c_charAt (d : Nat) {n i : Nat} {z : Int} (hn : n < 12) (hz : (ab_str n)[i]? = some z) : ab_Ct (d + 4) 0 0 mJ_charAt [ab_S n, ab_I i] [] (ab_Is z []) := sorry
