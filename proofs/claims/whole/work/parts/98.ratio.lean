/-! ===== odds: the same for all numbers of packs ===== -/
def oTm (P : Nat) (u : Nat → Nat) (v : Nat) : Nat := P * u v
theorem oSm_tm (P : Nat) (u : Nat → Nat) (f : Nat → Int) : ∀ n, oSm (oTm P u) f n = (P : Int) * oSm u f n
  | 0 => (Int.mul_zero _).symm
  | n + 1 => by
    show oSm (oTm P u) f n + ((P * u (n + 1) : Nat) : Int) * f (n + 1) = (P : Int) * (oSm u f n + (u (n + 1) : Int) * f (n + 1))
    rw [oSm_tm P u f n, Int.mul_add, Int.natCast_mul, Int.mul_assoc]
theorem ysm_tm (P : Nat) (u : Nat → Nat) : ysm (oTm P u) = P * ysm u := by
  unfold ysm oTm
  simp only [Nat.mul_add]
theorem oAv_tm {P : Nat} (hP : 0 < P) (u : Nat → Nat) (f : Nat → Int) : oAv (oTm P u) f = oAv u f := by
  unfold oAv
  rw [oSm_tm, ysm_tm, Int.natCast_mul, Int.mul_tdiv_mul_of_pos _ _ (by omega)]
theorem oE_tm {P : Nat} (hP : 0 < P) (u q : Nat → Nat) (k : Nat) : ∀ (f s : Nat) (a : Bool), oE (oTm P u) q k f s a = oE u q k f s a
  | 0, _, _ => rfl
  | f + 1, s, a => by
    show (if oDw q s a = true then oAv (oTm P u) (fun v => oE (oTm P u) q k f (s + v) (oA a v)) else _) = (if oDw q s a = true then oAv u (fun v => oE u q k f (s + v) (oA a v)) else _)
    rw [oAv_tm hP, oAv_congr (fun v _ _ => oE_tm hP u q k f (s + v) (oA a v))]
theorem oO_tm {P : Nat} (hP : 0 < P) (u q : Nat → Nat) (dv : Nat) : oO (oTm P u) q dv = oO u q dv := by
  funext k
  unfold oO
  rw [oAv_tm hP, oAv_tm hP]
  by_cases c : k = 8
  · rw [if_pos c, if_pos c]
  · rw [if_neg c, if_neg c]
    refine oAv_congr (fun v _ _ => ?_)
    by_cases z : oNat dv v
    · rw [if_pos z, if_pos z]
    · rw [if_neg z, if_neg z]
      exact oE_tm hP u q k 40 _ _
theorem oD_tm {P : Nat} (hP : 0 < P) (u : Nat → Nat) (O : Nat → Int) : ∀ (f s : Nat) (a : Bool), oD (oTm P u) O f s a = oD u O f s a
  | 0, _, _ => rfl
  | f + 1, s, a => by
    show oAv (oTm P u) (fun v => oNx O (oTt (s + v) (oA a v)) (oD (oTm P u) O f (s + v) (oA a v))) = oAv u (fun v => oNx O (oTt (s + v) (oA a v)) (oD u O f (s + v) (oA a v)))
    rw [oAv_tm hP]
    exact oAv_congr (fun v _ _ => by rw [oD_tm hP u O f (s + v) (oA a v)])
theorem oW_tm {P : Nat} (hP : 0 < P) (u : Nat → Nat) (O : Nat → Int) (s : Nat) (a : Bool) (p : Nat) : oW (oTm P u) O s a p = oW u O s a p := by
  unfold oW oDe oDb
  rw [oD_tm hP, oAv_tm hP]
theorem oM1_tm {P : Nat} (hP : 0 < P) (u : Nat → Nat) (O : Nat → Int) (s : Nat) (a : Bool) : oM1 (oTm P u) O s a = oM1 u O s a := by
  unfold oM1 oDe
  rw [oD_tm hP]
theorem oBst_tm {P : Nat} (hP : 0 < P) (u : Nat → Nat) (O : Nat → Int) (s : Nat) (a b : Bool) : oBst (oTm P u) O s a b = oBst u O s a b := by
  unfold oBst
  rw [oM1_tm hP, oW_tm hP]
  unfold oDb
  rw [oAv_tm hP]
theorem oLn_tm {P : Nat} (hP : 0 < P) (u : Nat → Nat) (O : Nat → Int) (s : Nat) (a b : Bool) : oLn (oTm P u) O s a b = oLn u O s a b := by
  unfold oLn
  simp only [oBst_tm hP, oW_tm hP]
theorem oPw_tm {P : Nat} (hP : 0 < P) (u q : Nat → Nat) (x y dv : Nat) : oPw (oTm P u) q x y dv = oPw u q x y dv := by
  unfold oPw oBw
  rw [oO_tm hP, oBst_tm hP, oW_tm hP]
theorem oWh_tm {P : Nat} (hP : 0 < P) (u q : Nat → Nat) : oWh (oTm P u) q = oWh u q := by
  unfold oWh
  rw [oAv_tm hP]
  refine oAv_congr (fun x _ _ => ?_)
  rw [oAv_tm hP]
  refine oAv_congr (fun y _ _ => ?_)
  rw [oAv_tm hP]
  exact oAv_congr (fun dv _ _ => oPw_tm hP u q x y dv)
