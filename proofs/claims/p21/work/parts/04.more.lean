theorem z_shr (y : Int32) : (0 : Int32) >>> y = 0 := Int32.toBitVec_inj.mp (by simp)
theorem i_clamp {x : Int32} {z : Int} (h : x.toInt = z) : x.toNatClampNeg = z.toNat := by rw [← h]; rfl
noncomputable def chS (x : Int32) : Nat → Int64
  | 0 => 1000000000000
  | i + 1 => if (x >>> (nI i &&& 31)) &&& 1 = 1 then chS x i - chS x i else chS x i
