/-! ===== rows: arithmetic, branches, returns, fields, arrays ===== -/
def am_and (a b : Int) : Int := (iZ a &&& iZ b).toInt
def am_or (a b : Int) : Int := (iZ a ||| iZ b).toInt
def am_xor (a b : Int) : Int := (iZ a ^^^ iZ b).toInt
def am_shl (a b : Int) : Int := (iZ a <<< (iZ b &&& 31)).toInt
def am_shr (a b : Int) : Int := (iZ a >>> (iZ b &&& 31)).toInt
def am_ushr (a b : Int) : Int := ((iZ a).toUInt32 >>> ((iZ b).toUInt32 &&& Int32.toUInt32 31)).toInt32.toInt
theorem iZ_div {a b : Int} (ha : 0 ≤ a) (hr : inR a) (hb : 0 < b) (hs : inR b) : iZ a / iZ b = iZ (a / b) := by
  apply Int32.toInt_inj.mp
  have h1 : a / b ≤ a := Int.ediv_le_self b ha
  have h2 : 0 ≤ a / b := Int.ediv_nonneg ha (by omega)
  rw [lg_idiv_nonneg (by rw [iZ_toInt hr]; exact ha) (by rw [iZ_toInt hs]; omega), iZ_toInt hr, iZ_toInt hs, iZ_toInt ⟨by omega, by unfold inR at hr; omega⟩]
theorem iZ_rem {a b : Int} (ha : 0 ≤ a) (hr : inR a) (hb : 0 < b) (hs : inR b) : iZ a - iZ a / iZ b * iZ b = iZ (a % b) := by
  rw [iZ_div ha hr hb hs, ← Int32.ofInt_mul, ← Int32.ofInt_sub]
  refine congrArg Int32.ofInt ?_
  have := Int.mul_ediv_add_emod a b
  rw [Int.mul_comm] at this
  omega
theorem lZ_div {a b : Int} (ha : 0 ≤ a) (hr : inL a) (hb : 0 < b) (hs : inL b) : lZ a / lZ b = lZ (a / b) := by
  apply Int64.toInt_inj.mp
  have h1 : a / b ≤ a := Int.ediv_le_self b ha
  have h2 : 0 ≤ a / b := Int.ediv_nonneg ha (by omega)
  rw [lg_ldiv_nonneg (by rw [lZ_toInt hr]; exact ha) (by rw [lZ_toInt hs]; omega), lZ_toInt hr, lZ_toInt hs, lZ_toInt ⟨by omega, by unfold inL at hr; omega⟩]
theorem lZ_rem {a b : Int} (ha : 0 ≤ a) (hr : inL a) (hb : 0 < b) (hs : inL b) : lZ a - lZ a / lZ b * lZ b = lZ (a % b) := by
  rw [lZ_div ha hr hb hs, ← Int64.ofInt_mul, ← Int64.ofInt_sub]
  refine congrArg Int64.ofInt ?_
  have := Int.mul_ediv_add_emod a b
  rw [Int.mul_comm] at this
  omega
theorem iZ_ne0 {b : Int} (hb : 0 < b) (hs : inR b) : ¬ iZ b = 0 := by
  intro h
  have := congrArg Int32.toInt h
  rw [iZ_toInt hs] at this
  have h0 : (0 : Int32).toInt = 0 := rfl
  omega
theorem lZ_ne0 {b : Int} (hb : 0 < b) (hs : inL b) : ¬ lZ b = 0 := by
  intro h
  have := congrArg Int64.toInt h
  rw [lZ_toInt hs] at this
  have h0 : (0 : Int64).toInt = 0 := rfl
  omega
section AMS
variable {sh : am_Sh} {M : am_M} {d : Nat} {Q : Option Value → am_St → Prop} {pc : Nat} {lv : List (Option Value)} {st : List Value} {σ : am_St}
theorem go_iadd {a b : Int} (hd : decode M.2.1 pc = .ok (.iadd, 1)) (k : am_Go sh M d Q (pc + 1) lv (.int (iZ (a + b)) :: st) σ) : am_Go sh M d Q pc lv (.int (iZ b) :: .int (iZ a) :: st) σ := by
  intro p l e D dA z φ s m args below meth c C H locs ls hP hS hL
  refine lv_iadd C.1 C.2.1 hd ?_
  have h := (k p l e D dA z φ s m args below meth c C H locs ls hP hS hL)
  rwa [iZ, Int32.ofInt_add] at h
theorem go_isub {a b : Int} (hd : decode M.2.1 pc = .ok (.isub, 1)) (k : am_Go sh M d Q (pc + 1) lv (.int (iZ (a - b)) :: st) σ) : am_Go sh M d Q pc lv (.int (iZ b) :: .int (iZ a) :: st) σ := by
  intro p l e D dA z φ s m args below meth c C H locs ls hP hS hL
  refine lv_isub C.1 C.2.1 hd ?_
  have h := (k p l e D dA z φ s m args below meth c C H locs ls hP hS hL)
  rwa [iZ, Int32.ofInt_sub] at h
theorem go_imul {a b : Int} (hd : decode M.2.1 pc = .ok (.imul, 1)) (k : am_Go sh M d Q (pc + 1) lv (.int (iZ (a * b)) :: st) σ) : am_Go sh M d Q pc lv (.int (iZ b) :: .int (iZ a) :: st) σ := by
  intro p l e D dA z φ s m args below meth c C H locs ls hP hS hL
  refine lv_imul C.1 C.2.1 hd ?_
  have h := (k p l e D dA z φ s m args below meth c C H locs ls hP hS hL)
  rwa [iZ, Int32.ofInt_mul] at h
theorem go_ladd {a b : Int} (hd : decode M.2.1 pc = .ok (.ladd, 1)) (k : am_Go sh M d Q (pc + 1) lv (.long (lZ (a + b)) :: st) σ) : am_Go sh M d Q pc lv (.long (lZ b) :: .long (lZ a) :: st) σ := by
  intro p l e D dA z φ s m args below meth c C H locs ls hP hS hL
  refine lv_ladd C.1 C.2.1 hd ?_
  have h := (k p l e D dA z φ s m args below meth c C H locs ls hP hS hL)
  rwa [lZ, Int64.ofInt_add] at h
theorem go_lmul {a b : Int} (hd : decode M.2.1 pc = .ok (.lmul, 1)) (k : am_Go sh M d Q (pc + 1) lv (.long (lZ (a * b)) :: st) σ) : am_Go sh M d Q pc lv (.long (lZ b) :: .long (lZ a) :: st) σ := by
  intro p l e D dA z φ s m args below meth c C H locs ls hP hS hL
  refine lv_lmul C.1 C.2.1 hd ?_
  have h := (k p l e D dA z φ s m args below meth c C H locs ls hP hS hL)
  rwa [lZ, Int64.ofInt_mul] at h
theorem go_iand {a b : Int} (hd : decode M.2.1 pc = .ok (.iand, 1)) (k : am_Go sh M d Q (pc + 1) lv (.int (iZ (am_and a b)) :: st) σ) : am_Go sh M d Q pc lv (.int (iZ b) :: .int (iZ a) :: st) σ := by
  intro p l e D dA z φ s m args below meth c C H locs ls hP hS hL
  refine lv_iand C.1 C.2.1 hd ?_
  have h := (k p l e D dA z φ s m args below meth c C H locs ls hP hS hL)
  rwa [am_and, iZ_of] at h
theorem go_ior {a b : Int} (hd : decode M.2.1 pc = .ok (.ior, 1)) (k : am_Go sh M d Q (pc + 1) lv (.int (iZ (am_or a b)) :: st) σ) : am_Go sh M d Q pc lv (.int (iZ b) :: .int (iZ a) :: st) σ := by
  intro p l e D dA z φ s m args below meth c C H locs ls hP hS hL
  refine lv_ior C.1 C.2.1 hd ?_
  have h := (k p l e D dA z φ s m args below meth c C H locs ls hP hS hL)
  rwa [am_or, iZ_of] at h
theorem go_ixor {a b : Int} (hd : decode M.2.1 pc = .ok (.ixor, 1)) (k : am_Go sh M d Q (pc + 1) lv (.int (iZ (am_xor a b)) :: st) σ) : am_Go sh M d Q pc lv (.int (iZ b) :: .int (iZ a) :: st) σ := by
  intro p l e D dA z φ s m args below meth c C H locs ls hP hS hL
  refine lv_ixor C.1 C.2.1 hd ?_
  have h := (k p l e D dA z φ s m args below meth c C H locs ls hP hS hL)
  rwa [am_xor, iZ_of] at h
theorem go_ishl {a b : Int} (hd : decode M.2.1 pc = .ok (.ishl, 1)) (k : am_Go sh M d Q (pc + 1) lv (.int (iZ (am_shl a b)) :: st) σ) : am_Go sh M d Q pc lv (.int (iZ b) :: .int (iZ a) :: st) σ := by
  intro p l e D dA z φ s m args below meth c C H locs ls hP hS hL
  refine lv_ishl C.1 C.2.1 hd ?_
  have h := (k p l e D dA z φ s m args below meth c C H locs ls hP hS hL)
  rwa [am_shl, iZ_of] at h
theorem go_ishr {a b : Int} (hd : decode M.2.1 pc = .ok (.ishr, 1)) (k : am_Go sh M d Q (pc + 1) lv (.int (iZ (am_shr a b)) :: st) σ) : am_Go sh M d Q pc lv (.int (iZ b) :: .int (iZ a) :: st) σ := by
  intro p l e D dA z φ s m args below meth c C H locs ls hP hS hL
  refine lv_ishr C.1 C.2.1 hd ?_
  have h := (k p l e D dA z φ s m args below meth c C H locs ls hP hS hL)
  rwa [am_shr, iZ_of] at h
theorem go_iushr {a b : Int} (hd : decode M.2.1 pc = .ok (.iushr, 1)) (k : am_Go sh M d Q (pc + 1) lv (.int (iZ (am_ushr a b)) :: st) σ) : am_Go sh M d Q pc lv (.int (iZ b) :: .int (iZ a) :: st) σ := by
  intro p l e D dA z φ s m args below meth c C H locs ls hP hS hL
  refine lv_iushr C.1 C.2.1 hd rfl ?_
  have h := (k p l e D dA z φ s m args below meth c C H locs ls hP hS hL)
  rwa [am_ushr, iZ_of] at h
theorem go_idiv {a b : Int} (hd : decode M.2.1 pc = .ok (.idiv, 1)) (ha : 0 ≤ a) (hr : inR a) (hb : 0 < b) (hs : inR b) (k : am_Go sh M d Q (pc + 1) lv (.int (iZ (a / b)) :: st) σ) : am_Go sh M d Q pc lv (.int (iZ b) :: .int (iZ a) :: st) σ := by
  intro p l e D dA z φ s m args below meth c C H locs ls hP hS hL
  refine lv_idiv C.1 C.2.1 hd (iZ_ne0 hb hs) ?_
  have h := (k p l e D dA z φ s m args below meth c C H locs ls hP hS hL)
  rw [← iZ_div ha hr hb hs] at h
  exact h
theorem go_irem {a b : Int} (hd : decode M.2.1 pc = .ok (.irem, 1)) (ha : 0 ≤ a) (hr : inR a) (hb : 0 < b) (hs : inR b) (k : am_Go sh M d Q (pc + 1) lv (.int (iZ (a % b)) :: st) σ) : am_Go sh M d Q pc lv (.int (iZ b) :: .int (iZ a) :: st) σ := by
  intro p l e D dA z φ s m args below meth c C H locs ls hP hS hL
  refine lv_irem C.1 C.2.1 hd (iZ_ne0 hb hs) ?_
  have h := (k p l e D dA z φ s m args below meth c C H locs ls hP hS hL)
  rw [← iZ_rem ha hr hb hs] at h
  exact h
theorem go_ldiv {a b : Int} (hd : decode M.2.1 pc = .ok (.ldiv, 1)) (ha : 0 ≤ a) (hr : inL a) (hb : 0 < b) (hs : inL b) (k : am_Go sh M d Q (pc + 1) lv (.long (lZ (a / b)) :: st) σ) : am_Go sh M d Q pc lv (.long (lZ b) :: .long (lZ a) :: st) σ := by
  intro p l e D dA z φ s m args below meth c C H locs ls hP hS hL
  refine lv_ldiv C.1 C.2.1 hd (lZ_ne0 hb hs) ?_
  have h := (k p l e D dA z φ s m args below meth c C H locs ls hP hS hL)
  rw [← lZ_div ha hr hb hs] at h
  exact h
theorem go_lrem {a b : Int} (hd : decode M.2.1 pc = .ok (.lrem, 1)) (ha : 0 ≤ a) (hr : inL a) (hb : 0 < b) (hs : inL b) (k : am_Go sh M d Q (pc + 1) lv (.long (lZ (a % b)) :: st) σ) : am_Go sh M d Q pc lv (.long (lZ b) :: .long (lZ a) :: st) σ := by
  intro p l e D dA z φ s m args below meth c C H locs ls hP hS hL
  refine lv_lrem C.1 C.2.1 hd (lZ_ne0 hb hs) ?_
  have h := (k p l e D dA z φ s m args below meth c C H locs ls hP hS hL)
  rw [← lZ_rem ha hr hb hs] at h
  exact h
theorem go_i2l {a : Int} (hd : decode M.2.1 pc = .ok (.i2l, 1)) (ha : inR a) (k : am_Go sh M d Q (pc + 1) lv (.long (lZ a) :: st) σ) : am_Go sh M d Q pc lv (.int (iZ a) :: st) σ := by
  intro p l e D dA z φ s m args below meth c C H locs ls hP hS hL
  refine lv_i2l C.1 C.2.1 hd (v := lZ a) ?_ (k p l e D dA z φ s m args below meth c C H locs ls hP hS hL)
  have h1 : inL a := by unfold inR at ha; unfold inL; omega
  apply Int64.toInt_inj.mp
  rw [Int32.toInt_toInt64, iZ_toInt ha, lZ_toInt h1]
theorem go_l2i {a : Int} (hd : decode M.2.1 pc = .ok (.l2i, 1)) (k : am_Go sh M d Q (pc + 1) lv (.int (iZ a) :: st) σ) : am_Go sh M d Q pc lv (.long (lZ a) :: st) σ := by
  intro p l e D dA z φ s m args below meth c C H locs ls hP hS hL
  exact lv_l2i C.1 C.2.1 hd (v := iZ a) Int64.toInt32_ofInt (k p l e D dA z φ s m args below meth c C H locs ls hP hS hL)
theorem go_dup {v : Value} (hd : decode M.2.1 pc = .ok (.dup, 1)) (hv : v.category = 1) (k : am_Go sh M d Q (pc + 1) lv (v :: v :: st) σ) : am_Go sh M d Q pc lv (v :: st) σ := by
  intro p l e D dA z φ s m args below meth c C H locs ls hP hS hL
  exact lv_dup C.1 C.2.1 hd ((am_cat φ v).trans hv) (k p l e D dA z φ s m args below meth c C H locs ls hP hS hL)
theorem go_pop {v : Value} (hd : decode M.2.1 pc = .ok (.pop, 1)) (hv : v.category = 1) (k : am_Go sh M d Q (pc + 1) lv (st) σ) : am_Go sh M d Q pc lv (v :: st) σ := by
  intro p l e D dA z φ s m args below meth c C H locs ls hP hS hL
  exact lv_pop C.1 C.2.1 hd ((am_cat φ v).trans hv) (k p l e D dA z φ s m args below meth c C H locs ls hP hS hL)
theorem go_dup2 {v w : Value} (hd : decode M.2.1 pc = .ok (.dup2, 1)) (hv : v.category = 1) (hw : w.category = 1) (k : am_Go sh M d Q (pc + 1) lv (v :: w :: v :: w :: st) σ) : am_Go sh M d Q pc lv (v :: w :: st) σ := by
  intro p l e D dA z φ s m args below meth c C H locs ls hP hS hL
  exact lv_dup2_11 C.1 C.2.1 hd ((am_cat φ v).trans hv) ((am_cat φ w).trans hw) (k p l e D dA z φ s m args below meth c C H locs ls hP hS hL)
theorem go_goto {off : Int} {tgt : Nat} (hd : decode M.2.1 pc = .ok (.goto off, 3)) (ht : (pc : Int) + off = (tgt : Int)) (k : am_Go sh M d Q tgt lv (st) σ) : am_Go sh M d Q pc lv (st) σ := by
  intro p l e D dA z φ s m args below meth c C H locs ls hP hS hL
  exact lv_goto C.1 C.2.1 hd ht (k p l e D dA z φ s m args below meth c C H locs ls hP hS hL)
theorem go_icmp_eq {a b off : Int} {tgt : Nat} (hd : decode M.2.1 pc = .ok (.if_icmp .eq off, 3)) (ht : (pc : Int) + off = (tgt : Int)) (ha : inR a) (hb : inR b) (kt : a = b → am_Go sh M d Q tgt lv (st) σ) (kf : ¬ (a = b) → am_Go sh M d Q (pc + 3) lv (st) σ) : am_Go sh M d Q pc lv (.int (iZ b) :: .int (iZ a) :: st) σ := by
  intro p l e D dA z φ s m args below meth c C H locs ls hP hS hL
  exact lv_icmp_eq C.1 C.2.1 hd ht (fun h => kt ((iZ_inj ha hb).mp h) p l e D dA z φ s m args below meth c C H locs ls hP hS hL) (fun h => kf (fun h2 => h ((iZ_inj ha hb).mpr h2)) p l e D dA z φ s m args below meth c C H locs ls hP hS hL)
theorem go_icmp_ne {a b off : Int} {tgt : Nat} (hd : decode M.2.1 pc = .ok (.if_icmp .ne off, 3)) (ht : (pc : Int) + off = (tgt : Int)) (ha : inR a) (hb : inR b) (kt : ¬ a = b → am_Go sh M d Q tgt lv (st) σ) (kf : a = b → am_Go sh M d Q (pc + 3) lv (st) σ) : am_Go sh M d Q pc lv (.int (iZ b) :: .int (iZ a) :: st) σ := by
  intro p l e D dA z φ s m args below meth c C H locs ls hP hS hL
  exact lv_icmp_ne C.1 C.2.1 hd ht (fun h => kt ((not_congr (iZ_inj ha hb)).mp h) p l e D dA z φ s m args below meth c C H locs ls hP hS hL) (fun h => kf ((iZ_inj ha hb).mp h) p l e D dA z φ s m args below meth c C H locs ls hP hS hL)
theorem go_icmp_lt {a b off : Int} {tgt : Nat} (hd : decode M.2.1 pc = .ok (.if_icmp .lt off, 3)) (ht : (pc : Int) + off = (tgt : Int)) (ha : inR a) (hb : inR b) (kt : a < b → am_Go sh M d Q tgt lv (st) σ) (kf : ¬ (a < b) → am_Go sh M d Q (pc + 3) lv (st) σ) : am_Go sh M d Q pc lv (.int (iZ b) :: .int (iZ a) :: st) σ := by
  intro p l e D dA z φ s m args below meth c C H locs ls hP hS hL
  exact lv_icmp_lt C.1 C.2.1 hd ht (fun h => kt ((iZ_lt ha hb).mp h) p l e D dA z φ s m args below meth c C H locs ls hP hS hL) (fun h => kf (fun h2 => h ((iZ_lt ha hb).mpr h2)) p l e D dA z φ s m args below meth c C H locs ls hP hS hL)
theorem go_icmp_ge {a b off : Int} {tgt : Nat} (hd : decode M.2.1 pc = .ok (.if_icmp .ge off, 3)) (ht : (pc : Int) + off = (tgt : Int)) (ha : inR a) (hb : inR b) (kt : b ≤ a → am_Go sh M d Q tgt lv (st) σ) (kf : ¬ (b ≤ a) → am_Go sh M d Q (pc + 3) lv (st) σ) : am_Go sh M d Q pc lv (.int (iZ b) :: .int (iZ a) :: st) σ := by
  intro p l e D dA z φ s m args below meth c C H locs ls hP hS hL
  exact lv_icmp_ge C.1 C.2.1 hd ht (fun h => kt ((iZ_le hb ha).mp h) p l e D dA z φ s m args below meth c C H locs ls hP hS hL) (fun h => kf (fun h2 => h ((iZ_le hb ha).mpr h2)) p l e D dA z φ s m args below meth c C H locs ls hP hS hL)
theorem go_icmp_gt {a b off : Int} {tgt : Nat} (hd : decode M.2.1 pc = .ok (.if_icmp .gt off, 3)) (ht : (pc : Int) + off = (tgt : Int)) (ha : inR a) (hb : inR b) (kt : b < a → am_Go sh M d Q tgt lv (st) σ) (kf : ¬ (b < a) → am_Go sh M d Q (pc + 3) lv (st) σ) : am_Go sh M d Q pc lv (.int (iZ b) :: .int (iZ a) :: st) σ := by
  intro p l e D dA z φ s m args below meth c C H locs ls hP hS hL
  exact lv_icmp_gt C.1 C.2.1 hd ht (fun h => kt ((iZ_lt hb ha).mp h) p l e D dA z φ s m args below meth c C H locs ls hP hS hL) (fun h => kf (fun h2 => h ((iZ_lt hb ha).mpr h2)) p l e D dA z φ s m args below meth c C H locs ls hP hS hL)
theorem go_icmp_le {a b off : Int} {tgt : Nat} (hd : decode M.2.1 pc = .ok (.if_icmp .le off, 3)) (ht : (pc : Int) + off = (tgt : Int)) (ha : inR a) (hb : inR b) (kt : a ≤ b → am_Go sh M d Q tgt lv (st) σ) (kf : ¬ (a ≤ b) → am_Go sh M d Q (pc + 3) lv (st) σ) : am_Go sh M d Q pc lv (.int (iZ b) :: .int (iZ a) :: st) σ := by
  intro p l e D dA z φ s m args below meth c C H locs ls hP hS hL
  exact lv_icmp_le C.1 C.2.1 hd ht (fun h => kt ((iZ_le ha hb).mp h) p l e D dA z φ s m args below meth c C H locs ls hP hS hL) (fun h => kf (fun h2 => h ((iZ_le ha hb).mpr h2)) p l e D dA z φ s m args below meth c C H locs ls hP hS hL)
theorem go_if_eq {a off : Int} {tgt : Nat} (hd : decode M.2.1 pc = .ok (.ifCond .eq off, 3)) (ht : (pc : Int) + off = (tgt : Int)) (ha : inR a) (kt : a = 0 → am_Go sh M d Q tgt lv (st) σ) (kf : ¬ (a = 0) → am_Go sh M d Q (pc + 3) lv (st) σ) : am_Go sh M d Q pc lv (.int (iZ a) :: st) σ := by
  intro p l e D dA z φ s m args below meth c C H locs ls hP hS hL
  have i0R : inR 0 := ⟨by omega, by omega⟩
  exact lv_if_eq C.1 C.2.1 hd ht (fun h => kt ((iZ_inj ha i0R).mp h) p l e D dA z φ s m args below meth c C H locs ls hP hS hL) (fun h => kf (fun h2 => h ((iZ_inj ha i0R).mpr h2)) p l e D dA z φ s m args below meth c C H locs ls hP hS hL)
theorem go_if_ne {a off : Int} {tgt : Nat} (hd : decode M.2.1 pc = .ok (.ifCond .ne off, 3)) (ht : (pc : Int) + off = (tgt : Int)) (ha : inR a) (kt : ¬ a = 0 → am_Go sh M d Q tgt lv (st) σ) (kf : a = 0 → am_Go sh M d Q (pc + 3) lv (st) σ) : am_Go sh M d Q pc lv (.int (iZ a) :: st) σ := by
  intro p l e D dA z φ s m args below meth c C H locs ls hP hS hL
  have i0R : inR 0 := ⟨by omega, by omega⟩
  exact lv_if_ne C.1 C.2.1 hd ht (fun h => kt ((not_congr (iZ_inj ha i0R)).mp h) p l e D dA z φ s m args below meth c C H locs ls hP hS hL) (fun h => kf ((iZ_inj ha i0R).mp h) p l e D dA z φ s m args below meth c C H locs ls hP hS hL)
theorem go_if_lt {a off : Int} {tgt : Nat} (hd : decode M.2.1 pc = .ok (.ifCond .lt off, 3)) (ht : (pc : Int) + off = (tgt : Int)) (ha : inR a) (kt : a < 0 → am_Go sh M d Q tgt lv (st) σ) (kf : ¬ (a < 0) → am_Go sh M d Q (pc + 3) lv (st) σ) : am_Go sh M d Q pc lv (.int (iZ a) :: st) σ := by
  intro p l e D dA z φ s m args below meth c C H locs ls hP hS hL
  have i0R : inR 0 := ⟨by omega, by omega⟩
  exact lv_if_lt C.1 C.2.1 hd ht (fun h => kt ((iZ_lt ha i0R).mp h) p l e D dA z φ s m args below meth c C H locs ls hP hS hL) (fun h => kf (fun h2 => h ((iZ_lt ha i0R).mpr h2)) p l e D dA z φ s m args below meth c C H locs ls hP hS hL)
theorem go_if_ge {a off : Int} {tgt : Nat} (hd : decode M.2.1 pc = .ok (.ifCond .ge off, 3)) (ht : (pc : Int) + off = (tgt : Int)) (ha : inR a) (kt : 0 ≤ a → am_Go sh M d Q tgt lv (st) σ) (kf : ¬ (0 ≤ a) → am_Go sh M d Q (pc + 3) lv (st) σ) : am_Go sh M d Q pc lv (.int (iZ a) :: st) σ := by
  intro p l e D dA z φ s m args below meth c C H locs ls hP hS hL
  have i0R : inR 0 := ⟨by omega, by omega⟩
  exact lv_if_ge C.1 C.2.1 hd ht (fun h => kt ((iZ_le i0R ha).mp h) p l e D dA z φ s m args below meth c C H locs ls hP hS hL) (fun h => kf (fun h2 => h ((iZ_le i0R ha).mpr h2)) p l e D dA z φ s m args below meth c C H locs ls hP hS hL)
theorem go_if_gt {a off : Int} {tgt : Nat} (hd : decode M.2.1 pc = .ok (.ifCond .gt off, 3)) (ht : (pc : Int) + off = (tgt : Int)) (ha : inR a) (kt : 0 < a → am_Go sh M d Q tgt lv (st) σ) (kf : ¬ (0 < a) → am_Go sh M d Q (pc + 3) lv (st) σ) : am_Go sh M d Q pc lv (.int (iZ a) :: st) σ := by
  intro p l e D dA z φ s m args below meth c C H locs ls hP hS hL
  have i0R : inR 0 := ⟨by omega, by omega⟩
  exact lv_if_gt C.1 C.2.1 hd ht (fun h => kt ((iZ_lt i0R ha).mp h) p l e D dA z φ s m args below meth c C H locs ls hP hS hL) (fun h => kf (fun h2 => h ((iZ_lt i0R ha).mpr h2)) p l e D dA z φ s m args below meth c C H locs ls hP hS hL)
theorem go_if_le {a off : Int} {tgt : Nat} (hd : decode M.2.1 pc = .ok (.ifCond .le off, 3)) (ht : (pc : Int) + off = (tgt : Int)) (ha : inR a) (kt : a ≤ 0 → am_Go sh M d Q tgt lv (st) σ) (kf : ¬ (a ≤ 0) → am_Go sh M d Q (pc + 3) lv (st) σ) : am_Go sh M d Q pc lv (.int (iZ a) :: st) σ := by
  intro p l e D dA z φ s m args below meth c C H locs ls hP hS hL
  have i0R : inR 0 := ⟨by omega, by omega⟩
  exact lv_if_le C.1 C.2.1 hd ht (fun h => kt ((iZ_le ha i0R).mp h) p l e D dA z φ s m args below meth c C H locs ls hP hS hL) (fun h => kf (fun h2 => h ((iZ_le ha i0R).mpr h2)) p l e D dA z φ s m args below meth c C H locs ls hP hS hL)
theorem go_tswOut {dflt lo hi : Int} {offs : Array Int} {len : Nat} {a : Int} {tgt : Nat} (hd : decode M.2.1 pc = .ok (.tableswitch dflt lo hi offs, len)) (ha : inR a) (h : a < lo ∨ hi < a) (ht : (pc : Int) + dflt = (tgt : Int)) (k : am_Go sh M d Q tgt lv (st) σ) : am_Go sh M d Q pc lv (.int (iZ a) :: st) σ := by
  intro p l e D dA z φ s m args below meth c C H locs ls hP hS hL
  exact lv_tableOut C.1 C.2.1 hd (by rw [iZ_toInt ha]; exact h) ht (k p l e D dA z φ s m args below meth c C H locs ls hP hS hL)
theorem go_tswIn {dflt lo hi : Int} {offs : Array Int} {len : Nat} {a off : Int} {tgt : Nat} (hd : decode M.2.1 pc = .ok (.tableswitch dflt lo hi offs, len)) (ha : inR a) (h1 : ¬ a < lo) (h2 : ¬ hi < a) (ho : offs[(a - lo).toNat]? = some off) (ht : (pc : Int) + off = (tgt : Int)) (k : am_Go sh M d Q tgt lv (st) σ) : am_Go sh M d Q pc lv (.int (iZ a) :: st) σ := by
  intro p l e D dA z φ s m args below meth c C H locs ls hP hS hL
  exact lv_tableIn C.1 C.2.1 hd (by rw [iZ_toInt ha]; exact h1) (by rw [iZ_toInt ha]; exact h2) (by rw [iZ_toInt ha]; exact ho) ht (k p l e D dA z φ s m args below meth c C H locs ls hP hS hL)
theorem go_ireturn {x : Int32} (hd : decode M.2.1 pc = .ok (.ireturn, 1)) (hr : M.2.2.2 = some .int) (q : Q (some (.int x)) σ) : am_Go sh M d Q pc lv ([.int x]) σ := by
  intro p l e D dA z φ s m args below meth c C H locs ls hP hS hL
  exact W.iret (v := x) C.1 C.2.1 (C.2.2.1.trans hr) (fun t ht hW => ⟨⟨some (.int x), σ, rfl, q, by rw [ht]; exact hP⟩, hS.F ht⟩) hS.2.2 hd C.2.2.2.2.2.2.1
theorem go_zreturn {a : Int} (hd : decode M.2.1 pc = .ok (.ireturn, 1)) (hr : M.2.2.2 = some .boolean) (ha : a = 0 ∨ a = 1) (q : Q (some (.int (iZ a))) σ) : am_Go sh M d Q pc lv ([.int (iZ a)]) σ := by
  intro p l e D dA z φ s m args below meth c C H locs ls hP hS hL
  exact W.zret (v := iZ a) (ty := .boolean) C.1 C.2.1 (C.2.2.1.trans hr) (by rcases ha with rfl | rfl <;> rfl) (fun t ht hW => ⟨⟨some (.int (iZ a)), σ, rfl, q, by rw [ht]; exact hP⟩, hS.F ht⟩) hS.2.2 hd C.2.2.2.2.2.2.1
theorem go_lreturn {x : Int64} (hd : decode M.2.1 pc = .ok (.lreturn, 1)) (hr : M.2.2.2 = some .long) (q : Q (some (.long x)) σ) : am_Go sh M d Q pc lv ([.long x]) σ := by
  intro p l e D dA z φ s m args below meth c C H locs ls hP hS hL
  exact W.lret (v := x) C.1 C.2.1 (C.2.2.1.trans hr) (fun t ht hW => ⟨⟨some (.long x), σ, rfl, q, by rw [ht]; exact hP⟩, hS.F ht⟩) hS.2.2 hd C.2.2.2.2.2.2.1
theorem go_return (hd : decode M.2.1 pc = .ok (.return_, 1)) (hr : M.2.2.2 = none) (q : Q none σ) : am_Go sh M d Q pc lv ([]) σ := by
  intro p l e D dA z φ s m args below meth c C H locs ls hP hS hL
  exact W.vret C.1 C.2.1 (C.2.2.1.trans hr) (fun t ht hW => ⟨⟨none, σ, rfl, q, by rw [ht]; exact hP⟩, hS.F ht⟩) hS.2.2 hd C.2.2.2.2.2.2.1
end AMS
