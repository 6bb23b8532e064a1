/-! ===== a machine over any world: K says where it comes to, B what the heap holds ===== -/
abbrev ge_K : Type := List Frame → Array Value → State → (Nat → Prop) → va_G → (Nat → ClassId) → Nat → State → Prop
abbrev ge_B : Type := va_G → (Nat → ClassId) → (Nat → Prop) → Nat → State → Array Value → (Nat → Nat) → Heap → List Loc → Prop
def ge_Go (K : ge_K) (B : ge_B) (M : am_M) (R : Room) (pc : Nat) (lv : List (Option Value)) (st : List Value) (cells slots : Nat) : Prop :=
  ∀ (p : Program) (l : Launch) (e : Env) (D : va_G) (dA : Nat → ClassId) (A : Nat → Prop) (h0 : Nat) (s : State) (m : MethodId) (args : Array Value) (below : List Frame) (meth : Method) (c : Code), am_Cx M D dA p s m args meth c → va_AO RX1 s → (M.1.name = "<init>" → meth.name = "<init>") → (∀ q, s.heap.size ≤ q → A q) → ∀ (H : Heap) (locs : List Loc) (ls : Array Slot) (φ : Nat → Nat), B D dA A h0 s args φ H locs → am_Ls φ ls M.2.2.1 lv → W p l e R s m args below meth c H locs cells slots (K below args s A D dA h0) (F0 m pc ls (st.map (am_v φ)))
section GEN
variable {K : ge_K} {B : ge_B} {M : am_M} {R : Room} {pc : Nat} {lv : List (Option Value)} {st : List Value} {cells slots : Nat}
theorem ge_iconst {n : Int} (hd : decode M.2.1 pc = .ok (.iconst n, 1)) (k : ge_Go K B M R (pc + 1) lv (.int (iZ n) :: st) cells slots) : ge_Go K B M R pc lv st cells slots := by
  intro p l e D dA A h0 s m args below meth c C hO hN hA H locs ls φ hB hL
  exact lv_iconst C.1 C.2.1 hd rfl (k p l e D dA A h0 s m args below meth c C hO hN hA H locs ls φ hB hL)
theorem ge_bipush {n : Int} (hd : decode M.2.1 pc = .ok (.bipush n, 2)) (hv : (Int8.ofInt n).toInt32 = iZ n) (k : ge_Go K B M R (pc + 2) lv (.int (iZ n) :: st) cells slots) : ge_Go K B M R pc lv st cells slots := by
  intro p l e D dA A h0 s m args below meth c C hO hN hA H locs ls φ hB hL
  exact lv_bipush C.1 C.2.1 hd hv (k p l e D dA A h0 s m args below meth c C hO hN hA H locs ls φ hB hL)
theorem ge_sipush {n : Int} (hd : decode M.2.1 pc = .ok (.sipush n, 3)) (hv : (Int16.ofInt n).toInt32 = iZ n) (k : ge_Go K B M R (pc + 3) lv (.int (iZ n) :: st) cells slots) : ge_Go K B M R pc lv st cells slots := by
  intro p l e D dA A h0 s m args below meth c C hO hN hA H locs ls φ hB hL
  exact lv_sipush C.1 C.2.1 hd hv (k p l e D dA A h0 s m args below meth c C hO hN hA H locs ls φ hB hL)
theorem ge_lconst {n : Fin 2} {v : Int} (hd : decode M.2.1 pc = .ok (.lconst n, 1)) (hv : Int64.ofNat (n : Nat) = lZ v) (k : ge_Go K B M R (pc + 1) lv (.long (lZ v) :: st) cells slots) : ge_Go K B M R pc lv st cells slots := by
  intro p l e D dA A h0 s m args below meth c C hO hN hA H locs ls φ hB hL
  exact lv_lconst C.1 C.2.1 hd hv (k p l e D dA A h0 s m args below meth c C hO hN hA H locs ls φ hB hL)
theorem ge_iload_n {i : Fin 4} {x : Int32} (hd : decode M.2.1 pc = .ok (.iload_n i, 1)) (hl : lv[(i : Nat)]? = some (some (.int x))) (k : ge_Go K B M R (pc + 1) lv (.int x :: st) cells slots) : ge_Go K B M R pc lv st cells slots := by
  intro p l e D dA A h0 s m args below meth c C hO hN hA H locs ls φ hB hL
  exact lv_iload_n C.1 C.2.1 hd rfl (hL.2.2 _ _ hl) (k p l e D dA A h0 s m args below meth c C hO hN hA H locs ls φ hB hL)
theorem ge_aload_n {i : Fin 4} {x : Nat} (hd : decode M.2.1 pc = .ok (.aload_n i, 1)) (hl : lv[(i : Nat)]? = some (some (.ref x))) (k : ge_Go K B M R (pc + 1) lv (.ref x :: st) cells slots) : ge_Go K B M R pc lv st cells slots := by
  intro p l e D dA A h0 s m args below meth c C hO hN hA H locs ls φ hB hL
  exact lv_aload_n C.1 C.2.1 hd rfl (hL.2.2 _ _ hl) (k p l e D dA A h0 s m args below meth c C hO hN hA H locs ls φ hB hL)
theorem ge_istore_n {i : Fin 4} {x : Int32} (hd : decode M.2.1 pc = .ok (.istore_n i, 1)) (hn : (i : Nat) < M.2.2.1) (hp : ∀ j o, j + 1 = (i : Nat) → lv[j]? = some o → am_nl o = true) (k : ge_Go K B M R (pc + 1) (lv.set i (some (.int x))) st cells slots) : ge_Go K B M R pc lv (.int x :: st) cells slots := by
  intro p l e D dA A h0 s m args below meth c C hO hN hA H locs ls φ hB hL
  exact lv_istore_n C.1 C.2.1 hd rfl hL.has hn rfl (fun ls' h' => k p l e D dA A h0 s m args below meth c C hO hN hA H locs ls' φ hB (am_Ls.st1 (v := .int x) hp h'))
theorem ge_astore_n {i : Fin 4} {x : Nat} (hd : decode M.2.1 pc = .ok (.astore_n i, 1)) (hn : (i : Nat) < M.2.2.1) (hp : ∀ j o, j + 1 = (i : Nat) → lv[j]? = some o → am_nl o = true) (k : ge_Go K B M R (pc + 1) (lv.set i (some (.ref x))) st cells slots) : ge_Go K B M R pc lv (.ref x :: st) cells slots := by
  intro p l e D dA A h0 s m args below meth c C hO hN hA H locs ls φ hB hL
  exact lv_astore_n C.1 C.2.1 hd rfl hL.has hn rfl (fun ls' h' => k p l e D dA A h0 s m args below meth c C hO hN hA H locs ls' φ hB (am_Ls.st1 (v := .ref x) hp h'))
theorem ge_iinc {i : Nat} {n a : Int} (hd : decode M.2.1 pc = .ok (.iinc i n, 3)) (hl : lv[i]? = some (some (.int (iZ a)))) (hn : i < M.2.2.1) (hp : ∀ j o, j + 1 = i → lv[j]? = some o → am_nl o = true) (k : ge_Go K B M R (pc + 3) (lv.set i (some (.int (iZ (a + n))))) st cells slots) : ge_Go K B M R pc lv st cells slots := by
  intro p l e D dA A h0 s m args below meth c C hO hN hA H locs ls φ hB hL
  obtain ⟨j, hj⟩ := List.getElem?_of_mem (am_pl_mem.mpr ⟨Value.int (iZ a), hl, rfl⟩ : (i, am_v φ (.int (iZ a))) ∈ am_pl φ lv)
  exact lv_iinc C.1 C.2.1 hd hL.has hj (v := iZ (a + n)) (Int32.ofInt_add a n).symm hn rfl (fun ls' h' => k p l e D dA A h0 s m args below meth c C hO hN hA H locs ls' φ hB (am_Ls.st1 (v := .int (iZ (a + n))) hp h'))
theorem ge_weak {lv' : List (Option Value)} (h : ∀ (i : Nat) (v : Value), lv'[i]? = some (some v) → lv[i]? = some (some v)) (k : ge_Go K B M R pc lv' st cells slots) : ge_Go K B M R pc lv st cells slots := by
  intro p l e D dA A h0 s m args below meth c C hO hN hA H locs ls φ hB hL
  exact k p l e D dA A h0 s m args below meth c C hO hN hA H locs ls φ hB ⟨hL.1, hL.2.1, fun i v hi => hL.2.2 i v (h i v hi)⟩
theorem ge_dup {v : Value} (hd : decode M.2.1 pc = .ok (.dup, 1)) (hv : v.category = 1) (k : ge_Go K B M R (pc + 1) lv (v :: v :: st) cells slots) : ge_Go K B M R pc lv (v :: st) cells slots := by
  intro p l e D dA A h0 s m args below meth c C hO hN hA H locs ls φ hB hL
  exact lv_dup C.1 C.2.1 hd ((am_cat φ v).trans hv) (k p l e D dA A h0 s m args below meth c C hO hN hA H locs ls φ hB hL)
theorem ge_goto {off : Int} {tgt : Nat} (hd : decode M.2.1 pc = .ok (.goto off, 3)) (ht : (pc : Int) + off = (tgt : Int)) (k : ge_Go K B M R tgt lv st cells slots) : ge_Go K B M R pc lv st cells slots := by
  intro p l e D dA A h0 s m args below meth c C hO hN hA H locs ls φ hB hL
  exact lv_goto C.1 C.2.1 hd ht (k p l e D dA A h0 s m args below meth c C hO hN hA H locs ls φ hB hL)
theorem ge_icmp_ge {a b off : Int} {tgt : Nat} (hd : decode M.2.1 pc = .ok (.if_icmp .ge off, 3)) (ht : (pc : Int) + off = (tgt : Int)) (ha : inR a) (hb : inR b) (kt : b ≤ a → ge_Go K B M R tgt lv st cells slots) (kf : ¬ (b ≤ a) → ge_Go K B M R (pc + 3) lv st cells slots) : ge_Go K B M R pc lv (.int (iZ b) :: .int (iZ a) :: st) cells slots := by
  intro p l e D dA A h0 s m args below meth c C hO hN hA H locs ls φ hB hL
  exact lv_icmp_ge C.1 C.2.1 hd ht (fun h => kt ((iZ_le hb ha).mp h) p l e D dA A h0 s m args below meth c C hO hN hA H locs ls φ hB hL) (fun h => kf (fun h2 => h ((iZ_le hb ha).mpr h2)) p l e D dA A h0 s m args below meth c C hO hN hA H locs ls φ hB hL)
theorem ge_icmp_gt {a b off : Int} {tgt : Nat} (hd : decode M.2.1 pc = .ok (.if_icmp .gt off, 3)) (ht : (pc : Int) + off = (tgt : Int)) (ha : inR a) (hb : inR b) (kt : b < a → ge_Go K B M R tgt lv st cells slots) (kf : ¬ (b < a) → ge_Go K B M R (pc + 3) lv st cells slots) : ge_Go K B M R pc lv (.int (iZ b) :: .int (iZ a) :: st) cells slots := by
  intro p l e D dA A h0 s m args below meth c C hO hN hA H locs ls φ hB hL
  exact lv_icmp_gt C.1 C.2.1 hd ht (fun h => kt ((iZ_lt hb ha).mp h) p l e D dA A h0 s m args below meth c C hO hN hA H locs ls φ hB hL) (fun h => kf (fun h2 => h ((iZ_lt hb ha).mpr h2)) p l e D dA A h0 s m args below meth c C hO hN hA H locs ls φ hB hL)
/-- two answers that are the same -/
theorem ge_icmp_same {x : Int32} {off : Int} {tgt : Nat} (hd : decode M.2.1 pc = .ok (.if_icmp .eq off, 3)) (ht : (pc : Int) + off = (tgt : Int)) (kt : ge_Go K B M R tgt lv st cells slots) : ge_Go K B M R pc lv (.int x :: .int x :: st) cells slots := by
  intro p l e D dA A h0 s m args below meth c C hO hN hA H locs ls φ hB hL
  exact lv_icmp_eq C.1 C.2.1 hd ht (fun _ => kt p l e D dA A h0 s m args below meth c C hO hN hA H locs ls φ hB hL) (fun h => absurd rfl h)
theorem ge_lcmp_same {x : Int64} (hd : decode M.2.1 pc = .ok (.lcmp, 1)) (k : ge_Go K B M R (pc + 1) lv (.int (iZ 0) :: st) cells slots) : ge_Go K B M R pc lv (.long x :: .long x :: st) cells slots := by
  intro p l e D dA A h0 s m args below meth c C hO hN hA H locs ls φ hB hL
  refine W.lcmp C.1 C.2.1 hd ?_
  have h := k p l e D dA A h0 s m args below meth c C hO hN hA H locs ls φ hB hL
  have e0 : lg_cmp x x = iZ 0 := by simp [lg_cmp]; rfl
  rw [e0]
  exact h
theorem ge_if_0 {off : Int} {tgt : Nat} (hd : decode M.2.1 pc = .ok (.ifCond .eq off, 3)) (ht : (pc : Int) + off = (tgt : Int)) (kt : ge_Go K B M R tgt lv st cells slots) : ge_Go K B M R pc lv (.int (iZ 0) :: st) cells slots := by
  intro p l e D dA A h0 s m args below meth c C hO hN hA H locs ls φ hB hL
  exact lv_if_eq C.1 C.2.1 hd ht (fun _ => kt p l e D dA A h0 s m args below meth c C hO hN hA H locs ls φ hB hL) (fun h => absurd rfl h)
theorem ge_iadd {a b : Int} (hd : decode M.2.1 pc = .ok (.iadd, 1)) (k : ge_Go K B M R (pc + 1) lv (.int (iZ (a + b)) :: st) cells slots) : ge_Go K B M R pc lv (.int (iZ b) :: .int (iZ a) :: st) cells slots := by
  intro p l e D dA A h0 s m args below meth c C hO hN hA H locs ls φ hB hL
  refine lv_iadd C.1 C.2.1 hd ?_
  have h := k p l e D dA A h0 s m args below meth c C hO hN hA H locs ls φ hB hL
  rwa [iZ, Int32.ofInt_add] at h
theorem ge_isub {a b : Int} (hd : decode M.2.1 pc = .ok (.isub, 1)) (k : ge_Go K B M R (pc + 1) lv (.int (iZ (a - b)) :: st) cells slots) : ge_Go K B M R pc lv (.int (iZ b) :: .int (iZ a) :: st) cells slots := by
  intro p l e D dA A h0 s m args below meth c C hO hN hA H locs ls φ hB hL
  refine lv_isub C.1 C.2.1 hd ?_
  have h := k p l e D dA A h0 s m args below meth c C hO hN hA H locs ls φ hB hL
  rwa [iZ, Int32.ofInt_sub] at h
theorem ge_iand {a b : Int} (hd : decode M.2.1 pc = .ok (.iand, 1)) (k : ge_Go K B M R (pc + 1) lv (.int (iZ (am_and a b)) :: st) cells slots) : ge_Go K B M R pc lv (.int (iZ b) :: .int (iZ a) :: st) cells slots := by
  intro p l e D dA A h0 s m args below meth c C hO hN hA H locs ls φ hB hL
  refine lv_iand C.1 C.2.1 hd ?_
  have h := k p l e D dA A h0 s m args below meth c C hO hN hA H locs ls φ hB hL
  rwa [am_and, iZ_of] at h
theorem ge_tableOut {dflt lo hi : Int} {offs : Array Int} {len : Nat} {a : Int} {tgt : Nat} (hd : decode M.2.1 pc = .ok (.tableswitch dflt lo hi offs, len)) (ha : inR a) (h : a < lo ∨ hi < a) (ht : (pc : Int) + dflt = (tgt : Int)) (k : ge_Go K B M R tgt lv st cells slots) : ge_Go K B M R pc lv (.int (iZ a) :: st) cells slots := by
  intro p l e D dA A h0 s m args below meth c C hO hN hA H locs ls φ hB hL
  exact lv_tableOut C.1 C.2.1 hd (by rw [iZ_toInt ha]; exact h) ht (k p l e D dA A h0 s m args below meth c C hO hN hA H locs ls φ hB hL)
theorem ge_tableIn {dflt lo hi : Int} {offs : Array Int} {len : Nat} {a off : Int} {tgt : Nat} (hd : decode M.2.1 pc = .ok (.tableswitch dflt lo hi offs, len)) (ha : inR a) (h1 : lo ≤ a) (h2 : a ≤ hi) (ho : offs[(a - lo).toNat]? = some off) (ht : (pc : Int) + off = (tgt : Int)) (k : ge_Go K B M R tgt lv st cells slots) : ge_Go K B M R pc lv (.int (iZ a) :: st) cells slots := by
  intro p l e D dA A h0 s m args below meth c C hO hN hA H locs ls φ hB hL
  exact lv_tableIn C.1 C.2.1 hd (by rw [iZ_toInt ha]; omega) (by rw [iZ_toInt ha]; omega) (by rw [iZ_toInt ha]; exact ho) ht (k p l e D dA A h0 s m args below meth c C hO hN hA H locs ls φ hB hL)
theorem ge_widen {k n : Nat} (h1 : cells ≤ k) (h2 : slots ≤ n) (kk : ge_Go K B M R pc lv st k n) : ge_Go K B M R pc lv st cells slots := by
  intro p l e D dA A h0 s m args below meth c C hO hN hA H locs ls φ hB hL
  exact W.widen h1 h2 (kk p l e D dA A h0 s m args below meth c C hO hN hA H locs ls φ hB hL)
end GEN
