/-! ===== the claim out of one walk (begun as the skeleton of the kit) ===== -/
def R_law : String := "SpellTablesLaw"
def lw_P (b : Addr) (xs : List Int32) (args : Array Value) (s : State) : Prop := args = #[.ref b] ∧ s.IntsAt b xs ∧ xs.length ≤ 2048 ∧ (Jvm.Cond.and given_1 narrow_1).before args s = true
def lw_Q (_ : Array Value) (s : State) (o : Outcome) (t : State) : Prop := o = .returned (some (.int 1)) ∧ Framed s o t [] 600000 7302250
def lw_Z (below : List Frame) (a : Array Value) (s : State) : State → Prop := fun t => ∃ o, t.status = .running ∧ Ended t below o ∧ lw_Q a s o t
/-- the law's own end, with 1 on the stack, nothing written that was there before, its room as the claim has it -/
theorem lw_ret {p : Program} {l : Launch} {e : Env} {s : State} {m : MethodId} {below : List Frame} {meth : Method} {c : Code} {b : Nat} (hx : p.tables.exec = Jvm.exec) (hb : c.code = code) (hr : meth.sig.returnType = ret) (hlocks : meth.locks = false) {pc : Nat} {H : Heap} {ls : Array Slot} (hdg : decode code pc = .ok (.ireturn, 1)) : W p l e room_1 s m #[Value.ref b] below meth c H [] 600000 7302250 (lw_Z below #[Value.ref b] s) (F0 m pc ls [.int 1]) := by
  intro T hT X
  obtain ⟨fs, hret, hrun, hended, hW, hframe⟩ := X.leave (v := some (.int 1)) (hlocks := hlocks) (fun h => by rw [hr] at h; cases h)
  have hmeth' : T.vm.method? m = some meth := X.method'
  refine ⟨T.setFrames fs, ?_, .returned (some (.int 1)), hrun, hended, rfl, ⟨_, rfl⟩, hW, hframe⟩
  jvm_step X.here [X.here.top, hx, hb, hdg, hmeth', hr, ret, narrow_b1]
  (try refine ⟨rfl, ?_⟩); (try refine ⟨rfl, ?_⟩)
  first | (intro acts; rw [hret _ acts rfl rfl rfl]) | rw [hret _ _ rfl rfl rfl]
  exact Steps.refl _
/-- what holds at the law's entry: the machine, the code, the tables' words (any of lw_tbl by 'hts w (by decide +kernel)'), the script of L ints xs at the cell b, what the Statement gives of the start (any of its parts by flat_of_before) -/
def lw_At (p : Program) (s : State) (m : MethodId) (meth : Method) (c : Code) (b L : Nat) (xs : Nat → Int32) : Prop :=
  p.tables.exec = Jvm.exec ∧ c.code = code ∧ meth.sig.returnType = ret ∧ c.maxLocals = 4 ∧ s.vm.findClass R_law = some m.cls ∧ (∀ w ∈ lw_tbl, w.before #[Value.ref b] s = true) ∧ va_X b L xs s s.heap ∧ b < s.heap.size ∧ meth.locks = false ∧ (Jvm.Cond.and given_1 narrow_1).before #[Value.ref b] s = true ∧ (Jvm.Cond.code x code maxLocals ret).before #[Value.ref b] s = true

/-! ===== the law's ground: each object keeps its picture while the other works; the pictures at the start ===== -/
theorem RepM.offX {σ σ' : am_St} {s : mS} (h : RepM σ s) (ho : am_off XL σ σ') : RepM σ' s := by
  have nk : ∀ p, p < 21 → p ∉ XL := fun p hp z => by have := XL_mem.mp z; omega
  have e0 : ∀ j, σ'.1 0 j = σ.1 0 j := (ho 0 (nk 0 (by decide))).1
  have ea : ∀ k, k < 21 → ∀ i, σ'.2.2 k i = σ.2.2 k i := fun k hk => (ho k (nk k hk)).2.2
  have wd : ∀ (kl ka : Nat) (W : List (List Int)), kl < 21 → ka < 21 → wdA σ kl ka W → wdA σ' kl ka W := fun kl ka W h1 h2 hw i hi => ⟨by rw [ea kl h1]; exact (hw i hi).1, fun j hj => by rw [ea ka h2]; exact (hw i hi).2 j hj⟩
  obtain ⟨⟨t1, t2, t3, t4, t5⟩, h2, ⟨x1, x2, x3⟩, ⟨p1, p2, p3⟩, h5, h6, h7, h8⟩ := h
  exact ⟨⟨(e0 0).trans t1, (e0 6).trans t2, wd 1 3 _ (by decide) (by decide) t3, wd 2 4 _ (by decide) (by decide) t4, t5⟩, (e0 5).trans h2, ⟨(e0 7).trans x1, fun j hj => by rw [ea 5 (by decide)]; exact x2 j hj, x3⟩, ⟨(e0 9).trans p1, fun j hj => by rw [ea 6 (by decide)]; exact p2 j hj, p3⟩, (e0 11).trans h5, (e0 12).trans h6, (e0 13).trans h7, by rw [e0 29]; exact h8⟩
theorem RepC.offM {σ σ' : am_St} {s : mS} (h : RepC σ s) (ho : am_off XM σ σ') : RepC σ' s := by
  have nk : ∀ p, 21 ≤ p → p ∉ XM := fun p hp z => by have := List.mem_range.mp z; omega
  have lt : ∀ p ∈ XM, p < 21 := fun p hp => List.mem_range.mp hp
  obtain ⟨h1, h2, h3, h4, h5, h6, h7, h8⟩ := h
  have o21 := (ho 21 (nk 21 (by decide))).1
  have o109 := (ho 109 (nk 109 (by decide))).1
  refine ⟨h1.off ho (fun p hp => nk p (by revert p; decide)), h2.off ho (nk _ (by decide)) (nk _ (by decide)), h3.off ho (nk _ (by decide)) (nk _ (by decide)), (o21 11).trans h4, (o21 12).trans h5, (o21 13).trans h6, h7.off ho (fun p hp => Or.inl (by have := lt p hp; omega)), ?_, ?_⟩
  · rcases h8.1 with z | ⟨z1, z2⟩
    · exact Or.inl (by rw [o21]; exact z)
    · exact Or.inr ⟨by rw [o21]; exact z1, z2.off ho (fun p hp => Or.inl (by have := lt p hp; omega))⟩
  · rcases h8.2 with z | ⟨z1, z2⟩
    · exact Or.inl (by rw [o21]; exact z)
    · exact Or.inr ⟨by rw [o21]; exact z1, by rw [o109]; exact z2⟩
def s0_ : am_St := (fun k j => if k = 35 ∧ (j = 2 ∨ j = 3) then 1 else 0, fun _ _ => 0, fun _ _ => 0)
def m0_ : mS := ([], [], 0, [], [], 0, 0, 0)
theorem hold_0 {k n : Nat} (h1 : SH[k]? = some (.inr (1, [k + 4, 0]))) (h2 : SH[k + 1]? = some (.inl (0, n, none))) (hn : n < 2147483648) : hold s0_ k n [] :=
  ⟨h1, h2, hn, by show (if k = 35 ∧ (1 = 2 ∨ 1 = 3) then (1 : Int) else 0) = _; rw [if_neg (by omega)]; rfl, Nat.zero_le _, fun i x h => by simp at h, fun x h => nomatch h⟩
theorem txt_0 : ∀ i, i < 25 → hold s0_ (54 + 2 * i) 56 [] := fun i hi => match i, hi with
  | 0, _ => hold_0 rfl rfl (by decide)
  | 1, _ => hold_0 rfl rfl (by decide)
  | 2, _ => hold_0 rfl rfl (by decide)
  | 3, _ => hold_0 rfl rfl (by decide)
  | 4, _ => hold_0 rfl rfl (by decide)
  | 5, _ => hold_0 rfl rfl (by decide)
  | 6, _ => hold_0 rfl rfl (by decide)
  | 7, _ => hold_0 rfl rfl (by decide)
  | 8, _ => hold_0 rfl rfl (by decide)
  | 9, _ => hold_0 rfl rfl (by decide)
  | 10, _ => hold_0 rfl rfl (by decide)
  | 11, _ => hold_0 rfl rfl (by decide)
  | 12, _ => hold_0 rfl rfl (by decide)
  | 13, _ => hold_0 rfl rfl (by decide)
  | 14, _ => hold_0 rfl rfl (by decide)
  | 15, _ => hold_0 rfl rfl (by decide)
  | 16, _ => hold_0 rfl rfl (by decide)
  | 17, _ => hold_0 rfl rfl (by decide)
  | 18, _ => hold_0 rfl rfl (by decide)
  | 19, _ => hold_0 rfl rfl (by decide)
  | 20, _ => hold_0 rfl rfl (by decide)
  | 21, _ => hold_0 rfl rfl (by decide)
  | 22, _ => hold_0 rfl rfl (by decide)
  | 23, _ => hold_0 rfl rfl (by decide)
  | 24, _ => hold_0 rfl rfl (by decide)
  | _ + 25, h => absurd h (by omega)
theorem RepC_0 : RepC s0_ m0_ := by
  refine ⟨⟨hold_0 rfl rfl (by decide), hold_0 rfl rfl (by decide), hold_0 rfl rfl (by decide), rfl, rfl, by decide, by decide, (fun r hr => nomatch hr), (fun r hr => nomatch hr)⟩, hold_0 rfl rfl (by decide), hold_0 rfl rfl (by decide), rfl, rfl, rfl, ⟨⟨[], hold_0 rfl rfl (by decide)⟩, ⟨⟨[], hold_0 rfl rfl (by decide)⟩, [], hold_0 rfl rfl (by decide)⟩, ⟨⟨[], hold_0 rfl rfl (by decide)⟩, ⟨[], hold_0 rfl rfl (by decide)⟩, ⟨[], hold_0 rfl rfl (by decide)⟩, ⟨[], hold_0 rfl rfl (by decide)⟩, fun i hi => ⟨[], txt_0 i hi⟩, [], hold_0 rfl rfl (by decide)⟩, ⟨⟨[], hold_0 rfl rfl (by decide)⟩, [], hold_0 rfl rfl (by decide)⟩, ⟨[], hold_0 rfl rfl (by decide)⟩, ⟨[], hold_0 rfl rfl (by decide)⟩, [], hold_0 rfl rfl (by decide)⟩, Or.inl rfl, Or.inl rfl⟩
theorem RepM_0 : RepM s0_ m0_ := by
  refine ⟨⟨rfl, rfl, (fun i hi => absurd hi (Nat.not_lt_zero i)), (fun i hi => absurd hi (Nat.not_lt_zero i)), rfl, by decide, by decide, (fun r hr => nomatch hr), (fun r hr => nomatch hr)⟩, rfl, ⟨rfl, (fun j hj => absurd hj (Nat.not_lt_zero j)), (fun c hc => nomatch hc), by decide⟩, ⟨rfl, (fun j hj => absurd hj (Nat.not_lt_zero j)), (fun c hc => nomatch hc), by decide⟩, rfl, rfl, rfl, Or.inl rfl⟩
/-- the counters move by one at most -/
def lw_cn (s s2 : mS) : Prop := (s.2.2.2.2.2.1 ≤ s2.2.2.2.2.2.1 ∧ s2.2.2.2.2.2.1 ≤ s.2.2.2.2.2.1 + 1) ∧ (s.2.2.2.2.2.2.1 ≤ s2.2.2.2.2.2.2.1 ∧ s2.2.2.2.2.2.2.1 ≤ s.2.2.2.2.2.2.1 + 1) ∧ (s.2.2.2.2.2.2.2 ≤ s2.2.2.2.2.2.2.2 ∧ s2.2.2.2.2.2.2.2 ≤ s.2.2.2.2.2.2.2 + 1)
theorem lw_cn_rf (s : mS) : lw_cn s s := by unfold lw_cn; omega
theorem lw_cn_letter (s : mS) (c : Int) : lw_cn s (m_letter s c).2 := by
  unfold m_letter
  split
  · exact lw_cn_rf s
  · split
    · exact lw_cn_rf s
    · exact lw_cn_rf s
theorem lw_cn_table (s : mS) : lw_cn s (m_table s).2 := by
  unfold m_table
  split
  · exact lw_cn_rf s
  · unfold lw_cn; simp only []; omega
theorem lw_cn_turn (s : mS) : lw_cn s (m_turn s).2 := by
  unfold m_turn
  split
  · exact lw_cn_rf s
  · split
    · exact lw_cn_rf s
    · unfold lw_cn; simp only []; omega
theorem lw_cn_text (s : mS) : lw_cn s (m_text s).2 := by
  unfold m_text
  split
  · exact lw_cn_rf s
  · unfold lw_cn; simp only []; omega
theorem lw_cn_mark (s : mS) (r : Int) : lw_cn s (m_mark s r).2 := by
  unfold m_mark
  split
  · exact lw_cn_rf s
  · exact lw_cn_rf s
theorem lw_cn_drop (s : mS) (r : Int) : lw_cn s (m_drop s r).2 := by
  unfold m_drop
  split
  · exact lw_cn_rf s
  · exact lw_cn_rf s
theorem nI_self (v : Int32) : v = nI v.toBitVec.toNat := by
  apply Int32.toBitVec_inj.1
  show v.toBitVec = BitVec.ofNat 32 v.toBitVec.toNat
  rw [BitVec.ofNat_toNat, BitVec.setWidth_eq]
theorem lw_and (a : Int) : 0 ≤ am_and a 31 ∧ am_and a 31 ≤ 31 := by
  have e : iZ a = nI (iZ a).toBitVec.toNat := nI_self _
  unfold am_and
  rw [e, show (31 : Int) = ((2 ^ 5 - 1 : Nat) : Int) from rfl, iZ_nI, fa_mask, ← iZ_nI]
  have hb : (iZ a).toBitVec.toNat % 2 ^ 5 < 2 ^ 5 := Nat.mod_lt _ (by decide)
  rw [iZ_toInt ⟨by omega, by omega⟩]
  omega
