/-! ===== tables: signs, marks ===== -/
def mt_bc (n : Nat) : Int := ((List.range 8).map (fun k => ((n / 2 ^ k % 2 : Nat) : Int))).sum
def bc1 (n : Nat) : Int := ((n : Int) - am_and (am_ushr (n : Int) 1) 1431655765)
def bc2 (n : Nat) : Int := am_and (bc1 n) 858993459 + am_and (am_ushr (bc1 n) 2) 858993459
def bc3 (n : Nat) : Int := am_and (bc2 n + am_ushr (bc2 n) 4) 252645135
def bc4 (n : Nat) : Int := bc3 n + am_ushr (bc3 n) 8
def bc5 (n : Nat) : Int := bc4 n + am_ushr (bc4 n) 16
theorem mt_bc_all : ∀ n : Fin 256, am_and (bc5 n.val) 63 = mt_bc n.val := by decide +kernel
/-- the signs of a table: its right sides, with an apostrophe where the rule is marked -/
def mt_sg (R : List (List Int)) (mk : Nat) : List (List Int) := R.mapIdx (fun i r => if mk / 2 ^ i % 2 = 1 then r ++ [39] else r)
def okr (R : List (List Int)) : Prop := ∀ r ∈ R, okl r ∧ 1 ≤ r.length ∧ r.length ≤ 3
theorem mt_sg_len (R : List (List Int)) (mk : Nat) : (mt_sg R mk).length = R.length := List.length_mapIdx
theorem mt_sg_get {R : List (List Int)} (mk : Nat) {i : Nat} (h : i < R.length) : (mt_sg R mk)[i]? = some (if mk / 2 ^ i % 2 = 1 then R[i] ++ [39] else R[i]) := by
  unfold mt_sg
  rw [List.getElem?_mapIdx, List.getElem?_eq_getElem h]
  rfl
theorem mt_bit {mk i : Nat} (hm : mk < 256) (hi : i < 32) : am_and (am_shr (mk : Int) (i : Int)) 1 = ((mk / 2 ^ i % 2 : Nat) : Int) := by
  rw [am_shrN (by omega) hi, show (1 : Int) = ((1 : Nat) : Int) from rfl, am_andN (Nat.lt_of_le_of_lt (Nat.div_le_self _ _) (by omega)), Nat.and_one_is_mod]
theorem okw_sg {R : List (List Int)} (h : okr R) (mk : Nat) : okw (mt_sg R mk) ∧ ∀ s ∈ mt_sg R mk, 1 ≤ s.length := by
  have key : ∀ s ∈ mt_sg R mk, okl s ∧ s.length ≤ 4 ∧ 1 ≤ s.length := by
    intro s hs
    obtain ⟨i, hi⟩ := List.getElem?_of_mem hs
    have hlt : i < R.length := by have := (List.getElem?_eq_some_iff.mp hi).1; rwa [mt_sg_len] at this
    rw [mt_sg_get mk hlt] at hi
    have hr := h _ (List.getElem_mem hlt)
    have := Option.some.inj hi
    subst this
    split
    · refine ⟨okl_app.mpr ⟨hr.1, fun c hc => ?_⟩, by simp; omega, by simp⟩
      simp at hc; rw [hc]; unfold okc; omega
    · exact ⟨hr.1, by omega, hr.2.1⟩
  exact ⟨fun s hs => ⟨(key s hs).1, (key s hs).2.1⟩, fun s hs => (key s hs).2.2⟩
