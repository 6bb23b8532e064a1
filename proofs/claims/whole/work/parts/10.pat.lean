/-! ===== rows by number: locals, calls, returns ===== -/
def am_rI (P : Int → am_St → Prop) : Option Value → am_St → Prop := fun r σ => ∃ x : Int, r = some (.int (iZ x)) ∧ P x σ
def am_rL (P : Int → am_St → Prop) : Option Value → am_St → Prop := fun r σ => ∃ x : Int, r = some (.long (lZ x)) ∧ P x σ
def am_rV (P : am_St → Prop) : Option Value → am_St → Prop := fun r σ => r = none ∧ P σ
section AMN
variable {sh : am_Sh} {M : am_M} {d : Nat} {Q : Option Value → am_St → Prop} {pc : Nat} {lv : List (Option Value)} {st : List Value} {σ : am_St} {M2 : am_M} {d2 idx n : Nat}
theorem go_ist0 {a0 : Option Value} {r : List (Option Value)} {x : Int32} (hd : decode M.2.1 pc = .ok (.istore_n 0, 1)) (hn : 0 < M.2.2.1) (k : am_Go sh M d Q (pc + 1) (some (.int x) :: r) (st) σ) : am_Go sh M d Q pc (a0 :: r) (.int x :: st) σ :=
  go_istore_n (i := 0) hd hn (fun j o h1 h2 => by omega) k
theorem go_ist1 {a0 a1 : Option Value} {r : List (Option Value)} {x : Int32} (hd : decode M.2.1 pc = .ok (.istore_n 1, 1)) (hn : 1 < M.2.2.1) (hp : am_nl a0 = true) (k : am_Go sh M d Q (pc + 1) (a0 :: some (.int x) :: r) (st) σ) : am_Go sh M d Q pc (a0 :: a1 :: r) (.int x :: st) σ :=
  go_istore_n (i := 1) hd hn (fun j o h1 h2 => by
    obtain rfl : j = 0 := by omega
    have h3 : some a0 = some o := h2
    cases h3
    exact hp) k
theorem go_ist2 {a0 a1 a2 : Option Value} {r : List (Option Value)} {x : Int32} (hd : decode M.2.1 pc = .ok (.istore_n 2, 1)) (hn : 2 < M.2.2.1) (hp : am_nl a1 = true) (k : am_Go sh M d Q (pc + 1) (a0 :: a1 :: some (.int x) :: r) (st) σ) : am_Go sh M d Q pc (a0 :: a1 :: a2 :: r) (.int x :: st) σ :=
  go_istore_n (i := 2) hd hn (fun j o h1 h2 => by
    obtain rfl : j = 1 := by omega
    have h3 : some a1 = some o := h2
    cases h3
    exact hp) k
theorem go_ist3 {a0 a1 a2 a3 : Option Value} {r : List (Option Value)} {x : Int32} (hd : decode M.2.1 pc = .ok (.istore_n 3, 1)) (hn : 3 < M.2.2.1) (hp : am_nl a2 = true) (k : am_Go sh M d Q (pc + 1) (a0 :: a1 :: a2 :: some (.int x) :: r) (st) σ) : am_Go sh M d Q pc (a0 :: a1 :: a2 :: a3 :: r) (.int x :: st) σ :=
  go_istore_n (i := 3) hd hn (fun j o h1 h2 => by
    obtain rfl : j = 2 := by omega
    have h3 : some a2 = some o := h2
    cases h3
    exact hp) k
theorem go_ist4 {a0 a1 a2 a3 a4 : Option Value} {r : List (Option Value)} {x : Int32} (hd : decode M.2.1 pc = .ok (.istore 4, 2)) (hn : 4 < M.2.2.1) (hp : am_nl a3 = true) (k : am_Go sh M d Q (pc + 2) (a0 :: a1 :: a2 :: a3 :: some (.int x) :: r) (st) σ) : am_Go sh M d Q pc (a0 :: a1 :: a2 :: a3 :: a4 :: r) (.int x :: st) σ :=
  go_istore  hd hn (fun j o h1 h2 => by
    obtain rfl : j = 3 := by omega
    have h3 : some a3 = some o := h2
    cases h3
    exact hp) k
theorem go_ist5 {a0 a1 a2 a3 a4 a5 : Option Value} {r : List (Option Value)} {x : Int32} (hd : decode M.2.1 pc = .ok (.istore 5, 2)) (hn : 5 < M.2.2.1) (hp : am_nl a4 = true) (k : am_Go sh M d Q (pc + 2) (a0 :: a1 :: a2 :: a3 :: a4 :: some (.int x) :: r) (st) σ) : am_Go sh M d Q pc (a0 :: a1 :: a2 :: a3 :: a4 :: a5 :: r) (.int x :: st) σ :=
  go_istore  hd hn (fun j o h1 h2 => by
    obtain rfl : j = 4 := by omega
    have h3 : some a4 = some o := h2
    cases h3
    exact hp) k
theorem go_ist6 {a0 a1 a2 a3 a4 a5 a6 : Option Value} {r : List (Option Value)} {x : Int32} (hd : decode M.2.1 pc = .ok (.istore 6, 2)) (hn : 6 < M.2.2.1) (hp : am_nl a5 = true) (k : am_Go sh M d Q (pc + 2) (a0 :: a1 :: a2 :: a3 :: a4 :: a5 :: some (.int x) :: r) (st) σ) : am_Go sh M d Q pc (a0 :: a1 :: a2 :: a3 :: a4 :: a5 :: a6 :: r) (.int x :: st) σ :=
  go_istore  hd hn (fun j o h1 h2 => by
    obtain rfl : j = 5 := by omega
    have h3 : some a5 = some o := h2
    cases h3
    exact hp) k
theorem go_ist7 {a0 a1 a2 a3 a4 a5 a6 a7 : Option Value} {r : List (Option Value)} {x : Int32} (hd : decode M.2.1 pc = .ok (.istore 7, 2)) (hn : 7 < M.2.2.1) (hp : am_nl a6 = true) (k : am_Go sh M d Q (pc + 2) (a0 :: a1 :: a2 :: a3 :: a4 :: a5 :: a6 :: some (.int x) :: r) (st) σ) : am_Go sh M d Q pc (a0 :: a1 :: a2 :: a3 :: a4 :: a5 :: a6 :: a7 :: r) (.int x :: st) σ :=
  go_istore  hd hn (fun j o h1 h2 => by
    obtain rfl : j = 6 := by omega
    have h3 : some a6 = some o := h2
    cases h3
    exact hp) k
theorem go_ist8 {a0 a1 a2 a3 a4 a5 a6 a7 a8 : Option Value} {r : List (Option Value)} {x : Int32} (hd : decode M.2.1 pc = .ok (.istore 8, 2)) (hn : 8 < M.2.2.1) (hp : am_nl a7 = true) (k : am_Go sh M d Q (pc + 2) (a0 :: a1 :: a2 :: a3 :: a4 :: a5 :: a6 :: a7 :: some (.int x) :: r) (st) σ) : am_Go sh M d Q pc (a0 :: a1 :: a2 :: a3 :: a4 :: a5 :: a6 :: a7 :: a8 :: r) (.int x :: st) σ :=
  go_istore  hd hn (fun j o h1 h2 => by
    obtain rfl : j = 7 := by omega
    have h3 : some a7 = some o := h2
    cases h3
    exact hp) k
theorem go_ist9 {a0 a1 a2 a3 a4 a5 a6 a7 a8 a9 : Option Value} {r : List (Option Value)} {x : Int32} (hd : decode M.2.1 pc = .ok (.istore 9, 2)) (hn : 9 < M.2.2.1) (hp : am_nl a8 = true) (k : am_Go sh M d Q (pc + 2) (a0 :: a1 :: a2 :: a3 :: a4 :: a5 :: a6 :: a7 :: a8 :: some (.int x) :: r) (st) σ) : am_Go sh M d Q pc (a0 :: a1 :: a2 :: a3 :: a4 :: a5 :: a6 :: a7 :: a8 :: a9 :: r) (.int x :: st) σ :=
  go_istore  hd hn (fun j o h1 h2 => by
    obtain rfl : j = 8 := by omega
    have h3 : some a8 = some o := h2
    cases h3
    exact hp) k
theorem go_ist10 {a0 a1 a2 a3 a4 a5 a6 a7 a8 a9 a10 : Option Value} {r : List (Option Value)} {x : Int32} (hd : decode M.2.1 pc = .ok (.istore 10, 2)) (hn : 10 < M.2.2.1) (hp : am_nl a9 = true) (k : am_Go sh M d Q (pc + 2) (a0 :: a1 :: a2 :: a3 :: a4 :: a5 :: a6 :: a7 :: a8 :: a9 :: some (.int x) :: r) (st) σ) : am_Go sh M d Q pc (a0 :: a1 :: a2 :: a3 :: a4 :: a5 :: a6 :: a7 :: a8 :: a9 :: a10 :: r) (.int x :: st) σ :=
  go_istore  hd hn (fun j o h1 h2 => by
    obtain rfl : j = 9 := by omega
    have h3 : some a9 = some o := h2
    cases h3
    exact hp) k
theorem go_ast0 {a0 : Option Value} {r : List (Option Value)} {x : Nat} (hd : decode M.2.1 pc = .ok (.astore_n 0, 1)) (hn : 0 < M.2.2.1) (k : am_Go sh M d Q (pc + 1) (some (.ref x) :: r) (st) σ) : am_Go sh M d Q pc (a0 :: r) (.ref x :: st) σ :=
  go_astore_n (i := 0) hd hn (fun j o h1 h2 => by omega) k
theorem go_ast1 {a0 a1 : Option Value} {r : List (Option Value)} {x : Nat} (hd : decode M.2.1 pc = .ok (.astore_n 1, 1)) (hn : 1 < M.2.2.1) (hp : am_nl a0 = true) (k : am_Go sh M d Q (pc + 1) (a0 :: some (.ref x) :: r) (st) σ) : am_Go sh M d Q pc (a0 :: a1 :: r) (.ref x :: st) σ :=
  go_astore_n (i := 1) hd hn (fun j o h1 h2 => by
    obtain rfl : j = 0 := by omega
    have h3 : some a0 = some o := h2
    cases h3
    exact hp) k
theorem go_ast2 {a0 a1 a2 : Option Value} {r : List (Option Value)} {x : Nat} (hd : decode M.2.1 pc = .ok (.astore_n 2, 1)) (hn : 2 < M.2.2.1) (hp : am_nl a1 = true) (k : am_Go sh M d Q (pc + 1) (a0 :: a1 :: some (.ref x) :: r) (st) σ) : am_Go sh M d Q pc (a0 :: a1 :: a2 :: r) (.ref x :: st) σ :=
  go_astore_n (i := 2) hd hn (fun j o h1 h2 => by
    obtain rfl : j = 1 := by omega
    have h3 : some a1 = some o := h2
    cases h3
    exact hp) k
theorem go_ast3 {a0 a1 a2 a3 : Option Value} {r : List (Option Value)} {x : Nat} (hd : decode M.2.1 pc = .ok (.astore_n 3, 1)) (hn : 3 < M.2.2.1) (hp : am_nl a2 = true) (k : am_Go sh M d Q (pc + 1) (a0 :: a1 :: a2 :: some (.ref x) :: r) (st) σ) : am_Go sh M d Q pc (a0 :: a1 :: a2 :: a3 :: r) (.ref x :: st) σ :=
  go_astore_n (i := 3) hd hn (fun j o h1 h2 => by
    obtain rfl : j = 2 := by omega
    have h3 : some a2 = some o := h2
    cases h3
    exact hp) k
theorem go_lst0 {a0 a1 : Option Value} {r : List (Option Value)} {x : Int64} (hd : decode M.2.1 pc = .ok (.lstore_n 0, 1)) (hn : 1 < M.2.2.1) (k : am_Go sh M d Q (pc + 1) (some (.long x) :: none :: r) (st) σ) : am_Go sh M d Q pc (a0 :: a1 :: r) (.long x :: st) σ :=
  go_lstore_n (i := 0) hd hn (fun j o h1 h2 => by omega) k
theorem go_lst1 {a0 a1 a2 : Option Value} {r : List (Option Value)} {x : Int64} (hd : decode M.2.1 pc = .ok (.lstore_n 1, 1)) (hn : 2 < M.2.2.1) (hp : am_nl a0 = true) (k : am_Go sh M d Q (pc + 1) (a0 :: some (.long x) :: none :: r) (st) σ) : am_Go sh M d Q pc (a0 :: a1 :: a2 :: r) (.long x :: st) σ :=
  go_lstore_n (i := 1) hd hn (fun j o h1 h2 => by
    obtain rfl : j = 0 := by omega
    have h3 : some a0 = some o := h2
    cases h3
    exact hp) k
theorem go_lst2 {a0 a1 a2 a3 : Option Value} {r : List (Option Value)} {x : Int64} (hd : decode M.2.1 pc = .ok (.lstore_n 2, 1)) (hn : 3 < M.2.2.1) (hp : am_nl a1 = true) (k : am_Go sh M d Q (pc + 1) (a0 :: a1 :: some (.long x) :: none :: r) (st) σ) : am_Go sh M d Q pc (a0 :: a1 :: a2 :: a3 :: r) (.long x :: st) σ :=
  go_lstore_n (i := 2) hd hn (fun j o h1 h2 => by
    obtain rfl : j = 1 := by omega
    have h3 : some a1 = some o := h2
    cases h3
    exact hp) k
theorem go_lst3 {a0 a1 a2 a3 a4 : Option Value} {r : List (Option Value)} {x : Int64} (hd : decode M.2.1 pc = .ok (.lstore_n 3, 1)) (hn : 4 < M.2.2.1) (hp : am_nl a2 = true) (k : am_Go sh M d Q (pc + 1) (a0 :: a1 :: a2 :: some (.long x) :: none :: r) (st) σ) : am_Go sh M d Q pc (a0 :: a1 :: a2 :: a3 :: a4 :: r) (.long x :: st) σ :=
  go_lstore_n (i := 3) hd hn (fun j o h1 h2 => by
    obtain rfl : j = 2 := by omega
    have h3 : some a2 = some o := h2
    cases h3
    exact hp) k
theorem go_lst4 {a0 a1 a2 a3 a4 a5 : Option Value} {r : List (Option Value)} {x : Int64} (hd : decode M.2.1 pc = .ok (.lstore 4, 2)) (hn : 5 < M.2.2.1) (hp : am_nl a3 = true) (k : am_Go sh M d Q (pc + 2) (a0 :: a1 :: a2 :: a3 :: some (.long x) :: none :: r) (st) σ) : am_Go sh M d Q pc (a0 :: a1 :: a2 :: a3 :: a4 :: a5 :: r) (.long x :: st) σ :=
  go_lstore  hd hn (fun j o h1 h2 => by
    obtain rfl : j = 3 := by omega
    have h3 : some a3 = some o := h2
    cases h3
    exact hp) k
theorem go_lst5 {a0 a1 a2 a3 a4 a5 a6 : Option Value} {r : List (Option Value)} {x : Int64} (hd : decode M.2.1 pc = .ok (.lstore 5, 2)) (hn : 6 < M.2.2.1) (hp : am_nl a4 = true) (k : am_Go sh M d Q (pc + 2) (a0 :: a1 :: a2 :: a3 :: a4 :: some (.long x) :: none :: r) (st) σ) : am_Go sh M d Q pc (a0 :: a1 :: a2 :: a3 :: a4 :: a5 :: a6 :: r) (.long x :: st) σ :=
  go_lstore  hd hn (fun j o h1 h2 => by
    obtain rfl : j = 4 := by omega
    have h3 : some a4 = some o := h2
    cases h3
    exact hp) k
theorem go_lst6 {a0 a1 a2 a3 a4 a5 a6 a7 : Option Value} {r : List (Option Value)} {x : Int64} (hd : decode M.2.1 pc = .ok (.lstore 6, 2)) (hn : 7 < M.2.2.1) (hp : am_nl a5 = true) (k : am_Go sh M d Q (pc + 2) (a0 :: a1 :: a2 :: a3 :: a4 :: a5 :: some (.long x) :: none :: r) (st) σ) : am_Go sh M d Q pc (a0 :: a1 :: a2 :: a3 :: a4 :: a5 :: a6 :: a7 :: r) (.long x :: st) σ :=
  go_lstore  hd hn (fun j o h1 h2 => by
    obtain rfl : j = 5 := by omega
    have h3 : some a5 = some o := h2
    cases h3
    exact hp) k
theorem go_lst7 {a0 a1 a2 a3 a4 a5 a6 a7 a8 : Option Value} {r : List (Option Value)} {x : Int64} (hd : decode M.2.1 pc = .ok (.lstore 7, 2)) (hn : 8 < M.2.2.1) (hp : am_nl a6 = true) (k : am_Go sh M d Q (pc + 2) (a0 :: a1 :: a2 :: a3 :: a4 :: a5 :: a6 :: some (.long x) :: none :: r) (st) σ) : am_Go sh M d Q pc (a0 :: a1 :: a2 :: a3 :: a4 :: a5 :: a6 :: a7 :: a8 :: r) (.long x :: st) σ :=
  go_lstore  hd hn (fun j o h1 h2 => by
    obtain rfl : j = 6 := by omega
    have h3 : some a6 = some o := h2
    cases h3
    exact hp) k
theorem go_inc0 {r : List (Option Value)} {n a : Int} (hd : decode M.2.1 pc = .ok (.iinc 0 n, 3)) (hn : 0 < M.2.2.1) (k : am_Go sh M d Q (pc + 3) (some (.int (iZ (a + n))) :: r) (st) σ) : am_Go sh M d Q pc (some (.int (iZ a)) :: r) (st) σ :=
  go_iinc (i := 0) hd rfl hn (fun j o h1 h2 => by omega) k
theorem go_inc1 {a0 : Option Value} {r : List (Option Value)} {n a : Int} (hd : decode M.2.1 pc = .ok (.iinc 1 n, 3)) (hn : 1 < M.2.2.1) (hp : am_nl a0 = true) (k : am_Go sh M d Q (pc + 3) (a0 :: some (.int (iZ (a + n))) :: r) (st) σ) : am_Go sh M d Q pc (a0 :: some (.int (iZ a)) :: r) (st) σ :=
  go_iinc (i := 1) hd rfl hn (fun j o h1 h2 => by
    obtain rfl : j = 0 := by omega
    have h3 : some a0 = some o := h2
    cases h3
    exact hp) k
theorem go_inc2 {a0 a1 : Option Value} {r : List (Option Value)} {n a : Int} (hd : decode M.2.1 pc = .ok (.iinc 2 n, 3)) (hn : 2 < M.2.2.1) (hp : am_nl a1 = true) (k : am_Go sh M d Q (pc + 3) (a0 :: a1 :: some (.int (iZ (a + n))) :: r) (st) σ) : am_Go sh M d Q pc (a0 :: a1 :: some (.int (iZ a)) :: r) (st) σ :=
  go_iinc (i := 2) hd rfl hn (fun j o h1 h2 => by
    obtain rfl : j = 1 := by omega
    have h3 : some a1 = some o := h2
    cases h3
    exact hp) k
theorem go_inc3 {a0 a1 a2 : Option Value} {r : List (Option Value)} {n a : Int} (hd : decode M.2.1 pc = .ok (.iinc 3 n, 3)) (hn : 3 < M.2.2.1) (hp : am_nl a2 = true) (k : am_Go sh M d Q (pc + 3) (a0 :: a1 :: a2 :: some (.int (iZ (a + n))) :: r) (st) σ) : am_Go sh M d Q pc (a0 :: a1 :: a2 :: some (.int (iZ a)) :: r) (st) σ :=
  go_iinc (i := 3) hd rfl hn (fun j o h1 h2 => by
    obtain rfl : j = 2 := by omega
    have h3 : some a2 = some o := h2
    cases h3
    exact hp) k
theorem go_inc4 {a0 a1 a2 a3 : Option Value} {r : List (Option Value)} {n a : Int} (hd : decode M.2.1 pc = .ok (.iinc 4 n, 3)) (hn : 4 < M.2.2.1) (hp : am_nl a3 = true) (k : am_Go sh M d Q (pc + 3) (a0 :: a1 :: a2 :: a3 :: some (.int (iZ (a + n))) :: r) (st) σ) : am_Go sh M d Q pc (a0 :: a1 :: a2 :: a3 :: some (.int (iZ a)) :: r) (st) σ :=
  go_iinc (i := 4) hd rfl hn (fun j o h1 h2 => by
    obtain rfl : j = 3 := by omega
    have h3 : some a3 = some o := h2
    cases h3
    exact hp) k
theorem go_inc5 {a0 a1 a2 a3 a4 : Option Value} {r : List (Option Value)} {n a : Int} (hd : decode M.2.1 pc = .ok (.iinc 5 n, 3)) (hn : 5 < M.2.2.1) (hp : am_nl a4 = true) (k : am_Go sh M d Q (pc + 3) (a0 :: a1 :: a2 :: a3 :: a4 :: some (.int (iZ (a + n))) :: r) (st) σ) : am_Go sh M d Q pc (a0 :: a1 :: a2 :: a3 :: a4 :: some (.int (iZ a)) :: r) (st) σ :=
  go_iinc (i := 5) hd rfl hn (fun j o h1 h2 => by
    obtain rfl : j = 4 := by omega
    have h3 : some a4 = some o := h2
    cases h3
    exact hp) k
theorem go_inc6 {a0 a1 a2 a3 a4 a5 : Option Value} {r : List (Option Value)} {n a : Int} (hd : decode M.2.1 pc = .ok (.iinc 6 n, 3)) (hn : 6 < M.2.2.1) (hp : am_nl a5 = true) (k : am_Go sh M d Q (pc + 3) (a0 :: a1 :: a2 :: a3 :: a4 :: a5 :: some (.int (iZ (a + n))) :: r) (st) σ) : am_Go sh M d Q pc (a0 :: a1 :: a2 :: a3 :: a4 :: a5 :: some (.int (iZ a)) :: r) (st) σ :=
  go_iinc (i := 6) hd rfl hn (fun j o h1 h2 => by
    obtain rfl : j = 5 := by omega
    have h3 : some a5 = some o := h2
    cases h3
    exact hp) k
theorem go_inc7 {a0 a1 a2 a3 a4 a5 a6 : Option Value} {r : List (Option Value)} {n a : Int} (hd : decode M.2.1 pc = .ok (.iinc 7 n, 3)) (hn : 7 < M.2.2.1) (hp : am_nl a6 = true) (k : am_Go sh M d Q (pc + 3) (a0 :: a1 :: a2 :: a3 :: a4 :: a5 :: a6 :: some (.int (iZ (a + n))) :: r) (st) σ) : am_Go sh M d Q pc (a0 :: a1 :: a2 :: a3 :: a4 :: a5 :: a6 :: some (.int (iZ a)) :: r) (st) σ :=
  go_iinc (i := 7) hd rfl hn (fun j o h1 h2 => by
    obtain rfl : j = 6 := by omega
    have h3 : some a6 = some o := h2
    cases h3
    exact hp) k
theorem go_inc8 {a0 a1 a2 a3 a4 a5 a6 a7 : Option Value} {r : List (Option Value)} {n a : Int} (hd : decode M.2.1 pc = .ok (.iinc 8 n, 3)) (hn : 8 < M.2.2.1) (hp : am_nl a7 = true) (k : am_Go sh M d Q (pc + 3) (a0 :: a1 :: a2 :: a3 :: a4 :: a5 :: a6 :: a7 :: some (.int (iZ (a + n))) :: r) (st) σ) : am_Go sh M d Q pc (a0 :: a1 :: a2 :: a3 :: a4 :: a5 :: a6 :: a7 :: some (.int (iZ a)) :: r) (st) σ :=
  go_iinc (i := 8) hd rfl hn (fun j o h1 h2 => by
    obtain rfl : j = 7 := by omega
    have h3 : some a7 = some o := h2
    cases h3
    exact hp) k
theorem go_inc9 {a0 a1 a2 a3 a4 a5 a6 a7 a8 : Option Value} {r : List (Option Value)} {n a : Int} (hd : decode M.2.1 pc = .ok (.iinc 9 n, 3)) (hn : 9 < M.2.2.1) (hp : am_nl a8 = true) (k : am_Go sh M d Q (pc + 3) (a0 :: a1 :: a2 :: a3 :: a4 :: a5 :: a6 :: a7 :: a8 :: some (.int (iZ (a + n))) :: r) (st) σ) : am_Go sh M d Q pc (a0 :: a1 :: a2 :: a3 :: a4 :: a5 :: a6 :: a7 :: a8 :: some (.int (iZ a)) :: r) (st) σ :=
  go_iinc (i := 9) hd rfl hn (fun j o h1 h2 => by
    obtain rfl : j = 8 := by omega
    have h3 : some a8 = some o := h2
    cases h3
    exact hp) k
theorem go_inc10 {a0 a1 a2 a3 a4 a5 a6 a7 a8 a9 : Option Value} {r : List (Option Value)} {n a : Int} (hd : decode M.2.1 pc = .ok (.iinc 10 n, 3)) (hn : 10 < M.2.2.1) (hp : am_nl a9 = true) (k : am_Go sh M d Q (pc + 3) (a0 :: a1 :: a2 :: a3 :: a4 :: a5 :: a6 :: a7 :: a8 :: a9 :: some (.int (iZ (a + n))) :: r) (st) σ) : am_Go sh M d Q pc (a0 :: a1 :: a2 :: a3 :: a4 :: a5 :: a6 :: a7 :: a8 :: a9 :: some (.int (iZ a)) :: r) (st) σ :=
  go_iinc (i := 10) hd rfl hn (fun j o h1 h2 => by
    obtain rfl : j = 9 := by omega
    have h3 : some a9 = some o := h2
    cases h3
    exact hp) k
theorem go_retI {P : Int → am_St → Prop} {a : Int} (hd : decode M.2.1 pc = .ok (.ireturn, 1)) (hr : M.2.2.2 = some .int) (q : P a σ) : am_Go sh M d (am_rI P) pc lv [.int (iZ a)] σ := go_ireturn hd hr ⟨a, rfl, q⟩
theorem go_retZ {P : Int → am_St → Prop} {a : Int} (hd : decode M.2.1 pc = .ok (.ireturn, 1)) (hr : M.2.2.2 = some .boolean) (ha : a = 0 ∨ a = 1) (q : P a σ) : am_Go sh M d (am_rI P) pc lv [.int (iZ a)] σ := go_zreturn hd hr ha ⟨a, rfl, q⟩
theorem go_retL {P : Int → am_St → Prop} {a : Int} (hd : decode M.2.1 pc = .ok (.lreturn, 1)) (hr : M.2.2.2 = some .long) (q : P a σ) : am_Go sh M d (am_rL P) pc lv [.long (lZ a)] σ := go_lreturn hd hr ⟨a, rfl, q⟩
theorem go_retV {P : am_St → Prop} (hd : decode M.2.1 pc = .ok (.return_, 1)) (hr : M.2.2.2 = none) (q : P σ) : am_Go sh M d (am_rV P) pc lv [] σ := go_return hd hr ⟨rfl, q⟩
theorem go_cvI0 {P2 : Int → am_St → Prop} {k ci : Nat} {ks : List Nat} {r0 : vw_C} (hd : decode M.2.1 pc = .ok (.invokevirtual idx, 3)) (hL : Cond.methodLink M.1.cls idx M2.1 ∈ am_tbl) (hM : am_MV M2 0) (hk : sh[k]? = some (.inr (ci, ks))) (hci : am_cl[ci]? = some r0) (hcn : r0.1 = M2.1.cls) (hr : (st.map fun v => v.category).sum ≤ 8) (hdep : d2 < d) (hE : am_Ev sh M2 d2 (.ref k :: []) σ (am_rI P2)) (kk : ∀ x σ2, P2 x σ2 → am_Go sh M d Q (pc + 3) lv (.int (iZ x) :: st) σ2) : am_Go sh M d Q pc lv (.ref k :: st) σ :=
  go_callV (As := []) hd hL hM hk hci hcn rfl hr hdep hE (fun r σ2 hq => by obtain ⟨x, rfl, h⟩ := hq; exact kk x σ2 h)
theorem go_cvP0 {v : Int} {k ci : Nat} {ks : List Nat} {r0 : vw_C} (hd : decode M.2.1 pc = .ok (.invokevirtual idx, 3)) (hL : Cond.methodLink M.1.cls idx M2.1 ∈ am_tbl) (hM : am_MV M2 0) (hk : sh[k]? = some (.inr (ci, ks))) (hci : am_cl[ci]? = some r0) (hcn : r0.1 = M2.1.cls) (hr : (st.map fun v => v.category).sum ≤ 8) (hdep : d2 < d) (hE : am_Ev sh M2 d2 (.ref k :: []) σ (am_rI (fun x σ2 => x = v ∧ σ2 = σ))) (kk : am_Go sh M d Q (pc + 3) lv (.int (iZ v) :: st) σ) : am_Go sh M d Q pc lv (.ref k :: st) σ :=
  go_callV (As := []) hd hL hM hk hci hcn rfl hr hdep hE (fun r σ2 hq => by obtain ⟨x, rfl, rfl, rfl⟩ := hq; exact kk)
theorem go_cvL0 {P2 : Int → am_St → Prop} {k ci : Nat} {ks : List Nat} {r0 : vw_C} (hd : decode M.2.1 pc = .ok (.invokevirtual idx, 3)) (hL : Cond.methodLink M.1.cls idx M2.1 ∈ am_tbl) (hM : am_MV M2 0) (hk : sh[k]? = some (.inr (ci, ks))) (hci : am_cl[ci]? = some r0) (hcn : r0.1 = M2.1.cls) (hr : (st.map fun v => v.category).sum ≤ 8) (hdep : d2 < d) (hE : am_Ev sh M2 d2 (.ref k :: []) σ (am_rL P2)) (kk : ∀ x σ2, P2 x σ2 → am_Go sh M d Q (pc + 3) lv (.long (lZ x) :: st) σ2) : am_Go sh M d Q pc lv (.ref k :: st) σ :=
  go_callV (As := []) hd hL hM hk hci hcn rfl hr hdep hE (fun r σ2 hq => by obtain ⟨x, rfl, h⟩ := hq; exact kk x σ2 h)
theorem go_cvV0 {P2 : am_St → Prop} {k ci : Nat} {ks : List Nat} {r0 : vw_C} (hd : decode M.2.1 pc = .ok (.invokevirtual idx, 3)) (hL : Cond.methodLink M.1.cls idx M2.1 ∈ am_tbl) (hM : am_MV M2 0) (hk : sh[k]? = some (.inr (ci, ks))) (hci : am_cl[ci]? = some r0) (hcn : r0.1 = M2.1.cls) (hr : (st.map fun v => v.category).sum ≤ 8) (hdep : d2 < d) (hE : am_Ev sh M2 d2 (.ref k :: []) σ (am_rV P2)) (kk : ∀ σ2, P2 σ2 → am_Go sh M d Q (pc + 3) lv st σ2) : am_Go sh M d Q pc lv (.ref k :: st) σ :=
  go_callV (As := []) hd hL hM hk hci hcn rfl hr hdep hE (fun r σ2 hq => by obtain ⟨rfl, h⟩ := hq; exact kk σ2 h)
theorem go_csI0 {P2 : Int → am_St → Prop} (hd : decode M.2.1 pc = .ok (.invokestatic idx, 3)) (hL : Cond.methodLink M.1.cls idx M2.1 ∈ am_tbl) (hM : am_MS M2 0) (hr : (st.map fun v => v.category).sum ≤ 8) (hdep : d2 < d) (hE : am_Ev sh M2 d2 [] σ (am_rI P2)) (kk : ∀ x σ2, P2 x σ2 → am_Go sh M d Q (pc + 3) lv (.int (iZ x) :: st) σ2) : am_Go sh M d Q pc lv (st) σ :=
  go_callS (As := []) hd hL hM rfl hr hdep hE (fun r σ2 hq => by obtain ⟨x, rfl, h⟩ := hq; exact kk x σ2 h)
theorem go_csP0 {v : Int} (hd : decode M.2.1 pc = .ok (.invokestatic idx, 3)) (hL : Cond.methodLink M.1.cls idx M2.1 ∈ am_tbl) (hM : am_MS M2 0) (hr : (st.map fun v => v.category).sum ≤ 8) (hdep : d2 < d) (hE : am_Ev sh M2 d2 [] σ (am_rI (fun x σ2 => x = v ∧ σ2 = σ))) (kk : am_Go sh M d Q (pc + 3) lv (.int (iZ v) :: st) σ) : am_Go sh M d Q pc lv (st) σ :=
  go_callS (As := []) hd hL hM rfl hr hdep hE (fun r σ2 hq => by obtain ⟨x, rfl, rfl, rfl⟩ := hq; exact kk)
theorem go_csL0 {P2 : Int → am_St → Prop} (hd : decode M.2.1 pc = .ok (.invokestatic idx, 3)) (hL : Cond.methodLink M.1.cls idx M2.1 ∈ am_tbl) (hM : am_MS M2 0) (hr : (st.map fun v => v.category).sum ≤ 8) (hdep : d2 < d) (hE : am_Ev sh M2 d2 [] σ (am_rL P2)) (kk : ∀ x σ2, P2 x σ2 → am_Go sh M d Q (pc + 3) lv (.long (lZ x) :: st) σ2) : am_Go sh M d Q pc lv (st) σ :=
  go_callS (As := []) hd hL hM rfl hr hdep hE (fun r σ2 hq => by obtain ⟨x, rfl, h⟩ := hq; exact kk x σ2 h)
theorem go_csV0 {P2 : am_St → Prop} (hd : decode M.2.1 pc = .ok (.invokestatic idx, 3)) (hL : Cond.methodLink M.1.cls idx M2.1 ∈ am_tbl) (hM : am_MS M2 0) (hr : (st.map fun v => v.category).sum ≤ 8) (hdep : d2 < d) (hE : am_Ev sh M2 d2 [] σ (am_rV P2)) (kk : ∀ σ2, P2 σ2 → am_Go sh M d Q (pc + 3) lv st σ2) : am_Go sh M d Q pc lv (st) σ :=
  go_callS (As := []) hd hL hM rfl hr hdep hE (fun r σ2 hq => by obtain ⟨rfl, h⟩ := hq; exact kk σ2 h)
theorem go_cnI0 {P2 : Int → am_St → Prop} {host : String} (hd : decode M.2.1 pc = .ok (.invokestatic idx, 3)) (hL : (M.1.cls, idx, M2.1, host) ∈ am_nest) (hM : am_MS M2 0) (hr : (st.map fun v => v.category).sum ≤ 8) (hdep : d2 < d) (hE : am_Ev sh M2 d2 [] σ (am_rI P2)) (kk : ∀ x σ2, P2 x σ2 → am_Go sh M d Q (pc + 3) lv (.int (iZ x) :: st) σ2) : am_Go sh M d Q pc lv (st) σ :=
  go_callSN (As := []) hd hL hM rfl hr hdep hE (fun r σ2 hq => by obtain ⟨x, rfl, h⟩ := hq; exact kk x σ2 h)
theorem go_cnP0 {v : Int} {host : String} (hd : decode M.2.1 pc = .ok (.invokestatic idx, 3)) (hL : (M.1.cls, idx, M2.1, host) ∈ am_nest) (hM : am_MS M2 0) (hr : (st.map fun v => v.category).sum ≤ 8) (hdep : d2 < d) (hE : am_Ev sh M2 d2 [] σ (am_rI (fun x σ2 => x = v ∧ σ2 = σ))) (kk : am_Go sh M d Q (pc + 3) lv (.int (iZ v) :: st) σ) : am_Go sh M d Q pc lv (st) σ :=
  go_callSN (As := []) hd hL hM rfl hr hdep hE (fun r σ2 hq => by obtain ⟨x, rfl, rfl, rfl⟩ := hq; exact kk)
theorem go_cnL0 {P2 : Int → am_St → Prop} {host : String} (hd : decode M.2.1 pc = .ok (.invokestatic idx, 3)) (hL : (M.1.cls, idx, M2.1, host) ∈ am_nest) (hM : am_MS M2 0) (hr : (st.map fun v => v.category).sum ≤ 8) (hdep : d2 < d) (hE : am_Ev sh M2 d2 [] σ (am_rL P2)) (kk : ∀ x σ2, P2 x σ2 → am_Go sh M d Q (pc + 3) lv (.long (lZ x) :: st) σ2) : am_Go sh M d Q pc lv (st) σ :=
  go_callSN (As := []) hd hL hM rfl hr hdep hE (fun r σ2 hq => by obtain ⟨x, rfl, h⟩ := hq; exact kk x σ2 h)
theorem go_cnV0 {P2 : am_St → Prop} {host : String} (hd : decode M.2.1 pc = .ok (.invokestatic idx, 3)) (hL : (M.1.cls, idx, M2.1, host) ∈ am_nest) (hM : am_MS M2 0) (hr : (st.map fun v => v.category).sum ≤ 8) (hdep : d2 < d) (hE : am_Ev sh M2 d2 [] σ (am_rV P2)) (kk : ∀ σ2, P2 σ2 → am_Go sh M d Q (pc + 3) lv st σ2) : am_Go sh M d Q pc lv (st) σ :=
  go_callSN (As := []) hd hL hM rfl hr hdep hE (fun r σ2 hq => by obtain ⟨rfl, h⟩ := hq; exact kk σ2 h)
theorem go_cvI1 {P2 : Int → am_St → Prop} {k ci : Nat} {ks : List Nat} {r0 : vw_C} {b1 : Value} (hd : decode M.2.1 pc = .ok (.invokevirtual idx, 3)) (hL : Cond.methodLink M.1.cls idx M2.1 ∈ am_tbl) (hM : am_MV M2 1) (hk : sh[k]? = some (.inr (ci, ks))) (hci : am_cl[ci]? = some r0) (hcn : r0.1 = M2.1.cls) (hr : (st.map fun v => v.category).sum ≤ 8) (hdep : d2 < d) (hE : am_Ev sh M2 d2 (.ref k :: [b1]) σ (am_rI P2)) (kk : ∀ x σ2, P2 x σ2 → am_Go sh M d Q (pc + 3) lv (.int (iZ x) :: st) σ2) : am_Go sh M d Q pc lv (b1 :: .ref k :: st) σ :=
  go_callV (As := [b1]) hd hL hM hk hci hcn rfl hr hdep hE (fun r σ2 hq => by obtain ⟨x, rfl, h⟩ := hq; exact kk x σ2 h)
theorem go_cvP1 {v : Int} {k ci : Nat} {ks : List Nat} {r0 : vw_C} {b1 : Value} (hd : decode M.2.1 pc = .ok (.invokevirtual idx, 3)) (hL : Cond.methodLink M.1.cls idx M2.1 ∈ am_tbl) (hM : am_MV M2 1) (hk : sh[k]? = some (.inr (ci, ks))) (hci : am_cl[ci]? = some r0) (hcn : r0.1 = M2.1.cls) (hr : (st.map fun v => v.category).sum ≤ 8) (hdep : d2 < d) (hE : am_Ev sh M2 d2 (.ref k :: [b1]) σ (am_rI (fun x σ2 => x = v ∧ σ2 = σ))) (kk : am_Go sh M d Q (pc + 3) lv (.int (iZ v) :: st) σ) : am_Go sh M d Q pc lv (b1 :: .ref k :: st) σ :=
  go_callV (As := [b1]) hd hL hM hk hci hcn rfl hr hdep hE (fun r σ2 hq => by obtain ⟨x, rfl, rfl, rfl⟩ := hq; exact kk)
theorem go_cvL1 {P2 : Int → am_St → Prop} {k ci : Nat} {ks : List Nat} {r0 : vw_C} {b1 : Value} (hd : decode M.2.1 pc = .ok (.invokevirtual idx, 3)) (hL : Cond.methodLink M.1.cls idx M2.1 ∈ am_tbl) (hM : am_MV M2 1) (hk : sh[k]? = some (.inr (ci, ks))) (hci : am_cl[ci]? = some r0) (hcn : r0.1 = M2.1.cls) (hr : (st.map fun v => v.category).sum ≤ 8) (hdep : d2 < d) (hE : am_Ev sh M2 d2 (.ref k :: [b1]) σ (am_rL P2)) (kk : ∀ x σ2, P2 x σ2 → am_Go sh M d Q (pc + 3) lv (.long (lZ x) :: st) σ2) : am_Go sh M d Q pc lv (b1 :: .ref k :: st) σ :=
  go_callV (As := [b1]) hd hL hM hk hci hcn rfl hr hdep hE (fun r σ2 hq => by obtain ⟨x, rfl, h⟩ := hq; exact kk x σ2 h)
theorem go_cvV1 {P2 : am_St → Prop} {k ci : Nat} {ks : List Nat} {r0 : vw_C} {b1 : Value} (hd : decode M.2.1 pc = .ok (.invokevirtual idx, 3)) (hL : Cond.methodLink M.1.cls idx M2.1 ∈ am_tbl) (hM : am_MV M2 1) (hk : sh[k]? = some (.inr (ci, ks))) (hci : am_cl[ci]? = some r0) (hcn : r0.1 = M2.1.cls) (hr : (st.map fun v => v.category).sum ≤ 8) (hdep : d2 < d) (hE : am_Ev sh M2 d2 (.ref k :: [b1]) σ (am_rV P2)) (kk : ∀ σ2, P2 σ2 → am_Go sh M d Q (pc + 3) lv st σ2) : am_Go sh M d Q pc lv (b1 :: .ref k :: st) σ :=
  go_callV (As := [b1]) hd hL hM hk hci hcn rfl hr hdep hE (fun r σ2 hq => by obtain ⟨rfl, h⟩ := hq; exact kk σ2 h)
theorem go_csI1 {P2 : Int → am_St → Prop} {b1 : Value} (hd : decode M.2.1 pc = .ok (.invokestatic idx, 3)) (hL : Cond.methodLink M.1.cls idx M2.1 ∈ am_tbl) (hM : am_MS M2 1) (hr : (st.map fun v => v.category).sum ≤ 8) (hdep : d2 < d) (hE : am_Ev sh M2 d2 [b1] σ (am_rI P2)) (kk : ∀ x σ2, P2 x σ2 → am_Go sh M d Q (pc + 3) lv (.int (iZ x) :: st) σ2) : am_Go sh M d Q pc lv (b1 :: st) σ :=
  go_callS (As := [b1]) hd hL hM rfl hr hdep hE (fun r σ2 hq => by obtain ⟨x, rfl, h⟩ := hq; exact kk x σ2 h)
theorem go_csP1 {v : Int} {b1 : Value} (hd : decode M.2.1 pc = .ok (.invokestatic idx, 3)) (hL : Cond.methodLink M.1.cls idx M2.1 ∈ am_tbl) (hM : am_MS M2 1) (hr : (st.map fun v => v.category).sum ≤ 8) (hdep : d2 < d) (hE : am_Ev sh M2 d2 [b1] σ (am_rI (fun x σ2 => x = v ∧ σ2 = σ))) (kk : am_Go sh M d Q (pc + 3) lv (.int (iZ v) :: st) σ) : am_Go sh M d Q pc lv (b1 :: st) σ :=
  go_callS (As := [b1]) hd hL hM rfl hr hdep hE (fun r σ2 hq => by obtain ⟨x, rfl, rfl, rfl⟩ := hq; exact kk)
theorem go_csL1 {P2 : Int → am_St → Prop} {b1 : Value} (hd : decode M.2.1 pc = .ok (.invokestatic idx, 3)) (hL : Cond.methodLink M.1.cls idx M2.1 ∈ am_tbl) (hM : am_MS M2 1) (hr : (st.map fun v => v.category).sum ≤ 8) (hdep : d2 < d) (hE : am_Ev sh M2 d2 [b1] σ (am_rL P2)) (kk : ∀ x σ2, P2 x σ2 → am_Go sh M d Q (pc + 3) lv (.long (lZ x) :: st) σ2) : am_Go sh M d Q pc lv (b1 :: st) σ :=
  go_callS (As := [b1]) hd hL hM rfl hr hdep hE (fun r σ2 hq => by obtain ⟨x, rfl, h⟩ := hq; exact kk x σ2 h)
theorem go_csV1 {P2 : am_St → Prop} {b1 : Value} (hd : decode M.2.1 pc = .ok (.invokestatic idx, 3)) (hL : Cond.methodLink M.1.cls idx M2.1 ∈ am_tbl) (hM : am_MS M2 1) (hr : (st.map fun v => v.category).sum ≤ 8) (hdep : d2 < d) (hE : am_Ev sh M2 d2 [b1] σ (am_rV P2)) (kk : ∀ σ2, P2 σ2 → am_Go sh M d Q (pc + 3) lv st σ2) : am_Go sh M d Q pc lv (b1 :: st) σ :=
  go_callS (As := [b1]) hd hL hM rfl hr hdep hE (fun r σ2 hq => by obtain ⟨rfl, h⟩ := hq; exact kk σ2 h)
theorem go_cnI1 {P2 : Int → am_St → Prop} {host : String} {b1 : Value} (hd : decode M.2.1 pc = .ok (.invokestatic idx, 3)) (hL : (M.1.cls, idx, M2.1, host) ∈ am_nest) (hM : am_MS M2 1) (hr : (st.map fun v => v.category).sum ≤ 8) (hdep : d2 < d) (hE : am_Ev sh M2 d2 [b1] σ (am_rI P2)) (kk : ∀ x σ2, P2 x σ2 → am_Go sh M d Q (pc + 3) lv (.int (iZ x) :: st) σ2) : am_Go sh M d Q pc lv (b1 :: st) σ :=
  go_callSN (As := [b1]) hd hL hM rfl hr hdep hE (fun r σ2 hq => by obtain ⟨x, rfl, h⟩ := hq; exact kk x σ2 h)
theorem go_cnP1 {v : Int} {host : String} {b1 : Value} (hd : decode M.2.1 pc = .ok (.invokestatic idx, 3)) (hL : (M.1.cls, idx, M2.1, host) ∈ am_nest) (hM : am_MS M2 1) (hr : (st.map fun v => v.category).sum ≤ 8) (hdep : d2 < d) (hE : am_Ev sh M2 d2 [b1] σ (am_rI (fun x σ2 => x = v ∧ σ2 = σ))) (kk : am_Go sh M d Q (pc + 3) lv (.int (iZ v) :: st) σ) : am_Go sh M d Q pc lv (b1 :: st) σ :=
  go_callSN (As := [b1]) hd hL hM rfl hr hdep hE (fun r σ2 hq => by obtain ⟨x, rfl, rfl, rfl⟩ := hq; exact kk)
theorem go_cnL1 {P2 : Int → am_St → Prop} {host : String} {b1 : Value} (hd : decode M.2.1 pc = .ok (.invokestatic idx, 3)) (hL : (M.1.cls, idx, M2.1, host) ∈ am_nest) (hM : am_MS M2 1) (hr : (st.map fun v => v.category).sum ≤ 8) (hdep : d2 < d) (hE : am_Ev sh M2 d2 [b1] σ (am_rL P2)) (kk : ∀ x σ2, P2 x σ2 → am_Go sh M d Q (pc + 3) lv (.long (lZ x) :: st) σ2) : am_Go sh M d Q pc lv (b1 :: st) σ :=
  go_callSN (As := [b1]) hd hL hM rfl hr hdep hE (fun r σ2 hq => by obtain ⟨x, rfl, h⟩ := hq; exact kk x σ2 h)
theorem go_cnV1 {P2 : am_St → Prop} {host : String} {b1 : Value} (hd : decode M.2.1 pc = .ok (.invokestatic idx, 3)) (hL : (M.1.cls, idx, M2.1, host) ∈ am_nest) (hM : am_MS M2 1) (hr : (st.map fun v => v.category).sum ≤ 8) (hdep : d2 < d) (hE : am_Ev sh M2 d2 [b1] σ (am_rV P2)) (kk : ∀ σ2, P2 σ2 → am_Go sh M d Q (pc + 3) lv st σ2) : am_Go sh M d Q pc lv (b1 :: st) σ :=
  go_callSN (As := [b1]) hd hL hM rfl hr hdep hE (fun r σ2 hq => by obtain ⟨rfl, h⟩ := hq; exact kk σ2 h)
theorem go_cvI2 {P2 : Int → am_St → Prop} {k ci : Nat} {ks : List Nat} {r0 : vw_C} {b1 b2 : Value} (hd : decode M.2.1 pc = .ok (.invokevirtual idx, 3)) (hL : Cond.methodLink M.1.cls idx M2.1 ∈ am_tbl) (hM : am_MV M2 2) (hk : sh[k]? = some (.inr (ci, ks))) (hci : am_cl[ci]? = some r0) (hcn : r0.1 = M2.1.cls) (hr : (st.map fun v => v.category).sum ≤ 8) (hdep : d2 < d) (hE : am_Ev sh M2 d2 (.ref k :: [b1, b2]) σ (am_rI P2)) (kk : ∀ x σ2, P2 x σ2 → am_Go sh M d Q (pc + 3) lv (.int (iZ x) :: st) σ2) : am_Go sh M d Q pc lv (b2 :: b1 :: .ref k :: st) σ :=
  go_callV (As := [b1, b2]) hd hL hM hk hci hcn rfl hr hdep hE (fun r σ2 hq => by obtain ⟨x, rfl, h⟩ := hq; exact kk x σ2 h)
theorem go_cvP2 {v : Int} {k ci : Nat} {ks : List Nat} {r0 : vw_C} {b1 b2 : Value} (hd : decode M.2.1 pc = .ok (.invokevirtual idx, 3)) (hL : Cond.methodLink M.1.cls idx M2.1 ∈ am_tbl) (hM : am_MV M2 2) (hk : sh[k]? = some (.inr (ci, ks))) (hci : am_cl[ci]? = some r0) (hcn : r0.1 = M2.1.cls) (hr : (st.map fun v => v.category).sum ≤ 8) (hdep : d2 < d) (hE : am_Ev sh M2 d2 (.ref k :: [b1, b2]) σ (am_rI (fun x σ2 => x = v ∧ σ2 = σ))) (kk : am_Go sh M d Q (pc + 3) lv (.int (iZ v) :: st) σ) : am_Go sh M d Q pc lv (b2 :: b1 :: .ref k :: st) σ :=
  go_callV (As := [b1, b2]) hd hL hM hk hci hcn rfl hr hdep hE (fun r σ2 hq => by obtain ⟨x, rfl, rfl, rfl⟩ := hq; exact kk)
theorem go_cvL2 {P2 : Int → am_St → Prop} {k ci : Nat} {ks : List Nat} {r0 : vw_C} {b1 b2 : Value} (hd : decode M.2.1 pc = .ok (.invokevirtual idx, 3)) (hL : Cond.methodLink M.1.cls idx M2.1 ∈ am_tbl) (hM : am_MV M2 2) (hk : sh[k]? = some (.inr (ci, ks))) (hci : am_cl[ci]? = some r0) (hcn : r0.1 = M2.1.cls) (hr : (st.map fun v => v.category).sum ≤ 8) (hdep : d2 < d) (hE : am_Ev sh M2 d2 (.ref k :: [b1, b2]) σ (am_rL P2)) (kk : ∀ x σ2, P2 x σ2 → am_Go sh M d Q (pc + 3) lv (.long (lZ x) :: st) σ2) : am_Go sh M d Q pc lv (b2 :: b1 :: .ref k :: st) σ :=
  go_callV (As := [b1, b2]) hd hL hM hk hci hcn rfl hr hdep hE (fun r σ2 hq => by obtain ⟨x, rfl, h⟩ := hq; exact kk x σ2 h)
theorem go_cvV2 {P2 : am_St → Prop} {k ci : Nat} {ks : List Nat} {r0 : vw_C} {b1 b2 : Value} (hd : decode M.2.1 pc = .ok (.invokevirtual idx, 3)) (hL : Cond.methodLink M.1.cls idx M2.1 ∈ am_tbl) (hM : am_MV M2 2) (hk : sh[k]? = some (.inr (ci, ks))) (hci : am_cl[ci]? = some r0) (hcn : r0.1 = M2.1.cls) (hr : (st.map fun v => v.category).sum ≤ 8) (hdep : d2 < d) (hE : am_Ev sh M2 d2 (.ref k :: [b1, b2]) σ (am_rV P2)) (kk : ∀ σ2, P2 σ2 → am_Go sh M d Q (pc + 3) lv st σ2) : am_Go sh M d Q pc lv (b2 :: b1 :: .ref k :: st) σ :=
  go_callV (As := [b1, b2]) hd hL hM hk hci hcn rfl hr hdep hE (fun r σ2 hq => by obtain ⟨rfl, h⟩ := hq; exact kk σ2 h)
theorem go_csI2 {P2 : Int → am_St → Prop} {b1 b2 : Value} (hd : decode M.2.1 pc = .ok (.invokestatic idx, 3)) (hL : Cond.methodLink M.1.cls idx M2.1 ∈ am_tbl) (hM : am_MS M2 2) (hr : (st.map fun v => v.category).sum ≤ 8) (hdep : d2 < d) (hE : am_Ev sh M2 d2 [b1, b2] σ (am_rI P2)) (kk : ∀ x σ2, P2 x σ2 → am_Go sh M d Q (pc + 3) lv (.int (iZ x) :: st) σ2) : am_Go sh M d Q pc lv (b2 :: b1 :: st) σ :=
  go_callS (As := [b1, b2]) hd hL hM rfl hr hdep hE (fun r σ2 hq => by obtain ⟨x, rfl, h⟩ := hq; exact kk x σ2 h)
theorem go_csP2 {v : Int} {b1 b2 : Value} (hd : decode M.2.1 pc = .ok (.invokestatic idx, 3)) (hL : Cond.methodLink M.1.cls idx M2.1 ∈ am_tbl) (hM : am_MS M2 2) (hr : (st.map fun v => v.category).sum ≤ 8) (hdep : d2 < d) (hE : am_Ev sh M2 d2 [b1, b2] σ (am_rI (fun x σ2 => x = v ∧ σ2 = σ))) (kk : am_Go sh M d Q (pc + 3) lv (.int (iZ v) :: st) σ) : am_Go sh M d Q pc lv (b2 :: b1 :: st) σ :=
  go_callS (As := [b1, b2]) hd hL hM rfl hr hdep hE (fun r σ2 hq => by obtain ⟨x, rfl, rfl, rfl⟩ := hq; exact kk)
theorem go_csL2 {P2 : Int → am_St → Prop} {b1 b2 : Value} (hd : decode M.2.1 pc = .ok (.invokestatic idx, 3)) (hL : Cond.methodLink M.1.cls idx M2.1 ∈ am_tbl) (hM : am_MS M2 2) (hr : (st.map fun v => v.category).sum ≤ 8) (hdep : d2 < d) (hE : am_Ev sh M2 d2 [b1, b2] σ (am_rL P2)) (kk : ∀ x σ2, P2 x σ2 → am_Go sh M d Q (pc + 3) lv (.long (lZ x) :: st) σ2) : am_Go sh M d Q pc lv (b2 :: b1 :: st) σ :=
  go_callS (As := [b1, b2]) hd hL hM rfl hr hdep hE (fun r σ2 hq => by obtain ⟨x, rfl, h⟩ := hq; exact kk x σ2 h)
theorem go_csV2 {P2 : am_St → Prop} {b1 b2 : Value} (hd : decode M.2.1 pc = .ok (.invokestatic idx, 3)) (hL : Cond.methodLink M.1.cls idx M2.1 ∈ am_tbl) (hM : am_MS M2 2) (hr : (st.map fun v => v.category).sum ≤ 8) (hdep : d2 < d) (hE : am_Ev sh M2 d2 [b1, b2] σ (am_rV P2)) (kk : ∀ σ2, P2 σ2 → am_Go sh M d Q (pc + 3) lv st σ2) : am_Go sh M d Q pc lv (b2 :: b1 :: st) σ :=
  go_callS (As := [b1, b2]) hd hL hM rfl hr hdep hE (fun r σ2 hq => by obtain ⟨rfl, h⟩ := hq; exact kk σ2 h)
theorem go_cnI2 {P2 : Int → am_St → Prop} {host : String} {b1 b2 : Value} (hd : decode M.2.1 pc = .ok (.invokestatic idx, 3)) (hL : (M.1.cls, idx, M2.1, host) ∈ am_nest) (hM : am_MS M2 2) (hr : (st.map fun v => v.category).sum ≤ 8) (hdep : d2 < d) (hE : am_Ev sh M2 d2 [b1, b2] σ (am_rI P2)) (kk : ∀ x σ2, P2 x σ2 → am_Go sh M d Q (pc + 3) lv (.int (iZ x) :: st) σ2) : am_Go sh M d Q pc lv (b2 :: b1 :: st) σ :=
  go_callSN (As := [b1, b2]) hd hL hM rfl hr hdep hE (fun r σ2 hq => by obtain ⟨x, rfl, h⟩ := hq; exact kk x σ2 h)
theorem go_cnP2 {v : Int} {host : String} {b1 b2 : Value} (hd : decode M.2.1 pc = .ok (.invokestatic idx, 3)) (hL : (M.1.cls, idx, M2.1, host) ∈ am_nest) (hM : am_MS M2 2) (hr : (st.map fun v => v.category).sum ≤ 8) (hdep : d2 < d) (hE : am_Ev sh M2 d2 [b1, b2] σ (am_rI (fun x σ2 => x = v ∧ σ2 = σ))) (kk : am_Go sh M d Q (pc + 3) lv (.int (iZ v) :: st) σ) : am_Go sh M d Q pc lv (b2 :: b1 :: st) σ :=
  go_callSN (As := [b1, b2]) hd hL hM rfl hr hdep hE (fun r σ2 hq => by obtain ⟨x, rfl, rfl, rfl⟩ := hq; exact kk)
theorem go_cnL2 {P2 : Int → am_St → Prop} {host : String} {b1 b2 : Value} (hd : decode M.2.1 pc = .ok (.invokestatic idx, 3)) (hL : (M.1.cls, idx, M2.1, host) ∈ am_nest) (hM : am_MS M2 2) (hr : (st.map fun v => v.category).sum ≤ 8) (hdep : d2 < d) (hE : am_Ev sh M2 d2 [b1, b2] σ (am_rL P2)) (kk : ∀ x σ2, P2 x σ2 → am_Go sh M d Q (pc + 3) lv (.long (lZ x) :: st) σ2) : am_Go sh M d Q pc lv (b2 :: b1 :: st) σ :=
  go_callSN (As := [b1, b2]) hd hL hM rfl hr hdep hE (fun r σ2 hq => by obtain ⟨x, rfl, h⟩ := hq; exact kk x σ2 h)
theorem go_cnV2 {P2 : am_St → Prop} {host : String} {b1 b2 : Value} (hd : decode M.2.1 pc = .ok (.invokestatic idx, 3)) (hL : (M.1.cls, idx, M2.1, host) ∈ am_nest) (hM : am_MS M2 2) (hr : (st.map fun v => v.category).sum ≤ 8) (hdep : d2 < d) (hE : am_Ev sh M2 d2 [b1, b2] σ (am_rV P2)) (kk : ∀ σ2, P2 σ2 → am_Go sh M d Q (pc + 3) lv st σ2) : am_Go sh M d Q pc lv (b2 :: b1 :: st) σ :=
  go_callSN (As := [b1, b2]) hd hL hM rfl hr hdep hE (fun r σ2 hq => by obtain ⟨rfl, h⟩ := hq; exact kk σ2 h)
theorem go_cvI3 {P2 : Int → am_St → Prop} {k ci : Nat} {ks : List Nat} {r0 : vw_C} {b1 b2 b3 : Value} (hd : decode M.2.1 pc = .ok (.invokevirtual idx, 3)) (hL : Cond.methodLink M.1.cls idx M2.1 ∈ am_tbl) (hM : am_MV M2 3) (hk : sh[k]? = some (.inr (ci, ks))) (hci : am_cl[ci]? = some r0) (hcn : r0.1 = M2.1.cls) (hr : (st.map fun v => v.category).sum ≤ 8) (hdep : d2 < d) (hE : am_Ev sh M2 d2 (.ref k :: [b1, b2, b3]) σ (am_rI P2)) (kk : ∀ x σ2, P2 x σ2 → am_Go sh M d Q (pc + 3) lv (.int (iZ x) :: st) σ2) : am_Go sh M d Q pc lv (b3 :: b2 :: b1 :: .ref k :: st) σ :=
  go_callV (As := [b1, b2, b3]) hd hL hM hk hci hcn rfl hr hdep hE (fun r σ2 hq => by obtain ⟨x, rfl, h⟩ := hq; exact kk x σ2 h)
theorem go_cvP3 {v : Int} {k ci : Nat} {ks : List Nat} {r0 : vw_C} {b1 b2 b3 : Value} (hd : decode M.2.1 pc = .ok (.invokevirtual idx, 3)) (hL : Cond.methodLink M.1.cls idx M2.1 ∈ am_tbl) (hM : am_MV M2 3) (hk : sh[k]? = some (.inr (ci, ks))) (hci : am_cl[ci]? = some r0) (hcn : r0.1 = M2.1.cls) (hr : (st.map fun v => v.category).sum ≤ 8) (hdep : d2 < d) (hE : am_Ev sh M2 d2 (.ref k :: [b1, b2, b3]) σ (am_rI (fun x σ2 => x = v ∧ σ2 = σ))) (kk : am_Go sh M d Q (pc + 3) lv (.int (iZ v) :: st) σ) : am_Go sh M d Q pc lv (b3 :: b2 :: b1 :: .ref k :: st) σ :=
  go_callV (As := [b1, b2, b3]) hd hL hM hk hci hcn rfl hr hdep hE (fun r σ2 hq => by obtain ⟨x, rfl, rfl, rfl⟩ := hq; exact kk)
theorem go_cvL3 {P2 : Int → am_St → Prop} {k ci : Nat} {ks : List Nat} {r0 : vw_C} {b1 b2 b3 : Value} (hd : decode M.2.1 pc = .ok (.invokevirtual idx, 3)) (hL : Cond.methodLink M.1.cls idx M2.1 ∈ am_tbl) (hM : am_MV M2 3) (hk : sh[k]? = some (.inr (ci, ks))) (hci : am_cl[ci]? = some r0) (hcn : r0.1 = M2.1.cls) (hr : (st.map fun v => v.category).sum ≤ 8) (hdep : d2 < d) (hE : am_Ev sh M2 d2 (.ref k :: [b1, b2, b3]) σ (am_rL P2)) (kk : ∀ x σ2, P2 x σ2 → am_Go sh M d Q (pc + 3) lv (.long (lZ x) :: st) σ2) : am_Go sh M d Q pc lv (b3 :: b2 :: b1 :: .ref k :: st) σ :=
  go_callV (As := [b1, b2, b3]) hd hL hM hk hci hcn rfl hr hdep hE (fun r σ2 hq => by obtain ⟨x, rfl, h⟩ := hq; exact kk x σ2 h)
theorem go_cvV3 {P2 : am_St → Prop} {k ci : Nat} {ks : List Nat} {r0 : vw_C} {b1 b2 b3 : Value} (hd : decode M.2.1 pc = .ok (.invokevirtual idx, 3)) (hL : Cond.methodLink M.1.cls idx M2.1 ∈ am_tbl) (hM : am_MV M2 3) (hk : sh[k]? = some (.inr (ci, ks))) (hci : am_cl[ci]? = some r0) (hcn : r0.1 = M2.1.cls) (hr : (st.map fun v => v.category).sum ≤ 8) (hdep : d2 < d) (hE : am_Ev sh M2 d2 (.ref k :: [b1, b2, b3]) σ (am_rV P2)) (kk : ∀ σ2, P2 σ2 → am_Go sh M d Q (pc + 3) lv st σ2) : am_Go sh M d Q pc lv (b3 :: b2 :: b1 :: .ref k :: st) σ :=
  go_callV (As := [b1, b2, b3]) hd hL hM hk hci hcn rfl hr hdep hE (fun r σ2 hq => by obtain ⟨rfl, h⟩ := hq; exact kk σ2 h)
theorem go_csI3 {P2 : Int → am_St → Prop} {b1 b2 b3 : Value} (hd : decode M.2.1 pc = .ok (.invokestatic idx, 3)) (hL : Cond.methodLink M.1.cls idx M2.1 ∈ am_tbl) (hM : am_MS M2 3) (hr : (st.map fun v => v.category).sum ≤ 8) (hdep : d2 < d) (hE : am_Ev sh M2 d2 [b1, b2, b3] σ (am_rI P2)) (kk : ∀ x σ2, P2 x σ2 → am_Go sh M d Q (pc + 3) lv (.int (iZ x) :: st) σ2) : am_Go sh M d Q pc lv (b3 :: b2 :: b1 :: st) σ :=
  go_callS (As := [b1, b2, b3]) hd hL hM rfl hr hdep hE (fun r σ2 hq => by obtain ⟨x, rfl, h⟩ := hq; exact kk x σ2 h)
theorem go_csP3 {v : Int} {b1 b2 b3 : Value} (hd : decode M.2.1 pc = .ok (.invokestatic idx, 3)) (hL : Cond.methodLink M.1.cls idx M2.1 ∈ am_tbl) (hM : am_MS M2 3) (hr : (st.map fun v => v.category).sum ≤ 8) (hdep : d2 < d) (hE : am_Ev sh M2 d2 [b1, b2, b3] σ (am_rI (fun x σ2 => x = v ∧ σ2 = σ))) (kk : am_Go sh M d Q (pc + 3) lv (.int (iZ v) :: st) σ) : am_Go sh M d Q pc lv (b3 :: b2 :: b1 :: st) σ :=
  go_callS (As := [b1, b2, b3]) hd hL hM rfl hr hdep hE (fun r σ2 hq => by obtain ⟨x, rfl, rfl, rfl⟩ := hq; exact kk)
theorem go_csL3 {P2 : Int → am_St → Prop} {b1 b2 b3 : Value} (hd : decode M.2.1 pc = .ok (.invokestatic idx, 3)) (hL : Cond.methodLink M.1.cls idx M2.1 ∈ am_tbl) (hM : am_MS M2 3) (hr : (st.map fun v => v.category).sum ≤ 8) (hdep : d2 < d) (hE : am_Ev sh M2 d2 [b1, b2, b3] σ (am_rL P2)) (kk : ∀ x σ2, P2 x σ2 → am_Go sh M d Q (pc + 3) lv (.long (lZ x) :: st) σ2) : am_Go sh M d Q pc lv (b3 :: b2 :: b1 :: st) σ :=
  go_callS (As := [b1, b2, b3]) hd hL hM rfl hr hdep hE (fun r σ2 hq => by obtain ⟨x, rfl, h⟩ := hq; exact kk x σ2 h)
theorem go_csV3 {P2 : am_St → Prop} {b1 b2 b3 : Value} (hd : decode M.2.1 pc = .ok (.invokestatic idx, 3)) (hL : Cond.methodLink M.1.cls idx M2.1 ∈ am_tbl) (hM : am_MS M2 3) (hr : (st.map fun v => v.category).sum ≤ 8) (hdep : d2 < d) (hE : am_Ev sh M2 d2 [b1, b2, b3] σ (am_rV P2)) (kk : ∀ σ2, P2 σ2 → am_Go sh M d Q (pc + 3) lv st σ2) : am_Go sh M d Q pc lv (b3 :: b2 :: b1 :: st) σ :=
  go_callS (As := [b1, b2, b3]) hd hL hM rfl hr hdep hE (fun r σ2 hq => by obtain ⟨rfl, h⟩ := hq; exact kk σ2 h)
theorem go_cnI3 {P2 : Int → am_St → Prop} {host : String} {b1 b2 b3 : Value} (hd : decode M.2.1 pc = .ok (.invokestatic idx, 3)) (hL : (M.1.cls, idx, M2.1, host) ∈ am_nest) (hM : am_MS M2 3) (hr : (st.map fun v => v.category).sum ≤ 8) (hdep : d2 < d) (hE : am_Ev sh M2 d2 [b1, b2, b3] σ (am_rI P2)) (kk : ∀ x σ2, P2 x σ2 → am_Go sh M d Q (pc + 3) lv (.int (iZ x) :: st) σ2) : am_Go sh M d Q pc lv (b3 :: b2 :: b1 :: st) σ :=
  go_callSN (As := [b1, b2, b3]) hd hL hM rfl hr hdep hE (fun r σ2 hq => by obtain ⟨x, rfl, h⟩ := hq; exact kk x σ2 h)
theorem go_cnP3 {v : Int} {host : String} {b1 b2 b3 : Value} (hd : decode M.2.1 pc = .ok (.invokestatic idx, 3)) (hL : (M.1.cls, idx, M2.1, host) ∈ am_nest) (hM : am_MS M2 3) (hr : (st.map fun v => v.category).sum ≤ 8) (hdep : d2 < d) (hE : am_Ev sh M2 d2 [b1, b2, b3] σ (am_rI (fun x σ2 => x = v ∧ σ2 = σ))) (kk : am_Go sh M d Q (pc + 3) lv (.int (iZ v) :: st) σ) : am_Go sh M d Q pc lv (b3 :: b2 :: b1 :: st) σ :=
  go_callSN (As := [b1, b2, b3]) hd hL hM rfl hr hdep hE (fun r σ2 hq => by obtain ⟨x, rfl, rfl, rfl⟩ := hq; exact kk)
theorem go_cnL3 {P2 : Int → am_St → Prop} {host : String} {b1 b2 b3 : Value} (hd : decode M.2.1 pc = .ok (.invokestatic idx, 3)) (hL : (M.1.cls, idx, M2.1, host) ∈ am_nest) (hM : am_MS M2 3) (hr : (st.map fun v => v.category).sum ≤ 8) (hdep : d2 < d) (hE : am_Ev sh M2 d2 [b1, b2, b3] σ (am_rL P2)) (kk : ∀ x σ2, P2 x σ2 → am_Go sh M d Q (pc + 3) lv (.long (lZ x) :: st) σ2) : am_Go sh M d Q pc lv (b3 :: b2 :: b1 :: st) σ :=
  go_callSN (As := [b1, b2, b3]) hd hL hM rfl hr hdep hE (fun r σ2 hq => by obtain ⟨x, rfl, h⟩ := hq; exact kk x σ2 h)
theorem go_cnV3 {P2 : am_St → Prop} {host : String} {b1 b2 b3 : Value} (hd : decode M.2.1 pc = .ok (.invokestatic idx, 3)) (hL : (M.1.cls, idx, M2.1, host) ∈ am_nest) (hM : am_MS M2 3) (hr : (st.map fun v => v.category).sum ≤ 8) (hdep : d2 < d) (hE : am_Ev sh M2 d2 [b1, b2, b3] σ (am_rV P2)) (kk : ∀ σ2, P2 σ2 → am_Go sh M d Q (pc + 3) lv st σ2) : am_Go sh M d Q pc lv (b3 :: b2 :: b1 :: st) σ :=
  go_callSN (As := [b1, b2, b3]) hd hL hM rfl hr hdep hE (fun r σ2 hq => by obtain ⟨rfl, h⟩ := hq; exact kk σ2 h)
end AMN
/-- the same, of a member of the JDK that the machine has no entry for -/
theorem am_evF {sh : am_Sh} {M : am_M} {d : Nat} {av : List Value} {σ : am_St} {Q : Option Value → am_St → Prop} (hy : plainFor M.1 = true) (lv : List (Option Value)) (hlv : am_ent av ++ List.replicate (M.2.2.1 - (am_ent av).length) none = lv) (hle : (am_ent av).length ≤ M.2.2.1) (k : am_Go sh M d Q 0 lv [] σ) : am_Ev sh M d av σ Q := by
  intro l D dA z φ
  refine va_MetF (cc := M.2.1) (maxL := M.2.2.1) (ret := M.2.2.2) hy rfl ?_
  intro p e s m args below meth c s₁ B hml hv
  obtain ⟨rfl, hP, hK⟩ := hv
  have hts := atoms_spec (ws := am_wd M) B.pre
  have hl := lv_entry (av.map (am_v φ)) (n := M.2.2.1) (by rw [am_sl_len]; exact hle)
  rw [lg_entry_eq]
  refine k p l e D dA z φ s m _ below meth c ⟨B.exec, B.bytes, B.returns, hml, findClass_of_methodNamed B.named, hts, B.notSynchronized, hK⟩ s.heap [] _ hP va_S.rf ⟨hl.1, hl.2.1, fun i v hi => ?_⟩
  subst hlv
  by_cases h : i < (am_ent av).length
  · rw [List.getElem?_append_left h] at hi
    have := am_ent_args φ av 0 i v hi
    rw [Nat.zero_add] at this
    exact hl.2.2 _ this
  · rw [List.getElem?_append_right (by omega)] at hi
    have := List.mem_of_getElem? hi
    rw [List.mem_replicate] at this
    cases this.2
