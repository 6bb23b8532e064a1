/-! ===== the law's world behind its two constructors is the machine's ===== -/
def wcls : List al_C := [.inr (8, [(4, 0), (11, 0), (13, 0), (15, 0), (17, 0), (22, 0), (25, 0), (91, 0), (97, 0), (0, 0), (0, 0), (0, 0), (0, 0), (0, 0)]), .inr (5, [(5, 0), (7, 0), (9, 0), (0, 0)]), .inr (1, [(6, 0), (0, 0)]), .inl (0, 8, none), .inr (1, [(8, 0), (0, 0)]), .inl (0, 8, none), .inr (1, [(10, 0), (0, 0)]), .inl (0, 8, none), .inr (1, [(12, 0), (0, 0)]), .inl (0, 56, none), .inr (1, [(14, 0), (0, 0)]), .inl (0, 56, none), .inr (1, [(16, 0), (0, 0)]), .inl (0, 56, none), .inr (3, [(18, 0), (20, 0), (0, 1), (0, 1)]), .inr (1, [(19, 0), (0, 0)]), .inl (0, 8, none), .inr (1, [(21, 0), (0, 0)]), .inl (0, 8, none), .inr (6, [(23, 0), (24, 0), (0, 0)]), .inl (0, 57, none), .inl (0, 57, none), .inr (0, [(26, 0), (29, 0), (31, 0), (33, 0), (35, 0), (86, 0), (88, 0)]), .inr (4, [(27, 0), (0, 0)]), .inr (1, [(28, 0), (0, 0)]), .inl (0, 25, none), .inr (1, [(30, 0), (0, 0)]), .inl (0, 56, none), .inr (1, [(32, 0), (0, 0)]), .inl (0, 56, none), .inr (1, [(34, 0), (0, 0)]), .inl (0, 56, none), .inl (2, 25, some (fun i => ((fun i => ((cg 25) i).map (fun r => 22 + r)) i).map (fun r => 0 + r))), .inr (1, [(37, 0), (0, 0)]), .inl (0, 56, none), .inr (1, [(39, 0), (0, 0)]), .inl (0, 56, none), .inr (1, [(41, 0), (0, 0)]), .inl (0, 56, none), .inr (1, [(43, 0), (0, 0)]), .inl (0, 56, none), .inr (1, [(45, 0), (0, 0)]), .inl (0, 56, none), .inr (1, [(47, 0), (0, 0)]), .inl (0, 56, none), .inr (1, [(49, 0), (0, 0)]), .inl (0, 56, none), .inr (1, [(51, 0), (0, 0)]), .inl (0, 56, none), .inr (1, [(53, 0), (0, 0)]), .inl (0, 56, none), .inr (1, [(55, 0), (0, 0)]), .inl (0, 56, none), .inr (1, [(57, 0), (0, 0)]), .inl (0, 56, none), .inr (1, [(59, 0), (0, 0)]), .inl (0, 56, none), .inr (1, [(61, 0), (0, 0)]), .inl (0, 56, none), .inr (1, [(63, 0), (0, 0)]), .inl (0, 56, none), .inr (1, [(65, 0), (0, 0)]), .inl (0, 56, none), .inr (1, [(67, 0), (0, 0)]), .inl (0, 56, none), .inr (1, [(69, 0), (0, 0)]), .inl (0, 56, none), .inr (1, [(71, 0), (0, 0)]), .inl (0, 56, none), .inr (1, [(73, 0), (0, 0)]), .inl (0, 56, none), .inr (1, [(75, 0), (0, 0)]), .inl (0, 56, none), .inr (1, [(77, 0), (0, 0)]), .inl (0, 56, none), .inr (1, [(79, 0), (0, 0)]), .inl (0, 56, none), .inr (1, [(81, 0), (0, 0)]), .inl (0, 56, none), .inr (1, [(83, 0), (0, 0)]), .inl (0, 56, none), .inr (1, [(85, 0), (0, 0)]), .inl (0, 56, none), .inr (1, [(87, 0), (0, 0)]), .inl (0, 56, none), .inr (6, [(89, 0), (90, 0), (0, 0)]), .inl (0, 57, none), .inl (0, 57, none), .inr (2, [(92, 0), (95, 0), (0, 0)]), .inr (4, [(93, 0), (0, 0)]), .inr (1, [(94, 0), (0, 0)]), .inl (0, 25, none), .inr (1, [(96, 0), (0, 0)]), .inl (0, 8, none), .inr (7, [(98, 0), (100, 0), (102, 0), (1, 0), (0, 0), (0, 0), (0, 0), (0, 0)]), .inr (1, [(99, 0), (0, 0)]), .inl (0, 5, none), .inr (1, [(101, 0), (0, 0)]), .inl (0, 56, none), .inr (1, [(103, 0), (0, 0)]), .inl (0, 56, none)]
def wlaw : List al_C := [.inr (8, [(4, 0), (11, 0), (13, 0), (15, 0), (17, 0), (22, 0), (25, 0), (91, 0), (97, 0), (0, 0), (0, 0), (0, 0), (0, 0), (0, 0)]), .inr (5, [(5, 0), (7, 0), (9, 0), (0, 0)]), .inr (1, [(6, 0), (0, 0)]), .inl (0, 8, none), .inr (1, [(8, 0), (0, 0)]), .inl (0, 8, none), .inr (1, [(10, 0), (0, 0)]), .inl (0, 8, none), .inr (1, [(12, 0), (0, 0)]), .inl (0, 56, none), .inr (1, [(14, 0), (0, 0)]), .inl (0, 56, none), .inr (1, [(16, 0), (0, 0)]), .inl (0, 56, none), .inr (3, [(18, 0), (20, 0), (0, 1), (0, 1)]), .inr (1, [(19, 0), (0, 0)]), .inl (0, 8, none), .inr (1, [(21, 0), (0, 0)]), .inl (0, 8, none), .inr (6, [(23, 0), (24, 0), (0, 0)]), .inl (0, 57, none), .inl (0, 57, none), .inr (0, [(26, 0), (29, 0), (31, 0), (33, 0), (35, 0), (86, 0), (88, 0)]), .inr (4, [(27, 0), (0, 0)]), .inr (1, [(28, 0), (0, 0)]), .inl (0, 25, none), .inr (1, [(30, 0), (0, 0)]), .inl (0, 56, none), .inr (1, [(32, 0), (0, 0)]), .inl (0, 56, none), .inr (1, [(34, 0), (0, 0)]), .inl (0, 56, none), .inl (2, 25, some (fun i => ((fun i => ((cg 25) i).map (fun r => 22 + r)) i).map (fun r => 0 + r))), .inr (1, [(37, 0), (0, 0)]), .inl (0, 56, none), .inr (1, [(39, 0), (0, 0)]), .inl (0, 56, none), .inr (1, [(41, 0), (0, 0)]), .inl (0, 56, none), .inr (1, [(43, 0), (0, 0)]), .inl (0, 56, none), .inr (1, [(45, 0), (0, 0)]), .inl (0, 56, none), .inr (1, [(47, 0), (0, 0)]), .inl (0, 56, none), .inr (1, [(49, 0), (0, 0)]), .inl (0, 56, none), .inr (1, [(51, 0), (0, 0)]), .inl (0, 56, none), .inr (1, [(53, 0), (0, 0)]), .inl (0, 56, none), .inr (1, [(55, 0), (0, 0)]), .inl (0, 56, none), .inr (1, [(57, 0), (0, 0)]), .inl (0, 56, none), .inr (1, [(59, 0), (0, 0)]), .inl (0, 56, none), .inr (1, [(61, 0), (0, 0)]), .inl (0, 56, none), .inr (1, [(63, 0), (0, 0)]), .inl (0, 56, none), .inr (1, [(65, 0), (0, 0)]), .inl (0, 56, none), .inr (1, [(67, 0), (0, 0)]), .inl (0, 56, none), .inr (1, [(69, 0), (0, 0)]), .inl (0, 56, none), .inr (1, [(71, 0), (0, 0)]), .inl (0, 56, none), .inr (1, [(73, 0), (0, 0)]), .inl (0, 56, none), .inr (1, [(75, 0), (0, 0)]), .inl (0, 56, none), .inr (1, [(77, 0), (0, 0)]), .inl (0, 56, none), .inr (1, [(79, 0), (0, 0)]), .inl (0, 56, none), .inr (1, [(81, 0), (0, 0)]), .inl (0, 56, none), .inr (1, [(83, 0), (0, 0)]), .inl (0, 56, none), .inr (1, [(85, 0), (0, 0)]), .inl (0, 56, none), .inr (1, [(87, 0), (0, 0)]), .inl (0, 56, none), .inr (6, [(89, 0), (90, 0), (0, 0)]), .inl (0, 57, none), .inl (0, 57, none), .inr (2, [(92, 0), (95, 0), (0, 0)]), .inr (4, [(93, 0), (0, 0)]), .inr (1, [(94, 0), (0, 0)]), .inl (0, 25, none), .inr (1, [(96, 0), (0, 0)]), .inl (0, 8, none), .inr (7, [(98, 0), (100, 0), (102, 0), (1, 0), (0, 0), (0, 0), (0, 0), (0, 0)]), .inr (1, [(99, 0), (0, 0)]), .inl (0, 5, none), .inr (1, [(101, 0), (0, 0)]), .inl (0, 56, none), .inr (1, [(103, 0), (0, 0)]), .inl (0, 56, none), .inr (9, [(0, 0), (105, 0), (106, 0), (107, 0), (108, 0), (0, 0), (0, 0), (0, 0), (109, 0), (0, 0), (110, 0), (0, 0), (0, 0), (0, 0), (0, 0), (111, 0), (112, 0), (113, 0), (114, 0), (0, 0), (115, 0), (0, 0), (116, 0), (117, 0), (118, 0), (0, 0), (0, 0), (119, 0), (120, 0), (0, 0), (121, 0), (122, 0), (0, 0), (123, 0), (0, 0), (124, 0), (1, 0), (1, 0)]), .inl (0, 8, none), .inl (0, 8, none), .inl (0, 24, none), .inl (0, 24, none), .inl (0, 56, none), .inl (0, 56, none), .inl (0, 8, none), .inl (0, 8, none), .inl (0, 24, none), .inl (0, 24, none), .inl (0, 12, none), .inl (0, 200, none), .inl (0, 201, none), .inl (0, 201, none), .inl (0, 200, none), .inl (1, 40, none), .inl (0, 40, none), .inl (0, 8000, none), .inl (0, 200, none), .inl (0, 200, none)]
def cv_φ (φ : Nat → Nat) : Nat → Nat := fun k => if k < 21 then φ (101 + k) else if k < 122 then φ (k - 21) else φ k
def cv_ρ (k : Nat) : Nat := if k < 21 then 101 + k else k - 21
def cv_P (k : Nat) : Prop := ∀ (dA : Nat → ClassId) (φ : Nat → Nat), ∃ y, wlaw[cv_ρ k]? = some y ∧ ∃ x, SH[k]? = some x ∧ am_E dA (cv_φ φ) s0_ k x = al_E dA φ y
theorem cv_mi {φ : Nat → Nat} {k : Nat} (hk : k ≠ 35) (ks : List Nat) : ks.mapIdx (fun j kd => am_fv φ s0_ k j kd) = ks.map (fun kd => al_fv φ (kd, 0)) := by
  apply List.ext_getElem?
  intro i
  rw [List.getElem?_mapIdx, List.getElem?_map]
  cases ks[i]? with
  | none => rfl
  | some kd =>
    show some (am_fv φ s0_ k i kd) = some (al_fv φ (kd, 0))
    rcases kd with _ | _ | _ | r
    · show some (Value.int (iZ (if k = 35 ∧ (i = 2 ∨ i = 3) then 1 else 0))) = some (Value.int (iZ 0))
      rw [if_neg (fun h => hk h.1)]
    · rfl
    · rfl
    · rfl
theorem cv_0 : cv_P 0 := fun dA φ => ⟨_, rfl, _, rfl, by
  show (Sum.inr (9, ([0, 4, 5, 6, 7, 0, 0, 0, 8, 0, 9, 0, 0, 0, 0, 10, 11, 12, 13, 0, 14, 0, 15, 16, 17, 0, 0, 18, 19, 0, 20, 21, 0, 22, 0, 23, 1, 1] : List Nat).mapIdx (fun j kd => am_fv (cv_φ φ) s0_ 0 j kd)) : va_E) = Sum.inr (9, ([(0, 0), (105, 0), (106, 0), (107, 0), (108, 0), (0, 0), (0, 0), (0, 0), (109, 0), (0, 0), (110, 0), (0, 0), (0, 0), (0, 0), (0, 0), (111, 0), (112, 0), (113, 0), (114, 0), (0, 0), (115, 0), (0, 0), (116, 0), (117, 0), (118, 0), (0, 0), (0, 0), (119, 0), (120, 0), (0, 0), (121, 0), (122, 0), (0, 0), (123, 0), (0, 0), (124, 0), (1, 0), (1, 0)] : List (Nat × Int)).map (al_fv φ))
  rw [cv_mi (by decide)]
  rfl⟩
theorem cv_1 : cv_P 1 := fun _ _ => ⟨_, rfl, _, rfl, rfl⟩
theorem cv_2 : cv_P 2 := fun _ _ => ⟨_, rfl, _, rfl, rfl⟩
theorem cv_3 : cv_P 3 := fun _ _ => ⟨_, rfl, _, rfl, rfl⟩
theorem cv_4 : cv_P 4 := fun _ _ => ⟨_, rfl, _, rfl, rfl⟩
theorem cv_5 : cv_P 5 := fun _ _ => ⟨_, rfl, _, rfl, rfl⟩
theorem cv_6 : cv_P 6 := fun _ _ => ⟨_, rfl, _, rfl, rfl⟩
theorem cv_7 : cv_P 7 := fun _ _ => ⟨_, rfl, _, rfl, rfl⟩
theorem cv_8 : cv_P 8 := fun _ _ => ⟨_, rfl, _, rfl, rfl⟩
theorem cv_9 : cv_P 9 := fun _ _ => ⟨_, rfl, _, rfl, rfl⟩
theorem cv_10 : cv_P 10 := fun _ _ => ⟨_, rfl, _, rfl, rfl⟩
theorem cv_11 : cv_P 11 := fun _ _ => ⟨_, rfl, _, rfl, rfl⟩
theorem cv_12 : cv_P 12 := fun _ _ => ⟨_, rfl, _, rfl, rfl⟩
theorem cv_13 : cv_P 13 := fun _ _ => ⟨_, rfl, _, rfl, rfl⟩
theorem cv_14 : cv_P 14 := fun _ _ => ⟨_, rfl, _, rfl, rfl⟩
theorem cv_15 : cv_P 15 := fun _ _ => ⟨_, rfl, _, rfl, rfl⟩
theorem cv_16 : cv_P 16 := fun _ _ => ⟨_, rfl, _, rfl, rfl⟩
theorem cv_17 : cv_P 17 := fun _ _ => ⟨_, rfl, _, rfl, rfl⟩
theorem cv_18 : cv_P 18 := fun _ _ => ⟨_, rfl, _, rfl, rfl⟩
theorem cv_19 : cv_P 19 := fun _ _ => ⟨_, rfl, _, rfl, rfl⟩
theorem cv_20 : cv_P 20 := fun _ _ => ⟨_, rfl, _, rfl, rfl⟩
theorem cv_21 : cv_P 21 := fun _ _ => ⟨_, rfl, _, rfl, rfl⟩
theorem cv_22 : cv_P 22 := fun _ _ => ⟨_, rfl, _, rfl, rfl⟩
theorem cv_23 : cv_P 23 := fun _ _ => ⟨_, rfl, _, rfl, rfl⟩
theorem cv_24 : cv_P 24 := fun _ _ => ⟨_, rfl, _, rfl, rfl⟩
theorem cv_25 : cv_P 25 := fun _ _ => ⟨_, rfl, _, rfl, rfl⟩
theorem cv_26 : cv_P 26 := fun _ _ => ⟨_, rfl, _, rfl, rfl⟩
theorem cv_27 : cv_P 27 := fun _ _ => ⟨_, rfl, _, rfl, rfl⟩
theorem cv_28 : cv_P 28 := fun _ _ => ⟨_, rfl, _, rfl, rfl⟩
theorem cv_29 : cv_P 29 := fun _ _ => ⟨_, rfl, _, rfl, rfl⟩
theorem cv_30 : cv_P 30 := fun _ _ => ⟨_, rfl, _, rfl, rfl⟩
theorem cv_31 : cv_P 31 := fun _ _ => ⟨_, rfl, _, rfl, rfl⟩
theorem cv_32 : cv_P 32 := fun _ _ => ⟨_, rfl, _, rfl, rfl⟩
theorem cv_33 : cv_P 33 := fun _ _ => ⟨_, rfl, _, rfl, rfl⟩
theorem cv_34 : cv_P 34 := fun _ _ => ⟨_, rfl, _, rfl, rfl⟩
theorem cv_35 : cv_P 35 := fun _ _ => ⟨_, rfl, _, rfl, rfl⟩
theorem cv_36 : cv_P 36 := fun _ _ => ⟨_, rfl, _, rfl, rfl⟩
theorem cv_37 : cv_P 37 := fun _ _ => ⟨_, rfl, _, rfl, rfl⟩
theorem cv_38 : cv_P 38 := fun _ _ => ⟨_, rfl, _, rfl, rfl⟩
theorem cv_39 : cv_P 39 := fun _ _ => ⟨_, rfl, _, rfl, rfl⟩
theorem cv_40 : cv_P 40 := fun _ _ => ⟨_, rfl, _, rfl, rfl⟩
theorem cv_41 : cv_P 41 := fun _ _ => ⟨_, rfl, _, rfl, rfl⟩
theorem cv_42 : cv_P 42 := fun _ _ => ⟨_, rfl, _, rfl, rfl⟩
theorem cv_43 : cv_P 43 := fun _ _ => ⟨_, rfl, _, rfl, rfl⟩
theorem cv_44 : cv_P 44 := fun _ _ => ⟨_, rfl, _, rfl, rfl⟩
theorem cv_45 : cv_P 45 := fun _ _ => ⟨_, rfl, _, rfl, rfl⟩
theorem cv_46 : cv_P 46 := fun _ _ => ⟨_, rfl, _, rfl, rfl⟩
theorem cv_47 : cv_P 47 := fun _ _ => ⟨_, rfl, _, rfl, rfl⟩
theorem cv_48 : cv_P 48 := fun _ _ => ⟨_, rfl, _, rfl, rfl⟩
theorem cv_49 : cv_P 49 := fun _ _ => ⟨_, rfl, _, rfl, rfl⟩
theorem cv_50 : cv_P 50 := fun _ _ => ⟨_, rfl, _, rfl, rfl⟩
theorem cv_51 : cv_P 51 := fun _ _ => ⟨_, rfl, _, rfl, rfl⟩
theorem cv_52 : cv_P 52 := fun _ _ => ⟨_, rfl, _, rfl, rfl⟩
theorem cv_53 : cv_P 53 := fun dA φ => ⟨_, rfl, _, rfl, by
  show (Sum.inl (dA 2, 25, Sum.inr (Sum.inr (Sum.inr (Sum.inr (fun i => (if i < 25 then some (54 + 2 * i) else none : Option Nat).map (cv_φ φ)))))) : va_E) = Sum.inl (dA 2, 25, Sum.inr (Sum.inr (Sum.inr (Sum.inr (fun i => (((cg 25 i).map (fun r => 22 + r)).map (fun r => 0 + r)).map φ)))))
  have e : (fun i => (if i < 25 then some (54 + 2 * i) else none : Option Nat).map (cv_φ φ)) = fun i => (((cg 25 i).map (fun r => 22 + r)).map (fun r => 0 + r)).map φ := by
    funext i
    unfold cg
    by_cases h : i < 25
    · rw [if_pos h, if_pos h]
      show some (cv_φ φ (54 + 2 * i)) = some (φ (0 + (22 + (11 + 2 * i))))
      unfold cv_φ
      rw [if_neg (by omega), if_pos (by omega), show 54 + 2 * i - 21 = 0 + (22 + (11 + 2 * i)) by omega]
    · rw [if_neg h, if_neg h]
      rfl
  rw [e]⟩
theorem cv_54 : cv_P 54 := fun _ _ => ⟨_, rfl, _, rfl, rfl⟩
theorem cv_55 : cv_P 55 := fun _ _ => ⟨_, rfl, _, rfl, rfl⟩
theorem cv_56 : cv_P 56 := fun _ _ => ⟨_, rfl, _, rfl, rfl⟩
theorem cv_57 : cv_P 57 := fun _ _ => ⟨_, rfl, _, rfl, rfl⟩
theorem cv_58 : cv_P 58 := fun _ _ => ⟨_, rfl, _, rfl, rfl⟩
theorem cv_59 : cv_P 59 := fun _ _ => ⟨_, rfl, _, rfl, rfl⟩
theorem cv_60 : cv_P 60 := fun _ _ => ⟨_, rfl, _, rfl, rfl⟩
theorem cv_61 : cv_P 61 := fun _ _ => ⟨_, rfl, _, rfl, rfl⟩
theorem cv_62 : cv_P 62 := fun _ _ => ⟨_, rfl, _, rfl, rfl⟩
theorem cv_63 : cv_P 63 := fun _ _ => ⟨_, rfl, _, rfl, rfl⟩
theorem cv_64 : cv_P 64 := fun _ _ => ⟨_, rfl, _, rfl, rfl⟩
theorem cv_65 : cv_P 65 := fun _ _ => ⟨_, rfl, _, rfl, rfl⟩
theorem cv_66 : cv_P 66 := fun _ _ => ⟨_, rfl, _, rfl, rfl⟩
theorem cv_67 : cv_P 67 := fun _ _ => ⟨_, rfl, _, rfl, rfl⟩
theorem cv_68 : cv_P 68 := fun _ _ => ⟨_, rfl, _, rfl, rfl⟩
theorem cv_69 : cv_P 69 := fun _ _ => ⟨_, rfl, _, rfl, rfl⟩
theorem cv_70 : cv_P 70 := fun _ _ => ⟨_, rfl, _, rfl, rfl⟩
theorem cv_71 : cv_P 71 := fun _ _ => ⟨_, rfl, _, rfl, rfl⟩
theorem cv_72 : cv_P 72 := fun _ _ => ⟨_, rfl, _, rfl, rfl⟩
theorem cv_73 : cv_P 73 := fun _ _ => ⟨_, rfl, _, rfl, rfl⟩
theorem cv_74 : cv_P 74 := fun _ _ => ⟨_, rfl, _, rfl, rfl⟩
theorem cv_75 : cv_P 75 := fun _ _ => ⟨_, rfl, _, rfl, rfl⟩
theorem cv_76 : cv_P 76 := fun _ _ => ⟨_, rfl, _, rfl, rfl⟩
theorem cv_77 : cv_P 77 := fun _ _ => ⟨_, rfl, _, rfl, rfl⟩
theorem cv_78 : cv_P 78 := fun _ _ => ⟨_, rfl, _, rfl, rfl⟩
theorem cv_79 : cv_P 79 := fun _ _ => ⟨_, rfl, _, rfl, rfl⟩
theorem cv_80 : cv_P 80 := fun _ _ => ⟨_, rfl, _, rfl, rfl⟩
theorem cv_81 : cv_P 81 := fun _ _ => ⟨_, rfl, _, rfl, rfl⟩
theorem cv_82 : cv_P 82 := fun _ _ => ⟨_, rfl, _, rfl, rfl⟩
theorem cv_83 : cv_P 83 := fun _ _ => ⟨_, rfl, _, rfl, rfl⟩
theorem cv_84 : cv_P 84 := fun _ _ => ⟨_, rfl, _, rfl, rfl⟩
theorem cv_85 : cv_P 85 := fun _ _ => ⟨_, rfl, _, rfl, rfl⟩
theorem cv_86 : cv_P 86 := fun _ _ => ⟨_, rfl, _, rfl, rfl⟩
theorem cv_87 : cv_P 87 := fun _ _ => ⟨_, rfl, _, rfl, rfl⟩
theorem cv_88 : cv_P 88 := fun _ _ => ⟨_, rfl, _, rfl, rfl⟩
theorem cv_89 : cv_P 89 := fun _ _ => ⟨_, rfl, _, rfl, rfl⟩
theorem cv_90 : cv_P 90 := fun _ _ => ⟨_, rfl, _, rfl, rfl⟩
theorem cv_91 : cv_P 91 := fun _ _ => ⟨_, rfl, _, rfl, rfl⟩
theorem cv_92 : cv_P 92 := fun _ _ => ⟨_, rfl, _, rfl, rfl⟩
theorem cv_93 : cv_P 93 := fun _ _ => ⟨_, rfl, _, rfl, rfl⟩
theorem cv_94 : cv_P 94 := fun _ _ => ⟨_, rfl, _, rfl, rfl⟩
theorem cv_95 : cv_P 95 := fun _ _ => ⟨_, rfl, _, rfl, rfl⟩
theorem cv_96 : cv_P 96 := fun _ _ => ⟨_, rfl, _, rfl, rfl⟩
theorem cv_97 : cv_P 97 := fun _ _ => ⟨_, rfl, _, rfl, rfl⟩
theorem cv_98 : cv_P 98 := fun _ _ => ⟨_, rfl, _, rfl, rfl⟩
theorem cv_99 : cv_P 99 := fun _ _ => ⟨_, rfl, _, rfl, rfl⟩
theorem cv_100 : cv_P 100 := fun _ _ => ⟨_, rfl, _, rfl, rfl⟩
theorem cv_101 : cv_P 101 := fun _ _ => ⟨_, rfl, _, rfl, rfl⟩
theorem cv_102 : cv_P 102 := fun _ _ => ⟨_, rfl, _, rfl, rfl⟩
theorem cv_103 : cv_P 103 := fun _ _ => ⟨_, rfl, _, rfl, rfl⟩
theorem cv_104 : cv_P 104 := fun _ _ => ⟨_, rfl, _, rfl, rfl⟩
theorem cv_105 : cv_P 105 := fun _ _ => ⟨_, rfl, _, rfl, rfl⟩
theorem cv_106 : cv_P 106 := fun _ _ => ⟨_, rfl, _, rfl, rfl⟩
theorem cv_107 : cv_P 107 := fun _ _ => ⟨_, rfl, _, rfl, rfl⟩
theorem cv_108 : cv_P 108 := fun _ _ => ⟨_, rfl, _, rfl, rfl⟩
theorem cv_109 : cv_P 109 := fun _ _ => ⟨_, rfl, _, rfl, rfl⟩
theorem cv_110 : cv_P 110 := fun _ _ => ⟨_, rfl, _, rfl, rfl⟩
theorem cv_111 : cv_P 111 := fun _ _ => ⟨_, rfl, _, rfl, rfl⟩
theorem cv_112 : cv_P 112 := fun _ _ => ⟨_, rfl, _, rfl, rfl⟩
theorem cv_113 : cv_P 113 := fun _ _ => ⟨_, rfl, _, rfl, rfl⟩
theorem cv_114 : cv_P 114 := fun _ _ => ⟨_, rfl, _, rfl, rfl⟩
theorem cv_115 : cv_P 115 := fun _ _ => ⟨_, rfl, _, rfl, rfl⟩
theorem cv_116 : cv_P 116 := fun _ _ => ⟨_, rfl, _, rfl, rfl⟩
theorem cv_117 : cv_P 117 := fun _ _ => ⟨_, rfl, _, rfl, rfl⟩
theorem cv_118 : cv_P 118 := fun _ _ => ⟨_, rfl, _, rfl, rfl⟩
theorem cv_119 : cv_P 119 := fun _ _ => ⟨_, rfl, _, rfl, rfl⟩
theorem cv_120 : cv_P 120 := fun _ _ => ⟨_, rfl, _, rfl, rfl⟩
theorem cv_121 : cv_P 121 := fun _ _ => ⟨_, rfl, _, rfl, rfl⟩
theorem cv_all : ∀ k ∈ List.range 122, cv_P k := by
  show ∀ k ∈ [0, 1, 2, 3, 4, 5, 6, 7, 8, 9, 10, 11, 12, 13, 14, 15, 16, 17, 18, 19, 20, 21, 22, 23, 24, 25, 26, 27, 28, 29, 30, 31, 32, 33, 34, 35, 36, 37, 38, 39, 40, 41, 42, 43, 44, 45, 46, 47, 48, 49, 50, 51, 52, 53, 54, 55, 56, 57, 58, 59, 60, 61, 62, 63, 64, 65, 66, 67, 68, 69, 70, 71, 72, 73, 74, 75, 76, 77, 78, 79, 80, 81, 82, 83, 84, 85, 86, 87, 88, 89, 90, 91, 92, 93, 94, 95, 96, 97, 98, 99, 100, 101, 102, 103, 104, 105, 106, 107, 108, 109, 110, 111, 112, 113, 114, 115, 116, 117, 118, 119, 120, 121], cv_P k
  exact List.forall_mem_cons.mpr ⟨cv_0, List.forall_mem_cons.mpr ⟨cv_1, List.forall_mem_cons.mpr ⟨cv_2, List.forall_mem_cons.mpr ⟨cv_3, List.forall_mem_cons.mpr ⟨cv_4, List.forall_mem_cons.mpr ⟨cv_5, List.forall_mem_cons.mpr ⟨cv_6, List.forall_mem_cons.mpr ⟨cv_7, List.forall_mem_cons.mpr ⟨cv_8, List.forall_mem_cons.mpr ⟨cv_9, List.forall_mem_cons.mpr ⟨cv_10, List.forall_mem_cons.mpr ⟨cv_11, List.forall_mem_cons.mpr ⟨cv_12, List.forall_mem_cons.mpr ⟨cv_13, List.forall_mem_cons.mpr ⟨cv_14, List.forall_mem_cons.mpr ⟨cv_15, List.forall_mem_cons.mpr ⟨cv_16, List.forall_mem_cons.mpr ⟨cv_17, List.forall_mem_cons.mpr ⟨cv_18, List.forall_mem_cons.mpr ⟨cv_19, List.forall_mem_cons.mpr ⟨cv_20, List.forall_mem_cons.mpr ⟨cv_21, List.forall_mem_cons.mpr ⟨cv_22, List.forall_mem_cons.mpr ⟨cv_23, List.forall_mem_cons.mpr ⟨cv_24, List.forall_mem_cons.mpr ⟨cv_25, List.forall_mem_cons.mpr ⟨cv_26, List.forall_mem_cons.mpr ⟨cv_27, List.forall_mem_cons.mpr ⟨cv_28, List.forall_mem_cons.mpr ⟨cv_29, List.forall_mem_cons.mpr ⟨cv_30, List.forall_mem_cons.mpr ⟨cv_31, List.forall_mem_cons.mpr ⟨cv_32, List.forall_mem_cons.mpr ⟨cv_33, List.forall_mem_cons.mpr ⟨cv_34, List.forall_mem_cons.mpr ⟨cv_35, List.forall_mem_cons.mpr ⟨cv_36, List.forall_mem_cons.mpr ⟨cv_37, List.forall_mem_cons.mpr ⟨cv_38, List.forall_mem_cons.mpr ⟨cv_39, List.forall_mem_cons.mpr ⟨cv_40, List.forall_mem_cons.mpr ⟨cv_41, List.forall_mem_cons.mpr ⟨cv_42, List.forall_mem_cons.mpr ⟨cv_43, List.forall_mem_cons.mpr ⟨cv_44, List.forall_mem_cons.mpr ⟨cv_45, List.forall_mem_cons.mpr ⟨cv_46, List.forall_mem_cons.mpr ⟨cv_47, List.forall_mem_cons.mpr ⟨cv_48, List.forall_mem_cons.mpr ⟨cv_49, List.forall_mem_cons.mpr ⟨cv_50, List.forall_mem_cons.mpr ⟨cv_51, List.forall_mem_cons.mpr ⟨cv_52, List.forall_mem_cons.mpr ⟨cv_53, List.forall_mem_cons.mpr ⟨cv_54, List.forall_mem_cons.mpr ⟨cv_55, List.forall_mem_cons.mpr ⟨cv_56, List.forall_mem_cons.mpr ⟨cv_57, List.forall_mem_cons.mpr ⟨cv_58, List.forall_mem_cons.mpr ⟨cv_59, List.forall_mem_cons.mpr ⟨cv_60, List.forall_mem_cons.mpr ⟨cv_61, List.forall_mem_cons.mpr ⟨cv_62, List.forall_mem_cons.mpr ⟨cv_63, List.forall_mem_cons.mpr ⟨cv_64, List.forall_mem_cons.mpr ⟨cv_65, List.forall_mem_cons.mpr ⟨cv_66, List.forall_mem_cons.mpr ⟨cv_67, List.forall_mem_cons.mpr ⟨cv_68, List.forall_mem_cons.mpr ⟨cv_69, List.forall_mem_cons.mpr ⟨cv_70, List.forall_mem_cons.mpr ⟨cv_71, List.forall_mem_cons.mpr ⟨cv_72, List.forall_mem_cons.mpr ⟨cv_73, List.forall_mem_cons.mpr ⟨cv_74, List.forall_mem_cons.mpr ⟨cv_75, List.forall_mem_cons.mpr ⟨cv_76, List.forall_mem_cons.mpr ⟨cv_77, List.forall_mem_cons.mpr ⟨cv_78, List.forall_mem_cons.mpr ⟨cv_79, List.forall_mem_cons.mpr ⟨cv_80, List.forall_mem_cons.mpr ⟨cv_81, List.forall_mem_cons.mpr ⟨cv_82, List.forall_mem_cons.mpr ⟨cv_83, List.forall_mem_cons.mpr ⟨cv_84, List.forall_mem_cons.mpr ⟨cv_85, List.forall_mem_cons.mpr ⟨cv_86, List.forall_mem_cons.mpr ⟨cv_87, List.forall_mem_cons.mpr ⟨cv_88, List.forall_mem_cons.mpr ⟨cv_89, List.forall_mem_cons.mpr ⟨cv_90, List.forall_mem_cons.mpr ⟨cv_91, List.forall_mem_cons.mpr ⟨cv_92, List.forall_mem_cons.mpr ⟨cv_93, List.forall_mem_cons.mpr ⟨cv_94, List.forall_mem_cons.mpr ⟨cv_95, List.forall_mem_cons.mpr ⟨cv_96, List.forall_mem_cons.mpr ⟨cv_97, List.forall_mem_cons.mpr ⟨cv_98, List.forall_mem_cons.mpr ⟨cv_99, List.forall_mem_cons.mpr ⟨cv_100, List.forall_mem_cons.mpr ⟨cv_101, List.forall_mem_cons.mpr ⟨cv_102, List.forall_mem_cons.mpr ⟨cv_103, List.forall_mem_cons.mpr ⟨cv_104, List.forall_mem_cons.mpr ⟨cv_105, List.forall_mem_cons.mpr ⟨cv_106, List.forall_mem_cons.mpr ⟨cv_107, List.forall_mem_cons.mpr ⟨cv_108, List.forall_mem_cons.mpr ⟨cv_109, List.forall_mem_cons.mpr ⟨cv_110, List.forall_mem_cons.mpr ⟨cv_111, List.forall_mem_cons.mpr ⟨cv_112, List.forall_mem_cons.mpr ⟨cv_113, List.forall_mem_cons.mpr ⟨cv_114, List.forall_mem_cons.mpr ⟨cv_115, List.forall_mem_cons.mpr ⟨cv_116, List.forall_mem_cons.mpr ⟨cv_117, List.forall_mem_cons.mpr ⟨cv_118, List.forall_mem_cons.mpr ⟨cv_119, List.forall_mem_cons.mpr ⟨cv_120, List.forall_mem_cons.mpr ⟨cv_121, fun _ h => absurd h List.not_mem_nil⟩⟩⟩⟩⟩⟩⟩⟩⟩⟩⟩⟩⟩⟩⟩⟩⟩⟩⟩⟩⟩⟩⟩⟩⟩⟩⟩⟩⟩⟩⟩⟩⟩⟩⟩⟩⟩⟩⟩⟩⟩⟩⟩⟩⟩⟩⟩⟩⟩⟩⟩⟩⟩⟩⟩⟩⟩⟩⟩⟩⟩⟩⟩⟩⟩⟩⟩⟩⟩⟩⟩⟩⟩⟩⟩⟩⟩⟩⟩⟩⟩⟩⟩⟩⟩⟩⟩⟩⟩⟩⟩⟩⟩⟩⟩⟩⟩⟩⟩⟩⟩⟩⟩⟩⟩⟩⟩⟩⟩⟩⟩⟩⟩⟩⟩⟩⟩⟩⟩⟩⟩⟩
theorem cv_world {D : va_G} {dA : Nat → ClassId} {φ : Nat → Nat} {H : Heap} {A : Nat → Prop} {z : Nat} (hP : va_P D am_cl (al_ws dA φ wlaw) H) (hD : va_D A (al_ws dA φ wlaw)) (hA : A = fun q => z ≤ q) : am_P D dA z (cv_φ φ) SH s0_ H := by
  have key : ∀ (k : Nat) (q : Nat × va_E), (am_ws dA (cv_φ φ) s0_ SH)[k]? = some q → k < 122 ∧ (al_ws dA φ wlaw)[cv_ρ k]? = some q := by
    intro k q hq
    have hk : k < 122 := by
      have h := (List.getElem?_eq_some_iff.mp hq).1
      unfold am_ws at h
      rw [List.length_mapIdx] at h
      exact h
    obtain ⟨y, hy, x, hx, hE⟩ := cv_all k (List.mem_range.mpr hk) dA φ
    rw [am_ws_get hx] at hq
    have e : cv_φ φ k = φ (cv_ρ k) := by
      unfold cv_φ cv_ρ
      by_cases h : k < 21
      · rw [if_pos h, if_pos h]
      · rw [if_neg h, if_neg h, if_pos hk]
    refine ⟨hk, ?_⟩
    rw [al_ws_get hy, ← hE, ← e]
    exact hq
  subst hA
  refine ⟨fun k q hq => hP _ q (key k q hq).2, fun i j p q hi hj hpq => ?_, fun k q hq => hD.2 _ q (key k q hq).2⟩
  have h := hD.1 _ _ p q (key i p hi).2 (key j q hj).2 hpq
  have h1 := (key i p hi).1
  have h2 := (key j q hj).1
  unfold cv_ρ at h
  by_cases a : i < 21
  · rw [if_pos a] at h
    by_cases b : j < 21
    · rw [if_pos b] at h; omega
    · rw [if_neg b] at h; omega
  · rw [if_neg a] at h
    by_cases b : j < 21
    · rw [if_pos b] at h; omega
    · rw [if_neg b] at h; omega
