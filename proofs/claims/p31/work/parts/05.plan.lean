def scLC : List (Nat × List (Option Nat)) := [(16, [some 1, some 2, some 3, some 4, some 5, some 6, some 7, some 8, some 9]), (7, [none, none, some 11, some 12, some 13, some 14, some 15]), (6, [none, none, some 16]), (13, [some 1, none, none, some 17, some 18, some 19, some 20, some 21, some 22, some 23]), (14, [some 3, some 10, none, none, none, none, some 63, some 64, some 65, some 66, some 24]), (10, [none, some 31]), (12, [some 3, some 32, some 33, some 34]), (8, [some 3, none, none, some 35, some 36]), (15, [some 3, none, some 37, some 38, some 39, some 40, some 41, some 42, some 43, some 44]), (11, [some 3, some 45, some 46]), (9, [some 3, none, some 25, some 26, some 27, some 28, some 29, some 30]), (0, []), (0, []), (0, []), (0, []), (0, []), (4, []), (0, []), (0, []), (0, []), (0, []), (0, []), (0, []), (0, []), (0, []), (0, []), (0, []), (0, []), (0, []), (0, []), (0, []), (0, []), (0, []), (0, []), (0, []), (0, []), (0, []), (0, []), (0, []), (0, []), (0, []), (0, []), (0, []), (0, []), (0, []), (0, []), (0, []), (5, [none, none, none, none, none, some 55]), (5, [none, none, none, none, none, some 56]), (5, [none, none, none, none, none, some 57]), (5, [none, none, none, none, none, some 58]), (5, [none, none, none, none, none, some 59]), (5, [none, none, none, none, none, some 60]), (5, [none, none, none, none, none, some 61]), (5, [none, none, none, none, none, some 62]), (0, []), (0, []), (0, []), (0, []), (0, []), (0, []), (0, []), (0, []), (0, []), (0, []), (0, []), (1, [])]
def lnLC : List Nat := [0, 0, 0, 0, 0, 0, 0, 0, 0, 0, 0, 12, 12, 12, 12, 144, 8, 12, 12, 12, 12, 12, 12, 144, 12, 768, 768, 64, 64, 64, 64, 12, 12, 12, 12, 12, 12, 132, 132, 1584, 144, 12, 12, 12, 12, 12, 12, 0, 0, 0, 0, 0, 0, 0, 0, 12, 12, 12, 12, 12, 12, 12, 12]
def scC (k : Nat) : Nat × List (Option Nat) := scLC.getD k (0, [])
def lfC (sg : Sg) (k : Nat) : Nat := cond (Nat.blt k 63) (lnLC.getD k 0) (sg 99 k).toNatClampNeg
def ZC : Zt := (67, 47, scC, lfC)
def scLM : List (Nat × List (Option Nat)) := [(17, [some 1, some 2, none, some 3, none, some 4, some 5, none, none, none, some 6, some 7, some 8, some 9, some 10, some 11, some 12, none]), (0, []), (0, []), (0, []), (3, []), (3, []), (2, []), (0, []), (2, []), (0, []), (0, []), (0, []), (3, [])]
def lnLM : List Nat := [0, 193, 1544, 12, 53248, 53248, 144, 12, 144, 12, 144, 12, 1960]
def ZM : Zt := (13, 0, (fun k => scLM.getD k (0, [])), (fun _ k => lnLM.getD k 0))
theorem ZC_ok : Zok ZC := by
  intro sg k i v j hk
  have hk : k < 67 := hk
  show cond (Nat.blt j 63) (lnLC.getD j 0) (up2 sg k i v 99 j).toNatClampNeg = cond (Nat.blt j 63) (lnLC.getD j 0) (sg 99 j).toNatClampNeg
  rw [up2_n (show (99 : Nat) ≠ k by omega)]
theorem ZC_okC : ZokC ZC := by
  intro sg k1 k2 sp dp n j hk
  have hk : k2 < 67 := hk
  show cond (Nat.blt j 63) (lnLC.getD j 0) (cp2 sg k1 k2 sp dp n 99 j).toNatClampNeg = cond (Nat.blt j 63) (lnLC.getD j 0) (sg 99 j).toNatClampNeg
  rw [cp2_n (show (99 : Nat) ≠ k2 by omega)]
theorem ZM_ok : Zok ZM := fun _ _ _ _ _ _ => rfl
def tysC (T : Nat → ClassId) : List (ClassId × FieldType) := [(T 0, .int), (T 1, .byte), (T 4, .object "PeckYard$Change")]
def tysM (T : Nat → ClassId) : List (ClassId × FieldType) := [(T 0, .int), (T 2, .boolean), (T 3, .long)]
/-- addresses: a of those that stay, g of the rows that grow -/
def adr (a g : Nat → Nat) (k : Nat) : Nat := cond (Nat.blt k 63) (a k) (g k)
theorem zH_n {j : Nat} (h : j < 8) : 47 + j < ZC.1 := by show 47 + j < 67; omega
theorem zR_n {j : Nat} (h : j < 8) : 55 + j < ZC.1 := by show 55 + j < 67; omega
theorem lt8 {P : Nat → Prop} (h0 : P 0) (h1 : P 1) (h2 : P 2) (h3 : P 3) (h4 : P 4) (h5 : P 5) (h6 : P 6) (h7 : P 7) {j : Nat} (h : j < 8) : P j := by
  rcases (show j = 0 ∨ j = 1 ∨ j = 2 ∨ j = 3 ∨ j = 4 ∨ j = 5 ∨ j = 6 ∨ j = 7 by omega) with rfl | rfl | rfl | rfl | rfl | rfl | rfl | rfl <;> assumption
theorem zH_s {j : Nat} (h : j < 8) : ZC.2.2.1 (47 + j) = (0 + 5, [none, none, none, none, none, some (55 + j)]) := lt8 (P := fun j => ZC.2.2.1 (47 + j) = (0 + 5, [none, none, none, none, none, some (55 + j)])) rfl rfl rfl rfl rfl rfl rfl rfl h
theorem zR_s {j : Nat} (h : j < 8) : (ZC.2.2.1 (55 + j)).1 = 0 := lt8 (P := fun j => (ZC.2.2.1 (55 + j)).1 = 0) rfl rfl rfl rfl rfl rfl rfl rfl h
theorem zR_l (sg : Sg) {j : Nat} (h : j < 8) : ZC.2.2.2 sg (55 + j) = 12 := lt8 (P := fun j => ZC.2.2.2 sg (55 + j) = 12) rfl rfl rfl rfl rfl rfl rfl rfl h
theorem vin_lt {i : Int32} {n : Nat} (h : vp_in i n) : i.toNatClampNeg < n := Nat.not_le.mp fun q => h (Or.inr q)
def nwL : List Cond := [.fieldLinkNest RX2 40 "PeckYard" "MOST_OF_WIDTH" "[I" "PeckYard", .methodLinkNest RX11 9 yX2_init "PeckYard", .methodLinkNest RX11 43 yX5_init "PeckYard", .methodLinkNest RX1 17 yX0_init "PeckYard", .methodLinkNest RX3 49 yX11_isIn "PeckYard", .methodLinkNest RX6 46 yX11_isIn "PeckYard", .methodLinkNest RX7 79 yX11_shift "PeckYard", .methodLinkNest RX9 85 yX11_isIn "PeckYard", .methodLinkNest RX10 87 yX11_isIn "PeckYard"]
theorem nw_f : Cond.fieldLinkNest RX2 40 "PeckYard" "MOST_OF_WIDTH" "[I" "PeckYard" ∈ nwL := List.mem_of_getElem? (i := 0) rfl
theorem nw_X11_9 : Cond.methodLinkNest RX11 9 yX2_init "PeckYard" ∈ nwL := List.mem_of_getElem? (i := 1) rfl
theorem nw_X11_43 : Cond.methodLinkNest RX11 43 yX5_init "PeckYard" ∈ nwL := List.mem_of_getElem? (i := 2) rfl
theorem nw_X1_17 : Cond.methodLinkNest RX1 17 yX0_init "PeckYard" ∈ nwL := List.mem_of_getElem? (i := 3) rfl
theorem nw_X3_49 : Cond.methodLinkNest RX3 49 yX11_isIn "PeckYard" ∈ nwL := List.mem_of_getElem? (i := 4) rfl
theorem nw_X6_46 : Cond.methodLinkNest RX6 46 yX11_isIn "PeckYard" ∈ nwL := List.mem_of_getElem? (i := 5) rfl
theorem nw_X7_79 : Cond.methodLinkNest RX7 79 yX11_shift "PeckYard" ∈ nwL := List.mem_of_getElem? (i := 6) rfl
theorem nw_X9_85 : Cond.methodLinkNest RX9 85 yX11_isIn "PeckYard" ∈ nwL := List.mem_of_getElem? (i := 7) rfl
theorem nw_X10_87 : Cond.methodLinkNest RX10 87 yX11_isIn "PeckYard" ∈ nwL := List.mem_of_getElem? (i := 8) rfl
theorem nwL_nest : ∀ w ∈ nwL, NestW w := by
  intro w hw
  simp only [nwL, List.mem_cons, List.not_mem_nil, or_false] at hw
  rcases hw with rfl | rfl | rfl | rfl | rfl | rfl | rfl | rfl | rfl
  · exact Or.inr ⟨_, _, _, _, _, _, rfl⟩
  · exact Or.inl ⟨_, _, _, _, rfl⟩
  · exact Or.inl ⟨_, _, _, _, rfl⟩
  · exact Or.inl ⟨_, _, _, _, rfl⟩
  · exact Or.inl ⟨_, _, _, _, rfl⟩
  · exact Or.inl ⟨_, _, _, _, rfl⟩
  · exact Or.inl ⟨_, _, _, _, rfl⟩
  · exact Or.inl ⟨_, _, _, _, rfl⟩
  · exact Or.inl ⟨_, _, _, _, rfl⟩
