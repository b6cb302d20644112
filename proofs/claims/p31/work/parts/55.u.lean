theorem bnd3_of {α γ δ β : Type} {P : β → Prop} {o : Option (α × γ × δ)} {k : α → γ → δ → Option β} {a : α} {b : γ} {c : δ} (h : o = some (a, b, c)) (h2 : Ok P (k a b c)) : Ok P (bnd3 o k) := by
  rw [h]
  exact h2
theorem bnd2_of {α γ β : Type} {P : β → Prop} {o : Option (α × γ)} {k : α → γ → Option β} {a : α} {b : γ} (h : o = some (a, b)) (h2 : Ok P (k a b)) : Ok P (bnd2 o k) := by
  rw [h]
  exact h2
theorem ix_add {c v : Int32} (n : Nat) (hc : c.toInt = n) (hn : n ≤ 2000) (h0 : 0 ≤ v.toInt) (h1 : v.toInt ≤ 2000) : (c + v).toNatClampNeg = n + v.toNatClampNeg ∧ (c + v).toInt = n + v.toInt := by
  have f := add_i (a := c) (b := v) (by omega) (by omega)
  have g := cl_i (i := c + v) (by omega)
  have g2 := cl_i h0
  constructor <;> omega
theorem ix_w {v1 v2 : Int32} (h0 : 0 ≤ v1.toInt) (h1 : v1.toInt ≤ 11) (h2 : 0 ≤ v2.toInt) (h3 : v2.toInt ≤ 12) : (((49 : Int32) + ((12 : Int32) * v1)) + v2).toNatClampNeg = 49 + 12 * v1.toNatClampNeg + v2.toNatClampNeg ∧ (((49 : Int32) + ((12 : Int32) * v1)) + v2).toInt = 49 + 12 * v1.toInt + v2.toInt := by
  have k49 : (49 : Int32).toInt = 49 := by decide
  have f1 := mul_l (a := (12 : Int32)) (b := v1) 12 (by decide) (by omega) (by omega)
  have f2 := add_i (a := (49 : Int32)) (b := (12 : Int32) * v1) (by omega) (by omega)
  have f3 := add_i (a := (49 : Int32) + (12 : Int32) * v1) (b := v2) (by omega) (by omega)
  have g := cl_i (i := ((49 : Int32) + ((12 : Int32) * v1)) + v2) (by omega)
  have g2 := cl_i h0
  have g3 := cl_i h2
  constructor <;> omega
theorem ix_c {v1 v2 : Int32} (h0 : 0 ≤ v1.toInt) (h1 : v1.toInt ≤ 11) (h2 : 0 ≤ v2.toInt) (h3 : v2.toInt ≤ 12) : ((v1 * (12 : Int32)) + v2).toNatClampNeg = 12 * v1.toNatClampNeg + v2.toNatClampNeg ∧ ((v1 * (12 : Int32)) + v2).toInt = 12 * v1.toInt + v2.toInt := by
  have f1 := mul_r (a := v1) (b := (12 : Int32)) 12 (by decide) (by omega) (by omega)
  have f3 := add_i (a := v1 * (12 : Int32)) (b := v2) (by omega) (by omega)
  have g := cl_i (i := v1 * (12 : Int32) + v2) (by omega)
  have g2 := cl_i h0
  have g3 := cl_i h2
  constructor <;> omega
theorem isIn1 {v0 v2 v4 : Int64} {sg : Sg} {lg : Lg} (h0 : v2.toInt ≤ v0.toInt) (h1 : v0.toInt ≤ v4.toInt) : fX12_isIn v0 v2 v4 sg lg = some (1, sg, lg) := by
  unfold fX12_isIn
  rw [if_neg (by rw [j_lt]; omega), if_neg (by rw [j_lt]; omega)]
theorem isIn0 {v0 v2 v4 : Int64} {sg : Sg} {lg : Lg} (h : ¬ (v2.toInt ≤ v0.toInt ∧ v0.toInt ≤ v4.toInt)) : fX12_isIn v0 v2 v4 sg lg = some (0, sg, lg) := by
  unfold fX12_isIn
  by_cases c : v0 < v2
  · rw [if_pos c]
  · rw [if_neg c, if_pos (by rw [j_lt]; rw [j_lt] at c; omega)]
theorem hens_is {sg : Sg} {lg : Lg} : fX12_hens sg lg = some (sg 1 0, sg, lg) := by
  unfold fX12_hens
  rw [gin_in (vin_i (by decide) (by decide))]
  rfl
theorem ite1 {α : Type} {a b : α} : (if (1 : Int32) = 0 then a else b) = b := if_neg (by decide)
theorem ite0 {α : Type} {a b : α} : (if (0 : Int32) = 0 then a else b) = a := if_pos rfl
theorem gz1 {α : Type} {x : Option α} : gz 1 x = x := if_pos (by decide)
theorem gz0 {α : Type} {x : Option α} : gz 0 x = x := if_pos (by decide)
theorem bnd3_s {α γ δ β : Type} {a : α} {b : γ} {c : δ} {k : α → γ → δ → Option β} : bnd3 (some (a, b, c)) k = k a b c := rfl
theorem bnd2_s {α γ β : Type} {a : α} {b : γ} {k : α → γ → Option β} : bnd2 (some (a, b)) k = k a b := rfl
theorem bnd1_s {α β : Type} {a : α} {k : α → Option β} : bnd1 (some a) k = k a := rfl
theorem isHen1 {v : Int32} {sg : Sg} {lg : Lg} (hs : SV (sg 1)) (h0 : 0 ≤ v.toInt) (h1 : v.toInt < (sg 1 0).toInt) : fX12_isHen v sg lg = some (1, sg, lg) := by
  unfold fX12_isHen
  rw [hens_is]
  have h2 := hs.1
  have h3 := hs.2.1
  have k0 : (0 : Int64).toInt = 0 := by decide
  have f := sub_c (a := sg 1 0) (b := (1 : Int32)) 1 (by decide) (by omega) (by omega)
  simp only [bnd3_s]
  rw [isIn1 (by rw [Int32.toInt_toInt64]; omega) (by rw [Int32.toInt_toInt64, Int32.toInt_toInt64]; omega)]
  rw [bnd3_s]
  exact gz1
theorem isHen0 {v : Int32} {sg : Sg} {lg : Lg} (hs : SV (sg 1)) (h : ¬ (0 ≤ v.toInt ∧ v.toInt < (sg 1 0).toInt)) : fX12_isHen v sg lg = some (0, sg, lg) := by
  unfold fX12_isHen
  rw [hens_is]
  have h2 := hs.1
  have h3 := hs.2.1
  have k0 : (0 : Int64).toInt = 0 := by decide
  have f := sub_c (a := sg 1 0) (b := (1 : Int32)) 1 (by decide) (by omega) (by omega)
  simp only [bnd3_s]
  rw [isIn0 (by rw [Int32.toInt_toInt64, Int32.toInt_toInt64]; omega)]
  rw [bnd3_s]
  exact gz0
theorem kind_is {v1 : Int32} {sg : Sg} {lg : Lg} (h0 : 0 ≤ v1.toInt) (h1 : v1.toInt ≤ 11) : fX12_kind v1 sg lg = some (sg 1 (1 + v1.toNatClampNeg), sg, lg) := by
  have i := ix_add (c := (1 : Int32)) (v := v1) 1 (by decide) (by decide) h0 (by omega)
  unfold fX12_kind
  rw [show lt ((1 : Int32) + v1) (fun x1 => gin x1 193 (some ((sg 1 x1.toNatClampNeg), sg, lg))) = gin ((1 : Int32) + v1) 193 (some ((sg 1 ((1 : Int32) + v1).toNatClampNeg), sg, lg)) from rfl, gin_in (vin_i (by omega) (by omega)), i.1]
theorem width_is {v1 : Int32} {sg : Sg} {lg : Lg} (h0 : 0 ≤ v1.toInt) (h1 : v1.toInt ≤ 11) : fX12_width v1 sg lg = some (sg 1 (37 + v1.toNatClampNeg), sg, lg) := by
  have i := ix_add (c := (37 : Int32)) (v := v1) 37 (by decide) (by decide) h0 (by omega)
  unfold fX12_width
  rw [show lt ((37 : Int32) + v1) (fun x1 => gin x1 193 (some ((sg 1 x1.toNatClampNeg), sg, lg))) = gin ((37 : Int32) + v1) 193 (some ((sg 1 ((37 : Int32) + v1).toNatClampNeg), sg, lg)) from rfl, gin_in (vin_i (by omega) (by omega)), i.1]
theorem peckOf_is {v1 v2 : Int32} {sg : Sg} {lg : Lg} (h0 : 0 ≤ v1.toInt) (h1 : v1.toInt ≤ 11) (h2 : 0 ≤ v2.toInt) (h3 : v2.toInt ≤ 11) : fX12_peckOf v1 v2 sg lg = some (sg 1 (49 + 12 * v1.toNatClampNeg + v2.toNatClampNeg), sg, lg) := by
  have i := ix_w (v1 := v1) (v2 := v2) h0 h1 h2 (by omega)
  unfold fX12_peckOf
  rw [show lt (((49 : Int32) + ((12 : Int32) * v1)) + v2) (fun x1 => gin x1 193 (some ((sg 1 x1.toNatClampNeg), sg, lg))) = gin (((49 : Int32) + ((12 : Int32) * v1)) + v2) 193 (some ((sg 1 (((49 : Int32) + ((12 : Int32) * v1)) + v2).toNatClampNeg), sg, lg)) from rfl, gin_in (vin_i (by omega) (by omega)), i.1]
theorem counts_is {sm : Sg} {lm : Lg} {a : Int32} (sv : SV (sm 1)) (h0 : 0 ≤ a.toInt) (h1 : a.toInt < (sm 1 0).toInt) : fX12_counts a sm lm = some (if sm 1 (1 + a.toNatClampNeg) = 4 ∧ ¬ sm 1 (25 + a.toNatClampNeg) = 1 then 0 else 1, sm, lm) := by
  have h2 := sv.2.1
  have i25 := ix_add (c := (25 : Int32)) (v := a) 25 (by decide) (by decide) h0 (by omega)
  unfold fX12_counts
  rw [isHen1 sv h0 h1, bnd3_s, ite1, kind_is h0 (by omega), bnd3_s]
  by_cases c : sm 1 (1 + a.toNatClampNeg) = 4
  · rw [if_pos c]
    show gin ((25 : Int32) + a) 193 (if sm 1 ((25 : Int32) + a).toNatClampNeg = (1 : Int32) then some ((1 : Int32), sm, lm) else some ((0 : Int32), sm, lm)) = _
    rw [gin_in (vin_i (by omega) (by omega)), i25.1]
    by_cases d : sm 1 (25 + a.toNatClampNeg) = 1
    · rw [if_pos d, if_neg (fun z => z.2 d)]
    · rw [if_neg d, if_pos ⟨c, d⟩]
  · rw [if_neg c, if_neg (fun z => c z.1)]
theorem cts1 {sm : Sg} {lm : Lg} {a : Int32} (sv : SV (sm 1)) (h : mcnt (sm 1) a) : fX12_counts a sm lm = some (1, sm, lm) := by
  rw [counts_is sv h.1 h.2.1, if_neg h.2.2]
theorem cts0 {sm : Sg} {lm : Lg} {a : Int32} (sv : SV (sm 1)) (h : ¬ mcnt (sm 1) a) : fX12_counts a sm lm = some (0, sm, lm) := by
  by_cases c : 0 ≤ a.toInt ∧ a.toInt < (sm 1 0).toInt
  · rw [counts_is sv c.1 c.2, if_pos (Decidable.byContradiction fun z => h ⟨c.1, c.2, z⟩)]
  · unfold fX12_counts
    rw [isHen0 sv c, bnd3_s, ite0]
theorem isOne_dg {sg : Sg} {lg : Lg} {v : Int32} (h0 : 0 ≤ v.toInt) (h1 : v.toInt ≤ 11) (hd : dg sg 12) : fX12_isOne v v sg lg = some (1, sg, lg) := by
  have c := cl_i h0
  have f1 := mul_l (a := (12 : Int32)) (b := v) 12 (by decide) (by omega) (by omega)
  have f2 := add_i (a := (12 : Int32) * v) (b := v) (by omega) (by omega)
  have g := cl_i (i := (12 : Int32) * v + v) (by omega)
  have e : ((12 : Int32) * v + v).toNatClampNeg = 13 * v.toNatClampNeg := by omega
  have d := hd v.toNatClampNeg (by omega) (by omega)
  have n : ¬ (sg 8 ((12 : Int32) * v + v).toNatClampNeg) = 0 := by
    rw [e]
    intro z
    rw [z] at d
    exact absurd d (by decide)
  unfold fX12_isOne
  show gin ((12 : Int32) * v + v) 144 _ = _
  rw [gin_in (vin_i (by omega) (by omega)), if_neg n]
  show gin ((12 : Int32) * v + v) 144 _ = _
  rw [gin_in (vin_i (by omega) (by omega)), if_neg n]
