/-! answers 'some', and of what it answers P holds -/
def Ok {α : Type} (P : α → Prop) (o : Option α) : Prop := ∃ a, o = some a ∧ P a
theorem ok_some {α : Type} {P : α → Prop} {a : α} (h : P a) : Ok P (some a) := ⟨a, rfl, h⟩
theorem ok_mono {α : Type} {P Q : α → Prop} {o : Option α} (h : Ok P o) (hq : ∀ a, P a → Q a) : Ok Q o := by
  obtain ⟨a, e, hp⟩ := h
  exact ⟨a, e, hq a hp⟩
theorem ok_and {α : Type} {P Q : α → Prop} {o : Option α} (h : Ok P o) (hq : Ok Q o) : Ok (fun a => P a ∧ Q a) o := by
  obtain ⟨a, e, hp⟩ := h
  obtain ⟨b, e2, hp2⟩ := hq
  rw [e] at e2
  cases e2
  exact ⟨a, e, hp, hp2⟩
theorem ok_lt {α β : Type} {P : β → Prop} {e : α} {k : α → Option β} (h : ∀ x, x = e → Ok P (k x)) : Ok P (lt e k) := h e rfl
theorem ok_ite {α : Type} {P : α → Prop} {c : Prop} {_ : Decidable c} {a b : Option α} (h1 : c → Ok P a) (h2 : ¬ c → Ok P b) : Ok P (if c then a else b) := by
  by_cases h : c
  · rw [if_pos h]; exact h1 h
  · rw [if_neg h]; exact h2 h
theorem cl_i {i : Int32} (h : 0 ≤ i.toInt) : (i.toNatClampNeg : Int) = i.toInt := by
  rw [← Int32.toNat_toInt]
  omega
theorem vin_i {i : Int32} {n : Nat} (h1 : 0 ≤ i.toInt) (h2 : i.toInt < n) : vp_in i n := by
  intro hh
  rcases hh with h | h
  · rw [Int32.lt_iff_toInt_lt] at h
    have : (0 : Int32).toInt = 0 := by decide
    omega
  · have := cl_i h1
    omega
theorem ok_gin {α : Type} {P : α → Prop} {i : Int32} {n : Nat} {x : Option α} (h1 : 0 ≤ i.toInt) (h2 : i.toInt < n) (h : Ok P x) : Ok P (gin i n x) := by
  rw [gin_in (vin_i h1 h2)]
  exact h
theorem ok_ginL {α : Type} {P : α → Prop} {i y : Int32} {x : Option α} (h1 : 0 ≤ i.toInt) (h2 : i.toInt < y.toInt) (h : Ok P x) : Ok P (gin i y.toNatClampNeg x) :=
  ok_gin h1 (by have := cl_i (i := y) (by omega); omega) h
theorem ok_gz {α : Type} {P : α → Prop} {v : Int32} {x : Option α} (h1 : 0 ≤ v.toInt) (h2 : v.toInt ≤ 1) (h : Ok P x) : Ok P (gz v x) := by
  have : v = 0 ∨ v = 1 := by
    rcases (show v.toInt = 0 ∨ v.toInt = 1 by omega) with h | h
    · exact Or.inl (Int32.toInt_inj.mp (by rw [h]; decide))
    · exact Or.inr (Int32.toInt_inj.mp (by rw [h]; decide))
  unfold gz
  rw [if_pos (by rcases this with h | h <;> rw [h] <;> decide)]
  exact h
theorem ok_gne {α : Type} {P : α → Prop} {v : Int32} {x : Option α} (h1 : v.toInt ≠ 0) (h : Ok P x) : Ok P (gne v x) := by
  unfold gne
  rw [if_neg (fun e => h1 (by rw [e]; decide))]
  exact h
theorem ok_gnw {α : Type} {P : α → Prop} {v : Int32} {x : Option α} (h1 : 0 ≤ v.toInt) (h2 : v.toInt ≤ 4096) (h : Ok P x) : Ok P (gnw v x) := by
  unfold gnw
  rw [if_neg]
  · exact h
  · intro hh
    rcases hh with h | h
    · rw [Int32.lt_iff_toInt_lt] at h
      have : (0 : Int32).toInt = 0 := by decide
      omega
    · have := cl_i h1
      omega
theorem ok_bnd1 {α β : Type} {P : β → Prop} {Q : α → Prop} {o : Option α} {k : α → Option β} (h : Ok Q o) (h2 : ∀ a, Q a → Ok P (k a)) : Ok P (bnd1 o k) := by
  obtain ⟨a, e, hq⟩ := h
  rw [e]
  exact h2 a hq
theorem ok_bnd2 {α γ β : Type} {P : β → Prop} {Q : α × γ → Prop} {o : Option (α × γ)} {k : α → γ → Option β} (h : Ok Q o) (h2 : ∀ a b, Q (a, b) → Ok P (k a b)) : Ok P (bnd2 o k) := by
  obtain ⟨a, e, hq⟩ := h
  rw [e]
  exact h2 a.1 a.2 hq
theorem ok_bnd3 {α γ δ β : Type} {P : β → Prop} {Q : α × γ × δ → Prop} {o : Option (α × γ × δ)} {k : α → γ → δ → Option β} (h : Ok Q o) (h2 : ∀ a b c, Q (a, b, c) → Ok P (k a b c)) : Ok P (bnd3 o k) := by
  obtain ⟨a, e, hq⟩ := h
  rw [e]
  exact h2 a.1 a.2.1 a.2.2 hq
theorem ok_itr {σ ρ : Type} {P : ρ → Prop} {I : σ → Prop} {m : σ → Nat} (body : (σ → Option ρ) → σ → Option ρ) (hb : ∀ rec z, I z → (∀ z', I z' → m z' < m z → Ok P (rec z')) → Ok P (body rec z)) : ∀ n z, I z → m z < n → Ok P (itr body n z)
  | 0, _, _, h => absurd h (Nat.not_lt_zero _)
  | n + 1, z, hz, hm => hb (itr body n) z hz (fun z' hz' hm' => ok_itr body hb n z' hz' (by omega))
theorem fuel_is : fuel = 10000 := rfl
theorem ok_loop {σ ρ : Type} {P : ρ → Prop} {I : σ → Prop} {m : σ → Nat} (body : (σ → Option ρ) → σ → Option ρ) (hm : ∀ z, I z → m z < 10000) (hb : ∀ rec z, I z → (∀ z', I z' → m z' < m z → Ok P (rec z')) → Ok P (body rec z)) (z : σ) (hz : I z) : Ok P (loop body z) := by
  unfold loop
  exact ok_itr body hb fuel z hz (by rw [fuel_is]; exact hm z hz)
/-! ints -/
theorem lo32 (v : Int32) : -2147483648 ≤ v.toInt := v.le_toInt
theorem hi32 (v : Int32) : v.toInt ≤ 2147483647 := by have := v.toInt_lt; omega
theorem bm_i {n : Int} (h1 : -2147483648 ≤ n) (h2 : n ≤ 2147483647) : n.bmod (2 ^ 32) = n := by
  refine Int.bmod_eq_of_le ?_ ?_
  · show -(4294967296 / 2) ≤ n
    omega
  · show n < (4294967296 + 1) / 2
    omega
theorem add_i {a b : Int32} (h1 : -2147483648 ≤ a.toInt + b.toInt) (h2 : a.toInt + b.toInt ≤ 2147483647) : (a + b).toInt = a.toInt + b.toInt := by rw [Int32.toInt_add]; exact bm_i h1 h2
theorem sub_i {a b : Int32} (h1 : -2147483648 ≤ a.toInt - b.toInt) (h2 : a.toInt - b.toInt ≤ 2147483647) : (a - b).toInt = a.toInt - b.toInt := by rw [Int32.toInt_sub]; exact bm_i h1 h2
theorem mul_r {a b : Int32} (n : Int) (hb : b.toInt = n) (h1 : -2147483648 ≤ a.toInt * n) (h2 : a.toInt * n ≤ 2147483647) : (a * b).toInt = a.toInt * n := by rw [Int32.toInt_mul, hb]; exact bm_i h1 h2
theorem mul_l {a b : Int32} (n : Int) (ha : a.toInt = n) (h1 : -2147483648 ≤ n * b.toInt) (h2 : n * b.toInt ≤ 2147483647) : (a * b).toInt = n * b.toInt := by rw [Int32.toInt_mul, ha]; exact bm_i h1 h2
theorem add_c {a b : Int32} (n : Int) (hb : b.toInt = n) (h1 : -2147483648 ≤ a.toInt + n) (h2 : a.toInt + n ≤ 2147483647) : (a + b).toInt = a.toInt + n := by rw [Int32.toInt_add, hb]; exact bm_i h1 h2
theorem sub_c {a b : Int32} (n : Int) (hb : b.toInt = n) (h1 : -2147483648 ≤ a.toInt - n) (h2 : a.toInt - n ≤ 2147483647) : (a - b).toInt = a.toInt - n := by rw [Int32.toInt_sub, hb]; exact bm_i h1 h2
theorem div_i {a b : Int32} (n : Int) (hb : b.toInt = n) (hn : 0 < n) (h0 : 0 ≤ a.toInt) : (a / b).toInt = a.toInt / n := by
  rw [Int32.toInt_div_of_ne_right _ _ (fun e => ?_), hb, Int.tdiv_eq_ediv_of_nonneg h0]
  rw [e] at hb
  have : (-1 : Int32).toInt = -1 := by decide
  omega
theorem i_le {a b : Int32} : a ≤ b ↔ a.toInt ≤ b.toInt := Int32.le_iff_toInt_le
theorem i_lt {a b : Int32} : a < b ↔ a.toInt < b.toInt := Int32.lt_iff_toInt_lt
theorem i_nle {a b : Int32} : ¬ a ≤ b ↔ b.toInt < a.toInt := by rw [i_le]; omega
theorem i_nlt {a b : Int32} : ¬ a < b ↔ b.toInt ≤ a.toInt := by rw [i_lt]; omega
theorem i_eq {a b : Int32} : a = b ↔ a.toInt = b.toInt := Int32.toInt_inj.symm
theorem i_ne {a b : Int32} : ¬ a = b ↔ a.toInt ≠ b.toInt := by rw [i_eq]
theorem j_le {a b : Int64} : a ≤ b ↔ a.toInt ≤ b.toInt := Int64.le_iff_toInt_le
theorem j_lt {a b : Int64} : a < b ↔ a.toInt < b.toInt := Int64.lt_iff_toInt_lt
theorem j_nle {a b : Int64} : ¬ a ≤ b ↔ b.toInt < a.toInt := by rw [j_le]; omega
theorem j_nlt {a b : Int64} : ¬ a < b ↔ b.toInt ≤ a.toInt := by rw [j_lt]; omega
theorem j_eq {a b : Int64} : a = b ↔ a.toInt = b.toInt := Int64.toInt_inj.symm
theorem j_ne {a b : Int64} : ¬ a = b ↔ a.toInt ≠ b.toInt := by rw [j_eq]
theorem ite_lt {a b x y : Int32} : (a.toInt < b.toInt ∧ (if a < b then x else y).toInt = x.toInt) ∨ (b.toInt ≤ a.toInt ∧ (if a < b then x else y).toInt = y.toInt) := by
  by_cases h : a < b
  · rw [if_pos h]; exact Or.inl ⟨i_lt.mp h, rfl⟩
  · rw [if_neg h]; exact Or.inr ⟨i_nlt.mp h, rfl⟩
theorem ite_le {a b x y : Int32} : (a.toInt ≤ b.toInt ∧ (if a ≤ b then x else y).toInt = x.toInt) ∨ (b.toInt < a.toInt ∧ (if a ≤ b then x else y).toInt = y.toInt) := by
  by_cases h : a ≤ b
  · rw [if_pos h]; exact Or.inl ⟨i_le.mp h, rfl⟩
  · rw [if_neg h]; exact Or.inr ⟨i_nle.mp h, rfl⟩
theorem ite_eq {a b x y : Int32} : (a.toInt = b.toInt ∧ (if a = b then x else y).toInt = x.toInt) ∨ (a.toInt ≠ b.toInt ∧ (if a = b then x else y).toInt = y.toInt) := by
  by_cases h : a = b
  · rw [if_pos h]; exact Or.inl ⟨i_eq.mp h, rfl⟩
  · rw [if_neg h]; exact Or.inr ⟨i_ne.mp h, rfl⟩
theorem ofn_i {x : Int32} (h : 0 ≤ x.toInt) : (Int32.ofNat x.toNatClampNeg).toInt = x.toInt := by
  have h1 : x.toNatClampNeg < 2 ^ 31 := x.toNatClampNeg_lt
  rw [Int32.toInt_ofNat_of_lt h1]
  exact cl_i h
/-! bits -/
theorem nn_i {a : Int32} (h : 0 ≤ a.toInt) : a.toInt = (a.toBitVec.toNat : Int) := by
  have h1 : a.toInt = a.toBitVec.toInt := rfl
  rw [h1] at h ⊢
  rw [BitVec.toInt_eq_toNat_cond] at h ⊢
  split
  · rfl
  · rename_i hc
    rw [if_neg hc] at h
    have := a.toBitVec.isLt
    omega
theorem nn_of {a : Int32} (h : a.toBitVec.toNat < 2147483648) : a.toInt = (a.toBitVec.toNat : Int) := by
  have h1 : a.toInt = a.toBitVec.toInt := rfl
  rw [h1, BitVec.toInt_eq_toNat_cond, if_pos (by omega)]
theorem nat_and (a b : Int32) : (a &&& b).toBitVec.toNat = a.toBitVec.toNat &&& b.toBitVec.toNat := by rw [Int32.toBitVec_and, BitVec.toNat_and]
theorem nat_or (a b : Int32) : (a ||| b).toBitVec.toNat = a.toBitVec.toNat ||| b.toBitVec.toNat := by rw [Int32.toBitVec_or, BitVec.toNat_or]
theorem and_l {a b : Int32} (h : 0 ≤ a.toInt) : 0 ≤ (a &&& b).toInt ∧ (a &&& b).toInt ≤ a.toInt := by
  have h1 := nn_i h
  have h2 := hi32 a
  have h3 : (a &&& b).toBitVec.toNat ≤ a.toBitVec.toNat := by rw [nat_and]; exact Nat.and_le_left
  have h4 := nn_of (a := a &&& b) (by omega)
  omega
theorem and_r {a b : Int32} (h : 0 ≤ b.toInt) : 0 ≤ (a &&& b).toInt ∧ (a &&& b).toInt ≤ b.toInt := by
  have h1 := nn_i h
  have h2 := hi32 b
  have h3 : (a &&& b).toBitVec.toNat ≤ b.toBitVec.toNat := by rw [nat_and]; exact Nat.and_le_right
  have h4 := nn_of (a := a &&& b) (by omega)
  omega
theorem or_i {a b : Int32} (n : Nat) (N : Int) (hN : ((2 ^ n : Nat) : Int) = N) (hM : N ≤ 2147483648) (a0 : 0 ≤ a.toInt) (a1 : a.toInt < N) (b0 : 0 ≤ b.toInt) (b1 : b.toInt < N) : 0 ≤ (a ||| b).toInt ∧ (a ||| b).toInt < N := by
  have h1 := nn_i a0
  have h2 := nn_i b0
  have h3 : (a ||| b).toBitVec.toNat < 2 ^ n := by
    rw [nat_or]
    exact Nat.or_lt_two_pow (by omega) (by omega)
  have h4 := nn_of (a := a ||| b) (by omega)
  omega
theorem shl_all : ∀ n : Nat, n < 31 → ((1 : Int32) <<< (Int32.ofNat n &&& 31)).toInt = ((2 ^ n : Nat) : Int) := by decide +kernel
theorem of_i {v : Int32} (h : 0 ≤ v.toInt) : v = Int32.ofNat v.toInt.toNat := by
  have h2 := hi32 v
  refine Int32.toInt_inj.mp ?_
  rw [Int32.toInt_ofNat_of_lt (by omega)]
  omega
theorem shl_is {v : Int32} (h0 : 0 ≤ v.toInt) (h1 : v.toInt ≤ 30) : ((1 : Int32) <<< (v &&& 31)).toInt = ((2 ^ v.toInt.toNat : Nat) : Int) := by
  have := shl_all v.toInt.toNat (by omega)
  rw [← of_i h0] at this
  exact this
theorem shl_i {v : Int32} (k : Nat) (K : Int) (hK : ((2 ^ k : Nat) : Int) = K) (hk : k < 31) (h0 : 0 ≤ v.toInt) (h1 : v.toInt ≤ k) : 1 ≤ ((1 : Int32) <<< (v &&& 31)).toInt ∧ ((1 : Int32) <<< (v &&& 31)).toInt ≤ K := by
  rw [shl_is h0 (by omega)]
  have h2 : 2 ^ v.toInt.toNat ≤ 2 ^ k := Nat.pow_le_pow_right (by decide) (by omega)
  have h3 : 0 < 2 ^ v.toInt.toNat := Nat.pow_pos (by decide)
  omega
theorem shr_i {a v : Int32} (h : 0 ≤ a.toInt) : 0 ≤ (a >>> v).toInt ∧ (a >>> v).toInt ≤ a.toInt := by
  have h1 : (a >>> v).toInt = a.toInt >>> (v.toBitVec.smod 32).toNat := by
    show (a >>> v).toBitVec.toInt = _
    rw [Int32.toBitVec_shiftRight, BitVec.toInt_sshiftRight']
    rfl
  rw [h1, Int.shiftRight_eq_div_pow]
  constructor
  · exact Int.ediv_nonneg h (Int.natCast_nonneg _)
  · exact Int.ediv_le_self _ h
