/-! the best orders of the reference: what fill lays, and that best ends -/
def cb (S : Nat → Int32) (a : Int32) : Bool := decide (0 ≤ a.toInt ∧ a.toInt < (S 0).toInt ∧ ¬ (S (1 + a.toNatClampNeg) = 4 ∧ ¬ S (25 + a.toNatClampNeg) = 1))
theorem counts_b {sg : Sg} {lg : Lg} {a : Int32} (sv : SV (sg 1)) : fX12_counts a sg lg = some (if cb (sg 1) a = true then 1 else 0, sg, lg) := by
  by_cases c : mcnt (sg 1) a
  · rw [cts1 sv c, if_pos (show cb (sg 1) a = true from decide_eq_true c)]
  · rw [cts0 sv c, if_neg (fun z => by simp only [cb, decide_eq_true_eq] at z; exact c z)]
theorem asks_m {v1 : Int32} {sg : Sg} {lg : Lg} (h0 : 0 ≤ v1.toInt) (h1 : v1.toInt ≤ 11) : fX12_asks v1 sg lg = some (sg 1 (13 + v1.toNatClampNeg), sg, lg) := by
  have i := ix_add (c := (13 : Int32)) (v := v1) 13 (by decide) (by decide) h0 (by omega)
  rw [asks_is h0 h1, i.1]
def ab (S : Nat → Int32) (a : Int32) : Int32 := if (1 ≤ (S (1 + a.toNatClampNeg)).toInt ∧ (S (1 + a.toNatClampNeg)).toInt ≤ 3) ∧ cb S a = true ∧ cb S (S (13 + a.toNatClampNeg)) = true then S (13 + a.toNatClampNeg) else -1
theorem askedBy_is {sg : Sg} {lg : Lg} {a : Int32} (sv : SV (sg 1)) (h0 : 0 ≤ a.toInt) (h1 : a.toInt ≤ 11) : fX12_askedBy a sg lg = some (ab (sg 1) a, sg, lg) := by
  have j1 : (1 : Int64).toInt = 1 := by decide
  have j3 : (3 : Int64).toInt = 3 := by decide
  unfold fX12_askedBy ab
  rw [kind_is h0 h1, bnd3_s]
  by_cases k : 1 ≤ (sg 1 (1 + a.toNatClampNeg)).toInt ∧ (sg 1 (1 + a.toNatClampNeg)).toInt ≤ 3
  · rw [isIn1 (by rw [Int32.toInt_toInt64]; omega) (by rw [Int32.toInt_toInt64]; omega), bnd3_s, ite1, counts_b sv, bnd3_s]
    by_cases c : cb (sg 1) a = true
    · rw [if_pos c, ite1, asks_m h0 h1, bnd3_s, counts_b sv, bnd3_s]
      by_cases d : cb (sg 1) (sg 1 (13 + a.toNatClampNeg)) = true
      · rw [if_pos d, ite1, asks_m h0 h1, bnd3_s, if_pos ⟨k, c, d⟩]
      · rw [if_neg d, ite0, if_neg (fun z => d z.2.2)]
    · rw [if_neg c, ite0, if_neg (fun z => c z.2.1)]
  · rw [isIn0 (by rw [Int32.toInt_toInt64]; omega), bnd3_s, ite0, if_neg (fun z => k z.1)]
def mb (S : Nat → Int32) (a set last : Int32) : Int32 := if 0 ≤ ab S a then (if S (1 + a.toNatClampNeg) = 1 then (if ((set >>> (ab S a &&& 31)) &&& (1 : Int32)) = (1 : Int32) then 1 else 0) else if S (1 + a.toNatClampNeg) = 2 then (if ((set >>> (ab S a &&& 31)) &&& (1 : Int32)) = (1 : Int32) then 0 else 1) else if last = ab S a then 1 else 0) else 1
theorem may_is {sg : Sg} {lg : Lg} {a set last : Int32} (sv : SV (sg 1)) (h0 : 0 ≤ a.toInt) (h1 : a.toInt ≤ 11) : fX12_may a set last sg lg = some (mb (sg 1) a set last, sg, lg) := by
  unfold fX12_may mb
  rw [askedBy_is sv h0 h1, bnd3_s]
  by_cases c : 0 ≤ ab (sg 1) a
  · rw [if_pos c, if_pos c]
    by_cases d : ((set >>> (ab (sg 1) a &&& 31)) &&& (1 : Int32)) = (1 : Int32)
    · rw [if_pos d, if_pos d, if_pos d]
      unfold fX12_may_29
      rw [kind_is h0 h1, bnd3_s]
      by_cases e : sg 1 (1 + a.toNatClampNeg) = 1
      · rw [if_pos e, if_pos e, gz1]
      · rw [if_neg e, if_neg e, kind_is h0 h1, bnd3_s]
        by_cases f : sg 1 (1 + a.toNatClampNeg) = 2
        · rw [if_pos f, if_pos f, ite1]
        · rw [if_neg f, if_neg f]
          by_cases g : last = ab (sg 1) a
          · rw [if_pos g, if_pos g]
          · rw [if_neg g, if_neg g]
    · rw [if_neg d, if_neg d, if_neg d]
      unfold fX12_may_29
      rw [kind_is h0 h1, bnd3_s]
      by_cases e : sg 1 (1 + a.toNatClampNeg) = 1
      · rw [if_pos e, if_pos e, gz0]
      · rw [if_neg e, if_neg e, kind_is h0 h1, bnd3_s]
        by_cases f : sg 1 (1 + a.toNatClampNeg) = 2
        · rw [if_pos f, if_pos f, ite0]
        · rw [if_neg f, if_neg f]
          by_cases g : last = ab (sg 1) a
          · rw [if_pos g, if_pos g]
          · rw [if_neg g, if_neg g]
  · rw [if_neg c, if_neg c]
/-- may come next -/
def mc (sg : Sg) (a set last : Int32) : Int32 := if ((set >>> (a &&& 31)) &&& (1 : Int32)) = (1 : Int32) then 0 else if cb (sg 1) a = true then (if a = sg 0 9 ∧ ((set >>> ((sg 0 8) &&& 31)) &&& (1 : Int32)) = 0 then 0 else if sg 0 7 = 0 then 1 else if mb (sg 1) a set last = 0 then 0 else 1) else 0
theorem mayCome_is {sg : Sg} {lg : Lg} {a set last : Int32} (sv : SV (sg 1)) (h0 : 0 ≤ a.toInt) (h1 : a.toInt ≤ 11) : fX12_mayCome a set last sg lg = some (mc sg a set last, sg, lg) := by
  have m40 : fX12_mayCome_40 a set last sg lg = some (if sg 0 7 = 0 then 1 else if mb (sg 1) a set last = 0 then 0 else 1, sg, lg) := by
    unfold fX12_mayCome_40
    by_cases c : sg 0 7 = 0
    · rw [if_pos c, if_pos c]
    · rw [if_neg c, if_neg c, may_is sv h0 h1, bnd3_s]
      by_cases d : mb (sg 1) a set last = 0
      · rw [if_pos d, if_pos d]
      · rw [if_neg d, if_neg d]
  unfold fX12_mayCome mc
  by_cases c : ((set >>> (a &&& 31)) &&& (1 : Int32)) = (1 : Int32)
  · rw [if_pos c, if_pos c]
  · rw [if_neg c, if_neg c, counts_b sv, bnd3_s]
    by_cases d : cb (sg 1) a = true
    · rw [if_pos d, if_pos d, ite1]
      by_cases e : a = sg 0 9
      · rw [if_pos e]
        by_cases f : ((set >>> ((sg 0 8) &&& 31)) &&& (1 : Int32)) = 0
        · rw [if_pos f, if_pos ⟨e, f⟩]
        · rw [if_neg f, if_neg (fun z => f z.2), m40]
      · rw [if_neg e, if_neg (fun z => e z.1), m40]
    · rw [if_neg d, if_neg d, ite0]
theorem mc_cb {sg : Sg} {a set last : Int32} (h : ¬ mc sg a set last = 0) : cb (sg 1) a = true ∧ ¬ ((set >>> (a &&& 31)) &&& (1 : Int32)) = (1 : Int32) := by
  unfold mc at h
  by_cases c : ((set >>> (a &&& 31)) &&& (1 : Int32)) = (1 : Int32)
  · rw [if_pos c] at h; exact absurd rfl h
  · rw [if_neg c] at h
    by_cases d : cb (sg 1) a = true
    · exact ⟨d, c⟩
    · rw [if_neg d] at h; exact absurd rfl h
theorem mc_cg {sg sg' : Sg} (h1 : sg' 1 = sg 1) (h7 : sg' 0 7 = sg 0 7) (h8 : sg' 0 8 = sg 0 8) (h9 : sg' 0 9 = sg 0 9) (a set last : Int32) : mc sg' a set last = mc sg a set last := by
  unfold mc
  rw [h1, h7, h8, h9]
/-- the pecks upset below a set -/
def csum (S : Nat → Int32) (h set : Int32) : Nat → Int64
  | 0 => 0
  | n + 1 => csum S h set n + (if ((set >>> (Int32.ofNat n &&& 31)) &&& (1 : Int32)) = (1 : Int32) then (S (49 + 12 * h.toNatClampNeg + n)).toInt64 else 0)
theorem cost_is {sg : Sg} {lg : Lg} {h set : Int32} (h0 : 0 ≤ h.toInt) (h1 : h.toInt ≤ 11) : fX12_cost h set sg lg = some (csum (sg 1) h set 12, sg, lg) := by
  have k0 : (0 : Int32).toInt = 0 := by decide
  have k1 : (1 : Int32).toInt = 1 := by decide
  have k12 : (12 : Int32).toInt = 12 := by decide
  have key : Ok (fun r => r = (csum (sg 1) h set 12, sg, lg)) (fX12_cost h set sg lg) := by
    unfold fX12_cost LX12_cost_5
    refine ok_loop (I := fun (q : Int32 × Int32 × Int64 × Int32 × Sg × Lg) => q.1 = h ∧ q.2.1 = set ∧ 0 ≤ q.2.2.2.1.toInt ∧ q.2.2.2.1.toInt ≤ 12 ∧ q.2.2.1 = csum (sg 1) h set q.2.2.2.1.toInt.toNat ∧ q.2.2.2.2.1 = sg ∧ q.2.2.2.2.2 = lg) (m := fun (q : Int32 × Int32 × Int64 × Int32 × Sg × Lg) => (13 - q.2.2.2.1.toInt).toNat) _ ?_ ?_ _ ?_
    · intro q hq
      have := hq.2.2.1
      show (13 - q.2.2.2.1.toInt).toNat < 10000
      omega
    · intro rec q hq hrec
      obtain ⟨a1, a2, v3, v5, sg1, lg1⟩ := q
      replace hq : a1 = h ∧ a2 = set ∧ 0 ≤ v5.toInt ∧ v5.toInt ≤ 12 ∧ v3 = csum (sg 1) h set v5.toInt.toNat ∧ sg1 = sg ∧ lg1 = lg := hq
      obtain ⟨e1, e2, q0, q1, q2, e3, e4⟩ := hq
      subst e1 e2 e3 e4
      show Ok _ (fX12_cost_5 rec a1 a2 v3 v5 sg1 lg1)
      unfold fX12_cost_5
      have hv := of_i q0
      have hc := cl_i q0
      have go : ∀ w : Int64, v5.toInt < 12 → w = (if ((a2 >>> (v5 &&& 31)) &&& (1 : Int32)) = (1 : Int32) then (sg1 1 (49 + 12 * a1.toNatClampNeg + v5.toNatClampNeg)).toInt64 else 0) → Ok (fun r => r = (csum (sg1 1) a1 a2 12, sg1, lg1)) (fX12_cost_35 rec a1 a2 v5 w v3 sg1 lg1) := by
        intro w w1 w2
        unfold fX12_cost_35
        refine ok_lt (fun x1 ex1 => ?_)
        refine ok_lt (fun x2 ex2 => ?_)
        replace ex2 : x2.toInt = v5.toInt + 1 := by rw [ex2]; exact add_c 1 k1 (by omega) (by omega)
        refine hrec (a1, a2, x1, x2, sg1, lg1) ⟨rfl, rfl, by show 0 ≤ x2.toInt; omega, by show x2.toInt ≤ 12; omega, ?_, rfl, rfl⟩ (show (13 - x2.toInt).toNat < (13 - v5.toInt).toNat by omega)
        show x1 = csum (sg1 1) a1 a2 x2.toInt.toNat
        rw [show x2.toInt.toNat = v5.toInt.toNat + 1 by omega]
        show x1 = csum (sg1 1) a1 a2 v5.toInt.toNat + (if ((a2 >>> (Int32.ofNat v5.toInt.toNat &&& 31)) &&& (1 : Int32)) = (1 : Int32) then (sg1 1 (49 + 12 * a1.toNatClampNeg + v5.toInt.toNat)).toInt64 else 0)
        rw [← hv, ← q2, show v5.toInt.toNat = v5.toNatClampNeg by omega, ← w2]
        exact ex1
      refine ok_ite (fun c => ?_) (fun c => ?_)
      · replace c := i_le.mp c
        refine ok_some ?_
        rw [q2, show v5.toInt.toNat = 12 by omega]
      · replace c := i_nle.mp c
        refine ok_ite (fun d => ?_) (fun d => ?_)
        · refine bnd3_of (peckOf_is h0 h1 q0 (by omega)) ?_
          exact go _ (by omega) (by rw [if_pos d])
        · exact go _ (by omega) (by rw [if_neg d])
    · exact ⟨rfl, rfl, by show 0 ≤ (0 : Int32).toInt; omega, by show (0 : Int32).toInt ≤ 12; omega, rfl, rfl, rfl⟩
  obtain ⟨a, e, rfl⟩ := key
  exact e
def tx (set h : Int32) : Int32 := ((13 : Int32) * (set ||| ((1 : Int32) <<< (h &&& 31)))) + h
def ax (set last : Int32) : Int32 := ((13 : Int32) * set) + last
theorem ax_i {set last : Int32} (a0 : 0 ≤ set.toInt) (a1 : set.toInt ≤ 4095) (b0 : 0 ≤ last.toInt) (b1 : last.toInt ≤ 12) : (ax set last).toInt = 13 * set.toInt + last.toInt ∧ ((ax set last).toNatClampNeg : Int) = 13 * set.toInt + last.toInt := by
  have f1 := mul_l (a := (13 : Int32)) (b := set) 13 (by decide) (by omega) (by omega)
  have f2 := add_i (a := (13 : Int32) * set) (b := last) (by omega) (by omega)
  have f3 : (ax set last).toInt = 13 * set.toInt + last.toInt := by unfold ax; omega
  have g := cl_i (i := ax set last) (by omega)
  omega
theorem tset_i {set h : Int32} (a0 : 0 ≤ set.toInt) (a1 : set.toInt ≤ 4095) (h0 : 0 ≤ h.toInt) (h1 : h.toInt ≤ 11) : 0 ≤ (set ||| ((1 : Int32) <<< (h &&& 31))).toInt ∧ (set ||| ((1 : Int32) <<< (h &&& 31))).toInt ≤ 4095 := by
  have f := shl_i (v := h) 11 2048 (by decide) (by decide) (by omega) (by omega)
  have g := or_i (a := set) (b := (1 : Int32) <<< (h &&& 31)) 12 4096 (by decide) (by decide) (by omega) (by omega) (by omega) (by omega)
  omega
def bb (sg : Sg) (lg : Lg) (h set last : Int32) : Bool := decide (¬ mc sg h set last = 0 ∧ (lg 4 (tx set h).toNatClampNeg).toInt < 1000000000000000 ∧ csum (sg 1) h set 12 + lg 4 (tx set h).toNatClampNeg = lg 4 (ax set last).toNatClampNeg)
theorem isBest_is {sg : Sg} {lg : Lg} {h set last : Int32} (sv : SV (sg 1)) (h0 : 0 ≤ h.toInt) (h1 : h.toInt ≤ 11) (a0 : 0 ≤ set.toInt) (a1 : set.toInt ≤ 4095) (b0 : 0 ≤ last.toInt) (b1 : last.toInt ≤ 12) : fX12_isBest h set last sg lg = some (if bb sg lg h set last = true then 1 else 0, sg, lg) := by
  have kE : (1000000000000000 : Int64).toInt = 1000000000000000 := by decide
  have ts := tset_i a0 a1 h0 h1
  have t1 := ax_i (set := set ||| ((1 : Int32) <<< (h &&& 31))) (last := h) ts.1 ts.2 h0 (by omega)
  have t2 := ax_i a0 a1 b0 b1
  have e1 : tx set h = ax (set ||| ((1 : Int32) <<< (h &&& 31))) h := rfl
  rw [← e1] at t1
  unfold fX12_isBest
  show bnd3 (fX12_mayCome h set last sg lg) (fun y2 sg3 lg4 => (if y2 = 0 then some ((0 : Int32), sg3, lg4) else gin (tx set h) 53248 ((if (1000000000000000 : Int64) ≤ (lg4 4 (tx set h).toNatClampNeg) then some ((0 : Int32), sg3, lg4) else bnd3 (fX12_cost h set sg3 lg4) (fun y9 sg10 lg11 => gin (tx set h) 53248 (gin (ax set last) 53248 ((if (y9 + (lg11 4 (tx set h).toNatClampNeg)) = (lg11 4 (ax set last).toNatClampNeg) then some ((1 : Int32), sg10, lg11) else some ((0 : Int32), sg10, lg11))))))))) = _
  rw [mayCome_is sv h0 h1, bnd3_s]
  by_cases c : mc sg h set last = 0
  · rw [if_pos c, if_neg (fun z => (of_decide_eq_true z).1 c)]
  · rw [if_neg c, gin_in (vin_i (by omega) (by omega))]
    by_cases d : (1000000000000000 : Int64) ≤ (lg 4 (tx set h).toNatClampNeg)
    · rw [if_pos d, if_neg (fun z => by have := (of_decide_eq_true z).2.1; have := j_le.mp d; omega)]
    · rw [if_neg d, cost_is h0 h1, bnd3_s, gin_in (vin_i (by omega) (by omega)), gin_in (vin_i (by omega) (by omega))]
      have d' := j_nle.mp d
      by_cases e : csum (sg 1) h set 12 + lg 4 (tx set h).toNatClampNeg = lg 4 (ax set last).toNatClampNeg
      · rw [if_pos e, if_pos (show bb sg lg h set last = true from decide_eq_true ⟨c, by omega, e⟩)]
      · rw [if_neg e, if_neg (fun z => e (of_decide_eq_true z).2.2)]
/-! bits -/
theorem bit_n {a v : Int32} (a0 : 0 ≤ a.toInt) (v0 : 0 ≤ v.toInt) (v1 : v.toInt ≤ 30) : ((a >>> (v &&& 31)) &&& (1 : Int32)) = (1 : Int32) ↔ a.toInt.toNat.testBit v.toInt.toNat = true := by
  have h1 := shr_is (a := a) v0 v1
  have hn : 0 ≤ (a >>> (v &&& 31)).toInt := (shr_i a0).1
  have h2 := nn_i hn
  have h3 : ((a >>> (v &&& 31)) &&& (1 : Int32)).toBitVec.toNat = (a >>> (v &&& 31)).toBitVec.toNat % 2 := by
    rw [nat_and, show (1 : Int32).toBitVec.toNat = 1 by decide, Nat.and_one_is_mod]
  have h4 := nn_of (a := (a >>> (v &&& 31)) &&& (1 : Int32)) (by omega)
  have h5 : a.toInt.toNat / 2 ^ v.toInt.toNat = (a >>> (v &&& 31)).toBitVec.toNat := by
    have : ((a.toInt.toNat / 2 ^ v.toInt.toNat : Nat) : Int) = a.toInt / ((2 ^ v.toInt.toNat : Nat) : Int) := by
      rw [Int.natCast_ediv, Int.toNat_of_nonneg a0]
    omega
  rw [Nat.testBit_eq_decide_div_mod_eq, h5, decide_eq_true_eq, i_eq, show (1 : Int32).toInt = 1 by decide]
  omega
theorem tset_n {set h : Int32} (a0 : 0 ≤ set.toInt) (a1 : set.toInt ≤ 4095) (h0 : 0 ≤ h.toInt) (h1 : h.toInt ≤ 11) : (set ||| ((1 : Int32) <<< (h &&& 31))).toInt.toNat = set.toInt.toNat ||| 2 ^ h.toInt.toNat := by
  have f := shl_is (v := h) h0 (by omega)
  have f2 := shl_i (v := h) 11 2048 (by decide) (by decide) (by omega) (by omega)
  have ts := tset_i a0 a1 h0 h1
  have n1 := nn_i (a := set ||| ((1 : Int32) <<< (h &&& 31))) ts.1
  have n2 := nn_i a0
  have n3 := nn_i (a := (1 : Int32) <<< (h &&& 31)) (by omega)
  have o := nat_or set ((1 : Int32) <<< (h &&& 31))
  rw [show set.toBitVec.toNat = set.toInt.toNat by omega, show ((1 : Int32) <<< (h &&& 31)).toBitVec.toNat = 2 ^ h.toInt.toNat by omega] at o
  omega
theorem tset_gt {set h : Int32} (a0 : 0 ≤ set.toInt) (a1 : set.toInt ≤ 4095) (h0 : 0 ≤ h.toInt) (h1 : h.toInt ≤ 11) (hb : ¬ ((set >>> (h &&& 31)) &&& (1 : Int32)) = (1 : Int32)) : set.toInt < (set ||| ((1 : Int32) <<< (h &&& 31))).toInt := by
  have ts := tset_i a0 a1 h0 h1
  have tn := tset_n a0 a1 h0 h1
  rw [bit_n a0 h0 (by omega)] at hb
  have l := Nat.left_le_or (n := set.toInt.toNat) (m := 2 ^ h.toInt.toNat)
  have ne : set.toInt.toNat ||| 2 ^ h.toInt.toNat ≠ set.toInt.toNat := by
    intro z
    refine hb ?_
    rw [← z, Nat.testBit_or, Nat.testBit_two_pow_self, Bool.or_true]
  omega
theorem tset_bit {set h j : Int32} (a0 : 0 ≤ set.toInt) (a1 : set.toInt ≤ 4095) (h0 : 0 ≤ h.toInt) (h1 : h.toInt ≤ 11) (j0 : 0 ≤ j.toInt) (j1 : j.toInt ≤ 30) : (((set ||| ((1 : Int32) <<< (h &&& 31))) >>> (j &&& 31)) &&& (1 : Int32)) = (1 : Int32) ↔ (((set >>> (j &&& 31)) &&& (1 : Int32)) = (1 : Int32) ∨ j.toInt = h.toInt) := by
  have ts := tset_i a0 a1 h0 h1
  rw [bit_n ts.1 j0 j1, bit_n a0 j0 j1, tset_n a0 a1 h0 h1, Nat.testBit_or, Nat.testBit_two_pow, Bool.or_eq_true, decide_eq_true_eq]
  constructor
  · rintro (z | z)
    · exact Or.inl z
    · exact Or.inr (by omega)
  · rintro (z | z)
    · exact Or.inl z
    · exact Or.inr (by omega)
/-- how many are left -/
def kz (set : Int32) : Nat := cn (fun j => decide (¬ ((set >>> (Int32.ofNat j &&& 31)) &&& (1 : Int32)) = (1 : Int32))) 12
theorem ofn_n {j : Nat} (h : j < 12) : (Int32.ofNat j).toInt = (j : Int) := Int32.toInt_ofNat_of_lt (by omega)
theorem kz_lt {set h : Int32} (a0 : 0 ≤ set.toInt) (a1 : set.toInt ≤ 4095) (h0 : 0 ≤ h.toInt) (h1 : h.toInt ≤ 11) (hb : ¬ ((set >>> (h &&& 31)) &&& (1 : Int32)) = (1 : Int32)) : kz (set ||| ((1 : Int32) <<< (h &&& 31))) < kz set := by
  have e := of_i h0
  refine cn_lt (j0 := h.toInt.toNat) 12 (fun j hj hp => ?_) (by omega) ?_ ?_
  · have o := ofn_n hj
    simp only [decide_eq_true_eq] at hp ⊢
    intro z
    exact hp ((tset_bit a0 a1 h0 h1 (by omega) (by omega)).mpr (Or.inl z))
  · rw [← e]; exact decide_eq_true hb
  · rw [← e]; exact decide_eq_false (fun z => z ((tset_bit a0 a1 h0 h1 h0 (by omega)).mpr (Or.inr rfl)))
theorem kz_le (set : Int32) : kz set ≤ 12 := cn_max _ 12
theorem sub_A {A set h : Int32} (A0 : 0 ≤ A.toInt) (A1 : A.toInt ≤ 4095) (a0 : 0 ≤ set.toInt) (a1 : set.toInt ≤ 4095) (h0 : 0 ≤ h.toInt) (h1 : h.toInt ≤ 11) (hs : set &&& A = set) (hA : ((A >>> (h &&& 31)) &&& (1 : Int32)) = (1 : Int32)) : (set ||| ((1 : Int32) <<< (h &&& 31))) &&& A = set ||| ((1 : Int32) <<< (h &&& 31)) := by
  have ts := tset_i a0 a1 h0 h1
  have n1 := nn_i (a := set ||| ((1 : Int32) <<< (h &&& 31))) ts.1
  have n2 := nn_i a0
  have n3 := nn_i A0
  have al := and_l (a := set ||| ((1 : Int32) <<< (h &&& 31))) (b := A) ts.1
  have n4 := nn_i al.1
  have an := nat_and (set ||| ((1 : Int32) <<< (h &&& 31))) A
  have sn := nat_and set A
  rw [hs] at sn
  have tn := tset_n a0 a1 h0 h1
  rw [bit_n A0 h0 (by omega)] at hA
  rw [show A.toInt.toNat = A.toBitVec.toNat by omega] at hA
  rw [show (set ||| ((1 : Int32) <<< (h &&& 31))).toInt.toNat = (set ||| ((1 : Int32) <<< (h &&& 31))).toBitVec.toNat by omega, show set.toInt.toNat = set.toBitVec.toNat by omega] at tn
  refine Int32.toInt_inj.mp ?_
  rw [n4, n1, an, tn]
  congr 1
  refine Nat.eq_of_testBit_eq (fun i => ?_)
  rw [Nat.testBit_and, Nat.testBit_or, Nat.testBit_two_pow]
  have si : (set.toBitVec.toNat.testBit i && A.toBitVec.toNat.testBit i) = set.toBitVec.toNat.testBit i := by
    rw [← Nat.testBit_and, ← sn]
  by_cases c : h.toInt.toNat = i
  · rw [decide_eq_true c, Bool.or_true, Bool.true_and, ← c]; exact hA
  · rw [decide_eq_false c, Bool.or_false]; exact si
theorem add64b {a b : Int64} (h1 : -9223372036854775808 ≤ a.toInt + b.toInt) (h2 : a.toInt + b.toInt ≤ 9223372036854775807) : (a + b).toInt = a.toInt + b.toInt := by
  rw [Int64.toInt_add]
  refine Int.bmod_eq_of_le ?_ ?_
  · show -(18446744073709551616 / 2) ≤ a.toInt + b.toInt
    omega
  · show a.toInt + b.toInt < (18446744073709551616 + 1) / 2
    omega
theorem sub64b {a b : Int64} (h1 : -9223372036854775808 ≤ a.toInt - b.toInt) (h2 : a.toInt - b.toInt ≤ 9223372036854775807) : (a - b).toInt = a.toInt - b.toInt := by
  rw [Int64.toInt_sub]
  refine Int.bmod_eq_of_le ?_ ?_
  · show -(18446744073709551616 / 2) ≤ a.toInt - b.toInt
    omega
  · show a.toInt - b.toInt < (18446744073709551616 + 1) / 2
    omega
theorem upl_is (f : Lg) (k j : Nat) (v : Int64) (a b : Nat) : up2L f k j v a b = if a = k ∧ b = j then v else f a b := by
  unfold up2L
  by_cases h : a = k
  · rw [if_pos h]
    by_cases h2 : b = j
    · simp [vp_updL, h, h2]
    · simp [vp_updL, h, h2]
  · rw [if_neg h, if_neg (fun z => h z.1)]
/-- the ways of one that may come -/
def ww (lg : Lg) (set h : Int32) : Int := (lg 5 (tx set h).toNatClampNeg).toInt
def smv (sg : Sg) (lg : Lg) (set h : Int32) : Int64 := if (lg 4 (tx set h).toNatClampNeg).toInt < 1000000000000000 then csum (sg 1) h set 12 + lg 4 (tx set h).toNatClampNeg else 1000000000000000
def PS (sg : Sg) (lg : Lg) (set last : Int32) (L : Int64) : Nat → Int
  | 0 => 0
  | n + 1 => PS sg lg set last L n + (if ¬ mc sg (Int32.ofNat n) set last = 0 ∧ (smv sg lg set (Int32.ofNat n)).toInt < 1000000000000000 ∧ smv sg lg set (Int32.ofNat n) = L then ww lg set (Int32.ofNat n) else 0)
def SB (sg : Sg) (lg : Lg) (set last : Int32) : Nat → Int
  | 0 => 0
  | n + 1 => SB sg lg set last n + (if bb sg lg (Int32.ofNat n) set last = true then ww lg set (Int32.ofNat n) else 0)
theorem PS_bd {sg : Sg} {lg : Lg} {set last : Int32} {L : Int64} {B : Int} (hw : ∀ n, n < 12 → ¬ mc sg (Int32.ofNat n) set last = 0 → 0 ≤ ww lg set (Int32.ofNat n) ∧ ww lg set (Int32.ofNat n) ≤ B) (hB : 0 ≤ B) : ∀ n, n ≤ 12 → 0 ≤ PS sg lg set last L n ∧ PS sg lg set last L n ≤ n * B
  | 0, _ => by
    show 0 ≤ (0 : Int) ∧ (0 : Int) ≤ ((0 : Nat) : Int) * B
    simp
  | n + 1, hn => by
    have ih := PS_bd (L := L) hw hB n (by omega)
    have e : ((n + 1 : Nat) : Int) * B = n * B + B := by rw [Int.natCast_add, Int.add_mul]; simp
    rw [e]
    unfold PS
    split
    · rename_i c
      have := hw n (by omega) c.1
      omega
    · omega
theorem PS_0 {sg : Sg} {lg : Lg} {set last : Int32} {L : Int64} : ∀ n, (∀ j, j < n → ¬ mc sg (Int32.ofNat j) set last = 0 → L.toInt < (smv sg lg set (Int32.ofNat j)).toInt) → PS sg lg set last L n = 0
  | 0, _ => rfl
  | n + 1, h => by
    have ih := PS_0 n (fun j hj => h j (by omega))
    unfold PS
    rw [ih]
    split
    · rename_i c
      have := h n (by omega) c.1
      rw [c.2.2] at this
      omega
    · omega
theorem PS_SB {sg : Sg} {lg lg' : Lg} {set last : Int32} (h4 : ∀ n, n < 12 → ¬ mc sg (Int32.ofNat n) set last = 0 → lg' 4 (tx set (Int32.ofNat n)).toNatClampNeg = lg 4 (tx set (Int32.ofNat n)).toNatClampNeg) (h5 : ∀ n, n < 12 → ¬ mc sg (Int32.ofNat n) set last = 0 → ww lg' set (Int32.ofNat n) = ww lg set (Int32.ofNat n)) (hw : ∀ n, n < 12 → ¬ mc sg (Int32.ofNat n) set last = 0 → 0 ≤ ww lg set (Int32.ofNat n)) : ∀ n, n ≤ 12 → PS sg lg set last (lg' 4 (ax set last).toNatClampNeg) n ≤ SB sg lg' set last n
  | 0, _ => Int.le_refl _
  | n + 1, hn => by
    have ih := PS_SB h4 h5 hw n (by omega)
    unfold PS SB
    by_cases m : mc sg (Int32.ofNat n) set last = 0
    · rw [if_neg (fun z => z.1 m), if_neg (fun z => (of_decide_eq_true z).1 m)]
      omega
    · have w := hw n (by omega) m
      have e5 := h5 n (by omega) m
      have e4 := h4 n (by omega) m
      by_cases c : ¬ mc sg (Int32.ofNat n) set last = 0 ∧ (smv sg lg set (Int32.ofNat n)).toInt < 1000000000000000 ∧ smv sg lg set (Int32.ofNat n) = lg' 4 (ax set last).toNatClampNeg
      · rw [if_pos c]
        have d : (lg 4 (tx set (Int32.ofNat n)).toNatClampNeg).toInt < 1000000000000000 := by
          refine Decidable.byContradiction fun z => ?_
          have c2 := c.2.1
          unfold smv at c2
          rw [if_neg z] at c2
          exact absurd c2 (by decide)
        have c3 := c.2.2
        unfold smv at c3
        rw [if_pos d] at c3
        rw [if_pos (show bb sg lg' (Int32.ofNat n) set last = true from decide_eq_true ⟨m, by rw [e4]; exact d, by rw [e4]; exact c3⟩), e5]
        omega
      · rw [if_neg c]
        split <;> omega
/-- a state of fill that is laid -/
def FS (sg : Sg) (lg : Lg) (set last : Int32) (B : Int) (r : Sg × Lg) : Prop := r.1 = sg ∧ (∀ k, k ≠ 4 → k ≠ 5 → r.2 k = lg k) ∧ (∀ i, i ≠ (ax set last).toNatClampNeg → r.2 4 i = lg 4 i ∧ r.2 5 i = lg 5 i) ∧ 0 ≤ (r.2 5 (ax set last).toNatClampNeg).toInt ∧ (r.2 5 (ax set last).toNatClampNeg).toInt ≤ 12 * B ∧ (r.2 5 (ax set last).toNatClampNeg).toInt ≤ SB sg r.2 set last 12
set_option maxHeartbeats 4000000 in
theorem k_fillState {sg : Sg} {lg : Lg} {set last : Int32} {B : Int} (sv : SV (sg 1)) (a0 : 0 ≤ set.toInt) (a1 : set.toInt ≤ 4095) (b0 : 0 ≤ last.toInt) (b1 : last.toInt ≤ 12) (hB : 0 ≤ B) (hB2 : 12 * B ≤ 1000000000000000) (hw : ∀ n, n < 12 → ¬ mc sg (Int32.ofNat n) set last = 0 → 0 ≤ ww lg set (Int32.ofNat n) ∧ ww lg set (Int32.ofNat n) ≤ B) : Ok (FS sg lg set last B) (fX12_fillState set last sg lg) := by
  have k0 : (0 : Int32).toInt = 0 := by decide
  have k1 : (1 : Int32).toInt = 1 := by decide
  have kE : (1000000000000000 : Int64).toInt = 1000000000000000 := by decide
  have j0 : (0 : Int64).toInt = 0 := by decide
  have t2 := ax_i a0 a1 b0 b1
  -- a place that may come is another place
  have tne : ∀ n, n < 12 → ¬ mc sg (Int32.ofNat n) set last = 0 → (tx set (Int32.ofNat n)).toNatClampNeg ≠ (ax set last).toNatClampNeg := by
    intro n hn m
    have o := ofn_n hn
    have ts := tset_i a0 a1 (h := Int32.ofNat n) (by omega) (by omega)
    have tg := tset_gt a0 a1 (h := Int32.ofNat n) (by omega) (by omega) (mc_cb m).2
    have t1 := ax_i (set := set ||| ((1 : Int32) <<< (Int32.ofNat n &&& 31))) (last := Int32.ofNat n) ts.1 ts.2 (by omega) (by omega)
    have e1 : tx set (Int32.ofNat n) = ax (set ||| ((1 : Int32) <<< (Int32.ofNat n &&& 31))) (Int32.ofNat n) := rfl
    rw [e1]
    omega
  unfold fX12_fillState
  refine ok_lt (fun x1 ex1 => ?_)
  replace ex1 : x1 = ax set last := ex1
  subst ex1
  refine ok_gin (by omega) (by omega) ?_
  refine ok_lt (fun lg3 e3 => ?_)
  refine ok_gin (by omega) (by omega) ?_
  refine ok_lt (fun lg5 e5 => ?_)
  unfold LX12_fillState_26
  refine ok_loop (I := fun (q : Int32 × Int32 × Int32 × Int32 × Sg × Lg) => q.1 = set ∧ q.2.1 = last ∧ q.2.2.1 = ax set last ∧ q.2.2.2.2.1 = sg ∧ 0 ≤ q.2.2.2.1.toInt ∧ q.2.2.2.1.toInt ≤ 12 ∧ (∀ k, k ≠ 4 → k ≠ 5 → q.2.2.2.2.2 k = lg k) ∧ (∀ i, i ≠ (ax set last).toNatClampNeg → q.2.2.2.2.2 4 i = lg 4 i ∧ q.2.2.2.2.2 5 i = lg 5 i) ∧ (q.2.2.2.2.2 4 (ax set last).toNatClampNeg).toInt ≤ 1000000000000000 ∧ (∀ j, j < q.2.2.2.1.toInt.toNat → ¬ mc sg (Int32.ofNat j) set last = 0 → (q.2.2.2.2.2 4 (ax set last).toNatClampNeg).toInt ≤ (smv sg lg set (Int32.ofNat j)).toInt) ∧ (q.2.2.2.2.2 5 (ax set last).toNatClampNeg).toInt = PS sg lg set last (q.2.2.2.2.2 4 (ax set last).toNatClampNeg) q.2.2.2.1.toInt.toNat) (m := fun (q : Int32 × Int32 × Int32 × Int32 × Sg × Lg) => (13 - q.2.2.2.1.toInt).toNat) _ ?_ ?_ _ ?_
  · intro q hq
    have := hq.2.2.2.2.1
    show (13 - q.2.2.2.1.toInt).toNat < 10000
    omega
  · intro rec q hq hrec
    obtain ⟨p1, p2, p3, v4, sg1, l⟩ := q
    replace hq : p1 = set ∧ p2 = last ∧ p3 = ax set last ∧ sg1 = sg ∧ 0 ≤ v4.toInt ∧ v4.toInt ≤ 12 ∧ (∀ k, k ≠ 4 → k ≠ 5 → l k = lg k) ∧ (∀ i, i ≠ (ax set last).toNatClampNeg → l 4 i = lg 4 i ∧ l 5 i = lg 5 i) ∧ (l 4 (ax set last).toNatClampNeg).toInt ≤ 1000000000000000 ∧ (∀ j, j < v4.toInt.toNat → ¬ mc sg (Int32.ofNat j) set last = 0 → (l 4 (ax set last).toNatClampNeg).toInt ≤ (smv sg lg set (Int32.ofNat j)).toInt) ∧ (l 5 (ax set last).toNatClampNeg).toInt = PS sg lg set last (l 4 (ax set last).toNatClampNeg) v4.toInt.toNat := hq
    obtain ⟨e1, e2, e3', e4, q0, q1, q2, q3, q4, q5, q6⟩ := hq
    subst e1 e2 e3' e4
    have hv := of_i q0
    -- the next turn
    have go : ∀ l' : Lg, v4.toInt < 12 → (∀ k, k ≠ 4 → k ≠ 5 → l' k = lg k) → (∀ i, i ≠ (ax p1 p2).toNatClampNeg → l' 4 i = lg 4 i ∧ l' 5 i = lg 5 i) → (l' 4 (ax p1 p2).toNatClampNeg).toInt ≤ 1000000000000000 → (∀ j, j < v4.toInt.toNat + 1 → ¬ mc sg1 (Int32.ofNat j) p1 p2 = 0 → (l' 4 (ax p1 p2).toNatClampNeg).toInt ≤ (smv sg1 lg p1 (Int32.ofNat j)).toInt) → (l' 5 (ax p1 p2).toNatClampNeg).toInt = PS sg1 lg p1 p2 (l' 4 (ax p1 p2).toNatClampNeg) (v4.toInt.toNat + 1) → Ok (FS sg1 lg p1 p2 B) (fX12_fillState_165 rec p1 p2 (ax p1 p2) v4 sg1 l') := by
      intro l' g0 g1 g2 g3 g4 g5
      unfold fX12_fillState_165
      refine ok_lt (fun x ex => ?_)
      replace ex : x.toInt = v4.toInt + 1 := by rw [ex]; exact add_c 1 k1 (by omega) (by omega)
      have en : x.toInt.toNat = v4.toInt.toNat + 1 := by omega
      exact hrec (p1, p2, ax p1 p2, x, sg1, l') ⟨rfl, rfl, rfl, rfl, by show 0 ≤ x.toInt; omega, by show x.toInt ≤ 12; omega, g1, g2, g3, fun j hj => g4 j (by have hj' : j < x.toInt.toNat := hj; omega), by show (l' 5 (ax p1 p2).toNatClampNeg).toInt = PS sg1 lg p1 p2 (l' 4 (ax p1 p2).toNatClampNeg) x.toInt.toNat; rw [en]; exact g5⟩ (show (13 - x.toInt).toNat < (13 - v4.toInt).toNat by omega)
    show Ok (FS sg1 lg p1 p2 B) (fX12_fillState_26 rec p1 p2 (ax p1 p2) v4 sg1 l)
    unfold fX12_fillState_26
    refine bnd3_of hens_is ?_
    have h12 := sv.2.1
    refine ok_ite (fun c => ?_) (fun c => ?_)
    · replace c := i_le.mp c
      -- those behind the last hen can't come
      have late : ∀ n, v4.toInt.toNat ≤ n → n < 12 → mc sg1 (Int32.ofNat n) p1 p2 = 0 := by
        intro n hn hn2
        refine Decidable.byContradiction fun z => ?_
        have z1 := (mc_cb z).1
        simp only [cb, decide_eq_true_eq] at z1
        have o := ofn_n hn2
        omega
      have ext : ∀ n, v4.toInt.toNat ≤ n → n ≤ 12 → PS sg1 lg p1 p2 (l 4 (ax p1 p2).toNatClampNeg) n = PS sg1 lg p1 p2 (l 4 (ax p1 p2).toNatClampNeg) v4.toInt.toNat := by
        intro n
        induction n with
        | zero => intro h1 h2; rw [show v4.toInt.toNat = 0 by omega]
        | succ n ih =>
          intro h1 h2
          by_cases w : v4.toInt.toNat = n + 1
          · rw [w]
          · unfold PS
            rw [if_neg (fun z => z.1 (late n (by omega) (by omega))), ih (by omega) (by omega), Int.add_zero]
            cases hx : v4.toInt.toNat with
            | zero => rfl
            | succ _ => rfl
      have pb := PS_bd (sg := sg1) (lg := lg) (set := p1) (last := p2) (L := l 4 (ax p1 p2).toNatClampNeg) hw hB 12 (by decide)
      have px := ext 12 (by omega) (by decide)
      have ps := PS_SB (sg := sg1) (lg := lg) (lg' := l) (set := p1) (last := p2) (fun n hn m => (q3 _ (tne n hn m)).1) (fun n hn m => by unfold ww; rw [(q3 _ (tne n hn m)).2]) (fun n hn m => (hw n hn m).1) 12 (by decide)
      refine ok_some ⟨rfl, q2, q3, ?_, ?_, ?_⟩
      · show 0 ≤ (l 5 (ax p1 p2).toNatClampNeg).toInt
        omega
      · show (l 5 (ax p1 p2).toNatClampNeg).toInt ≤ 12 * B
        rw [q6, ← px]
        exact pb.2
      · show (l 5 (ax p1 p2).toNatClampNeg).toInt ≤ SB sg1 l p1 p2 12
        omega
    · replace c := i_nle.mp c
      refine bnd3_of (mayCome_is sv q0 (by omega)) ?_
      refine ok_ite (fun c2 => ?_) (fun c2 => ?_)
      · refine go l (by omega) q2 q3 q4 (fun j hj m => ?_) ?_
        · by_cases w : j = v4.toInt.toNat
          · rw [w, ← hv] at m; exact absurd c2 m
          · exact q5 j (by omega) m
        · unfold PS
          rw [if_neg (fun z => z.1 (by rw [← hv]; exact c2)), Int.add_zero]
          exact q6
      · have ts := tset_i a0 a1 (h := v4) q0 (by omega)
        have t1 := ax_i (set := p1 ||| ((1 : Int32) <<< (v4 &&& 31))) (last := v4) ts.1 ts.2 q0 (by omega)
        have e1 : tx p1 v4 = ax (p1 ||| ((1 : Int32) <<< (v4 &&& 31))) v4 := rfl
        rw [← e1] at t1
        have m0 : ¬ mc sg1 (Int32.ofNat v4.toInt.toNat) p1 p2 = 0 := by rw [← hv]; exact c2
        have tn0 := tne v4.toInt.toNat (by omega) m0
        rw [← hv] at tn0
        have w0 := hw v4.toInt.toNat (by omega) m0
        rw [← hv] at w0
        have l4 := (q3 _ tn0).1
        have l5 := (q3 _ tn0).2
        have pb := fun L => PS_bd (sg := sg1) (lg := lg) (set := p1) (last := p2) (L := L) hw hB v4.toInt.toNat (by omega)
        have pbm : ((v4.toInt.toNat : Nat) : Int) * B ≤ 11 * B := Int.mul_le_mul_of_nonneg_right (by omega) hB
        -- region 163: what is added
        have add : ∀ (l' : Lg) (w : Int64), (∀ k, k ≠ 4 → k ≠ 5 → l' k = lg k) → (∀ i, i ≠ (ax p1 p2).toNatClampNeg → l' 4 i = lg 4 i ∧ l' 5 i = lg 5 i) → (l' 4 (ax p1 p2).toNatClampNeg).toInt ≤ 1000000000000000 → (∀ j, j < v4.toInt.toNat + 1 → ¬ mc sg1 (Int32.ofNat j) p1 p2 = 0 → (l' 4 (ax p1 p2).toNatClampNeg).toInt ≤ (smv sg1 lg p1 (Int32.ofNat j)).toInt) → (l' 5 (ax p1 p2).toNatClampNeg).toInt = PS sg1 lg p1 p2 (l' 4 (ax p1 p2).toNatClampNeg) v4.toInt.toNat → w.toInt = (if (smv sg1 lg p1 v4).toInt < 1000000000000000 ∧ smv sg1 lg p1 v4 = l' 4 (ax p1 p2).toNatClampNeg then ww lg p1 v4 else 0) → Ok (FS sg1 lg p1 p2 B) (fX12_fillState_163 rec p1 p2 (ax p1 p2) v4 w (l' 5 (ax p1 p2).toNatClampNeg) (ax p1 p2) sg1 l') := by
          intro l' w g1 g2 g3 g4 g5 gw
          have pbl := pb (l' 4 (ax p1 p2).toNatClampNeg)
          have wn : 0 ≤ w.toInt ∧ w.toInt ≤ B := by
            rw [gw]; split
            · exact w0
            · omega
          have fa := add64b (a := l' 5 (ax p1 p2).toNatClampNeg) (b := w) (by omega) (by omega)
          unfold fX12_fillState_163
          refine ok_lt (fun x ex => ?_)
          refine ok_gin (by omega) (by omega) ?_
          refine ok_lt (fun l2 el2 => ?_)
          refine go l2 (by omega) (fun k h4 h5 => ?_) (fun i hi => ?_) ?_ ?_ ?_
          · rw [el2, up2L_n h5]; exact g1 k h4 h5
          · rw [el2, upl_is, if_neg (by omega), upl_is, if_neg (fun z => hi z.2)]; exact g2 i hi
          · rw [el2, upl_is, if_neg (by omega)]; exact g3
          · rw [el2, upl_is, if_neg (by omega)]; exact g4
          · rw [el2, upl_is, if_pos ⟨rfl, rfl⟩, upl_is, if_neg (by omega), ex, fa, g5]
            show _ = PS sg1 lg p1 p2 (l' 4 (ax p1 p2).toNatClampNeg) v4.toInt.toNat + (if ¬ mc sg1 (Int32.ofNat v4.toInt.toNat) p1 p2 = 0 ∧ (smv sg1 lg p1 (Int32.ofNat v4.toInt.toNat)).toInt < 1000000000000000 ∧ smv sg1 lg p1 (Int32.ofNat v4.toInt.toNat) = l' 4 (ax p1 p2).toNatClampNeg then ww lg p1 (Int32.ofNat v4.toInt.toNat) else 0)
            rw [← hv, gw]
            by_cases z : (smv sg1 lg p1 v4).toInt < 1000000000000000 ∧ smv sg1 lg p1 v4 = l' 4 (ax p1 p2).toNatClampNeg
            · rw [if_pos z, if_pos ⟨c2, z⟩]
            · rw [if_neg z, if_neg (fun y => z y.2)]
        -- region 124
        have r124 : ∀ (l' : Lg), (∀ k, k ≠ 4 → k ≠ 5 → l' k = lg k) → (∀ i, i ≠ (ax p1 p2).toNatClampNeg → l' 4 i = lg 4 i ∧ l' 5 i = lg 5 i) → (l' 4 (ax p1 p2).toNatClampNeg).toInt ≤ 1000000000000000 → (∀ j, j < v4.toInt.toNat + 1 → ¬ mc sg1 (Int32.ofNat j) p1 p2 = 0 → (l' 4 (ax p1 p2).toNatClampNeg).toInt ≤ (smv sg1 lg p1 (Int32.ofNat j)).toInt) → (l' 5 (ax p1 p2).toNatClampNeg).toInt = PS sg1 lg p1 p2 (l' 4 (ax p1 p2).toNatClampNeg) v4.toInt.toNat → Ok (FS sg1 lg p1 p2 B) (fX12_fillState_124 rec p1 p2 (ax p1 p2) v4 (tx p1 v4) (smv sg1 lg p1 v4) sg1 l') := by
          intro l' g1 g2 g3 g4 g5
          unfold fX12_fillState_124
          refine ok_gin (by omega) (by omega) ?_
          refine ok_ite (fun d => ?_) (fun d => ?_)
          · have d' := j_le.mp d
            unfold fX12_fillState_162
            exact add l' 0 g1 g2 g3 g4 g5 (by rw [if_neg (by omega), j0])
          · have d' := j_nle.mp d
            refine ok_gin (by omega) (by omega) ?_
            refine ok_ite (fun f => ?_) (fun f => ?_)
            · refine ok_gin (by omega) (by omega) ?_
              refine add l' _ g1 g2 g3 g4 g5 ?_
              rw [if_pos ⟨by omega, f⟩, (g2 _ tn0).2]
              rfl
            · unfold fX12_fillState_162
              exact add l' 0 g1 g2 g3 g4 g5 (by rw [if_neg (fun z => f z.2), j0])
        -- region 95
        have r95 : Ok (FS sg1 lg p1 p2 B) (fX12_fillState_95 rec p1 p2 (ax p1 p2) v4 (tx p1 v4) (smv sg1 lg p1 v4) sg1 l) := by
          unfold fX12_fillState_95
          refine ok_gin (by omega) (by omega) ?_
          refine ok_ite (fun d => ?_) (fun d => ?_)
          · have d' := j_le.mp d
            refine r124 l q2 q3 q4 (fun j hj m => ?_) q6
            by_cases w : j = v4.toInt.toNat
            · rw [w, ← hv]; exact d'
            · exact q5 j (by omega) m
          · have d' := j_nle.mp d
            refine ok_gin (by omega) (by omega) ?_
            refine ok_lt (fun la ea => ?_)
            refine ok_gin (by omega) (by omega) ?_
            refine ok_lt (fun lb eb => ?_)
            have n4 : lb 4 (ax p1 p2).toNatClampNeg = smv sg1 lg p1 v4 := by rw [eb, upl_is, if_neg (by omega), ea, upl_is, if_pos ⟨rfl, rfl⟩]
            have n5 : lb 5 (ax p1 p2).toNatClampNeg = 0 := by rw [eb, upl_is, if_pos ⟨rfl, rfl⟩]
            refine r124 lb (fun k h4 h5 => ?_) (fun i hi => ?_) (by rw [n4]; omega) (fun j hj m => ?_) ?_
            · rw [eb, up2L_n h5, ea, up2L_n h4]; exact q2 k h4 h5
            · rw [eb, upl_is, if_neg (by omega), upl_is, if_neg (fun z => hi z.2), ea, upl_is, if_neg (fun z => hi z.2), upl_is, if_neg (by omega)]; exact q3 i hi
            · rw [n4]
              by_cases w : j = v4.toInt.toNat
              · rw [w, ← hv]; omega
              · have := q5 j (by omega) m
                omega
            · rw [n5, n4, j0, PS_0 v4.toInt.toNat (fun j hj m => by have := q5 j hj m; omega)]
        refine ok_lt (fun x11 e11 => ?_)
        replace e11 : x11 = tx p1 v4 := e11
        subst e11
        refine ok_gin (by omega) (by omega) ?_
        refine ok_ite (fun d => ?_) (fun d => ?_)
        · have d' := j_lt.mp d
          refine bnd3_of (cost_is q0 (by omega)) ?_
          refine ok_gin (by omega) (by omega) ?_
          have es : smv sg1 lg p1 v4 = csum (sg1 1) v4 p1 12 + l 4 (tx p1 v4).toNatClampNeg := by
            unfold smv
            rw [if_pos (by rw [← l4]; omega), l4]
          rw [← es]
          exact r95
        · have d' := j_nlt.mp d
          have es : smv sg1 lg p1 v4 = 1000000000000000 := by
            unfold smv
            rw [if_neg (by rw [← l4]; omega)]
          rw [← es]
          exact r95
  · refine ⟨rfl, rfl, rfl, rfl, by show 0 ≤ (0 : Int32).toInt; omega, by show (0 : Int32).toInt ≤ 12; omega, fun k h4 h5 => ?_, fun i hi => ?_, ?_, fun j hj => ?_, ?_⟩
    · show lg5 k = lg k
      rw [e5, up2L_n h5, e3, up2L_n h4]
    · show lg5 4 i = lg 4 i ∧ lg5 5 i = lg 5 i
      rw [e5, upl_is, if_neg (by omega), upl_is, if_neg (fun z => hi z.2), e3, upl_is, if_neg (fun z => hi z.2), upl_is, if_neg (by omega)]
      exact ⟨rfl, rfl⟩
    · show (lg5 4 (ax set last).toNatClampNeg).toInt ≤ 1000000000000000
      rw [e5, upl_is, if_neg (by omega), e3, upl_is, if_pos ⟨rfl, rfl⟩]
      omega
    · have hj' : j < (0 : Int32).toInt.toNat := hj
      rw [k0] at hj'
      exact absurd hj' (Nat.not_lt_zero _)
    · show (lg5 5 (ax set last).toNatClampNeg).toInt = PS sg lg set last (lg5 4 (ax set last).toNatClampNeg) (0 : Int32).toInt.toNat
      rw [k0, e5, upl_is, if_pos ⟨rfl, rfl⟩]
      exact j0
/-! who counts, as a set -/
def ctg (S : Nat → Int32) : Nat → Int32
  | 0 => 0
  | n + 1 => ctg S n ||| (if cb S (Int32.ofNat n) = true then ((1 : Int32) <<< (Int32.ofNat n &&& 31)) else 0)
theorem ctg_r (S : Nat → Int32) : ∀ n, n ≤ 12 → 0 ≤ (ctg S n).toInt ∧ (ctg S n).toInt ≤ 4095
  | 0, _ => (show 0 ≤ (0 : Int32).toInt ∧ (0 : Int32).toInt ≤ 4095 by decide)
  | n + 1, hn => by
    have ih := ctg_r S n (by omega)
    have o := ofn_n (j := n) (by omega)
    unfold ctg
    split
    · exact tset_i ih.1 ih.2 (by omega) (by omega)
    · rw [Int32.or_zero]; exact ih
theorem ctg_b (S : Nat → Int32) : ∀ n, n ≤ 12 → ∀ j, j < n → cb S (Int32.ofNat j) = true → (((ctg S n) >>> (Int32.ofNat j &&& 31)) &&& (1 : Int32)) = (1 : Int32)
  | 0, _, j, hj, _ => absurd hj (Nat.not_lt_zero _)
  | n + 1, hn, j, hj, hc => by
    have ih := ctg_r S n (by omega)
    have o := ofn_n (j := n) (by omega)
    have oj := ofn_n (j := j) (by omega)
    unfold ctg
    by_cases w : j = n
    · subst w
      rw [if_pos hc]
      exact (tset_bit ih.1 ih.2 (by omega) (by omega) (by omega) (by omega)).mpr (Or.inr rfl)
    · have ib := ctg_b S n (by omega) j (by omega) hc
      split
      · exact (tset_bit ih.1 ih.2 (by omega) (by omega) (by omega) (by omega)).mpr (Or.inl ib)
      · rw [Int32.or_zero]; exact ib
theorem counting_is {sg : Sg} {lg : Lg} (sv : SV (sg 1)) : fX12_counting sg lg = some (ctg (sg 1) (sg 1 0).toInt.toNat, sg, lg) := by
  have k0 : (0 : Int32).toInt = 0 := by decide
  have k1 : (1 : Int32).toInt = 1 := by decide
  have s0 := sv.1
  have s12 := sv.2.1
  have key : Ok (fun r => r = (ctg (sg 1) (sg 1 0).toInt.toNat, sg, lg)) (fX12_counting sg lg) := by
    unfold fX12_counting LX12_counting_4
    refine ok_loop (I := fun (q : Int32 × Int32 × Sg × Lg) => 0 ≤ q.2.1.toInt ∧ q.2.1.toInt ≤ (sg 1 0).toInt ∧ q.1 = ctg (sg 1) q.2.1.toInt.toNat ∧ q.2.2.1 = sg ∧ q.2.2.2 = lg) (m := fun (q : Int32 × Int32 × Sg × Lg) => (13 - q.2.1.toInt).toNat) _ ?_ ?_ _ ?_
    · intro q hq
      have := hq.1
      show (13 - q.2.1.toInt).toNat < 10000
      omega
    · intro rec q hq hrec
      obtain ⟨v1, v2, sg1, lg1⟩ := q
      replace hq : 0 ≤ v2.toInt ∧ v2.toInt ≤ (sg 1 0).toInt ∧ v1 = ctg (sg 1) v2.toInt.toNat ∧ sg1 = sg ∧ lg1 = lg := hq
      obtain ⟨q0, q1, q2, e1, e2⟩ := hq
      subst e1 e2
      show Ok _ (fX12_counting_4 rec v1 v2 sg1 lg1)
      unfold fX12_counting_4
      refine bnd3_of hens_is ?_
      refine ok_ite (fun c => ?_) (fun c => ?_)
      · replace c := i_le.mp c
        refine ok_some ?_
        rw [q2, show v2.toInt.toNat = (sg1 1 0).toInt.toNat by omega]
      · replace c := i_nle.mp c
        have hv := of_i q0
        have go : ∀ w : Int32, w = (if cb (sg1 1) v2 = true then ((1 : Int32) <<< (v2 &&& 31)) else 0) → Ok (fun r => r = (ctg (sg1 1) (sg1 1 0).toInt.toNat, sg1, lg1)) (fX12_counting_28 rec v2 w v1 sg1 lg1) := by
          intro w hw
          unfold fX12_counting_28
          refine ok_lt (fun x1 ex1 => ?_)
          refine ok_lt (fun x2 ex2 => ?_)
          replace ex2 : x2.toInt = v2.toInt + 1 := by rw [ex2]; exact add_c 1 k1 (by omega) (by omega)
          refine hrec (x1, x2, sg1, lg1) ⟨by show 0 ≤ x2.toInt; omega, by show x2.toInt ≤ (sg1 1 0).toInt; omega, ?_, rfl, rfl⟩ (show (13 - x2.toInt).toNat < (13 - v2.toInt).toNat by omega)
          show x1 = ctg (sg1 1) x2.toInt.toNat
          rw [show x2.toInt.toNat = v2.toInt.toNat + 1 by omega]
          show x1 = ctg (sg1 1) v2.toInt.toNat ||| (if cb (sg1 1) (Int32.ofNat v2.toInt.toNat) = true then ((1 : Int32) <<< (Int32.ofNat v2.toInt.toNat &&& 31)) else 0)
          rw [← hv, ← q2, ← hw]
          exact ex1
        refine bnd3_of (counts_b sv) ?_
        by_cases d : cb (sg1 1) v2 = true
        · rw [if_pos d, ite1]
          exact go _ (by rw [if_pos d])
        · rw [if_neg d, ite0]
          exact go _ (by rw [if_neg d])
    · exact ⟨by show 0 ≤ (0 : Int32).toInt; omega, by show (0 : Int32).toInt ≤ (sg 1 0).toInt; omega, rfl, rfl, rfl⟩
  obtain ⟨a, e, rfl⟩ := key
  exact e
/-- a state that is laid -/
def vld (A set last : Int32) : Prop := 0 ≤ set.toInt ∧ set.toInt ≤ 4095 ∧ set &&& A = set ∧ ((last.toInt = 12 ∧ set.toInt = 0) ∨ (0 ≤ last.toInt ∧ last.toInt ≤ 11 ∧ ((set >>> (last &&& 31)) &&& (1 : Int32)) = (1 : Int32)))
def wv (lg : Lg) (set last : Int32) : Int := (lg 5 (ax set last).toNatClampNeg).toInt
def DPa (sg : Sg) (lg : Lg) (A set last : Int32) : Prop := 0 ≤ wv lg set last ∧ wv lg set last ≤ ((12 ^ (kz set + 1) : Nat) : Int) ∧ (set = A ∨ wv lg set last ≤ SB sg lg set last 12)
theorem SB_cg {sg : Sg} {lg lg' : Lg} {set last : Int32} (ha : lg' 4 (ax set last).toNatClampNeg = lg 4 (ax set last).toNatClampNeg) (ht : ∀ n, n < 12 → ¬ mc sg (Int32.ofNat n) set last = 0 → lg' 4 (tx set (Int32.ofNat n)).toNatClampNeg = lg 4 (tx set (Int32.ofNat n)).toNatClampNeg ∧ lg' 5 (tx set (Int32.ofNat n)).toNatClampNeg = lg 5 (tx set (Int32.ofNat n)).toNatClampNeg) : ∀ n, n ≤ 12 → SB sg lg' set last n = SB sg lg set last n
  | 0, _ => rfl
  | n + 1, hn => by
    have ih := SB_cg ha ht n (by omega)
    unfold SB
    rw [ih]
    by_cases m : mc sg (Int32.ofNat n) set last = 0
    · rw [if_neg (fun z => (of_decide_eq_true z).1 m), if_neg (fun z => (of_decide_eq_true z).1 m)]
    · have t := ht n (by omega) m
      have e : bb sg lg' (Int32.ofNat n) set last = bb sg lg (Int32.ofNat n) set last := by
        unfold bb
        rw [t.1, ha]
      have e2 : ww lg' set (Int32.ofNat n) = ww lg set (Int32.ofNat n) := by
        unfold ww
        rw [t.2]
      rw [e, e2]
theorem DPa_cg {sg : Sg} {lg lg' : Lg} {A set0 last0 set last : Int32} (s0 : 0 ≤ set0.toInt) (s1 : set0.toInt ≤ 4095) (l0 : 0 ≤ last0.toInt) (l1 : last0.toInt ≤ 12) (hv : vld A set last) (hge : set0.toInt ≤ set.toInt) (hne : ¬ (set.toInt = set0.toInt ∧ last.toInt = last0.toInt)) (hl : ∀ i, i ≠ (ax set0 last0).toNatClampNeg → lg' 4 i = lg 4 i ∧ lg' 5 i = lg 5 i) (h : DPa sg lg A set last) : DPa sg lg' A set last := by
  obtain ⟨v0, v1, v2, v3⟩ := hv
  have b : 0 ≤ last.toInt ∧ last.toInt ≤ 12 := by omega
  have x0 := ax_i s0 s1 l0 l1
  have x1 := ax_i v0 v1 b.1 b.2
  have n1 : (ax set last).toNatClampNeg ≠ (ax set0 last0).toNatClampNeg := by omega
  have a := hl _ n1
  have w : wv lg' set last = wv lg set last := by
    unfold wv
    rw [a.2]
  have sb := SB_cg (sg := sg) (lg := lg) (lg' := lg') (set := set) (last := last) a.1 (fun n hn m => ?_) 12 (by decide)
  · unfold DPa
    rw [w, sb]
    exact h
  · have o := ofn_n hn
    have ts := tset_i v0 v1 (h := Int32.ofNat n) (by omega) (by omega)
    have tg := tset_gt v0 v1 (h := Int32.ofNat n) (by omega) (by omega) (mc_cb m).2
    have t1 := ax_i (set := set ||| ((1 : Int32) <<< (Int32.ofNat n &&& 31))) (last := Int32.ofNat n) ts.1 ts.2 (by omega) (by omega)
    have e1 : tx set (Int32.ofNat n) = ax (set ||| ((1 : Int32) <<< (Int32.ofNat n &&& 31))) (Int32.ofNat n) := rfl
    rw [← e1] at t1
    exact hl _ (by omega)
/-- who may come next leads to a state that is laid -/
theorem vld_next {sg : Sg} {A set last : Int32} {n : Nat} (sv : SV (sg 1)) (hA : A = ctg (sg 1) (sg 1 0).toInt.toNat) (v0 : 0 ≤ set.toInt) (v1 : set.toInt ≤ 4095) (v2 : set &&& A = set) (hn : n < 12) (m : ¬ mc sg (Int32.ofNat n) set last = 0) : vld A (set ||| ((1 : Int32) <<< (Int32.ofNat n &&& 31))) (Int32.ofNat n) ∧ set.toInt < (set ||| ((1 : Int32) <<< (Int32.ofNat n &&& 31))).toInt ∧ kz (set ||| ((1 : Int32) <<< (Int32.ofNat n &&& 31))) < kz set := by
  have o := ofn_n hn
  have s0 := sv.1
  have s12 := sv.2.1
  have mb2 := mc_cb m
  have ts := tset_i v0 v1 (h := Int32.ofNat n) (by omega) (by omega)
  have tg := tset_gt v0 v1 (h := Int32.ofNat n) (by omega) (by omega) mb2.2
  have tk := kz_lt v0 v1 (h := Int32.ofNat n) (by omega) (by omega) mb2.2
  have cr := ctg_r (sg 1) (sg 1 0).toInt.toNat (by omega)
  have hlt : n < (sg 1 0).toInt.toNat := by
    have z1 := mb2.1
    simp only [cb, decide_eq_true_eq] at z1
    omega
  have cbt := ctg_b (sg 1) (sg 1 0).toInt.toNat (by omega) n hlt mb2.1
  rw [← hA] at cr cbt
  exact ⟨⟨ts.1, ts.2, sub_A cr.1 cr.2 v0 v1 (by omega) (by omega) v2 cbt, Or.inr ⟨by omega, by omega, (tset_bit v0 v1 (by omega) (by omega) (by omega) (by omega)).mpr (Or.inr rfl)⟩⟩, tg, tk⟩
set_option maxHeartbeats 4000000 in
theorem kL_fill_43 {sg : Sg} {l0 : Lg} {A v5 : Int32} {P : Sg × Lg → Prop} {r25 : (Int32 × Int32 × Sg × Lg) → Option (Sg × Lg)} (sv : SV (sg 1)) (hA : A = ctg (sg 1) (sg 1 0).toInt.toNat) (p0 : 0 ≤ v5.toInt) (p1 : v5.toInt ≤ 4095) (ps : v5 &&& A = v5) (hl : ∀ t l, vld A t l → v5.toInt < t.toInt → DPa sg l0 A t l)
    (hr : ∀ (x : Int32) (l : Lg), x.toInt = v5.toInt - 1 → (∀ t u, vld A t u → v5.toInt ≤ t.toInt → DPa sg l A t u) → Ok P (r25 (A, x, sg, l))) : Ok P (LX12_fill_43 r25 (A, v5, (0 : Int32), sg, l0)) := by
  have k0 : (0 : Int32).toInt = 0 := by decide
  have k1 : (1 : Int32).toInt = 1 := by decide
  have k12 : (12 : Int32).toInt = 12 := by decide
  have j1 : (1 : Int64).toInt = 1 := by decide
  unfold LX12_fill_43
  refine ok_loop (I := fun (q : Int32 × Int32 × Int32 × Sg × Lg) => q.1 = A ∧ q.2.1 = v5 ∧ q.2.2.2.1 = sg ∧ 0 ≤ q.2.2.1.toInt ∧ q.2.2.1.toInt ≤ 13 ∧ ∀ t u, vld A t u → (v5.toInt < t.toInt ∨ (t.toInt = v5.toInt ∧ u.toInt < q.2.2.1.toInt)) → DPa sg q.2.2.2.2 A t u) (m := fun (q : Int32 × Int32 × Int32 × Sg × Lg) => (14 - q.2.2.1.toInt).toNat) _ ?_ ?_ _ ?_
  · intro q hq
    have := hq.2.2.2.1
    show (14 - q.2.2.1.toInt).toNat < 10000
    omega
  · intro rec q hq hrec
    obtain ⟨a4, a5, v6, sg1, l⟩ := q
    replace hq : a4 = A ∧ a5 = v5 ∧ sg1 = sg ∧ 0 ≤ v6.toInt ∧ v6.toInt ≤ 13 ∧ ∀ t u, vld A t u → (v5.toInt < t.toInt ∨ (t.toInt = v5.toInt ∧ u.toInt < v6.toInt)) → DPa sg l A t u := hq
    obtain ⟨e1, e2, e3, q0, q1, q2⟩ := hq
    subst e1 e2 e3
    show Ok P (fX12_fill_43 r25 rec a4 a5 v6 sg1 l)
    unfold fX12_fill_43
    have go : ∀ l' : Lg, v6.toInt ≤ 12 → (∀ t u, vld a4 t u → (a5.toInt < t.toInt ∨ (t.toInt = a5.toInt ∧ u.toInt < v6.toInt + 1)) → DPa sg1 l' a4 t u) → Ok P (fX12_fill_144 r25 rec a4 a5 v6 sg1 l') := by
      intro l' g0 g1
      unfold fX12_fill_144
      refine ok_lt (fun x ex => ?_)
      replace ex : x.toInt = v6.toInt + 1 := by rw [ex]; exact add_c 1 k1 (by omega) (by omega)
      exact hrec (a4, a5, x, sg1, l') ⟨rfl, rfl, rfl, by show 0 ≤ x.toInt; omega, by show x.toInt ≤ 13; omega, fun t u hv hc => g1 t u hv (by have hc' : a5.toInt < t.toInt ∨ (t.toInt = a5.toInt ∧ u.toInt < x.toInt) := hc; omega)⟩ (show (14 - x.toInt).toNat < (14 - v6.toInt).toNat by omega)
    have no : v6.toInt ≤ 12 → ¬ vld a4 a5 v6 → Ok P (fX12_fill_86 r25 rec a4 a5 v6 (0 : Int32) sg1 l) := by
      intro g0 gn
      unfold fX12_fill_86
      rw [ite0]
      unfold fX12_fill_131
      rw [ite0]
      refine go l g0 (fun t u hv hc => q2 t u hv ?_)
      by_cases z : t.toInt = a5.toInt ∧ u.toInt = v6.toInt
      · have zt : t = a5 := Int32.toInt_inj.mp z.1
        have zu : u = v6 := Int32.toInt_inj.mp z.2
        rw [zt, zu] at hv
        exact absurd hv gn
      · omega
    have yes : v6.toInt ≤ 12 → vld a4 a5 v6 → Ok P (fX12_fill_86 r25 rec a4 a5 v6 (1 : Int32) sg1 l) := by
      intro g0 gv
      have xa := ax_i p0 p1 q0 g0
      unfold fX12_fill_86
      rw [ite1]
      refine ok_ite (fun c => ?_) (fun c => ?_)
      · show Ok P (gin (ax a5 v6) 53248 (lt (up2L l 4 (ax a5 v6).toNatClampNeg (0 : Int64)) (fun lg4 => gin (ax a5 v6) 53248 (lt (up2L lg4 5 (ax a5 v6).toNatClampNeg (1 : Int64)) (fun lg6 => fX12_fill_144 r25 rec a4 a5 v6 sg1 lg6)))))
        refine ok_gin (by omega) (by omega) ?_
        refine ok_lt (fun la ea => ?_)
        refine ok_gin (by omega) (by omega) ?_
        refine ok_lt (fun lb eb => ?_)
        have hag : ∀ i, i ≠ (ax a5 v6).toNatClampNeg → lb 4 i = l 4 i ∧ lb 5 i = l 5 i := fun i hi => by
          rw [eb, upl_is, if_neg (by omega), upl_is, if_neg (fun z => hi z.2), ea, upl_is, if_neg (fun z => hi z.2), upl_is, if_neg (by omega)]
          exact ⟨rfl, rfl⟩
        refine go lb g0 (fun t u hv hc => ?_)
        by_cases z : t.toInt = a5.toInt ∧ u.toInt = v6.toInt
        · have zt : t = a5 := Int32.toInt_inj.mp z.1
          have zu : u = v6 := Int32.toInt_inj.mp z.2
          subst zt zu
          have w : wv lb t u = 1 := by
            unfold wv
            rw [eb, upl_is, if_pos ⟨rfl, rfl⟩]
            exact j1
          have pp : 0 < 12 ^ (kz t + 1) := Nat.pow_pos (by decide)
          exact ⟨by omega, by omega, Or.inl c⟩
        · exact DPa_cg p0 p1 q0 g0 hv (by omega) z hag (q2 t u hv (by omega))
      · unfold fX12_fill_131
        rw [ite1]
        have hw : ∀ n, n < 12 → ¬ mc sg1 (Int32.ofNat n) a5 v6 = 0 → 0 ≤ ww l a5 (Int32.ofNat n) ∧ ww l a5 (Int32.ofNat n) ≤ ((12 ^ kz a5 : Nat) : Int) := by
          intro n hn m
          have vn := vld_next sv hA p0 p1 ps hn m
          have d := q2 _ _ vn.1 (Or.inl vn.2.1)
          have pm : 12 ^ (kz (a5 ||| ((1 : Int32) <<< (Int32.ofNat n &&& 31))) + 1) ≤ 12 ^ kz a5 := Nat.pow_le_pow_right (by decide) (by have := vn.2.2; omega)
          have d1 := d.1
          have d2 := d.2.1
          have ew : ww l a5 (Int32.ofNat n) = wv l (a5 ||| ((1 : Int32) <<< (Int32.ofNat n &&& 31))) (Int32.ofNat n) := rfl
          rw [ew]
          omega
        have kz12 := kz_le a5
        have pw12 : 12 ^ kz a5 ≤ 12 ^ 12 := Nat.pow_le_pow_right (by decide) kz12
        have pc : (12 ^ 12 : Nat) = 8916100448256 := by decide
        have pz : 0 < 12 ^ kz a5 := Nat.pow_pos (by decide)
        refine ok_bnd2 (k_fillState (B := ((12 ^ kz a5 : Nat) : Int)) sv p0 p1 q0 g0 (by omega) (by omega) hw) (fun s' l' hf => ?_)
        obtain ⟨f1, f2, f3, f4, f5, f6⟩ := hf
        replace f1 : s' = sg1 := f1
        replace f3 : ∀ i, i ≠ (ax a5 v6).toNatClampNeg → l' 4 i = l 4 i ∧ l' 5 i = l 5 i := f3
        replace f4 : 0 ≤ wv l' a5 v6 := f4
        replace f5 : wv l' a5 v6 ≤ 12 * ((12 ^ kz a5 : Nat) : Int) := f5
        replace f6 : wv l' a5 v6 ≤ SB sg1 l' a5 v6 12 := f6
        subst f1
        refine go l' g0 (fun t u hv hc => ?_)
        by_cases z : t.toInt = a5.toInt ∧ u.toInt = v6.toInt
        · have zt : t = a5 := Int32.toInt_inj.mp z.1
          have zu : u = v6 := Int32.toInt_inj.mp z.2
          subst zt zu
          have pe : 12 ^ (kz t + 1) = 12 * 12 ^ kz t := by rw [Nat.pow_succ]; omega
          exact ⟨f4, by rw [pe]; omega, Or.inr f6⟩
        · exact DPa_cg p0 p1 q0 g0 hv (by omega) z f3 (q2 t u hv (by omega))
    refine ok_ite (fun c => ?_) (fun c => ?_)
    · replace c := i_lt.mp c
      unfold fX12_fill_150
      refine ok_lt (fun x ex => ?_)
      replace ex : x.toInt = a5.toInt + (-1) := by rw [ex]; exact add_c (-1) (by decide) (by omega) (by omega)
      refine hr x l (by omega) (fun t u hv hc => q2 t u hv ?_)
      have b := hv.2.2.2
      omega
    · replace c := i_nlt.mp c
      refine ok_ite (fun d => ?_) (fun d => ?_)
      · replace d := i_eq.mp d
        refine ok_ite (fun f => ?_) (fun f => ?_)
        · replace f := i_eq.mp f
          exact yes (by omega) ⟨p0, p1, ps, Or.inl ⟨by omega, by omega⟩⟩
        · replace f := i_ne.mp f
          refine no (by omega) (fun hv => ?_)
          have b := hv.2.2.2
          omega
      · replace d := i_ne.mp d
        refine ok_ite (fun f => ?_) (fun f => ?_)
        · exact yes (by omega) ⟨p0, p1, ps, Or.inr ⟨q0, by omega, f⟩⟩
        · refine no (by omega) (fun hv => ?_)
          rcases hv.2.2.2 with b | b
          · omega
          · exact f b.2.2
  · exact ⟨rfl, rfl, rfl, by show 0 ≤ (0 : Int32).toInt; omega, by show (0 : Int32).toInt ≤ 13; omega, fun t u hv hc => hl t u hv (by have hc' : v5.toInt < t.toInt ∨ (t.toInt = v5.toInt ∧ u.toInt < (0 : Int32).toInt) := hc; have b := hv.2.2.2; omega)⟩
set_option maxHeartbeats 4000000 in
theorem k_fill {v1 v2 v3 : Int32} {sg : Sg} {lg : Lg} (sv : SV (sg 1)) (b0 : 0 ≤ v1.toInt) (b1 : v1.toInt ≤ 1) : Ok (fun r => ∃ A, A = ctg (sg 1) (sg 1 0).toInt.toNat ∧ r.1 1 = sg 1 ∧ ∀ t u, vld A t u → DPa r.1 r.2 A t u) (fX12_fill v1 v2 v3 sg lg) := by
  have k1 : (1 : Int32).toInt = 1 := by decide
  have k0 : (0 : Int32).toInt = 0 := by decide
  have s0 := sv.1
  have s12 := sv.2.1
  unfold fX12_fill
  refine ok_gz b0 b1 ?_
  refine ok_lt (fun sg2 e2 => ?_)
  refine ok_lt (fun sg3 e3 => ?_)
  refine ok_lt (fun sg4 e4 => ?_)
  have f1 : sg4 1 = sg 1 := by rw [e4, up2_n (by decide), e3, up2_n (by decide), e2, up2_n (by decide)]
  have sv4 : SV (sg4 1) := by rw [f1]; exact sv
  refine bnd3_of (counting_is sv4) ?_
  have cr := ctg_r (sg4 1) (sg4 1 0).toInt.toNat (by rw [f1]; omega)
  obtain ⟨A, hA⟩ : ∃ A, A = ctg (sg4 1) (sg4 1 0).toInt.toNat := ⟨_, rfl⟩
  rw [← hA] at cr ⊢
  unfold LX12_fill_25
  refine ok_loop (I := fun (q : Int32 × Int32 × Sg × Lg) => q.1 = A ∧ q.2.2.1 = sg4 ∧ -1 ≤ q.2.1.toInt ∧ q.2.1.toInt ≤ A.toInt ∧ ∀ t u, vld A t u → q.2.1.toInt < t.toInt → DPa sg4 q.2.2.2 A t u) (m := fun (q : Int32 × Int32 × Sg × Lg) => (q.2.1.toInt + 1).toNat) _ ?_ ?_ _ ?_
  · intro q hq
    have := hq.2.2.2.1
    show (q.2.1.toInt + 1).toNat < 10000
    omega
  · intro rec q hq hrec
    obtain ⟨a4, v5, sg1, l⟩ := q
    replace hq : a4 = A ∧ sg1 = sg4 ∧ -1 ≤ v5.toInt ∧ v5.toInt ≤ A.toInt ∧ ∀ t u, vld A t u → v5.toInt < t.toInt → DPa sg4 l A t u := hq
    obtain ⟨ea, eb, q0, q1, q2⟩ := hq
    subst ea eb
    show Ok _ (fX12_fill_25 rec a4 v5 sg1 l)
    unfold fX12_fill_25
    refine ok_ite (fun c => ?_) (fun c => ?_)
    · replace c := i_lt.mp c
      exact ok_some ⟨a4, by rw [hA, f1], f1, fun t u hv => q2 t u hv (by have := hv.1; omega)⟩
    · replace c := i_nlt.mp c
      have on : ∀ (x : Int32) (l' : Lg), x.toInt = v5.toInt - 1 → (∀ t u, vld a4 t u → v5.toInt ≤ t.toInt → DPa sg1 l' a4 t u) → Ok (fun r => ∃ A, A = ctg (sg 1) (sg 1 0).toInt.toNat ∧ r.1 1 = sg 1 ∧ ∀ t u, vld A t u → DPa r.1 r.2 A t u) (rec (a4, x, sg1, l')) := by
        intro x l' hx hd
        exact hrec (a4, x, sg1, l') ⟨rfl, rfl, by show -1 ≤ x.toInt; omega, by show x.toInt ≤ a4.toInt; omega, fun t u hv hc => hd t u hv (by have hc' : x.toInt < t.toInt := hc; omega)⟩ (show (x.toInt + 1).toNat < (v5.toInt + 1).toNat by omega)
      refine ok_ite (fun d => ?_) (fun d => ?_)
      · exact kL_fill_43 sv4 hA (by omega) (by omega) d q2 on
      · unfold fX12_fill_150
        refine ok_lt (fun x ex => ?_)
        replace ex : x.toInt = v5.toInt + (-1) := by rw [ex]; exact add_c (-1) (by decide) (by omega) (by omega)
        refine on x l (by omega) (fun t u hv hc => q2 t u hv ?_)
        by_cases z : t.toInt = v5.toInt
        · have zt : t = v5 := Int32.toInt_inj.mp z
          rw [zt] at hv
          exact absurd hv.2.2.1 d
        · omega
  · exact ⟨rfl, rfl, by show -1 ≤ A.toInt; omega, by show A.toInt ≤ A.toInt; omega, fun t u hv hc => by
      have hc' : A.toInt < t.toInt := hc
      have al := and_r (a := t) (b := A) cr.1
      rw [hv.2.2.1] at al
      omega⟩
theorem bb_cg {sg sg' : Sg} {lg : Lg} (h1 : sg' 1 = sg 1) (h7 : sg' 0 7 = sg 0 7) (h8 : sg' 0 8 = sg 0 8) (h9 : sg' 0 9 = sg 0 9) (h set last : Int32) : bb sg' lg h set last = bb sg lg h set last := by
  unfold bb
  rw [mc_cg h1 h7 h8 h9, h1]
theorem SB_nn {sg : Sg} {lg : Lg} {set last : Int32} (hw : ∀ n, n < 12 → ¬ mc sg (Int32.ofNat n) set last = 0 → 0 ≤ ww lg set (Int32.ofNat n)) : ∀ n, n ≤ 12 → 0 ≤ SB sg lg set last n
  | 0, _ => Int.le_refl _
  | n + 1, hn => by
    have ih := SB_nn hw n (by omega)
    unfold SB
    split
    · rename_i c
      have := hw n (by omega) (of_decide_eq_true c).1
      omega
    · omega
set_option maxHeartbeats 4000000 in
theorem kL_best_59 {sF s0 sg : Sg} {l0 lg : Lg} {A v3 v4 : Int32} {v5 : Int64} {r48 : (Int32 × Int32 × Int64 × Sg × Lg) → Option (Int64 × Sg × Lg)} (sv : SV (sF 1)) (hA : A = ctg (sF 1) (sF 1 0).toInt.toNat) (hD : ∀ t u, vld A t u → DPa sF lg A t u) (hv : vld A v3 v4) (hS : StM MX12_best s0 l0 sg lg) (f1 : sg 1 = sF 1) (f7 : sg 0 7 = sF 0 7) (f8 : sg 0 8 = sF 0 8) (f9 : sg 0 9 = sF 0 9) (hk : (sg 0 4).toInt + (kz v3 : Int) ≤ 12) (hl0 : 0 ≤ v5.toInt) (hl1 : v5.toInt < SB sF lg v3 v4 12)
    (hr : ∀ (x u : Int32) (w : Int64) (sg' : Sg), StM MX12_best s0 l0 sg' lg → sg' 1 = sF 1 → sg' 0 7 = sF 0 7 → sg' 0 8 = sF 0 8 → sg' 0 9 = sF 0 9 → vld A x u → (sg' 0 4).toInt + (kz x : Int) ≤ 12 → 0 ≤ w.toInt → w.toInt < wv lg x u → v3.toInt < x.toInt → Ok (PLM MX12_best s0 l0) (r48 (x, u, w, sg', lg))) : Ok (PLM MX12_best s0 l0) (LX12_best_59 r48 (v3, v4, v5, (0 : Int32), sg, lg)) := by
  have k0 : (0 : Int32).toInt = 0 := by decide
  have k1 : (1 : Int32).toInt = 1 := by decide
  have j0 : (0 : Int64).toInt = 0 := by decide
  obtain ⟨v0, v1, v2, vb⟩ := id hv
  have bl : 0 ≤ v4.toInt ∧ v4.toInt ≤ 12 := by omega
  have svg : SV (sg 1) := by rw [f1]; exact sv
  have hw : ∀ n, n < 12 → ¬ mc sF (Int32.ofNat n) v3 v4 = 0 → 0 ≤ ww lg v3 (Int32.ofNat n) := fun n hn m => (hD _ _ (vld_next sv hA v0 v1 v2 hn m).1).1
  have i4 := rdM0_4 hS.1
  unfold LX12_best_59
  refine ok_loop (I := fun (q : Int32 × Int32 × Int64 × Int32 × Sg × Lg) => q.1 = v3 ∧ q.2.1 = v4 ∧ q.2.2.2.2.1 = sg ∧ q.2.2.2.2.2 = lg ∧ 0 ≤ q.2.2.2.1.toInt ∧ q.2.2.2.1.toInt ≤ 12 ∧ 0 ≤ q.2.2.1.toInt ∧ q.2.2.1.toInt + SB sF lg v3 v4 q.2.2.2.1.toInt.toNat < SB sF lg v3 v4 12) (m := fun (q : Int32 × Int32 × Int64 × Int32 × Sg × Lg) => (13 - q.2.2.2.1.toInt).toNat) _ ?_ ?_ _ ?_
  · intro q hq
    have := hq.2.2.2.2.1
    show (13 - q.2.2.2.1.toInt).toNat < 10000
    omega
  · intro rec q hq hrec
    obtain ⟨a3, a4, lft, v7, sg1, lg1⟩ := q
    replace hq : a3 = v3 ∧ a4 = v4 ∧ sg1 = sg ∧ lg1 = lg ∧ 0 ≤ v7.toInt ∧ v7.toInt ≤ 12 ∧ 0 ≤ lft.toInt ∧ lft.toInt + SB sF lg v3 v4 v7.toInt.toNat < SB sF lg v3 v4 12 := hq
    obtain ⟨e1, e2, e3, e4, q0, q1, q2, q3⟩ := hq
    subst e1 e2 e3 e4
    have h11 : v7.toInt ≤ 11 := by
      refine Decidable.byContradiction fun z => ?_
      rw [show v7.toInt.toNat = 12 by omega] at q3
      omega
    have hv7 := of_i q0
    have step : SB sF lg1 a3 a4 (v7.toInt.toNat + 1) = SB sF lg1 a3 a4 v7.toInt.toNat + (if bb sF lg1 v7 a3 a4 = true then ww lg1 a3 v7 else 0) := by
      show SB sF lg1 a3 a4 v7.toInt.toNat + (if bb sF lg1 (Int32.ofNat v7.toInt.toNat) a3 a4 = true then ww lg1 a3 (Int32.ofNat v7.toInt.toNat) else 0) = _
      rw [← hv7]
    have bq := bb_cg (sg := sF) (sg' := sg1) (lg := lg1) f1 f7 f8 f9 v7 a3 a4
    have ib := isBest_is (sg := sg1) (lg := lg1) (h := v7) (set := a3) (last := a4) svg q0 h11 v0 v1 bl.1 bl.2
    rw [bq] at ib
    have ts := tset_i v0 v1 (h := v7) q0 h11
    have t1 := ax_i (set := a3 ||| ((1 : Int32) <<< (v7 &&& 31))) (last := v7) ts.1 ts.2 q0 (by omega)
    have et : tx a3 v7 = ax (a3 ||| ((1 : Int32) <<< (v7 &&& 31))) v7 := rfl
    rw [← et] at t1
    -- the next hen
    have nx : ∀ (w : Int64), w.toInt = (if bb sF lg1 v7 a3 a4 = true then ww lg1 a3 v7 else 0) → w.toInt ≤ lft.toInt → 0 ≤ w.toInt → Ok (PLM MX12_best s0 l0) (fX12_best_129 r48 rec a3 a4 v7 w lft sg1 lg1) := by
      intro w w1 w2 w3
      have hi := lft.toInt_lt
      have fs := sub64b (a := lft) (b := w) (by omega) (by omega)
      unfold fX12_best_129
      refine ok_lt (fun x1 ex1 => ?_)
      replace ex1 := congrArg Int64.toInt ex1
      refine ok_lt (fun x2 ex2 => ?_)
      replace ex2 : x2.toInt = v7.toInt + 1 := by rw [ex2]; exact add_c 1 k1 (by omega) (by omega)
      refine hrec (a3, a4, x1, x2, sg1, lg1) ⟨rfl, rfl, rfl, rfl, by show 0 ≤ x2.toInt; omega, by show x2.toInt ≤ 12; omega, by show 0 ≤ x1.toInt; omega, ?_⟩ (show (13 - x2.toInt).toNat < (13 - v7.toInt).toNat by omega)
      show x1.toInt + SB sF lg1 a3 a4 x2.toInt.toNat < SB sF lg1 a3 a4 12
      rw [show x2.toInt.toNat = v7.toInt.toNat + 1 by omega, step, ← w1]
      omega
    show Ok _ (fX12_best_59 r48 rec a3 a4 lft v7 sg1 lg1)
    unfold fX12_best_59
    refine bnd3_of ib ?_
    by_cases c : bb sF lg1 v7 a3 a4 = true
    · rw [if_pos c] at ib
      rw [if_pos c, ite1]
      have m := (of_decide_eq_true c).1
      have m' : ¬ mc sF (Int32.ofNat v7.toInt.toNat) a3 a4 = 0 := by rw [← hv7]; exact m
      have vn := vld_next sv hA v0 v1 v2 (n := v7.toInt.toNat) (by omega) m'
      rw [← hv7] at vn
      have w0 := hw v7.toInt.toNat (by omega) m'
      rw [← hv7] at w0
      refine ok_lt (fun x6 e6 => ?_)
      replace e6 : x6 = tx a3 v7 := e6
      subst e6
      refine ok_gin (by omega) (by omega) ?_
      refine ok_ite (fun d => ?_) (fun d => ?_)
      · replace d := j_lt.mp d
        have kk := vn.2.2
        refine ok_gin (by omega) (by omega) ?_
        refine ok_lt (fun sa ea => ?_)
        have hSa := upM3 hS (by decide) ea (by omega) (by omega)
        have a4' : (sa 0 4) = sg1 0 4 := by rw [ea, up2_n (by decide)]
        rw [a4']
        refine ok_lt (fun x11 e11 => ?_)
        replace e11 : x11.toInt = (sg1 0 4).toInt + 1 := by rw [e11]; exact add_c 1 k1 (by omega) (by omega)
        refine ok_lt (fun sb eb => ?_)
        have hSb := upM0_4 hSa (by decide) eb (by omega) (by omega)
        refine ok_lt (fun x13 e13 => ?_)
        subst e13
        refine hr _ v7 lft sb hSb ?_ ?_ ?_ ?_ vn.1 ?_ q2 d vn.2.1
        · rw [eb, up2_n (by decide), ea, up2_n (by decide)]; exact f1
        · rw [eb, up2_is, if_neg (by decide), ea, up2_n (by decide)]; exact f7
        · rw [eb, up2_is, if_neg (by decide), ea, up2_n (by decide)]; exact f8
        · rw [eb, up2_is, if_neg (by decide), ea, up2_n (by decide)]; exact f9
        · rw [eb, up2_is, if_pos ⟨rfl, rfl⟩]; omega
      · replace d := j_nlt.mp d
        unfold fX12_best_94
        refine bnd3_of ib ?_
        rw [ite1]
        refine ok_lt (fun y6 ey => ?_)
        replace ey : y6 = tx a3 v7 := ey
        subst ey
        refine ok_gin (by omega) (by omega) ?_
        exact nx _ (by rw [if_pos c]; rfl) d w0
    · rw [if_neg c] at ib
      rw [if_neg c, ite0]
      unfold fX12_best_94
      refine bnd3_of ib ?_
      rw [ite0]
      exact nx 0 (by rw [if_neg c, j0]) (by omega) (by omega)
  · exact ⟨rfl, rfl, rfl, rfl, by show 0 ≤ (0 : Int32).toInt; omega, by show (0 : Int32).toInt ≤ 12; omega, hl0, by show v5.toInt + SB sF lg v3 v4 (0 : Int32).toInt.toNat < SB sF lg v3 v4 12; rw [k0]; show v5.toInt + 0 < _; omega⟩
set_option maxHeartbeats 4000000 in
theorem kL_best_48 {sF s0 sg : Sg} {l0 lg : Lg} {A v3 v4 : Int32} {v5 : Int64} (sv : SV (sF 1)) (hA : A = ctg (sF 1) (sF 1 0).toInt.toNat) (hD : ∀ t u, vld A t u → DPa sF lg A t u) (hv : vld A v3 v4) (hS : StM MX12_best s0 l0 sg lg) (f1 : sg 1 = sF 1) (f7 : sg 0 7 = sF 0 7) (f8 : sg 0 8 = sF 0 8) (f9 : sg 0 9 = sF 0 9) (hk : (sg 0 4).toInt + (kz v3 : Int) ≤ 12) (hl0 : 0 ≤ v5.toInt) (hl1 : v5.toInt < wv lg v3 v4) : Ok (PLM MX12_best s0 l0) (LX12_best_48 (v3, v4, v5, sg, lg)) := by
  unfold LX12_best_48
  refine ok_loop (I := fun (q : Int32 × Int32 × Int64 × Sg × Lg) => q.2.2.2.2 = lg ∧ StM MX12_best s0 l0 q.2.2.2.1 lg ∧ q.2.2.2.1 1 = sF 1 ∧ q.2.2.2.1 0 7 = sF 0 7 ∧ q.2.2.2.1 0 8 = sF 0 8 ∧ q.2.2.2.1 0 9 = sF 0 9 ∧ vld A q.1 q.2.1 ∧ (q.2.2.2.1 0 4).toInt + (kz q.1 : Int) ≤ 12 ∧ 0 ≤ q.2.2.1.toInt ∧ q.2.2.1.toInt < wv lg q.1 q.2.1) (m := fun (q : Int32 × Int32 × Int64 × Sg × Lg) => (4096 - q.1.toInt).toNat) _ ?_ ?_ _ ?_
  · intro q hq
    have := hq.2.2.2.2.2.2.1.1
    show (4096 - q.1.toInt).toNat < 10000
    omega
  · intro rec q hq hrec
    obtain ⟨a3, a4, lft, sg1, lg1⟩ := q
    replace hq : lg1 = lg ∧ StM MX12_best s0 l0 sg1 lg ∧ sg1 1 = sF 1 ∧ sg1 0 7 = sF 0 7 ∧ sg1 0 8 = sF 0 8 ∧ sg1 0 9 = sF 0 9 ∧ vld A a3 a4 ∧ (sg1 0 4).toInt + (kz a3 : Int) ≤ 12 ∧ 0 ≤ lft.toInt ∧ lft.toInt < wv lg a3 a4 := hq
    obtain ⟨e1, q2, q3, q4, q5, q6, q7, q8, q9, q10⟩ := hq
    subst e1
    show Ok _ (fX12_best_48 rec a3 a4 lft sg1 lg1)
    unfold fX12_best_48
    refine bnd3_of (counting_is (by rw [q3]; exact sv)) ?_
    have eA : ctg (sg1 1) (sg1 1 0).toInt.toNat = A := by rw [q3]; exact hA.symm
    rw [eA]
    refine ok_ite (fun c => ?_) (fun c => ?_)
    · exact ok_some (mkPLM q2)
    · have d := hD a3 a4 q7
      have d3 : wv lg1 a3 a4 ≤ SB sF lg1 a3 a4 12 := by
        rcases d.2.2 with z | z
        · exact absurd z c
        · exact z
      refine kL_best_59 sv hA hD q7 q2 q3 q4 q5 q6 q8 q9 (by omega) (fun x u w sg' g1 g2 g3 g4 g5 g6 g7 g8 g9 g10 => hrec (x, u, w, sg', lg1) ⟨rfl, g1, g2, g3, g4, g5, g6, g7, g8, g9⟩ (show (4096 - x.toInt).toNat < (4096 - a3.toInt).toNat by have := g6.2.1; omega))
  · exact ⟨rfl, hS, f1, f7, f8, f9, hv, hk, hl0, hl1⟩
set_option maxHeartbeats 4000000 in
theorem sX12_best {v1 : Int64} {sg : Sg} {lg : Lg} (hI : IM sg lg) : Ok (PLM MX12_best sg lg) (fX12_best v1 sg lg) := by
  have k0 : (0 : Int32).toInt = 0 := by decide
  have k1 : (1 : Int32).toInt = 1 := by decide
  have k12 : (12 : Int32).toInt = 12 := by decide
  have j0 : (0 : Int64).toInt = 0 := by decide
  have z12 : (12 : Int32).toNatClampNeg = 12 := by decide
  have hS : StM MX12_best sg lg sg lg := StM.rf hI
  unfold fX12_best
  refine ok_ite (fun c => ?_) (fun c => ?_)
  · replace c := j_le.mp c
    refine ok_bnd2 (ok_and (sX12_fill (v1 := (1 : Int32)) (v2 := (-1 : Int32)) (v3 := (-1 : Int32)) hI (by omega) (by omega) (by decide) (by decide) (by decide) (by decide)) (k_fill (v1 := (1 : Int32)) (v2 := (-1 : Int32)) (v3 := (-1 : Int32)) (sg := sg) (lg := lg) hI.2.2 (by omega) (by omega))) (fun s2 l3 hq => ?_)
    obtain ⟨p1, A, hA, p2, p3⟩ := hq
    replace p1 : StM MX12_fill sg lg s2 l3 := p1
    replace p2 : s2 1 = sg 1 := p2
    replace p3 : ∀ t u, vld A t u → DPa s2 l3 A t u := p3
    have hS2 := hS.tr p1 (by decide)
    have hA2 : A = ctg (s2 1) (s2 1 0).toInt.toNat := by rw [p2]; exact hA
    unfold fX12_begun
    refine bnd3_of rfl ?_
    rw [z12]
    refine ok_gin (by omega) (by omega) ?_
    refine ok_ite (fun d => ?_) (fun d => ?_)
    · replace d := j_lt.mp d
      refine ok_lt (fun s11 e11 => ?_)
      have hS11 := upM0_4 hS2 (by decide) e11 (by omega) (by omega)
      have ax0 : (ax (0 : Int32) (12 : Int32)).toNatClampNeg = 12 := by decide
      refine kL_best_48 (sF := s2) hS2.1.2.2 hA2 p3 ⟨by omega, by omega, Int32.zero_and, Or.inl ⟨k12, k0⟩⟩ hS11 ?_ ?_ ?_ ?_ ?_ (by omega) ?_
      · rw [e11, up2_n (by decide)]
      · rw [e11, up2_is, if_neg (by decide)]
      · rw [e11, up2_is, if_neg (by decide)]
      · rw [e11, up2_is, if_neg (by decide)]
      · have := kz_le (0 : Int32)
        rw [e11, up2_is, if_pos ⟨rfl, rfl⟩]
        omega
      · unfold wv
        rw [ax0]
        exact d
    · exact ok_some (mkPLM hS2)
  · exact ok_some (mkPLM hS)
