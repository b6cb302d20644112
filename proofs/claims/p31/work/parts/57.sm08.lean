theorem up2L_is (f : Lg) (k j : Nat) (v : Int64) (a b : Nat) : up2L f k j v a b = if a = k ∧ b = j then v else f a b := by
  unfold up2L
  by_cases h : a = k
  · rw [if_pos h]
    by_cases h2 : b = j
    · simp [vp_updL, h, h2]
    · simp [vp_updL, h, h2]
  · rw [if_neg h, if_neg (fun z => h z.1)]
theorem upL_12 {M : List Nat} {s0 sg : Sg} {l0 lg lg' : Lg} {j : Nat} {v : Int64} (h : StM M s0 l0 sg lg) (hk : 12 ∈ M) (e : lg' = up2L lg 12 j v) (hv : ∀ i, j = 14 * i + 1 → v.toInt ≤ 12) : StM M s0 l0 sg lg' := by
  subst e
  refine ⟨⟨h.1.1, fun i => ?_, h.1.2.2⟩, h.2.1, fun a ha => ?_, h.2.2.2⟩
  · rw [up2L_is]
    by_cases c : 12 = 12 ∧ 14 * i + 1 = j
    · rw [if_pos c]; exact hv i c.2.symm
    · rw [if_neg c]; exact h.1.2.1 i
  · rw [up2L_n (fun z : a = 12 => ha (by rw [z]; exact hk))]; exact h.2.2.1 a ha
theorem pe_ex (sg : Sg) : ∃ N : Int, N = (cn (fun j => decide (0 < (sg 10 j).toInt)) 144 : Nat) := ⟨_, rfl⟩
noncomputable def pe (sg : Sg) : Int := Classical.choose (pe_ex sg)
theorem pe_is (sg : Sg) : pe sg = (cn (fun j => decide (0 < (sg 10 j).toInt)) 144 : Nat) := Classical.choose_spec (pe_ex sg)
theorem pe_nn (sg : Sg) : 0 ≤ pe sg := by rw [pe_is]; omega
theorem pe_cg {sg sg' : Sg} (h : sg' 10 = sg 10) : pe sg' = pe sg := by rw [pe_is, pe_is, h]
theorem pe_q : cn (fun j => decide (j % 13 ≠ 0)) 144 = 132 := by decide +kernel
theorem pe_132 {sg : Sg} (h : ∀ x, x < 12 → (sg 10 (13 * x)).toInt = 0) : pe sg ≤ 132 := by
  rw [pe_is]
  have := cn_le (p := fun j => decide (0 < (sg 10 j).toInt)) (q := fun j => decide (j % 13 ≠ 0)) 144 (fun j hj hp => ?_)
  · rw [pe_q] at this
    omega
  · simp only [decide_eq_true_eq] at hp ⊢
    intro hz
    have h1 := h (j / 13) (by omega)
    rw [show 13 * (j / 13) = j by omega] at h1
    omega
theorem pe_le {sg sg' : Sg} {j : Nat} {v : Int32} (e : sg' = up2 sg 10 j v) (h : v.toInt ≤ (sg 10 j).toInt) : pe sg' ≤ pe sg := by
  rw [pe_is, pe_is]
  have := cn_le (p := fun j => decide (0 < (sg' 10 j).toInt)) (q := fun j => decide (0 < (sg 10 j).toInt)) 144 (fun i hi hp => ?_)
  · omega
  · simp only [decide_eq_true_eq] at hp ⊢
    rw [e, up2_is] at hp
    by_cases c : 10 = 10 ∧ i = j
    · rw [if_pos c] at hp; rw [c.2]; omega
    · rw [if_neg c] at hp; exact hp
theorem pe_lt {sg sg' : Sg} {j : Nat} {v : Int32} (e : sg' = up2 sg 10 j v) (h : v.toInt ≤ 0) (h2 : 0 < (sg 10 j).toInt) (hj : j < 144) : pe sg' + 1 ≤ pe sg := by
  rw [pe_is, pe_is]
  have := cn_lt (p := fun j => decide (0 < (sg' 10 j).toInt)) (q := fun j => decide (0 < (sg 10 j).toInt)) (j0 := j) 144 (fun i hi hp => ?_) hj (by simp [h2]) (by simp [e, up2_is]; omega)
  · omega
  · simp only [decide_eq_true_eq] at hp ⊢
    rw [e, up2_is] at hp
    by_cases c : 10 = 10 ∧ i = j
    · rw [if_pos c] at hp; omega
    · rw [if_neg c] at hp; exact hp
theorem mod_all : ∀ a : Nat, a < 13 → ∀ b : Nat, b < 12 → (Int32.ofNat a - Int32.ofNat a / Int32.ofNat (b + 1) * Int32.ofNat (b + 1)).toInt = ((a % (b + 1) : Nat) : Int) := by decide +kernel
theorem mod_i {a b : Int32} (h0 : 0 ≤ a.toInt) (h1 : a.toInt ≤ 12) (b0 : 1 ≤ b.toInt) (b1 : b.toInt ≤ 12) : (a - a / b * b).toInt = ((a.toInt.toNat % b.toInt.toNat : Nat) : Int) := by
  have h := mod_all a.toInt.toNat (by omega) (b.toInt.toNat - 1) (by omega)
  rw [show b.toInt.toNat - 1 + 1 = b.toInt.toNat by omega, ← of_i h0, ← of_i (v := b) (by omega)] at h
  exact h
/-- the i-th peck of a ring of z -/
def ed (sg : Sg) (z i : Nat) : Nat := 12 * (sg 11 i).toNatClampNeg + (sg 11 ((i + 1) % z)).toNatClampNeg
theorem ed_cg {sg sg' : Sg} {z i : Nat} (h : sg' 11 = sg 11) : ed sg' z i = ed sg z i := by unfold ed; rw [h]
theorem ed_pos {sg : Sg} {z i : Nat} (h : ringP sg z) (hi : i < z) : 0 < (sg 10 (ed sg z i)).toInt := by
  unfold ed
  by_cases c : i + 1 < z
  · rw [Nat.mod_eq_of_lt c]; exact h.1.1 i c
  · rw [show i + 1 = z by omega, Nat.mod_self, show i = z - 1 by omega]; exact h.2
theorem ed_lt {sg : Sg} {lg : Lg} (hI : IM sg lg) (z i : Nat) : ed sg z i < 144 ∧ (12 * (sg 11 i).toInt + (sg 11 ((i + 1) % z)).toInt = (ed sg z i : Int)) := by
  have a := rdM11 hI (j := i)
  have b := rdM11 hI (j := (i + 1) % z)
  have c1 := cl_i (i := sg 11 i) (by omega)
  have c2 := cl_i (i := sg 11 ((i + 1) % z)) (by omega)
  unfold ed
  omega
theorem ed_ne {sg : Sg} {lg : Lg} (hI : IM sg lg) {z i j : Nat} (h : ringP sg z) (hi : i < j) (hj : j < z) : ed sg z i ≠ ed sg z j := by
  have a := rdM11 hI (j := i)
  have b := rdM11 hI (j := (i + 1) % z)
  have a' := rdM11 hI (j := j)
  have b' := rdM11 hI (j := (j + 1) % z)
  have e1 := ed_lt hI z i
  have e2 := ed_lt hI z j
  intro e
  exact h.1.2 i j hi hj (Int32.toInt_inj.mp (by omega))
def LR (sg : Sg) : Prop := ∀ j, j < 144 → 0 ≤ (sg 10 j).toInt ∧ (sg 10 j).toInt ≤ 1000000
/-- what stands at the head of pack's loop -/
def PK (s0 : Sg) (l0 : Lg) (v3 : Int32) (sg : Sg) (lg : Lg) : Prop := StM MX12_pack s0 l0 sg lg ∧ LR sg ∧ (sg 0 17).toInt + pe sg ≤ 132 ∧ (v3.toInt = 0 ∨ (2 ≤ v3.toInt ∧ v3.toInt ≤ 12 ∧ ringP sg v3.toInt.toNat))
set_option maxHeartbeats 4000000 in
theorem sLX12_pack_181 {s0 sb : Sg} {l0 lb : Lg} {r77 : (Int64 × Int32 × Sg × Lg) → Option (Int64 × Sg × Lg)} {v1 v4 : Int64} {v3 : Int32} {z is : Nat} (hz : v3.toInt = (z : Int)) (z2 : 2 ≤ z) (z12 : z ≤ 12) (hP : PK s0 l0 v3 sb lb) (hr : ringP sb z) (w1 : 1 ≤ v4.toInt) (w2 : v4.toInt ≤ 1000000) (his : is < z) (hist : (sb 10 (ed sb z is)).toInt = v4.toInt) (hmin : ∀ i, i < z → v4.toInt ≤ (sb 10 (ed sb z i)).toInt) (hS : StM MX12_pack s0 l0 sb lb)
    (hr77 : ∀ (x : Int64) (y : Int32) (sg' : Sg) (lg' : Lg), PK s0 l0 y sg' lg' → pe sg' < pe sb → Ok (PLM MX12_pack s0 l0) (r77 (x, y, sg', lg'))) : Ok (PLM MX12_pack s0 l0) (LX12_pack_181 r77 (v1, v3, v4, (0 : Int32), sb, lb)) := by
  have k0 : (0 : Int32).toInt = 0 := by decide
  have k1 : (1 : Int32).toInt = 1 := by decide
  have w32 : v4.toInt32.toInt = v4.toInt := by rw [Int64.toInt_toInt32]; exact bm_i (by omega) (by omega)
  have hpe := pe_nn sb
  have hcnt := hP.2.2.1
  have hrc := rdM0_17 hS.1
  have hb1 : 1 ≤ pe sb := by
    have := ed_pos hr his
    have e := (ed_lt hS.1 z is).1
    have q := pe_lt (sg := sb) (j := ed sb z is) (v := (0 : Int32)) rfl (by omega) this e
    have := pe_nn (up2 sb 10 (ed sb z is) (0 : Int32))
    omega
  unfold LX12_pack_181
  refine ok_loop (I := fun (q : Int64 × Int32 × Int64 × Int32 × Sg × Lg) => q.2.1 = v3 ∧ q.2.2.1 = v4 ∧ 0 ≤ q.2.2.2.1.toInt ∧ q.2.2.2.1.toInt ≤ (z : Int) ∧ StM MX12_pack s0 l0 q.2.2.2.2.1 q.2.2.2.2.2 ∧ q.2.2.2.2.1 11 = sb 11 ∧ q.2.2.2.2.1 0 = sb 0 ∧ LR q.2.2.2.2.1 ∧ (∀ i : Nat, q.2.2.2.1.toInt ≤ (i : Int) → i < z → q.2.2.2.2.1 10 (ed sb z i) = sb 10 (ed sb z i)) ∧ pe q.2.2.2.2.1 ≤ pe sb ∧ ((is : Int) < q.2.2.2.1.toInt → pe q.2.2.2.2.1 + 1 ≤ pe sb)) (m := fun (q : Int64 × Int32 × Int64 × Int32 × Sg × Lg) => (13 - q.2.2.2.1.toInt).toNat) _ ?_ ?_ _ ?_
  · intro q hq
    have := hq.2.2.1
    show (13 - q.2.2.2.1.toInt).toNat < 10000
    omega
  · intro rec q hq hrec
    obtain ⟨u1, a3, a4, v6, sg, lg⟩ := q
    replace hq : a3 = v3 ∧ a4 = v4 ∧ 0 ≤ v6.toInt ∧ v6.toInt ≤ (z : Int) ∧ StM MX12_pack s0 l0 sg lg ∧ sg 11 = sb 11 ∧ sg 0 = sb 0 ∧ LR sg ∧ (∀ i : Nat, v6.toInt ≤ (i : Int) → i < z → sg 10 (ed sb z i) = sb 10 (ed sb z i)) ∧ pe sg ≤ pe sb ∧ ((is : Int) < v6.toInt → pe sg + 1 ≤ pe sb) := hq
    obtain ⟨e1, e2, q0, q1, q2, q11, q00, q3, q4, q5, q6⟩ := hq
    subst e1 e2
    show Ok _ (fX12_pack_181 r77 rec u1 a3 a4 v6 sg lg)
    unfold fX12_pack_181
    have e17 : (sg 0 17) = (sb 0 17) := by rw [q00]
    have e17' : (sg 0 17).toInt = (sb 0 17).toInt := by rw [e17]
    refine ok_ite (fun c => ?_) (fun c => ?_)
    · replace c := i_le.mp c
      refine ok_lt (fun x2 ex2 => ?_)
      replace ex2 : x2.toInt = (sg 0 17).toInt + 1 := by rw [ex2]; exact add_c 1 k1 (by omega) (by omega)
      refine ok_lt (fun sg3 e3 => ?_)
      have hS3 := upM0_17 q2 (by decide) e3 (by omega) (by omega)
      have f10 : sg3 10 = sg 10 := by rw [e3]; exact up2_n (by decide)
      have f17 : (sg3 0 17).toInt = x2.toInt := by rw [e3, up2_is, if_pos ⟨rfl, rfl⟩]
      refine ok_lt (fun x4 ex4 => ?_)
      refine ok_bnd3 (sX12_ringNext hS3.1) (fun y5 sg6 lg7 hq => ?_)
      obtain ⟨p1, p2⟩ := hq
      replace p1 : StM MX12_ringNext sg3 lg sg6 lg7 := p1
      replace p2 : y5.toInt = 0 ∨ (2 ≤ y5.toInt ∧ y5.toInt ≤ 12 ∧ ringP sg6 y5.toInt.toNat) := p2
      have hS6 := hS3.tr p1 (by decide)
      have g10 : sg6 10 = sg 10 := by rw [p1.fr 10 (by decide), f10]
      have g17 : (sg6 0 17).toInt = x2.toInt := by rw [p1.fr 0 (by decide)]; exact f17
      have gp : pe sg6 = pe sg := pe_cg g10
      have q6' := q6 (by omega)
      exact hr77 x4 y5 sg6 lg7 ⟨hS6, fun j hj => by rw [g10]; exact q3 j hj, by omega, p2⟩ (by omega)
    · replace c := i_nle.mp c
      have hv6 := cl_i q0
      have r6 := rdM11 q2.1 (j := v6.toNatClampNeg)
      have f1 := mul_l (a := (14 : Int32)) (b := sg 0 17) 14 (by decide) (by omega) (by omega)
      have f2 := add_c (a := (14 : Int32) * (sg 0 17)) (b := (2 : Int32)) 2 (by decide) (by omega) (by omega)
      have f3 := add_i (a := (14 : Int32) * (sg 0 17) + (2 : Int32)) (b := v6) (by omega) (by omega)
      have g3 := cl_i (i := (14 : Int32) * (sg 0 17) + (2 : Int32) + v6) (by omega)
      refine ok_gin (by omega) (by omega) ?_
      refine ok_lt (fun x10 ex10 => ?_)
      refine ok_gin (by omega) (by omega) ?_
      refine ok_lt (fun lg12 el12 => ?_)
      have hS12 := upL_12 q2 (by decide) el12 (fun i hi => by omega)
      refine ok_gin (by omega) (by omega) ?_
      refine ok_gne (by omega) ?_
      have fa := add_c (a := v6) (b := (1 : Int32)) 1 k1 (by omega) (by omega)
      have fm := mod_i (a := v6 + (1 : Int32)) (b := a3) (by omega) (by omega) (by omega) (by omega)
      refine ok_lt (fun x15 ex15 => ?_)
      rw [← ex15] at fm
      have fm2 : x15.toInt = (((v6.toNatClampNeg + 1) % z : Nat) : Int) := by
        rw [fm, fa, hz]
        congr 2
        omega
      have hlt : (v6.toNatClampNeg + 1) % z < z := Nat.mod_lt _ (by omega)
      have g15 := cl_i (i := x15) (by omega)
      have g15' : x15.toNatClampNeg = (v6.toNatClampNeg + 1) % z := by omega
      have r15 := rdM11 q2.1 (j := x15.toNatClampNeg)
      refine ok_gin (by omega) (by omega) ?_
      have h1 := mul_l (a := (12 : Int32)) (b := sg 11 v6.toNatClampNeg) 12 (by decide) (by omega) (by omega)
      have h2 := add_i (a := (12 : Int32) * (sg 11 v6.toNatClampNeg)) (b := sg 11 x15.toNatClampNeg) (by omega) (by omega)
      refine ok_lt (fun x17 ex17 => ?_)
      replace ex17 := congrArg Int32.toInt ex17
      have g17 := cl_i (i := x17) (by omega)
      have el := ed_lt q2.1 z v6.toNatClampNeg
      have e17x : x17.toNatClampNeg = ed sb z v6.toNatClampNeg := by
        rw [← ed_cg (sg' := sg) q11]
        rw [g15'] at ex17 h2
        omega
      refine ok_gin (by omega) (by omega) ?_
      have old : sg 10 x17.toNatClampNeg = sb 10 (ed sb z v6.toNatClampNeg) := by rw [e17x]; exact q4 _ (by omega) (by omega)
      have om := hmin v6.toNatClampNeg (by omega)
      have o1 : (sg 10 x17.toNatClampNeg).toInt = (sb 10 (ed sb z v6.toNatClampNeg)).toInt := by rw [old]
      have o2 := q3 x17.toNatClampNeg (by omega)
      have fs := sub_i (a := sg 10 x17.toNatClampNeg) (b := a4.toInt32) (by omega) (by omega)
      refine ok_lt (fun x19 ex19 => ?_)
      replace ex19 := congrArg Int32.toInt ex19
      refine ok_gin (by omega) (by omega) ?_
      refine ok_lt (fun sg21 e21 => ?_)
      have hS21 := upM10 hS12 (by decide) e21
      have p1 := pe_le e21 (by omega)
      refine ok_lt (fun x22 ex22 => ?_)
      replace ex22 : x22.toInt = v6.toInt + 1 := by rw [ex22]; exact add_c 1 k1 (by omega) (by omega)
      refine hrec (u1, a3, a4, x22, sg21, lg12) ⟨rfl, rfl, by show 0 ≤ x22.toInt; omega, by show x22.toInt ≤ (z : Int); omega, hS21, ?_, ?_, fun j hj => ?_, fun i hi hiz => ?_, ?_, fun hi => ?_⟩ (show (13 - x22.toInt).toNat < (13 - v6.toInt).toNat by omega)
      · show sg21 11 = sb 11
        rw [e21, up2_n (by decide)]; exact q11
      · show sg21 0 = sb 0
        rw [e21, up2_n (by decide)]; exact q00
      · show 0 ≤ (sg21 10 j).toInt ∧ (sg21 10 j).toInt ≤ 1000000
        rw [e21, up2_is]
        by_cases w : 10 = 10 ∧ j = x17.toNatClampNeg
        · rw [if_pos w]; omega
        · rw [if_neg w]; exact q3 j hj
      · replace hi : x22.toInt ≤ (i : Int) := hi
        show sg21 10 (ed sb z i) = sb 10 (ed sb z i)
        have ne := ed_ne hS.1 (z := z) (i := v6.toNatClampNeg) (j := i) hr (by omega) hiz
        rw [e21, up2_is, if_neg (fun w => ne (by rw [← e17x]; exact w.2.symm))]
        exact q4 i (by omega) hiz
      · show pe sg21 ≤ pe sb
        omega
      · replace hi : (is : Int) < x22.toInt := hi
        show pe sg21 + 1 ≤ pe sb
        by_cases w : (is : Int) = v6.toInt
        · have ew : is = v6.toNatClampNeg := by omega
          rw [ew] at hist
          have p2 := pe_lt e21 (by omega) (by omega) (by omega)
          omega
        · have := q6 (by omega)
          omega
  · exact ⟨rfl, rfl, by show 0 ≤ (0 : Int32).toInt; omega, by show (0 : Int32).toInt ≤ (z : Int); omega, hS, rfl, rfl, hP.2.1, fun i _ _ => rfl, by show pe sb ≤ pe sb; omega, fun hi => by have hi' : (is : Int) < (0 : Int32).toInt := hi; omega⟩
set_option maxHeartbeats 4000000 in
theorem sLX12_pack_89 {s0 sg : Sg} {l0 lg : Lg} {r77 : (Int64 × Int32 × Sg × Lg) → Option (Int64 × Sg × Lg)} {v1 : Int64} {v3 : Int32} {z : Nat} (hz : v3.toInt = (z : Int)) (z2 : 2 ≤ z) (z12 : z ≤ 12) (hP : PK s0 l0 v3 sg lg) (hr : ringP sg z)
    (hr77 : ∀ (x : Int64) (y : Int32) (sg' : Sg) (lg' : Lg), PK s0 l0 y sg' lg' → pe sg' < pe sg → Ok (PLM MX12_pack s0 l0) (r77 (x, y, sg', lg'))) : Ok (PLM MX12_pack s0 l0) (LX12_pack_89 r77 (v1, v3, (1000000000000000 : Int64), (0 : Int32), sg, lg)) := by
  have k0 : (0 : Int32).toInt = 0 := by decide
  have k1 : (1 : Int32).toInt = 1 := by decide
  have kE : (1000000000000000 : Int64).toInt = 1000000000000000 := by decide
  have hS := hP.1
  have hrc := rdM0_17 hS.1
  have hpe := pe_nn sg
  have hcnt := hP.2.2.1
  have hb1 : 1 ≤ pe sg := by
    have := ed_pos hr (show 0 < z by omega)
    have e := (ed_lt hS.1 z 0).1
    have q := pe_lt (sg := sg) (j := ed sg z 0) (v := (0 : Int32)) rfl (by omega) this e
    have := pe_nn (up2 sg 10 (ed sg z 0) (0 : Int32))
    omega
  unfold LX12_pack_89
  refine ok_loop (I := fun (q : Int64 × Int32 × Int64 × Int32 × Sg × Lg) => q.2.1 = v3 ∧ q.2.2.2.2.1 = sg ∧ q.2.2.2.2.2 = lg ∧ 0 ≤ q.2.2.2.1.toInt ∧ q.2.2.2.1.toInt ≤ (z : Int) ∧ ((q.2.2.2.1.toInt = 0 ∧ q.2.2.1.toInt = 1000000000000000) ∨ ∃ is : Nat, (is : Int) < q.2.2.2.1.toInt ∧ (sg 10 (ed sg z is)).toInt = q.2.2.1.toInt) ∧ ∀ i : Nat, (i : Int) < q.2.2.2.1.toInt → q.2.2.1.toInt ≤ (sg 10 (ed sg z i)).toInt) (m := fun (q : Int64 × Int32 × Int64 × Int32 × Sg × Lg) => (13 - q.2.2.2.1.toInt).toNat) _ ?_ ?_ _ ?_
  · intro q hq
    have := hq.2.2.2.1
    show (13 - q.2.2.2.1.toInt).toNat < 10000
    omega
  · intro rec q hq hrec
    obtain ⟨u1, a3, v4, v6, sg1, lg1⟩ := q
    replace hq : a3 = v3 ∧ sg1 = sg ∧ lg1 = lg ∧ 0 ≤ v6.toInt ∧ v6.toInt ≤ (z : Int) ∧ ((v6.toInt = 0 ∧ v4.toInt = 1000000000000000) ∨ ∃ is : Nat, (is : Int) < v6.toInt ∧ (sg 10 (ed sg z is)).toInt = v4.toInt) ∧ ∀ i : Nat, (i : Int) < v6.toInt → v4.toInt ≤ (sg 10 (ed sg z i)).toInt := hq
    obtain ⟨e1, e2, e3, q0, q1, q2, q3⟩ := hq
    subst e1 e2 e3
    show Ok _ (fX12_pack_89 r77 rec u1 a3 v4 v6 sg1 lg1)
    unfold fX12_pack_89
    refine ok_ite (fun c => ?_) (fun c => ?_)
    · replace c := i_le.mp c
      obtain ⟨is, his, hiv⟩ : ∃ is : Nat, (is : Int) < v6.toInt ∧ (sg1 10 (ed sg1 z is)).toInt = v4.toInt := by
        rcases q2 with w | w
        · omega
        · exact w
      have pos := ed_pos hr (show is < z by omega)
      have el := ed_lt hS.1 z is
      have lr := hP.2.1 (ed sg1 z is) el.1
      have f1 := mul_l (a := (14 : Int32)) (b := sg1 0 17) 14 (by decide) (by omega) (by omega)
      have f2 := add_c (a := (14 : Int32) * (sg1 0 17)) (b := (1 : Int32)) 1 k1 (by omega) (by omega)
      have g1 := cl_i (i := (14 : Int32) * (sg1 0 17)) (by omega)
      have g2 := cl_i (i := (14 : Int32) * (sg1 0 17) + (1 : Int32)) (by omega)
      refine ok_gin (by omega) (by omega) ?_
      refine ok_lt (fun lg3 el3 => ?_)
      have hS3 := upL_12 hS (by decide) el3 (fun i hi => by omega)
      refine ok_gin (by omega) (by omega) ?_
      refine ok_lt (fun lg5 el5 => ?_)
      have hS5 := upL_12 hS3 (by decide) el5 (fun i hi => by rw [Int32.toInt_toInt64]; omega)
      exact sLX12_pack_181 (is := is) hz z2 z12 ⟨hS5, hP.2.1, hcnt, hP.2.2.2⟩ hr (by omega) (by omega) (by omega) hiv (fun i hi => q3 i (by omega)) hS5 hr77
    · replace c := i_nle.mp c
      have hv6 := cl_i q0
      have r6 := rdM11 hS.1 (j := v6.toNatClampNeg)
      refine ok_gin (by omega) (by omega) ?_
      refine ok_gne (by omega) ?_
      have fa := add_c (a := v6) (b := (1 : Int32)) 1 k1 (by omega) (by omega)
      have fm := mod_i (a := v6 + (1 : Int32)) (b := a3) (by omega) (by omega) (by omega) (by omega)
      refine ok_lt (fun x8 ex8 => ?_)
      rw [← ex8] at fm
      have fm2 : x8.toInt = (((v6.toNatClampNeg + 1) % z : Nat) : Int) := by
        rw [fm, fa, hz]
        congr 2
        omega
      have hlt : (v6.toNatClampNeg + 1) % z < z := Nat.mod_lt _ (by omega)
      have g8 := cl_i (i := x8) (by omega)
      have g8' : x8.toNatClampNeg = (v6.toNatClampNeg + 1) % z := by omega
      have r8 := rdM11 hS.1 (j := x8.toNatClampNeg)
      refine ok_gin (by omega) (by omega) ?_
      have h1 := mul_l (a := (12 : Int32)) (b := sg1 11 v6.toNatClampNeg) 12 (by decide) (by omega) (by omega)
      have h2 := add_i (a := (12 : Int32) * (sg1 11 v6.toNatClampNeg)) (b := sg1 11 x8.toNatClampNeg) (by omega) (by omega)
      refine ok_lt (fun x10 ex10 => ?_)
      replace ex10 := congrArg Int32.toInt ex10
      have g10 := cl_i (i := x10) (by omega)
      have el := ed_lt hS.1 z v6.toNatClampNeg
      have e10 : x10.toNatClampNeg = ed sg1 z v6.toNatClampNeg := by
        rw [g8'] at ex10 h2
        omega
      refine ok_gin (by omega) (by omega) ?_
      refine ok_lt (fun x12 ex12 => ?_)
      rw [e10] at ex12
      replace ex12 := congrArg Int64.toInt ex12
      rw [Int32.toInt_toInt64] at ex12
      have go : ∀ w : Int64, (∃ is : Nat, (is : Int) < v6.toInt + 1 ∧ (sg1 10 (ed sg1 z is)).toInt = w.toInt) → (∀ i : Nat, (i : Int) < v6.toInt + 1 → w.toInt ≤ (sg1 10 (ed sg1 z i)).toInt) → Ok (PLM MX12_pack s0 l0) (fX12_pack_140 r77 rec u1 a3 v6 w sg1 lg1) := by
        intro w hw1 hw2
        unfold fX12_pack_140
        refine ok_lt (fun x ex => ?_)
        replace ex : x.toInt = v6.toInt + 1 := by rw [ex]; exact add_c 1 k1 (by omega) (by omega)
        refine hrec (u1, a3, w, x, sg1, lg1) ⟨rfl, rfl, rfl, by show 0 ≤ x.toInt; omega, by show x.toInt ≤ (z : Int); omega, Or.inr ?_, fun i hi => hw2 i (by have hi' : (i : Int) < x.toInt := hi; omega)⟩ (show (13 - x.toInt).toNat < (13 - v6.toInt).toNat by omega)
        obtain ⟨is, h1, h2⟩ := hw1
        exact ⟨is, by show (is : Int) < x.toInt; omega, h2⟩
      have lr := hP.2.1 (ed sg1 z v6.toNatClampNeg) el.1
      refine ok_ite (fun c2 => ?_) (fun c2 => ?_)
      · replace c2 := j_le.mp c2
        refine go v4 ?_ (fun i hi => ?_)
        · rcases q2 with w | ⟨is, w, w'⟩
          · omega
          · exact ⟨is, by omega, w'⟩
        · by_cases w : (i : Int) = v6.toInt
          · rw [show i = v6.toNatClampNeg by omega]; omega
          · exact q3 i (by omega)
      · replace c2 := j_nle.mp c2
        refine go x12 ⟨v6.toNatClampNeg, by omega, ex12.symm⟩ (fun i hi => ?_)
        by_cases w : (i : Int) = v6.toInt
        · rw [show i = v6.toNatClampNeg by omega]; omega
        · have := q3 i (by omega)
          omega
  · exact ⟨rfl, rfl, rfl, by show 0 ≤ (0 : Int32).toInt; omega, by show (0 : Int32).toInt ≤ (z : Int); omega, Or.inl ⟨k0, kE⟩, fun i hi => by have hi' : (i : Int) < (0 : Int32).toInt := hi; omega⟩
theorem sLX12_pack_77 {s0 : Sg} {l0 : Lg} {v1 : Int64} {v3 : Int32} {sg : Sg} {lg : Lg} (hP : PK s0 l0 v3 sg lg) : Ok (PLM MX12_pack s0 l0) (LX12_pack_77 (v1, v3, sg, lg)) := by
  have k0 : (0 : Int32).toInt = 0 := by decide
  unfold LX12_pack_77
  refine ok_loop (I := fun (q : Int64 × Int32 × Sg × Lg) => PK s0 l0 q.2.1 q.2.2.1 q.2.2.2) (m := fun (q : Int64 × Int32 × Sg × Lg) => (pe q.2.2.1).toNat) _ ?_ ?_ _ hP
  · intro q hq
    have h1 := hq.2.2.1
    have h2 := rdM0_17 hq.1.1
    show (pe q.2.2.1).toNat < 10000
    omega
  · intro rec q hq hrec
    obtain ⟨u1, v3, sg, lg⟩ := q
    replace hq : PK s0 l0 v3 sg lg := hq
    show Ok _ (fX12_pack_77 rec u1 v3 sg lg)
    unfold fX12_pack_77
    refine ok_ite (fun c => ?_) (fun c => ?_)
    · exact ok_some (mkPLM hq.1)
    · replace c := i_nle.mp c
      rcases hq.2.2.2 with w | ⟨w1, w2, w3⟩
      · omega
      · exact sLX12_pack_89 (z := v3.toInt.toNat) (by omega) (by omega) (by omega) hq w3 (fun x y sg' lg' g1 g2 => hrec (x, y, sg', lg') g1 (show (pe sg').toNat < (pe sg).toNat by have := pe_nn sg'; omega))
/-- what has been laid of left -/
def LI (sg : Sg) (n : Int) : Prop := ∀ j : Nat, (j : Int) < n → (0 ≤ (sg 10 j).toInt ∧ (sg 10 j).toInt ≤ 1000000) ∧ ∀ x, j = 13 * x → (sg 10 j).toInt = 0
set_option maxHeartbeats 4000000 in
theorem sLX12_pack_10 {s0 : Sg} {l0 : Lg} {r2 : (Int32 × Sg × Lg) → Option (Int64 × Sg × Lg)} {v1 : Int32} {sg : Sg} {lg : Lg} (hS : StM MX12_pack s0 l0 sg lg) (v1l : 0 ≤ v1.toInt) (v1h : v1.toInt ≤ 11) (hL : LI sg (12 * v1.toInt)) (hr2 : ∀ (x : Int32) (sg' : Sg) (lg' : Lg), StM MX12_pack s0 l0 sg' lg' → x.toInt = v1.toInt + 1 → LI sg' (12 * x.toInt) → Ok (PLM MX12_pack s0 l0) (r2 (x, sg', lg'))) : Ok (PLM MX12_pack s0 l0) (LX12_pack_10 r2 (v1, (0 : Int32), sg, lg)) := by
  have k0 : (0 : Int32).toInt = 0 := by decide
  have k1 : (1 : Int32).toInt = 1 := by decide
  have k12 : (12 : Int32).toInt = 12 := by decide
  unfold LX12_pack_10
  refine ok_loop (I := fun (q : Int32 × Int32 × Sg × Lg) => q.1 = v1 ∧ 0 ≤ q.2.1.toInt ∧ q.2.1.toInt ≤ 12 ∧ StM MX12_pack s0 l0 q.2.2.1 q.2.2.2 ∧ LI q.2.2.1 (12 * v1.toInt + q.2.1.toInt)) (m := fun (q : Int32 × Int32 × Sg × Lg) => (13 - q.2.1.toInt).toNat) _ ?_ ?_ _ ?_
  · intro q hq
    have := hq.2.1
    show (13 - q.2.1.toInt).toNat < 10000
    omega
  · intro rec q hq hrec
    obtain ⟨a1, v2, sg, lg⟩ := q
    replace hq : a1 = v1 ∧ 0 ≤ v2.toInt ∧ v2.toInt ≤ 12 ∧ StM MX12_pack s0 l0 sg lg ∧ LI sg (12 * v1.toInt + v2.toInt) := hq
    obtain ⟨e1, q0, q1, q2, q3⟩ := hq
    subst e1
    show Ok _ (fX12_pack_10 r2 rec a1 v2 sg lg)
    unfold fX12_pack_10
    refine ok_ite (fun c => ?_) (fun c => ?_)
    · replace c := i_le.mp c
      refine ok_lt (fun x ex => ?_)
      replace ex : x.toInt = a1.toInt + 1 := by rw [ex]; exact add_c 1 k1 (by omega) (by omega)
      exact hr2 x sg lg q2 ex (fun j hj => q3 j (by omega))
    · replace c := i_nle.mp c
      have f1 := mul_l (a := (12 : Int32)) (b := a1) 12 (by decide) (by omega) (by omega)
      have f2 := add_i (a := (12 : Int32) * a1) (b := v2) (by omega) (by omega)
      have g1 := cl_i (i := (12 : Int32) * a1 + v2) (by omega)
      have go : ∀ w : Int32, 0 ≤ w.toInt → w.toInt ≤ 1000000 → (a1.toInt = v2.toInt → w.toInt = 0) → Ok (PLM MX12_pack s0 l0) (fX12_pack_52 r2 rec a1 v2 w ((12 : Int32) * a1 + v2) sg lg) := by
        intro w w0 w1 w2
        unfold fX12_pack_52
        refine ok_gin (by omega) (by omega) ?_
        refine ok_lt (fun sg2 e2 => ?_)
        have hS2 := upM10 q2 (by decide) e2
        refine ok_lt (fun x ex => ?_)
        replace ex : x.toInt = v2.toInt + 1 := by rw [ex]; exact add_c 1 k1 (by omega) (by omega)
        refine hrec (a1, x, sg2, lg) ⟨rfl, by show 0 ≤ x.toInt; omega, by show x.toInt ≤ 12; omega, hS2, fun j hj => ?_⟩ (show (13 - x.toInt).toNat < (13 - v2.toInt).toNat by omega)
        replace hj : (j : Int) < 12 * a1.toInt + x.toInt := hj
        show (0 ≤ (sg2 10 j).toInt ∧ (sg2 10 j).toInt ≤ 1000000) ∧ ∀ y, j = 13 * y → (sg2 10 j).toInt = 0
        rw [e2, up2_is]
        by_cases z : 10 = 10 ∧ j = ((12 : Int32) * a1 + v2).toNatClampNeg
        · rw [if_pos z]
          exact ⟨⟨w0, w1⟩, fun y hy => w2 (by omega)⟩
        · rw [if_neg z]; exact q3 j (by omega)
      have sv := q2.1.2.2
      refine bnd3_pxM (sX12_counts (v1 := a1) q2.1) (fun y3 _ _ _ => ?_)
      refine ok_ite (fun c3 => ?_) (fun c3 => ?_)
      · unfold fX12_pack_51
        exact go 0 (by omega) (by omega) (fun _ => k0)
      · refine bnd3_pxM (sX12_counts (v1 := v2) q2.1) (fun y8 _ _ _ => ?_)
        refine ok_ite (fun c8 => ?_) (fun c8 => ?_)
        · unfold fX12_pack_51
          exact go 0 (by omega) (by omega) (fun _ => k0)
        · refine bnd3_of (peckOf_is v1l v1h q0 (by omega)) ?_
          have h1 := cl_i v1l
          have h2 := cl_i q0
          have r := sv.2.2.2 (49 + 12 * a1.toNatClampNeg + v2.toNatClampNeg) (by omega) (by omega)
          refine go _ r.1 r.2 (fun w => ?_)
          have := sv.2.2.1 a1.toNatClampNeg (by omega)
          rw [show 49 + 12 * a1.toNatClampNeg + v2.toNatClampNeg = 49 + 13 * a1.toNatClampNeg by omega, this]
          exact k0
  · exact ⟨rfl, by show 0 ≤ (0 : Int32).toInt; omega, by show (0 : Int32).toInt ≤ 12; omega, hS, fun j hj => hL j (by have hj' : (j : Int) < 12 * v1.toInt + (0 : Int32).toInt := hj; omega)⟩
set_option maxHeartbeats 4000000 in
theorem sX12_pack {sg : Sg} {lg : Lg} (hI : IM sg lg) : Ok (PLM MX12_pack sg lg) (fX12_pack sg lg) := by
  have k0 : (0 : Int32).toInt = 0 := by decide
  have k12 : (12 : Int32).toInt = 12 := by decide
  unfold fX12_pack LX12_pack_2
  refine ok_loop (I := fun (q : Int32 × Sg × Lg) => 0 ≤ q.1.toInt ∧ q.1.toInt ≤ 12 ∧ StM MX12_pack sg lg q.2.1 q.2.2 ∧ LI q.2.1 (12 * q.1.toInt)) (m := fun (q : Int32 × Sg × Lg) => (13 - q.1.toInt).toNat) _ ?_ ?_ _ ?_
  · intro q hq
    have := hq.1
    show (13 - q.1.toInt).toNat < 10000
    omega
  · intro rec q hq hrec
    obtain ⟨v1, s, l⟩ := q
    replace hq : 0 ≤ v1.toInt ∧ v1.toInt ≤ 12 ∧ StM MX12_pack sg lg s l ∧ LI s (12 * v1.toInt) := hq
    obtain ⟨q0, q1, q2, q3⟩ := hq
    show Ok _ (fX12_pack_2 rec v1 s l)
    unfold fX12_pack_2
    refine ok_ite (fun c => ?_) (fun c => ?_)
    · replace c := i_le.mp c
      refine ok_lt (fun sg2 e2 => ?_)
      have hS2 := upM0_17 q2 (by decide) e2 (by omega) (by omega)
      have f10 : sg2 10 = s 10 := by rw [e2]; exact up2_n (by decide)
      have f17 : (sg2 0 17).toInt = 0 := by rw [e2, up2_is, if_pos ⟨rfl, rfl⟩]; exact k0
      refine ok_bnd3 (sX12_ringNext hS2.1) (fun y3 sg4 lg5 hq => ?_)
      obtain ⟨p1, p2⟩ := hq
      replace p1 : StM MX12_ringNext sg2 l sg4 lg5 := p1
      replace p2 : y3.toInt = 0 ∨ (2 ≤ y3.toInt ∧ y3.toInt ≤ 12 ∧ ringP sg4 y3.toInt.toNat) := p2
      have hS4 := hS2.tr p1 (by decide)
      have g10 : sg4 10 = s 10 := by rw [p1.fr 10 (by decide), f10]
      have g17 : (sg4 0 17).toInt = 0 := by rw [p1.fr 0 (by decide)]; exact f17
      have gp : pe sg4 = pe s := pe_cg g10
      have hp := pe_132 (sg := s) (fun x hx => (q3 (13 * x) (by omega)).2 x rfl)
      exact sLX12_pack_77 ⟨hS4, fun j hj => by rw [g10]; exact (q3 j (by omega)).1, by omega, p2⟩
    · replace c := i_nle.mp c
      exact sLX12_pack_10 q2 q0 (by omega) q3 (fun x sg' lg' w1 w2 w3 => hrec (x, sg', lg') ⟨by show 0 ≤ x.toInt; omega, by show x.toInt ≤ 12; omega, w1, w3⟩ (show (13 - x.toInt).toNat < (13 - v1.toInt).toNat by omega))
  · exact ⟨by show 0 ≤ (0 : Int32).toInt; omega, by show (0 : Int32).toInt ≤ 12; omega, StM.rf hI, fun j hj => by have hj' : (j : Int) < 12 * (0 : Int32).toInt := hj; omega⟩
theorem add64 {a b : Int64} (h1 : -9223372036854775808 ≤ a.toInt + b.toInt) (h2 : a.toInt + b.toInt ≤ 9223372036854775807) : (a + b).toInt = a.toInt + b.toInt := by
  rw [Int64.toInt_add]
  refine Int.bmod_eq_of_le ?_ ?_
  · show -(18446744073709551616 / 2) ≤ a.toInt + b.toInt
    omega
  · show a.toInt + b.toInt < (18446744073709551616 + 1) / 2
    omega
set_option maxHeartbeats 4000000 in
theorem sX12_ring {v1 : Int32} {v2 : Int32} {sg : Sg} {lg : Lg} (hI : IM sg lg) : Ok (PUlM sg lg) (fX12_ring v1 v2 sg lg) := by
  unfold fX12_ring
  refine ok_ite (fun c1 => ?_) (fun c1 => ?_)
  · have k2 : (0 : Int32).toInt = 0 := by decide
    replace c1 := i_lt.mp c1
    exact ok_some (mkPUlM)
  · have k3 : (0 : Int32).toInt = 0 := by decide
    replace c1 := i_nlt.mp c1
    refine ok_ite (fun c4 => ?_) (fun c4 => ?_)
    · replace c4 := i_le.mp c4
      refine ok_ite (fun c5 => ?_) (fun c5 => ?_)
      · have f6 := rdM0_17 hI
        replace c5 := i_lt.mp c5
        have k7 : (14 : Int32).toInt = 14 := by decide
        have f8 := mul_l (a := (14 : Int32)) (b := v1) 14 (by decide) (by omega) (by omega)
        refine ok_lt (fun x4 ex4 => ?_)
        replace ex4 : x4.toInt = ((14 : Int32) * v1).toInt + 1 := by rw [ex4]; exact add_c 1 (by decide) (by omega) (by omega)
        refine ok_gin (by omega) (by omega) ?_
        refine ok_ite (fun c9 => ?_) (fun c9 => ?_)
        · have k10 : (2 : Int64).toInt = 2 := by decide
          have f11 : v2.toInt64.toInt = v2.toInt := Int32.toInt_toInt64 _
          replace c9 := j_le.mp c9
          exact ok_some (mkPUlM)
        · have k12 : (2 : Int64).toInt = 2 := by decide
          have f13 : v2.toInt64.toInt = v2.toInt := Int32.toInt_toInt64 _
          replace c9 := j_nle.mp c9
          have g1 := cl_i (i := x4) (by omega)
          have g2 := cl_i (i := v1) (by omega)
          have g3 : x4.toNatClampNeg = 14 * v1.toNatClampNeg + 1 := by omega
          have g4 : (lg 12 x4.toNatClampNeg).toInt ≤ 12 := by rw [g3]; exact hI.2.1 _
          have g5 := add64 (a := (2 : Int64)) (b := lg 12 x4.toNatClampNeg) (by have := (lg 12 x4.toNatClampNeg).le_toInt; omega) (by omega)
          have g6 := add_i (a := ((14 : Int32) * v1)) (b := v2) (by omega) (by omega)
          refine ok_lt (fun x7 ex7 => ?_)
          replace ex7 := congrArg Int32.toInt ex7
          refine ok_gin (by omega) (by omega) ?_
          exact ok_some (mkPUlM)
      · have f14 := rdM0_17 hI
        replace c5 := i_nlt.mp c5
        exact ok_some (mkPUlM)
    · replace c4 := i_nle.mp c4
      exact ok_some (mkPUlM)
set_option maxHeartbeats 4000000 in
theorem sX12_count_77 {r53 : (Int64 × Int32 × Sg × Lg) → Option (Int64 × Sg × Lg)} {v4 : Int32} {w0 : Int64} {w1 : Int64} {sg : Sg} {lg : Lg} (hI : IM sg lg) (v4l : 0 ≤ v4.toInt) (v4h : v4.toInt ≤ 11) (hr53 : ∀ (v2' : Int64) (v4' : Int32), 0 ≤ v4'.toInt → v4'.toInt ≤ 12 → v4.toInt < v4'.toInt → Ok (PUlM sg lg) (r53 (v2', v4', sg, lg))) : Ok (PUlM sg lg) (fX12_count_77 r53 v4 w0 w1 sg lg) := by
  unfold fX12_count_77
  refine ok_lt (fun x1 ex1 => ?_)
  refine ok_lt (fun x2 ex2 => ?_)
  replace ex2 : x2.toInt = v4.toInt + 1 := by rw [ex2]; exact add_c 1 (by decide) (by omega) (by omega)
  exact hr53 x1 x2 (by omega) (by omega) (by omega)
set_option maxHeartbeats 4000000 in
theorem sX12_count_53 {r53 : (Int64 × Int32 × Sg × Lg) → Option (Int64 × Sg × Lg)} {v2 : Int64} {v4 : Int32} {sg : Sg} {lg : Lg} (hI : IM sg lg) (v4l : 0 ≤ v4.toInt) (v4h : v4.toInt ≤ 12) (hr53 : ∀ (v2' : Int64) (v4' : Int32), 0 ≤ v4'.toInt → v4'.toInt ≤ 12 → v4.toInt < v4'.toInt → Ok (PUlM sg lg) (r53 (v2', v4', sg, lg))) : Ok (PUlM sg lg) (fX12_count_53 r53 v2 v4 sg lg) := by
  unfold fX12_count_53
  refine bnd3_puM (sX12_hens  hI) (fun y1 qy1 zy1 => ?_)
  refine ok_ite (fun c1 => ?_) (fun c1 => ?_)
  · replace c1 := i_le.mp c1
    exact ok_some (mkPUlM)
  · replace c1 := i_nle.mp c1
    refine bnd3_pxM (sX12_counts (v1 := v4) hI) (fun y6 qy6 zy6 xy6 => ?_)
    replace xy6 : y6.toInt = 0 ∨ (0 ≤ v4.toInt ∧ v4.toInt ≤ 11) := xy6
    refine ok_ite (fun c2 => ?_) (fun c2 => ?_)
    · have k3 : (0 : Int32).toInt = 0 := by decide
      replace c2 := i_eq.mp c2
      exact sX12_count_77 hI (by omega) (by omega) hr53
    · have k4 : (0 : Int32).toInt = 0 := by decide
      replace c2 := i_ne.mp c2
      exact sX12_count_77 hI (by omega) (by omega) hr53
set_option maxHeartbeats 4000000 in
theorem sLX12_count_53 {v2 : Int64} {v4 : Int32} {sg : Sg} {lg : Lg} (hI : IM sg lg) (v4l : 0 ≤ v4.toInt) (v4h : v4.toInt ≤ 12) : Ok (PUlM sg lg) (LX12_count_53 (v2, v4, sg, lg)) := by
  unfold LX12_count_53
  refine ok_loop (I := fun (z : Int64 × Int32 × Sg × Lg) => z.2.2.1 = sg ∧ z.2.2.2 = lg ∧ 0 ≤ z.2.1.toInt ∧ z.2.1.toInt ≤ 12) (m := fun (z : Int64 × Int32 × Sg × Lg) => (13 - z.2.1.toInt).toNat) _ ?_ ?_ _ ?_
  · intro z hz
    obtain ⟨h0, h1, h2, h3⟩ := hz
    show (13 - z.2.1.toInt).toNat < 10000
    omega
  · intro rec z hz hrec
    obtain ⟨v2, v4, sg1, lg1⟩ := z
    replace hz : sg1 = sg ∧ lg1 = lg ∧ 0 ≤ v4.toInt ∧ v4.toInt ≤ 12 := hz
    obtain ⟨h0, h1, h2, h3⟩ := hz
    subst sg1
    subst lg1
    show Ok (PUlM sg lg) (fX12_count_53 rec v2 v4 sg lg)
    exact sX12_count_53 hI h2 h3 (fun v2' v4' g0 g1 g2 => hrec (v2', v4', sg, lg) ⟨rfl, rfl, g0, g1⟩ (show (13 - v4'.toInt).toNat < (13 - v4.toInt).toNat by omega))
  · exact ⟨rfl, rfl, v4l, v4h⟩
set_option maxHeartbeats 4000000 in
theorem sX12_count_160 {r108 : (Int64 × Int32 × Sg × Lg) → Option (Int64 × Sg × Lg)} {v4 : Int32} {w0 : Int64} {w1 : Int64} {sg : Sg} {lg : Lg} (hI : IM sg lg) (v4l : 0 ≤ v4.toInt) (v4h : v4.toInt ≤ 143) (hr108 : ∀ (v2' : Int64) (v4' : Int32), 0 ≤ v4'.toInt → v4'.toInt ≤ 144 → v4.toInt < v4'.toInt → Ok (PUlM sg lg) (r108 (v2', v4', sg, lg))) : Ok (PUlM sg lg) (fX12_count_160 r108 v4 w0 w1 sg lg) := by
  unfold fX12_count_160
  refine ok_lt (fun x1 ex1 => ?_)
  refine ok_lt (fun x2 ex2 => ?_)
  replace ex2 : x2.toInt = v4.toInt + 1 := by rw [ex2]; exact add_c 1 (by decide) (by omega) (by omega)
  exact hr108 x1 x2 (by omega) (by omega) (by omega)
set_option maxHeartbeats 4000000 in
theorem sX12_count_159 {r108 : (Int64 × Int32 × Sg × Lg) → Option (Int64 × Sg × Lg)} {v4 : Int32} {w0 : Int64} {sg : Sg} {lg : Lg} (hI : IM sg lg) (v4l : 0 ≤ v4.toInt) (v4h : v4.toInt ≤ 143) (hr108 : ∀ (v2' : Int64) (v4' : Int32), 0 ≤ v4'.toInt → v4'.toInt ≤ 144 → v4.toInt < v4'.toInt → Ok (PUlM sg lg) (r108 (v2', v4', sg, lg))) : Ok (PUlM sg lg) (fX12_count_159 r108 v4 w0 sg lg) := by
  unfold fX12_count_159
  exact sX12_count_160 hI (by omega) (by omega) hr108
set_option maxHeartbeats 4000000 in
theorem sX12_count_108 {r108 : (Int64 × Int32 × Sg × Lg) → Option (Int64 × Sg × Lg)} {v2 : Int64} {v4 : Int32} {sg : Sg} {lg : Lg} (hI : IM sg lg) (v4l : 0 ≤ v4.toInt) (v4h : v4.toInt ≤ 144) (hr108 : ∀ (v2' : Int64) (v4' : Int32), 0 ≤ v4'.toInt → v4'.toInt ≤ 144 → v4.toInt < v4'.toInt → Ok (PUlM sg lg) (r108 (v2', v4', sg, lg))) : Ok (PUlM sg lg) (fX12_count_108 r108 v2 v4 sg lg) := by
  unfold fX12_count_108
  refine ok_ite (fun c1 => ?_) (fun c1 => ?_)
  · have k2 : (144 : Int32).toInt = 144 := by decide
    replace c1 := i_le.mp c1
    exact ok_some (mkPUlM)
  · have k3 : (144 : Int32).toInt = 144 := by decide
    replace c1 := i_nle.mp c1
    have f4 := div_i (a := v4) (b := (12 : Int32)) 12 (by decide) (by decide) (by omega)
    refine bnd3_pxM (sX12_counts (v1 := (v4 / (12 : Int32))) hI) (fun y2 qy2 zy2 xy2 => ?_)
    replace xy2 : y2.toInt = 0 ∨ (0 ≤ (v4 / (12 : Int32)).toInt ∧ (v4 / (12 : Int32)).toInt ≤ 11) := xy2
    refine ok_ite (fun c5 => ?_) (fun c5 => ?_)
    · have k6 : (0 : Int32).toInt = 0 := by decide
      replace c5 := i_eq.mp c5
      exact sX12_count_159 hI (by omega) (by omega) hr108
    · have k7 : (0 : Int32).toInt = 0 := by decide
      replace c5 := i_ne.mp c5
      have k8 : (12 : Int32).toInt = 12 := by decide
      have f9 := mul_r (a := (v4 / (12 : Int32))) (b := (12 : Int32)) 12 (by decide) (by omega) (by omega)
      have f10 := sub_i (a := v4) (b := ((v4 / (12 : Int32)) * (12 : Int32))) (by omega) (by omega)
      refine bnd3_pxM (sX12_counts (v1 := (v4 - ((v4 / (12 : Int32)) * (12 : Int32)))) hI) (fun y7 qy7 zy7 xy7 => ?_)
      replace xy7 : y7.toInt = 0 ∨ (0 ≤ (v4 - ((v4 / (12 : Int32)) * (12 : Int32))).toInt ∧ (v4 - ((v4 / (12 : Int32)) * (12 : Int32))).toInt ≤ 11) := xy7
      refine ok_ite (fun c11 => ?_) (fun c11 => ?_)
      · replace c11 := i_eq.mp c11
        exact sX12_count_159 hI (by omega) (by omega) hr108
      · replace c11 := i_ne.mp c11
        refine bnd3_puM (sX12_peckOf (v1 := (v4 / (12 : Int32))) (v2 := (v4 - ((v4 / (12 : Int32)) * (12 : Int32)))) hI (by omega) (by omega) (by omega) (by omega)) (fun y12 qy12 zy12 => ?_)
        exact sX12_count_160 hI (by omega) (by omega) hr108
set_option maxHeartbeats 4000000 in
theorem sLX12_count_108 {v2 : Int64} {v4 : Int32} {sg : Sg} {lg : Lg} (hI : IM sg lg) (v4l : 0 ≤ v4.toInt) (v4h : v4.toInt ≤ 144) : Ok (PUlM sg lg) (LX12_count_108 (v2, v4, sg, lg)) := by
  unfold LX12_count_108
  refine ok_loop (I := fun (z : Int64 × Int32 × Sg × Lg) => z.2.2.1 = sg ∧ z.2.2.2 = lg ∧ 0 ≤ z.2.1.toInt ∧ z.2.1.toInt ≤ 144) (m := fun (z : Int64 × Int32 × Sg × Lg) => (145 - z.2.1.toInt).toNat) _ ?_ ?_ _ ?_
  · intro z hz
    obtain ⟨h0, h1, h2, h3⟩ := hz
    show (145 - z.2.1.toInt).toNat < 10000
    omega
  · intro rec z hz hrec
    obtain ⟨v2, v4, sg1, lg1⟩ := z
    replace hz : sg1 = sg ∧ lg1 = lg ∧ 0 ≤ v4.toInt ∧ v4.toInt ≤ 144 := hz
    obtain ⟨h0, h1, h2, h3⟩ := hz
    subst sg1
    subst lg1
    show Ok (PUlM sg lg) (fX12_count_108 rec v2 v4 sg lg)
    exact sX12_count_108 hI h2 h3 (fun v2' v4' g0 g1 g2 => hrec (v2', v4', sg, lg) ⟨rfl, rfl, g0, g1⟩ (show (145 - v4'.toInt).toNat < (145 - v4.toInt).toNat by omega))
  · exact ⟨rfl, rfl, v4l, v4h⟩
set_option maxHeartbeats 4000000 in
theorem sX12_count_197 {r173 : (Int64 × Int32 × Sg × Lg) → Option (Int64 × Sg × Lg)} {v4 : Int32} {w0 : Int64} {w1 : Int64} {sg : Sg} {lg : Lg} (hI : IM sg lg) (v4l : 0 ≤ v4.toInt) (v4h : v4.toInt ≤ 11) (hr173 : ∀ (v2' : Int64) (v4' : Int32), 0 ≤ v4'.toInt → v4'.toInt ≤ 12 → v4.toInt < v4'.toInt → Ok (PUlM sg lg) (r173 (v2', v4', sg, lg))) : Ok (PUlM sg lg) (fX12_count_197 r173 v4 w0 w1 sg lg) := by
  unfold fX12_count_197
  refine ok_lt (fun x1 ex1 => ?_)
  refine ok_lt (fun x2 ex2 => ?_)
  replace ex2 : x2.toInt = v4.toInt + 1 := by rw [ex2]; exact add_c 1 (by decide) (by omega) (by omega)
  exact hr173 x1 x2 (by omega) (by omega) (by omega)
set_option maxHeartbeats 4000000 in
theorem sX12_count_173 {r173 : (Int64 × Int32 × Sg × Lg) → Option (Int64 × Sg × Lg)} {v2 : Int64} {v4 : Int32} {sg : Sg} {lg : Lg} (hI : IM sg lg) (v4l : 0 ≤ v4.toInt) (v4h : v4.toInt ≤ 12) (hr173 : ∀ (v2' : Int64) (v4' : Int32), 0 ≤ v4'.toInt → v4'.toInt ≤ 12 → v4.toInt < v4'.toInt → Ok (PUlM sg lg) (r173 (v2', v4', sg, lg))) : Ok (PUlM sg lg) (fX12_count_173 r173 v2 v4 sg lg) := by
  unfold fX12_count_173
  refine bnd3_puM (sX12_hens  hI) (fun y1 qy1 zy1 => ?_)
  refine ok_ite (fun c1 => ?_) (fun c1 => ?_)
  · replace c1 := i_le.mp c1
    exact ok_some (mkPUlM)
  · replace c1 := i_nle.mp c1
    refine bnd3_puM (sX12_width (v1 := v4) hI (by omega) (by omega)) (fun y6 qy6 zy6 => ?_)
    refine ok_ite (fun c2 => ?_) (fun c2 => ?_)
    · have k3 : (0 : Int32).toInt = 0 := by decide
      replace c2 := i_lt.mp c2
      exact sX12_count_197 hI (by omega) (by omega) hr173
    · have k4 : (0 : Int32).toInt = 0 := by decide
      replace c2 := i_nlt.mp c2
      exact sX12_count_197 hI (by omega) (by omega) hr173
set_option maxHeartbeats 4000000 in
theorem sLX12_count_173 {v2 : Int64} {v4 : Int32} {sg : Sg} {lg : Lg} (hI : IM sg lg) (v4l : 0 ≤ v4.toInt) (v4h : v4.toInt ≤ 12) : Ok (PUlM sg lg) (LX12_count_173 (v2, v4, sg, lg)) := by
  unfold LX12_count_173
  refine ok_loop (I := fun (z : Int64 × Int32 × Sg × Lg) => z.2.2.1 = sg ∧ z.2.2.2 = lg ∧ 0 ≤ z.2.1.toInt ∧ z.2.1.toInt ≤ 12) (m := fun (z : Int64 × Int32 × Sg × Lg) => (13 - z.2.1.toInt).toNat) _ ?_ ?_ _ ?_
  · intro z hz
    obtain ⟨h0, h1, h2, h3⟩ := hz
    show (13 - z.2.1.toInt).toNat < 10000
    omega
  · intro rec z hz hrec
    obtain ⟨v2, v4, sg1, lg1⟩ := z
    replace hz : sg1 = sg ∧ lg1 = lg ∧ 0 ≤ v4.toInt ∧ v4.toInt ≤ 12 := hz
    obtain ⟨h0, h1, h2, h3⟩ := hz
    subst sg1
    subst lg1
    show Ok (PUlM sg lg) (fX12_count_173 rec v2 v4 sg lg)
    exact sX12_count_173 hI h2 h3 (fun v2' v4' g0 g1 g2 => hrec (v2', v4', sg, lg) ⟨rfl, rfl, g0, g1⟩ (show (13 - v4'.toInt).toNat < (13 - v4.toInt).toNat by omega))
  · exact ⟨rfl, rfl, v4l, v4h⟩
set_option maxHeartbeats 4000000 in
theorem sX12_count {v1 : Int32} {sg : Sg} {lg : Lg} (hI : IM sg lg) : Ok (PUlM sg lg) (fX12_count v1 sg lg) := by
  unfold fX12_count
  refine ok_ite (fun c1 => ?_) (fun c1 => ?_)
  · have k2 : (0 : Int32).toInt = 0 := by decide
    replace c1 := i_eq.mp c1
    refine bnd3_puM (sX12_hens  hI) (fun y2 qy2 zy2 => ?_)
    exact ok_some (mkPUlM)
  · have k3 : (0 : Int32).toInt = 0 := by decide
    replace c1 := i_ne.mp c1
    refine ok_ite (fun c4 => ?_) (fun c4 => ?_)
    · have k5 : (1 : Int32).toInt = 1 := by decide
      replace c4 := i_eq.mp c4
      exact sLX12_count_53 hI (by omega) (by omega)
    · have k6 : (1 : Int32).toInt = 1 := by decide
      replace c4 := i_ne.mp c4
      refine ok_ite (fun c7 => ?_) (fun c7 => ?_)
      · have k8 : (2 : Int32).toInt = 2 := by decide
        replace c7 := i_eq.mp c7
        exact ok_some (mkPUlM)
      · have k9 : (2 : Int32).toInt = 2 := by decide
        replace c7 := i_ne.mp c7
        refine ok_ite (fun c10 => ?_) (fun c10 => ?_)
        · have k11 : (3 : Int32).toInt = 3 := by decide
          replace c10 := i_eq.mp c10
          exact ok_some (mkPUlM)
        · have k12 : (3 : Int32).toInt = 3 := by decide
          replace c10 := i_ne.mp c10
          refine ok_ite (fun c13 => ?_) (fun c13 => ?_)
          · have k14 : (4 : Int32).toInt = 4 := by decide
            replace c13 := i_eq.mp c13
            exact ok_some (mkPUlM)
          · have k15 : (4 : Int32).toInt = 4 := by decide
            replace c13 := i_ne.mp c13
            refine ok_ite (fun c16 => ?_) (fun c16 => ?_)
            · have k17 : (5 : Int32).toInt = 5 := by decide
              replace c16 := i_eq.mp c16
              exact sLX12_count_108 hI (by omega) (by omega)
            · have k18 : (5 : Int32).toInt = 5 := by decide
              replace c16 := i_ne.mp c16
              refine ok_ite (fun c19 => ?_) (fun c19 => ?_)
              · have k20 : (6 : Int32).toInt = 6 := by decide
                replace c19 := i_eq.mp c19
                exact sLX12_count_173 hI (by omega) (by omega)
              · have k21 : (6 : Int32).toInt = 6 := by decide
                replace c19 := i_ne.mp c19
                exact ok_some (mkPUlM)
