def KR (sg : Sg) (e p : Nat) (r : Sg) : Prop := (∀ k, k ≠ 12 → k ≠ 13 → k ≠ 14 → k ≠ 15 → r k = sg k) ∧ (∀ i, r 12 i = if i = p then sg (47 + e) 2 else sg 12 i) ∧ (∀ i, r 13 i = if i = p then sg (47 + e) 3 else sg 13 i) ∧ (∀ i, r 14 i = if i = p then sg (47 + e) 4 else sg 14 i) ∧ ∀ i, r 15 i = if 12 * p ≤ i ∧ i < 12 * p + 12 then sg (55 + e) (i - 12 * p) else sg 15 i
theorem k_restore {sg : Sg} {e : Nat} (he : e < 8) (h0 : 0 ≤ (sg (47 + e) 1).toInt) (h1 : (sg (47 + e) 1).toInt ≤ 11) : Ok (KR sg e (sg (47 + e) 1).toNatClampNeg) (fX0_restore e sg) := by
  unfold fX0_restore
  have g := cl_i h0
  have k0 : (0 : Int32).toInt = 0 := by decide
  have k12 : (12 : Int32).toInt = 12 := by decide
  have f1 := mul_r (a := sg (47 + e) 1) (b := (12 : Int32)) 12 (by decide) (by omega) (by omega)
  have g1 := cl_i (i := (sg (47 + e) 1) * (12 : Int32)) (by omega)
  have g2 : (0 : Int32).toNatClampNeg = 0 := by decide
  have g3 : (12 : Int32).toNatClampNeg = 12 := by decide
  refine ok_lt (fun x1 ex1 => ?_)
  refine ok_gin (by omega) (by omega) ?_
  refine ok_lt (fun sg3 e3 => ?_)
  have a3 : ∀ j, sg3 (47 + e) j = sg (47 + e) j := fun j => by rw [e3]; exact up2_o (by omega)
  rw [a3, a3]
  refine ok_lt (fun x4 ex4 => ?_)
  refine ok_gin (by omega) (by omega) ?_
  refine ok_lt (fun sg6 e6 => ?_)
  have a6 : ∀ j, sg6 (47 + e) j = sg (47 + e) j := fun j => by rw [e6, up2_o (by omega)]; exact a3 j
  rw [a6, a6]
  refine ok_lt (fun x7 ex7 => ?_)
  refine ok_gin (by omega) (by omega) ?_
  refine ok_lt (fun sg9 e9 => ?_)
  have a9 : ∀ j, sg9 (47 + e) j = sg (47 + e) j := fun j => by rw [e9, up2_o (by omega)]; exact a6 j
  rw [a9]
  refine ok_gcp (by omega) (by omega) (by omega) (by omega) (by omega) ?_
  refine ok_lt (fun sg11 e11 => ?_)
  have up : ∀ (f : Sg) (k : Nat) (v : Int32) (i : Nat), up2 f k (sg (47 + e) 1).toNatClampNeg v k i = if i = (sg (47 + e) 1).toNatClampNeg then v else f k i := by
    intro f k v i
    rw [up2_is]
    by_cases w : i = (sg (47 + e) 1).toNatClampNeg
    · rw [if_pos ⟨rfl, w⟩, if_pos w]
    · rw [if_neg (fun z => w z.2), if_neg w]
  refine ok_some ⟨fun k a b c d => ?_, fun i => ?_, fun i => ?_, fun i => ?_, fun i => ?_⟩
  · rw [e11, cp2_n d, e9, up2_n c, e6, up2_n b, e3, up2_n a]
  · rw [e11, cp2_n (by decide), e9, up2_n (by decide), e6, up2_n (by decide), e3, up, ex1]
  · rw [e11, cp2_n (by decide), e9, up2_n (by decide), e6, up, e3, up2_n (by decide), ex4]
  · rw [e11, cp2_n (by decide), e9, up, e6, up2_n (by decide), e3, up2_n (by decide), ex7]
  · rw [e11, cp2_is]
    by_cases w : 12 * (sg (47 + e) 1).toNatClampNeg ≤ i ∧ i < 12 * (sg (47 + e) 1).toNatClampNeg + 12
    · rw [if_pos w, if_pos (by omega), e9, up2_n (by omega), e6, up2_n (by omega), e3, up2_n (by omega)]
      exact congrArg (sg (55 + e)) (by omega)
    · rw [if_neg w, if_neg (by omega), e9, up2_n (by omega), e6, up2_n (by omega), e3, up2_n (by omega)]
def KT (sx : Sg) (r : Sg) : Prop := ∃ e : Nat, e = ((sx 2 1).toInt.toNat + 7) % 8 ∧ (∀ k, k ≠ 1 → k ≠ 2 → k ≠ 12 → k ≠ 13 → k ≠ 14 → k ≠ 15 → r k = sx k) ∧ (∀ j, j ≠ 0 → j ≠ 1 → r 1 j = sx 1 j) ∧ (r 1 1).toInt = (sx 1 1).toInt + 1 ∧ (r 2 1).toInt = (e : Int) ∧ (r 2 0).toInt = (sx 2 0).toInt - 1 ∧ (∀ j, j ≠ 0 → j ≠ 1 → r 2 j = sx 2 j) ∧
  ((¬ sx (47 + e) 0 = 0 ∧ (r 1 0).toInt = (sx 1 0).toInt - 1 ∧ r 12 = sx 12 ∧ r 13 = sx 13 ∧ r 14 = sx 14 ∧ r 15 = sx 15) ∨ (sx (47 + e) 0 = 0 ∧ r 1 0 = sx 1 0 ∧ (∀ i, r 12 i = if i = (sx (47 + e) 1).toNatClampNeg then sx (47 + e) 2 else sx 12 i) ∧ (∀ i, r 13 i = if i = (sx (47 + e) 1).toNatClampNeg then sx (47 + e) 3 else sx 13 i) ∧ (∀ i, r 14 i = if i = (sx (47 + e) 1).toNatClampNeg then sx (47 + e) 4 else sx 14 i) ∧ ∀ i, r 15 i = if 12 * (sx (47 + e) 1).toNatClampNeg ≤ i ∧ i < 12 * (sx (47 + e) 1).toNatClampNeg + 12 then sx (55 + e) (i - 12 * (sx (47 + e) 1).toNatClampNeg) else sx 15 i))
theorem rdC47 {sg : Sg} (h : IC0 sg) {e : Nat} (he : e < 8) : 0 ≤ (sg (47 + e) 1).toInt ∧ (sg (47 + e) 1).toInt ≤ 11 := by
  have := h.1 (47 + e) 1
  rcases (show e = 0 ∨ e = 1 ∨ e = 2 ∨ e = 3 ∨ e = 4 ∨ e = 5 ∨ e = 6 ∨ e = 7 by omega) with z | z | z | z | z | z | z | z <;> subst z <;> exact this
theorem k_takeBack {sx : Sg} (hI : IC0 sx) (hst : (sx 1 1).toInt ≤ 2000) : Ok (KT sx) (fX1_takeBack sx) := by
  unfold fX1_takeBack
  have t0 := rdC2_0 hI
  have t1 := rdC2_1 hI
  have t2 := rdC1_0 hI
  have w := lo32 (sx 1 1)
  have k1 : (1 : Int32).toInt = 1 := by decide
  have k8 : (8 : Int32).toInt = 8 := by decide
  refine ok_lt (fun x1 ex1 => ?_)
  replace ex1 : x1.toInt = (sx 1 1).toInt + 1 := by rw [ex1]; exact add_c 1 (by decide) (by omega) (by omega)
  refine ok_lt (fun sg2 e2 => ?_)
  have a1 : (sg2 2 1) = (sx 2 1) := by rw [e2]; exact up2_o (by omega)
  rw [a1]
  have f1 := add_c (a := sx 2 1) (b := (8 : Int32)) 8 k8 (by omega) (by omega)
  have f2 := sub_c (a := (sx 2 1) + (8 : Int32)) (b := (1 : Int32)) 1 k1 (by omega) (by omega)
  have f3 := div_i (a := ((sx 2 1) + (8 : Int32)) - (1 : Int32)) (b := (8 : Int32)) 8 k8 (by decide) (by omega)
  have f4 := mul_r (a := (((sx 2 1) + (8 : Int32)) - (1 : Int32)) / (8 : Int32)) (b := (8 : Int32)) 8 k8 (by omega) (by omega)
  have f5 := sub_i (a := ((sx 2 1) + (8 : Int32)) - (1 : Int32)) (b := (((sx 2 1) + (8 : Int32)) - (1 : Int32)) / (8 : Int32) * (8 : Int32)) (by omega) (by omega)
  refine ok_lt (fun x3 ex3 => ?_)
  replace ex3 : x3.toInt = ((((sx 2 1).toInt.toNat + 7) % 8 : Nat) : Int) := by rw [ex3]; omega
  refine ok_lt (fun sg4 e4 => ?_)
  have b0 : (sg4 2 0) = (sx 2 0) := by rw [e4, up2_o (by omega), e2]; exact up2_o (by omega)
  rw [b0]
  refine ok_lt (fun x5 ex5 => ?_)
  replace ex5 : x5.toInt = (sx 2 0).toInt - 1 := by rw [ex5]; exact sub_c 1 (by decide) (by omega) (by omega)
  refine ok_lt (fun sg6 e6 => ?_)
  have c21 : sg6 2 1 = x3 := by rw [e6, up2_o (by omega), e4, up2_e]
  rw [c21]
  refine ok_lt (fun x7 ex7 => ?_)
  subst ex7
  have g := cl_i (i := x7) (by omega)
  refine ok_gin (by omega) (by omega) ?_
  have cc : ∀ k, k ≠ 1 → k ≠ 2 → sg6 k = sx k := fun k p q => by rw [e6, up2_n q, e4, up2_n q, e2, up2_n p]
  have c1 : ∀ j, j ≠ 1 → sg6 1 j = sx 1 j := fun j p => by rw [e6, up2_o (by omega), e4, up2_o (by omega), e2, up2_o (by omega)]
  have c11 : (sg6 1 1).toInt = (sx 1 1).toInt + 1 := by rw [e6, up2_o (by omega), e4, up2_o (by omega), e2, up2_e]; exact ex1
  have c20 : (sg6 2 0).toInt = (sx 2 0).toInt - 1 := by rw [e6, up2_e]; exact ex5
  have c2 : ∀ j, j ≠ 0 → j ≠ 1 → sg6 2 j = sx 2 j := fun j p q => by rw [e6, up2_o (by omega), e4, up2_o (by omega), e2, up2_o (by omega)]
  have hx : x7.toNatClampNeg < 8 := by omega
  have c47 : sg6 (47 + x7.toNatClampNeg) = sx (47 + x7.toNatClampNeg) := cc _ (by omega) (by omega)
  have c55 : sg6 (55 + x7.toNatClampNeg) = sx (55 + x7.toNatClampNeg) := cc _ (by omega) (by omega)
  refine ok_ite (fun c => ?_) (fun c => ?_)
  · refine ok_lt (fun x10 ex10 => ?_)
    subst ex10
    refine ok_gin (by omega) (by omega) ?_
    have rg := rdC47 hI hx
    refine ok_bnd1 (k_restore (sg := sg6) hx (by rw [c47]; exact rg.1) (by rw [c47]; exact rg.2)) (fun r hr => ?_)
    obtain ⟨r1, r2, r3, r4, r5⟩ := hr
    rw [c47] at r2 r3 r4 r5 c
    rw [c55] at r5
    rw [cc 12 (by decide) (by decide)] at r2
    rw [cc 13 (by decide) (by decide)] at r3
    rw [cc 14 (by decide) (by decide)] at r4
    rw [cc 15 (by decide) (by decide)] at r5
    refine ok_some ⟨x10.toNatClampNeg, by omega, fun k p q a b d f => ?_, fun j p q => ?_, ?_, ?_, ?_, fun j p q => ?_, Or.inr ⟨c, ?_, r2, r3, r4, r5⟩⟩
    · rw [r1 k a b d f, cc k p q]
    · rw [r1 1 (by decide) (by decide) (by decide) (by decide), c1 j q]
    · rw [r1 1 (by decide) (by decide) (by decide) (by decide)]; exact c11
    · rw [r1 2 (by decide) (by decide) (by decide) (by decide), c21]; omega
    · rw [r1 2 (by decide) (by decide) (by decide) (by decide)]; exact c20
    · rw [r1 2 (by decide) (by decide) (by decide) (by decide), c2 j p q]
    · rw [r1 1 (by decide) (by decide) (by decide) (by decide), c1 0 (by decide)]
  · rw [c1 0 (by decide)]
    refine ok_lt (fun x14 ex14 => ?_)
    replace ex14 : x14.toInt = (sx 1 0).toInt - 1 := by rw [ex14]; exact sub_c 1 (by decide) (by omega) (by omega)
    refine ok_lt (fun sg15 e15 => ?_)
    rw [c47] at c
    have d : ∀ k, k ≠ 1 → sg15 k = sg6 k := fun k p => by rw [e15, up2_n p]
    refine ok_some ⟨x7.toNatClampNeg, by omega, fun k p q _ _ _ _ => ?_, fun j p q => ?_, ?_, ?_, ?_, fun j p q => ?_, Or.inl ⟨c, ?_, ?_, ?_, ?_, ?_⟩⟩
    · rw [d k p, cc k p q]
    · rw [e15, up2_o (by omega), c1 j q]
    · rw [e15, up2_o (by omega)]; exact c11
    · rw [d 2 (by decide), c21]; omega
    · rw [d 2 (by decide)]; exact c20
    · rw [d 2 (by decide), c2 j p q]
    · rw [e15, up2_e]; exact ex14
    · rw [d 12 (by decide), cc 12 (by decide) (by decide)]
    · rw [d 13 (by decide), cc 13 (by decide) (by decide)]
    · rw [d 14 (by decide), cc 14 (by decide) (by decide)]
    · rw [d 15 (by decide), cc 15 (by decide) (by decide)]
/-! what class and reference have alike -/
def RowC (sx : Sg) (S : Nat → Int32) (h : Nat) : Prop := S (1 + h) = sx 11 h ∧ S (13 + h) = sx 12 h ∧ S (25 + h) = sx 13 h ∧ S (37 + h) = sx 14 h ∧ ∀ k, k < 12 → S (49 + 12 * h + k) = sx 15 (12 * h + k)
def FEq (sx : Sg) (S : Nat → Int32) : Prop := S 0 = sx 1 0 ∧ ∀ h : Nat, (h : Int) < (sx 1 0).toInt → RowC sx S h
def RowE (F G : Nat → Int32) (h : Nat) : Prop := F (1 + h) = G (1 + h) ∧ F (13 + h) = G (13 + h) ∧ F (25 + h) = G (25 + h) ∧ F (37 + h) = G (37 + h) ∧ ∀ k, k < 12 → F (49 + 12 * h + k) = G (49 + 12 * h + k)
def RowS (sx : Sg) (e : Nat) (F G : Nat → Int32) (h : Nat) : Prop := G (1 + h) = F (1 + h) ∧ G (13 + h) = sx (47 + e) 2 ∧ G (25 + h) = sx (47 + e) 3 ∧ G (37 + h) = sx (47 + e) 4 ∧ ∀ k, k < 12 → G (49 + 12 * h + k) = sx (55 + e) k
def Link (sx : Sg) (e : Nat) (F G : Nat → Int32) : Prop :=
  (¬ sx (47 + e) 0 = 0 ∧ (F 0).toInt = (G 0).toInt + 1 ∧ ∀ h : Nat, (h : Int) < (G 0).toInt → RowE F G h) ∨
  (sx (47 + e) 0 = 0 ∧ G 0 = F 0 ∧ ((sx (47 + e) 1).toNatClampNeg : Int) < (F 0).toInt ∧ (∀ h : Nat, (h : Int) < (F 0).toInt → h ≠ (sx (47 + e) 1).toNatClampNeg → RowE F G h) ∧ RowS sx e F G (sx (47 + e) 1).toNatClampNeg)
def eix (sx : Sg) (d : Nat) : Nat := ((sx 2 1).toInt.toNat + 7 - d) % 8
def FRel (sx sm : Sg) : Prop := FEq sx (sm 1) ∧ (sx 2 0).toInt = (sm 0 2).toInt ∧ ∀ d, d < (sm 0 2).toInt.toNat → Link sx (eix sx d) (hist sm d) (hist sm (d + 1)) ∧ SV (hist sm (d + 1))
theorem RowE.sy {F G : Nat → Int32} {h : Nat} (e : RowE F G h) : RowE G F h := ⟨e.1.symm, e.2.1.symm, e.2.2.1.symm, e.2.2.2.1.symm, fun k hk => (e.2.2.2.2 k hk).symm⟩
theorem RowE_of {F G : Nat → Int32} {h : Nat} (hh : h < 12) (e : ∀ j, j < 193 → F j = G j) : RowE F G h := ⟨e _ (by omega), e _ (by omega), e _ (by omega), e _ (by omega), fun k hk => e _ (by omega)⟩
/-- only places below 193 are looked at -/
theorem Link_cg {sx sx' : Sg} {e : Nat} {F G F' G' : Nat → Int32} (hF : (F 0).toInt ≤ 12) (h : Link sx e F G) (h47 : ∀ j, j < 5 → sx' (47 + e) j = sx (47 + e) j) (h55 : ∀ j, j < 12 → sx' (55 + e) j = sx (55 + e) j) (hf : ∀ j, j < 193 → F' j = F j) (hg : ∀ j, j < 193 → G' j = G j) : Link sx' e F' G' := by
  unfold Link
  rw [h47 0 (by decide), h47 1 (by decide), hf 0 (by decide), hg 0 (by decide)]
  rcases h with ⟨a, b, c⟩ | ⟨a, b, c, d, f⟩
  · refine Or.inl ⟨a, b, fun h hh => ?_⟩
    have q := c h hh
    exact ⟨by rw [hf _ (by omega), hg _ (by omega)]; exact q.1, by rw [hf _ (by omega), hg _ (by omega)]; exact q.2.1, by rw [hf _ (by omega), hg _ (by omega)]; exact q.2.2.1, by rw [hf _ (by omega), hg _ (by omega)]; exact q.2.2.2.1, fun k hk => by rw [hf _ (by omega), hg _ (by omega)]; exact q.2.2.2.2 k hk⟩
  · refine Or.inr ⟨a, b, c, fun h hh hn => ?_, ?_⟩
    · have q := d h hh hn
      exact ⟨by rw [hf _ (by omega), hg _ (by omega)]; exact q.1, by rw [hf _ (by omega), hg _ (by omega)]; exact q.2.1, by rw [hf _ (by omega), hg _ (by omega)]; exact q.2.2.1, by rw [hf _ (by omega), hg _ (by omega)]; exact q.2.2.2.1, fun k hk => by rw [hf _ (by omega), hg _ (by omega)]; exact q.2.2.2.2 k hk⟩
    · unfold RowS
      rw [h47 2 (by decide), h47 3 (by decide), h47 4 (by decide)]
      exact ⟨by rw [hf _ (by omega), hg _ (by omega)]; exact f.1, by rw [hg _ (by omega)]; exact f.2.1, by rw [hg _ (by omega)]; exact f.2.2.1, by rw [hg _ (by omega)]; exact f.2.2.2.1, fun k hk => by rw [hg _ (by omega), h55 k hk]; exact f.2.2.2.2 k hk⟩
theorem SV_cg {F G : Nat → Int32} (h : SV F) (e : ∀ j, j < 193 → G j = F j) : SV G := ⟨by rw [e 0 (by decide)]; exact h.1, by rw [e 0 (by decide)]; exact h.2.1, fun x hx => by rw [e _ (by omega)]; exact h.2.2.1 x hx, fun j a b => by rw [e j b]; exact h.2.2.2 j a b⟩
theorem hist_SV {sx sm : Sg} (hS : SV (sm 1)) (h : FRel sx sm) : ∀ d, d ≤ (sm 0 2).toInt.toNat → SV (hist sm d)
  | 0, _ => hS
  | d + 1, hd => (h.2.2 d (by omega)).2
