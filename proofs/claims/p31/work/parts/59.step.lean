theorem hist_cg {sm sm' : Sg} (h1 : sm' 1 = sm 1) (h2 : sm' 2 = sm 2) (h3 : sm' 0 2 = sm 0 2) : ∀ d, hist sm' d = hist sm d
  | 0 => h1
  | d + 1 => by
    funext j
    show sm' 2 (193 * ((sm' 0 2).toInt.toNat - 1 - d) + j) = sm 2 (193 * ((sm 0 2).toInt.toNat - 1 - d) + j)
    rw [h2, h3]
def flk (k : Nat) : Prop := k = 1 ∨ k = 2 ∨ (11 ≤ k ∧ k ≤ 15) ∨ (47 ≤ k ∧ k ≤ 62)
theorem FRel_cg {sx sx' sm sm' : Sg} (sv : SV (sm 1)) (h : FRel sx sm) (hc : ∀ k, flk k → sx' k = sx k) (h1 : sm' 1 = sm 1) (h2 : sm' 2 = sm 2) (h3 : sm' 0 2 = sm 0 2) : FRel sx' sm' := by
  have a1 := hc 1 (by unfold flk; omega)
  have a2 := hc 2 (by unfold flk; omega)
  have a11 := hc 11 (by unfold flk; omega)
  have a12 := hc 12 (by unfold flk; omega)
  have a13 := hc 13 (by unfold flk; omega)
  have a14 := hc 14 (by unfold flk; omega)
  have a15 := hc 15 (by unfold flk; omega)
  refine ⟨⟨by rw [h1, a1]; exact h.1.1, fun x hx => ?_⟩, by rw [a2, h3]; exact h.2.1, fun d hd => ?_⟩
  · rw [a1] at hx
    unfold RowC
    rw [h1, a11, a12, a13, a14, a15]
    exact h.1.2 x hx
  · rw [h3] at hd
    have hl := h.2.2 d hd
    have e : eix sx' d = eix sx d := by unfold eix; rw [a2]
    have e8 : eix sx d < 8 := by unfold eix; omega
    rw [e, hist_cg h1 h2 h3, hist_cg h1 h2 h3]
    refine ⟨Link_cg (hist_SV sv h d (by omega)).2.1 hl.1 (fun j _ => ?_) (fun j _ => ?_) (fun _ _ => rfl) (fun _ _ => rfl), hl.2⟩
    · rw [hc _ (by unfold flk; omega)]
    · rw [hc _ (by unfold flk; omega)]
def Fc (sx sx' : Sg) : Prop := IC sx' ∧ ∀ k, flk k → sx' k = sx k
def Fm (sm sm' : Sg) (lm' : Lg) : Prop := IM sm' lm' ∧ sm' 1 = sm 1 ∧ sm' 2 = sm 2 ∧ sm' 0 2 = sm 0 2
theorem fc_l {M : List Nat} {sx sx' : Sg} {r : Int64} (h : PLC M sx (r, sx')) (hM : ∀ k ∈ M, ¬ (k = 1 ∨ k = 2 ∨ (11 ≤ k ∧ k ≤ 15) ∨ (47 ≤ k ∧ k ≤ 62))) : Fc sx sx' := ⟨h.1, fun k hk => h.2 k (fun z => hM k z hk)⟩
theorem fc_u {sx sx' : Sg} {r : Int64} (hI : IC sx) (h : PUlC sx (r, sx')) : Fc sx sx' := by
  have e : sx' = sx := h
  rw [e]
  exact ⟨hI, fun _ _ => rfl⟩
theorem fm_l {M : List Nat} {sm sm' : Sg} {lm lm' : Lg} {r : Int64} (h : PLM M sm lm (r, sm', lm')) (h1 : 1 ∉ M) (h2 : 2 ∉ M) : Fm sm sm' lm' := ⟨h.1, h.2.1 1 h1, h.2.1 2 h2, h.2.2.2⟩
theorem fm_u {sm sm' : Sg} {lm lm' : Lg} {r : Int64} (hI : IM sm lm) (h : PUlM sm lm (r, sm', lm')) : Fm sm sm' lm' := by
  have e : (sm', lm') = (sm, lm) := h
  cases e
  exact ⟨hI, rfl, rfl, rfl⟩
theorem rel_fr {n : Nat} {sx sx' sm sm' : Sg} {lm lm' : Lg} (h : Rel KRg n sx sm lm) (hc : Fc sx sx') (hm : Fm sm sm' lm') (hk : JC sx') (hh : HD sx' sm') (hg : GK sx') (ha : AK sx') (hr : RKd sx' sm' lm') : Rel KRg (n + 1) sx' sm' lm' := by
  obtain ⟨hI, hM, hF, hst, hJ⟩ := h
  refine ⟨hc.1, hm.1, FRel_cg hM.2.2 hF hc.2 hm.2.1 hm.2.2.1 hm.2.2.2, ?_, hk, fun d hd => by rw [hist_cg hm.2.1 hm.2.2.1 hm.2.2.2]; exact hJ.2.1 d (by rw [← hm.2.2.2]; exact hd), hh, hg, ha, hr⟩
  rw [hc.2 1 (by unfold flk; omega)]
  omega
theorem opl_g {b : Bool} {fx : Option (Int64 × Sg)} {fm : Option (Int64 × Sg × Lg)} {R : Sg → Sg → Lg → Prop} {Px : Int64 × Sg → Prop} {Pm : Int64 × Sg × Lg → Prop} (h1 : Ok Px fx) (h2 : Ok Pm fm) (h : ∀ r sx r' sm lm, fx = some (r, sx) → fm = some (r', sm, lm) → Px (r, sx) → Pm (r', sm, lm) → (b = true → r = r') ∧ R sx sm lm) : OpL b fx fm R := by
  obtain ⟨⟨r, sx⟩, e1, p1⟩ := h1
  obtain ⟨⟨r', sm, lm⟩, e2, p2⟩ := h2
  have := h r sx r' sm lm e1 e2 p1 p2
  exact ⟨r, r', sx, sm, lm, e1, e2, this.1, this.2⟩
set_option maxHeartbeats 4000000 in
theorem step_all {n : Nat} {sx sm : Sg} {lm : Lg} (o a1 a2 a3 a4 : Int32) (hn : n ≤ 1000) (h : Rel KRg n sx sm lm) : StepOK o a1 a2 a3 a4 (Rel KRg (n + 1)) sx sm lm := by
  unfold StepOK
  exact ⟨fun _ => opl_eq (op_hen KRgF (by omega) h),
    fun _ => opl_eq (op_ask KRgF (by omega) h),
    fun _ => opl_eq (op_take KRgF (by omega) h),
    fun _ => opl_eq (op_pen KRgF (by omega) h),
    fun _ => opl_eq (op_peck KRgF (by omega) h),
    fun _ => opl_eq (op_leave KRgF (by omega) h),
    fun _ => opl_eq (op_about h),
    fun _ => opl_eq (op_isOf h),
    fun _ => opl_eq (op_pecks h),
    fun _ => opl_eq (op_undo KRgF (by omega) h),
    fun _ => opl_g (sX11_least h.1) (sX12_least h.2.1) (fun _ _ _ _ _ e1 e2 h1 h2 => ⟨fun z => absurd z (by decide), rel_fr h (fc_l h1 (by decide)) (fm_l h2 (by decide) (by decide)) (jk_least h.1 h.2.2.2.2.1 e1) (hd_fr h.2.2.2.2.2.2.1 (hx_l h1 (by decide) (by decide)) (kfX12_least kwm_h e2 ⟨rfl, rfl⟩)) (gk_l h.2.2.2.2.2.2.2.1 h1 (by decide)) (ak_a h.2.2.2.2.2.2.2.2.1 h1 (by decide) (afX11_least kwa_4 e1 rfl)) (rk_fr h.2.2.2.2.2.2.2.2.2 (rx_l h1 (by decide)) (rm_q h2 (by decide) (qfX12_least kwr_17 e2 rfl)))⟩),
    fun _ => opl_g (sX11_many h.1) (sX12_many h.2.1) (fun _ _ _ _ _ e1 e2 h1 h2 => ⟨fun z => absurd z (by decide), rel_fr h (fc_l h1 (by decide)) (fm_l h2 (by decide) (by decide)) (jk_many h.1 h.2.2.2.2.1 e1) (hd_fr h.2.2.2.2.2.2.1 (hx_l h1 (by decide) (by decide)) (kfX12_many kwm_h e2 ⟨rfl, rfl⟩)) (gk_l h.2.2.2.2.2.2.2.1 h1 (by decide)) (ak_a h.2.2.2.2.2.2.2.2.1 h1 (by decide) (afX11_many kwa_4 e1 rfl)) (rk_fr h.2.2.2.2.2.2.2.2.2 (rx_l h1 (by decide)) (rm_q h2 (by decide) (qfX12_many kwr_17 e2 rfl)))⟩),
    fun _ => opl_g (sX11_best h.1) (sX12_best h.2.1) (fun _ _ _ _ _ e1 e2 h1 h2 => ⟨fun z => absurd z (by decide), rel_fr h (fc_l h1 (by decide)) (fm_l h2 (by decide) (by decide)) (jk_best h.1 h.2.2.2.2.1 e1) ((hd_best h h.2.2.2.2.1 h.2.2.2.2.2.1 h.2.2.2.2.2.2.1 e1 e2).2) (gk_l h.2.2.2.2.2.2.2.1 h1 (by decide)) (ak_a h.2.2.2.2.2.2.2.2.1 h1 (by decide) (afX11_best kwa_4 e1 rfl)) (rk_fr h.2.2.2.2.2.2.2.2.2 (rx_l h1 (by decide)) (rm_q h2 (by decide) (qfX12_best kwr_17 e2 rfl)))⟩),
    fun _ => opl_g (sX11_number h.1) (sX12_number h.2.1) (fun _ _ _ _ _ e1 e2 h1 h2 => ⟨fun z => absurd z (by decide), rel_fr h (fc_l h1 (by decide)) (fm_l h2 (by decide) (by decide)) (jk_number h.1 h.2.2.2.2.1 e1) ((val_number h h.2.2.2.2.1 h.2.2.2.2.2.1 h.2.2.2.2.2.2.1 e1 e2).2) (gk_l h.2.2.2.2.2.2.2.1 h1 (by decide)) (ak_a h.2.2.2.2.2.2.2.2.1 h1 (by decide) (afX11_number kwa_4 e1 rfl)) (rk_fr h.2.2.2.2.2.2.2.2.2 (rx_l h1 (by decide)) (rm_q h2 (by decide) (qfX12_number kwr_17 e2 rfl)))⟩),
    fun _ => opl_g (sX11_sure h.1) (sX12_sure h.2.1) (fun _ _ _ _ _ e1 e2 h1 h2 => ⟨fun z => absurd z (by decide), rel_fr h (fc_l h1 (by decide)) (fm_l h2 (by decide) (by decide)) (jk_sure h.1 h.2.2.2.2.1 e1) (hd_fr h.2.2.2.2.2.2.1 (hx_l h1 (by decide) (by decide)) (kfX12_sure kwm_h e2 ⟨rfl, rfl⟩)) (gk_l h.2.2.2.2.2.2.2.1 h1 (by decide)) ((val_sure h h.2.2.2.2.1 h.2.2.2.2.2.1 h.2.2.2.2.2.2.2.2.1 e1 e2).2) (rk_fr h.2.2.2.2.2.2.2.2.2 (rx_l h1 (by decide)) (rm_q h2 (by decide) (qfX12_sure kwr_17 e2 rfl)))⟩),
    fun _ => opl_g (sX11_why h.1) (sX12_why h.2.1) (fun _ _ _ _ _ e1 e2 h1 h2 => ⟨fun z => absurd z (by decide), rel_fr h (fc_l h1 (by decide)) (fm_l h2 (by decide) (by decide)) (jk_why h.1 h.2.2.2.2.1 e1) (hd_fr h.2.2.2.2.2.2.1 (hx_l h1 (by decide) (by decide)) (hm_l h2 (by decide) (by decide))) (gk_l h.2.2.2.2.2.2.2.1 h1 (by decide)) (ak_l h.2.2.2.2.2.2.2.2.1 h1 (by decide) (by decide)) (rk_fr h.2.2.2.2.2.2.2.2.2 (rx_l h1 (by decide)) (rm_l h2 (by decide) (by decide)))⟩),
    fun _ => opl_g (sX11_begin h.1) (sX12_begin h.2.1) (fun _ _ _ _ _ e1 e2 h1 h2 => ⟨fun z => absurd z (by decide), rel_fr h (fc_l h1 (by decide)) (fm_l h2 (by decide) (by decide)) (jk_begin h.1 h.2.2.2.2.1 e1) ((val_begin h.2.2.2.2.2.2.1 e1 e2).2) (gk_l h.2.2.2.2.2.2.2.1 h1 (by decide)) (ak_l h.2.2.2.2.2.2.2.2.1 h1 (by decide) (by decide)) (rk_fr h.2.2.2.2.2.2.2.2.2 (rx_l h1 (by decide)) (rm_q h2 (by decide) (qfX12_begin kwr_17 e2 rfl)))⟩),
    fun _ => opl_g (sX11_stand h.1) (sX12_stand h.2.1) (fun _ _ _ _ _ e1 e2 h1 h2 => ⟨fun z => absurd z (by decide), rel_fr h (fc_l h1 (by decide)) (fm_l h2 (by decide) (by decide)) (jk_stand h.1 h.2.2.2.2.1 e1) ((val_stand h.1 h.2.1 h.2.2.1 h.2.2.2.2.2.2.1 e1 e2).2) (gk_l h.2.2.2.2.2.2.2.1 h1 (by decide)) (ak_l h.2.2.2.2.2.2.2.2.1 h1 (by decide) (by decide)) (rk_fr h.2.2.2.2.2.2.2.2.2 (rx_l h1 (by decide)) (rm_q h2 (by decide) (qfX12_stand kwr_17 e2 rfl)))⟩),
    fun _ => opl_g (sX11_order h.1) (sX12_order h.2.1) (fun _ _ _ _ _ e1 e2 h1 h2 => ⟨fun z => absurd z (by decide), rel_fr h (fc_u h.1 h1) (fm_u h.2.1 h2) (jk_order h.1 h.2.2.2.2.1 e1) ((val_order h.1 h.2.1 h.2.2.2.2.2.2.1 e1 e2).2) (gk_u h.2.2.2.2.2.2.2.1 h1) (ak_u h.2.2.2.2.2.2.2.2.1 h1) (rk_fr h.2.2.2.2.2.2.2.2.2 (rx_u h1) (rm_u h2))⟩),
    fun _ => opl_g (sX11_move h.1) (sX12_move h.2.1) (fun _ _ _ _ _ e1 e2 h1 h2 => ⟨fun z => absurd z (by decide), rel_fr h (fc_l h1 (by decide)) (fm_l h2 (by decide) (by decide)) (jk_move h.1 h.2.2.2.2.1 e1) ((val_move h.1 h.2.1 h.2.2.2.2.2.2.1 e1 e2).2) (gk_l h.2.2.2.2.2.2.2.1 h1 (by decide)) (ak_l h.2.2.2.2.2.2.2.2.1 h1 (by decide) (by decide)) (rk_fr h.2.2.2.2.2.2.2.2.2 (rx_l h1 (by decide)) (rm_l h2 (by decide) (by decide)))⟩),
    fun _ => opl_g (sX11_weight h.1) (sX12_weight h.2.1) (fun _ _ _ _ _ e1 e2 h1 h2 => ⟨fun z => absurd z (by decide), rel_fr h (fc_l h1 (by decide)) (fm_u h.2.1 h2) (jk_weight h.1 h.2.2.2.2.1 e1) ((val_weight h h.2.2.2.2.1 h.2.2.2.2.2.2.1 e1 e2).2) (gk_l h.2.2.2.2.2.2.2.1 h1 (by decide)) (ak_l h.2.2.2.2.2.2.2.2.1 h1 (by decide) (by decide)) (rk_fr h.2.2.2.2.2.2.2.2.2 (rx_l h1 (by decide)) (rm_u h2))⟩),
    fun _ => opl_g (sX11_fault h.1) (sX12_fault h.2.1) (fun _ _ _ _ _ e1 e2 h1 h2 => ⟨fun z => absurd z (by decide), rel_fr h (fc_l h1 (by decide)) (fm_u h.2.1 h2) (jk_fault h.1 h.2.2.2.2.1 e1) ((val_fault h h.2.2.2.2.1 h.2.2.2.2.2.1 h.2.2.2.2.2.2.1 e1 e2).2) (gk_l h.2.2.2.2.2.2.2.1 h1 (by decide)) (ak_l h.2.2.2.2.2.2.2.2.1 h1 (by decide) (by decide)) (rk_fr h.2.2.2.2.2.2.2.2.2 (rx_l h1 (by decide)) (rm_u h2))⟩),
    fun _ => opl_g (sX11_better h.1) (sX12_better h.2.1) (fun _ _ _ _ _ e1 e2 h1 h2 => ⟨fun z => absurd z (by decide), rel_fr h (fc_l h1 (by decide)) (fm_l h2 (by decide) (by decide)) (jk_better h.1 h.2.2.2.2.1 e1) ((val_better h h.2.2.2.2.1 h.2.2.2.2.2.1 h.2.2.2.2.2.2.1 e1 e2).2) (gk_l h.2.2.2.2.2.2.2.1 h1 (by decide)) (ak_l h.2.2.2.2.2.2.2.2.1 h1 (by decide) (by decide)) (rk_fr h.2.2.2.2.2.2.2.2.2 (rx_l h1 (by decide)) (rm_l h2 (by decide) (by decide)))⟩),
    fun _ => opl_g (sX11_turn h.1) (sX12_turn h.2.1) (fun _ _ _ _ _ e1 e2 h1 h2 => ⟨fun z => absurd z (by decide), rel_fr h (fc_l h1 (by decide)) (fm_l h2 (by decide) (by decide)) (jk_turn h.1 h.2.2.2.2.1 e1) (hd_turn h.2.1 h.2.2.2.2.2.2.1 e1 e2) (gk_l h.2.2.2.2.2.2.2.1 h1 (by decide)) (ak_l h.2.2.2.2.2.2.2.2.1 h1 (by decide) (by decide)) (rk_fr h.2.2.2.2.2.2.2.2.2 (rx_l h1 (by decide)) (rm_l h2 (by decide) (by decide)))⟩),
    fun _ => opl_g (sX11_groups h.1) (sX12_groups h.2.1) (fun _ _ _ _ _ e1 e2 h1 h2 => ⟨fun z => absurd z (by decide), rel_fr h (fc_l h1 (by decide)) (fm_l h2 (by decide) (by decide)) (jk_groups h.1 h.2.2.2.2.1 e1) (hd_fr h.2.2.2.2.2.2.1 (hx_l h1 (by decide) (by decide)) (hm_l h2 (by decide) (by decide))) ((val_groups h h.2.2.2.2.1 h.2.2.2.2.2.2.2.1 e1 e2).2) (ak_l h.2.2.2.2.2.2.2.2.1 h1 (by decide) (by decide)) (rk_fr h.2.2.2.2.2.2.2.2.2 (rx_l h1 (by decide)) (rm_l h2 (by decide) (by decide)))⟩),
    fun _ => opl_g (sX11_groupOf h.1) (sX12_groupOf h.2.1) (fun _ _ _ _ _ e1 e2 h1 h2 => ⟨fun z => absurd z (by decide), rel_fr h (fc_l h1 (by decide)) (fm_l h2 (by decide) (by decide)) (jk_groupOf h.1 h.2.2.2.2.1 e1) (hd_fr h.2.2.2.2.2.2.1 (hx_l h1 (by decide) (by decide)) (hm_l h2 (by decide) (by decide))) ((val_groupOf h h.2.2.2.2.1 h.2.2.2.2.2.2.2.1 e1 e2).2) (ak_l h.2.2.2.2.2.2.2.2.1 h1 (by decide) (by decide)) (rk_fr h.2.2.2.2.2.2.2.2.2 (rx_l h1 (by decide)) (rm_l h2 (by decide) (by decide)))⟩),
    fun _ => opl_g (sX11_loose h.1) (sX12_loose h.2.1) (fun _ _ _ _ _ e1 e2 h1 h2 => ⟨fun z => absurd z (by decide), rel_fr h (fc_l h1 (by decide)) (fm_l h2 (by decide) (by decide)) (jk_loose h.1 h.2.2.2.2.1 e1) (hd_fr h.2.2.2.2.2.2.1 (hx_l h1 (by decide) (by decide)) (kfX12_loose kwm_h e2 ⟨rfl, rfl⟩)) (gk_l h.2.2.2.2.2.2.2.1 h1 (by decide)) (ak_a h.2.2.2.2.2.2.2.2.1 h1 (by decide) (afX11_loose kwa_4 e1 rfl)) (rk_fr h.2.2.2.2.2.2.2.2.2 (rx_l h1 (by decide)) (rm_q h2 (by decide) (qfX12_loose kwr_17 e2 rfl)))⟩),
    fun _ => opl_g (sX11_pack h.1) (sX12_pack h.2.1) (fun _ _ _ _ _ e1 e2 h1 h2 => ⟨fun z => absurd z (by decide), rel_fr h (fc_l h1 (by decide)) (fm_l h2 (by decide) (by decide)) (jk_pack h.1 h.2.2.2.2.1 e1) (hd_fr h.2.2.2.2.2.2.1 (hx_l h1 (by decide) (by decide)) (kfX12_pack kwm_h e2 ⟨rfl, rfl⟩)) (gk_l h.2.2.2.2.2.2.2.1 h1 (by decide)) (ak_l h.2.2.2.2.2.2.2.2.1 h1 (by decide) (by decide)) ((val_pack h h.2.2.2.2.1 e1 e2).2)⟩),
    fun _ => opl_g (sX11_ring h.1) (sX12_ring h.2.1) (fun _ _ _ _ _ e1 e2 h1 h2 => ⟨fun z => absurd z (by decide), rel_fr h (fc_u h.1 h1) (fm_u h.2.1 h2) (jk_ring h.1 h.2.2.2.2.1 e1) (hd_fr h.2.2.2.2.2.2.1 (hx_u h1) (hm_u h2)) (gk_u h.2.2.2.2.2.2.2.1 h1) (ak_u h.2.2.2.2.2.2.2.2.1 h1) (rk_fr h.2.2.2.2.2.2.2.2.2 (rx_u h1) (rm_u h2))⟩),
    fun _ => opl_g (sX11_count h.1) (sX12_count h.2.1) (fun _ _ _ _ _ e1 e2 h1 h2 => ⟨fun _ => val_count h h.2.2.2.2.1 h.2.2.2.2.2.2.1 h.2.2.2.2.2.2.2.2.2 e1 e2, rel_fr h (fc_l h1 (by decide)) (fm_u h.2.1 h2) (jk_count h.1 h.2.2.2.2.1 e1) (hd_fr h.2.2.2.2.2.2.1 (hx_l h1 (by decide) (by decide)) (hm_u h2)) (gk_l h.2.2.2.2.2.2.2.1 h1 (by decide)) (ak_l h.2.2.2.2.2.2.2.2.1 h1 (by decide) (by decide)) (rk_fr h.2.2.2.2.2.2.2.2.2 (rx_l h1 (by decide)) (rm_u h2))⟩), fun _ => rel_up h⟩
