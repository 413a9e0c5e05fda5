/-! UpdateQueue -/
theorem xr (x : Int) : Int32.ofInt x ^^^ Int32.ofInt (-1) = Int32.ofInt (-x - 1) := by
  have e : Int32.ofInt (-1) = -1 := by decide
  have e1 : (1 : Int32) = Int32.ofInt 1 := by decide
  rw [e, Int32.xor_neg_one, Int32.not_eq_neg_sub, ← Int32.ofInt_neg, e1, ja_sub]
/-- an update as the class writes it, out of the reference's number -/
def en (y : Int) : Int := if y % 2 = 1 then y / 2 else - (y / 2) - 1
/-- the lengths that a queue's row can have -/
def QC (n : Nat) : Prop := ∃ k : Nat, k ≤ 9 ∧ n = 32 * 2 ^ k
theorem QC.rg {n : Nat} (h : QC n) : 32 ≤ n ∧ n ≤ 16384 := by
  obtain ⟨k, h1, rfl⟩ := h
  rcases (show k = 0 ∨ k = 1 ∨ k = 2 ∨ k = 3 ∨ k = 4 ∨ k = 5 ∨ k = 6 ∨ k = 7 ∨ k = 8 ∨ k = 9 by omega) with rfl | rfl | rfl | rfl | rfl | rfl | rfl | rfl | rfl | rfl <;> decide
theorem QC.two {n : Nat} (h : QC n) (hn : n < 16384) : QC (2 * n) := by
  obtain ⟨k, h1, rfl⟩ := h
  refine ⟨k + 1, ?_, by rw [Nat.pow_succ]; omega⟩
  rcases (show k = 9 ∨ k < 9 by omega) with rfl | h
  · exact absurd hn (by decide)
  · omega
theorem QC.lt {n m_ : Nat} (h : QC n) (g : QC m_) (hl : n < m_) : 2 * n ≤ m_ := by
  obtain ⟨k, h1, rfl⟩ := h
  obtain ⟨j, h2, rfl⟩ := g
  have hk : k < j := by
    rcases Nat.lt_or_ge k j with q | q
    · exact q
    · have := Nat.pow_le_pow_right (show 0 < 2 by omega) q; omega
  have := Nat.pow_le_pow_right (show 0 < 2 by omega) (show k + 1 ≤ j from hk)
  rw [Nat.pow_succ] at this
  omega
theorem QC.small {n : Nat} (h : QC n) (hn : (n : Int) < 12288) : n < 16384 := by omega
def QR (X : Hp) (b q n : Nat) (fi sz : Int) (g : Int → Int) : Prop := ∃ u fq, QP X b q u n fi sz fq ∧ (∀ i, 0 ≤ i → i < sz → fq (fi + i) = en (g i)) ∧ (0 ≤ fi ∧ 0 ≤ sz ∧ fi + sz ≤ n) ∧ QC n
theorem QR.keep {X X1 : Hp} {b q n : Nat} {fi sz : Int} {g : Int → Int} (h : QR X b q n fi sz g) {lo hi : Nat} (hF : FB lo hi X X1) (hd : b + 10 ≤ lo ∨ hi ≤ b) : QR X1 b q n fi sz g := by
  obtain ⟨u, fq, hM, hV⟩ := h
  exact ⟨u, fq, hM.keep hF hd, hV⟩
def qn (n : Nat) (fi sz : Int) : Nat := if fi + sz = n then (if (n : Int) < 2 * sz then 2 * n else n) else n
def qf (n : Nat) (fi sz : Int) : Int := if fi + sz = n then 0 else fi
theorem qn_ge (n : Nat) (fi sz : Int) : n ≤ qn n fi sz := by unfold qn; (repeat' split) <;> omega
def cq (n : Nat) (sz : Int) (n2 : Nat) : Nat := if (n : Int) < sz then n2 else n
set_option maxRecDepth 100000 in
set_option maxHeartbeats 4000000 in
theorem c_X3_makeRoomAtEnd {X : Hp} {b : Nat} {q u : Nat} {n : Nat} {fi sz : Int} {fq : Int → Int} (hM : QP X b q u n fi sz fq) {n' : Nat} (hn' : n' = if (n : Int) < 2 * sz then 2 * n else n) (hz : 0 ≤ fi ∧ 0 ≤ sz ∧ fi + sz ≤ n) (hn : 32 ≤ n ∧ n ≤ 16384) : Ct yX3_makeRoomAtEnd cX3_makeRoomAtEnd 2 none 1 30 [.ref q] X (n' - n) (6 * (n' - n)) (fun rv X' => rv = none ∧ ∃ u' fq', QPG X X' b q u' n' 0 sz fq' ∧ ∀ i, 0 ≤ i → i < sz → fq' i = fq (fi + i)) := by
  refine Ct.of (by decide +kernel) [some (.ref q), none] rfl (Nat.le_of_ble_eq_true rfl) (fun φ hF hR => ?_)
  obtain ⟨h_q, h_u⟩ := hM
  have hfr := FB.refl b (b + 10) X
  refine j_iconst hF dX3_makeRoomAtEnd_0 (j_aload_n hF dX3_makeRoomAtEnd_1 rfl (j_get hF h_q fl_RX3_13 dX3_makeRoomAtEnd_2 rfl (j_imul hF dX3_makeRoomAtEnd_5 (j_aload_n hF dX3_makeRoomAtEnd_6 rfl (j_get hF h_q fl_RX3_9 dX3_makeRoomAtEnd_7 rfl ?_)))))
  refine j_ilen hF (by decide) h_u dX3_makeRoomAtEnd_10 (fun rl1 => ?_)
  refine j_icmp_le hF 26 dX3_makeRoomAtEnd_11 (by decide) (by omega) (fun c11 => ?_) (fun c11 => ?_)
  ·
    have hn2 : n' = n := hn'.trans (if_neg (by omega))
    refine j_aload_n hF dX3_makeRoomAtEnd_26 rfl (j_get hF h_q fl_RX3_9 dX3_makeRoomAtEnd_27 rfl (j_astore_n hF dX3_makeRoomAtEnd_30 (Nat.le_of_ble_eq_true rfl) rfl (j_aload_n hF dX3_makeRoomAtEnd_31 rfl (j_get hF h_q fl_RX3_9 dX3_makeRoomAtEnd_32 rfl (j_aload_n hF dX3_makeRoomAtEnd_35 rfl ?_)))))
    refine j_get hF h_q fl_RX3_17 dX3_makeRoomAtEnd_36 rfl (j_aload_n hF dX3_makeRoomAtEnd_39 rfl (j_iconst hF dX3_makeRoomAtEnd_40 (j_aload_n hF dX3_makeRoomAtEnd_41 rfl (j_get hF h_q fl_RX3_13 dX3_makeRoomAtEnd_42 rfl (j_copy hF lk_RX3_35 ac_nat ac_sta ac_ini h_u h_u dX3_makeRoomAtEnd_45 (by omega) rfl (by decide) ⟨(Nat.le_of_ble_eq_true rfl), (Nat.le_of_ble_eq_true rfl)⟩ (j_nm (fun X2 eX2 => ?_)))))))
    have hfr := hfr.trans (FB.up eX2 h_u (by omega) (by omega))
    have h_q := upx eX2 h_q h_u (by omega)
    have h_u := ups eX2
    refine j_aload_n hF dX3_makeRoomAtEnd_48 rfl (j_aload_n hF dX3_makeRoomAtEnd_49 rfl (j_put hF h_q fl_RX3_9 dX3_makeRoomAtEnd_50 rfl rfl (Nat.le_of_ble_eq_true rfl) (j_nm (fun X3 eX3 => ?_))))
    have hfr := hfr.trans (FB.up eX3 h_q (by omega) (by omega))
    have h_u := upx eX3 h_u h_q (by omega)
    have h_q := ups eX3
    refine j_aload_n hF dX3_makeRoomAtEnd_53 rfl (j_iconst hF dX3_makeRoomAtEnd_54 (j_put hF h_q fl_RX3_17 dX3_makeRoomAtEnd_55 rfl rfl (Nat.le_of_ble_eq_true rfl) (j_nm (fun X4 eX4 => ?_))))
    have hfr := hfr.trans (FB.up eX4 h_q (by omega) (by omega))
    have h_u := upx eX4 h_u h_q (by omega)
    have h_q := ups eX4
    refine j_vret hF hR dX3_makeRoomAtEnd_58 (by omega) (by omega) ?_
    subst hn2
    exact ⟨rfl, u, _, ⟨⟨h_q, h_u⟩, hfr⟩, fun i i1 i2 => by rw [fcI i1 (by omega), show fi + (i - 0) = fi + i by omega]⟩
  ·
    have hn2 : n' = 2 * n := hn'.trans (if_pos (by omega))
    refine j_iconst hF dX3_makeRoomAtEnd_14 (j_aload_n hF dX3_makeRoomAtEnd_15 rfl (j_get hF h_q fl_RX3_9 dX3_makeRoomAtEnd_16 rfl (j_ilen hF (by decide) h_u dX3_makeRoomAtEnd_19 (fun rl5 => ?_))))
    refine j_imul hF dX3_makeRoomAtEnd_20 (j_newi hF (b + 1) (n') kl_ac dX3_makeRoomAtEnd_21 (by omega) (by omega) (by omega) (fun a_t hq6 => j_nm (fun X6 eX6 => ?_)) (by omega))
    have h_q := upn eX6 h_q hq6
    have h_u := upn eX6 h_u hq6
    have h_t := ups eX6
    have hfr := hfr.trans (FB.new eX6 hq6)
    refine j_goto hF 30 dX3_makeRoomAtEnd_23 (by decide) (j_astore_n hF dX3_makeRoomAtEnd_30 (Nat.le_of_ble_eq_true rfl) rfl (j_aload_n hF dX3_makeRoomAtEnd_31 rfl (j_get hF h_q fl_RX3_9 dX3_makeRoomAtEnd_32 rfl (j_aload_n hF dX3_makeRoomAtEnd_35 rfl (j_get hF h_q fl_RX3_17 dX3_makeRoomAtEnd_36 rfl ?_)))))
    refine j_aload_n hF dX3_makeRoomAtEnd_39 rfl (j_iconst hF dX3_makeRoomAtEnd_40 (j_aload_n hF dX3_makeRoomAtEnd_41 rfl (j_get hF h_q fl_RX3_13 dX3_makeRoomAtEnd_42 rfl (j_copy hF lk_RX3_35 ac_nat ac_sta ac_ini h_u h_t dX3_makeRoomAtEnd_45 (by omega) rfl (by decide) ⟨(Nat.le_of_ble_eq_true rfl), (Nat.le_of_ble_eq_true rfl)⟩ (j_nm (fun X7 eX7 => ?_))))))
    have h_q := upx eX7 h_q h_t (by omega)
    have hfr := hfr.trans (FB.up eX7 h_t (by omega) (by omega))
    have h_t := ups eX7
    refine j_aload_n hF dX3_makeRoomAtEnd_48 rfl (j_aload_n hF dX3_makeRoomAtEnd_49 rfl (j_put hF h_q fl_RX3_9 dX3_makeRoomAtEnd_50 rfl rfl (Nat.le_of_ble_eq_true rfl) (j_nm (fun X8 eX8 => ?_))))
    have hfr := hfr.trans (FB.up eX8 h_q (by omega) (by omega))
    have h_t := upx eX8 h_t h_q (by omega)
    have h_q := ups eX8
    refine j_aload_n hF dX3_makeRoomAtEnd_53 rfl (j_iconst hF dX3_makeRoomAtEnd_54 (j_put hF h_q fl_RX3_17 dX3_makeRoomAtEnd_55 rfl rfl (Nat.le_of_ble_eq_true rfl) (j_nm (fun X9 eX9 => ?_))))
    have hfr := hfr.trans (FB.up eX9 h_q (by omega) (by omega))
    have h_t := upx eX9 h_t h_q (by omega)
    have h_q := ups eX9
    refine j_vret hF hR dX3_makeRoomAtEnd_58 (by omega) (by omega) ?_
    exact ⟨rfl, a_t, _, ⟨⟨h_q, h_t⟩, hfr⟩, fun i i1 i2 => by rw [fcI i1 (by omega), show fi + (i - 0) = fi + i by omega]⟩

set_option maxRecDepth 100000 in
set_option maxHeartbeats 4000000 in
theorem c_X3_add {X : Hp} {b q n : Nat} {fi sz : Int} {g : Int → Int} (hR0 : QR X b q n fi sz g) {x c : Int} {n' : Nat} (hn' : n' = qn n fi sz) (hs : sz < 6144) (hx : 0 ≤ x ∧ x < 16000) (hc : -1 ≤ c ∧ c ≤ 1) : Ct yX3_add cX3_add 3 none 2 51 [.ref q, vi x, vi c] X (n' - n) (6 * (n' - n)) (fun rv X' => rv = none ∧ QR X' b q n' (qf n fi sz) (sz + 1) (fu g sz (2 * x + (if 0 < c then 1 else 0))) ∧ FB b (b + 10) X X') := by
  refine Ct.of (by decide +kernel) [some (.ref q), some (vi x), some (vi c)] rfl (Nat.le_of_ble_eq_true rfl) (fun φ hF hR => ?_)
  obtain ⟨u, fq, hM, hc0, hz, hQC⟩ := hR0
  have hM := hM.gg
  have hrg := hQC.rg
  have hc1 := hc0
  refine j_aload_n hF dX3_add_0 rfl (j_get hF hM.1.1 fl_RX3_13 dX3_add_1 rfl (j_sipush hF dX3_add_4 (by decide) (j_icmp_lt hF 11 dX3_add_7 (by decide) (by omega) (fun c7 => ?_) (fun c7 => absurd c7 (by omega)))))
  refine j_aload_n hF dX3_add_11 rfl (j_get hF hM.1.1 fl_RX3_17 dX3_add_12 rfl (j_aload_n hF dX3_add_15 rfl (j_get hF hM.1.1 fl_RX3_13 dX3_add_16 rfl (j_iadd hF dX3_add_19 (j_aload_n hF dX3_add_20 rfl ?_)))))
  refine j_get hF hM.1.1 fl_RX3_9 dX3_add_21 rfl (j_ilen hF (by decide) hM.1.2 dX3_add_24 (fun rl1 => ?_))
  refine j_icmp_ne hF 32 dX3_add_25 (by decide) (by omega) (fun c25 => ?_) (fun c25 => ?_)
  ·
    have hn2 : n' = n := by rw [hn', qn, if_neg c25]
    have hf2 : qf n fi sz = fi := if_neg c25
    have hqc : QC n' := hn2 ▸ hQC
    subst hn2
    refine j_aload_n hF dX3_add_32 rfl (j_get hF hM.1.1 fl_RX3_9 dX3_add_33 rfl (j_aload_n hF dX3_add_36 rfl (j_get hF hM.1.1 fl_RX3_17 dX3_add_37 rfl (j_aload_n hF dX3_add_40 rfl (j_get hF hM.1.1 fl_RX3_13 dX3_add_41 rfl ?_)))))
    refine j_iadd hF dX3_add_44 (j_iload_n hF dX3_add_45 rfl (j_if_le hF 53 dX3_add_46 (by decide) (by omega) (fun c46 => ?_) (fun c46 => ?_)))
    ·
      refine j_iload_n hF dX3_add_53 rfl (j_iconst hF dX3_add_54 (j_ixor hF (-x - 1) (xr x) dX3_add_55 (j_iast hF hM.1.2 dX3_add_56 (by omega) (by omega) (j_nm (fun X2 eX2 => ?_)))))
      have hM := hM.u_fq eX2
      refine j_aload_n hF dX3_add_57 rfl (j_dup hF dX3_add_58 rfl (j_get hF hM.1.1 fl_RX3_13 dX3_add_59 rfl (j_iconst hF dX3_add_62 (j_iadd hF dX3_add_63 (j_put hF hM.1.1 fl_RX3_13 dX3_add_64 rfl rfl (Nat.le_of_ble_eq_true rfl) (j_nm (fun X3 eX3 => ?_)))))))
      have hM := hM.u_sz eX3
      refine j_vret hF hR dX3_add_67 (by omega) (by omega) ?_
      rw [hf2]
      refine ⟨rfl, ⟨_, _, hM.1, fun i i1 i2 => ?_, by omega, hqc⟩, hM.2⟩
      by_cases e : i = sz
      · rw [e, fu_s, fu_s]; unfold en; first | (rw [if_pos c46]; rw [if_pos (by omega)]; omega) | (rw [if_neg (show ¬ 0 < c by omega)]; rw [if_neg (by omega)]; omega)
      · rw [fu_n (by omega), fu_n e]; exact hc1 i i1 (by omega)
    ·
      refine j_iload_n hF dX3_add_49 rfl (j_goto hF 56 dX3_add_50 (by decide) (j_iast hF hM.1.2 dX3_add_56 (by omega) (by omega) (j_nm (fun X4 eX4 => ?_))))
      have hM := hM.u_fq eX4
      refine j_aload_n hF dX3_add_57 rfl (j_dup hF dX3_add_58 rfl (j_get hF hM.1.1 fl_RX3_13 dX3_add_59 rfl (j_iconst hF dX3_add_62 (j_iadd hF dX3_add_63 (j_put hF hM.1.1 fl_RX3_13 dX3_add_64 rfl rfl (Nat.le_of_ble_eq_true rfl) (j_nm (fun X5 eX5 => ?_)))))))
      have hM := hM.u_sz eX5
      refine j_vret hF hR dX3_add_67 (by omega) (by omega) ?_
      rw [hf2]
      refine ⟨rfl, ⟨_, _, hM.1, fun i i1 i2 => ?_, by omega, hqc⟩, hM.2⟩
      by_cases e : i = sz
      · rw [e, fu_s, fu_s]; unfold en; first | (rw [if_pos c46]; rw [if_pos (by omega)]; omega) | (rw [if_neg (show ¬ 0 < c by omega)]; rw [if_neg (by omega)]; omega)
      · rw [fu_n (by omega), fu_n e]; exact hc1 i i1 (by omega)
  ·
    have hn2 : n' = if (n : Int) < 2 * sz then 2 * n else n := by rw [hn', qn, if_pos c25]
    have hf2 : qf n fi sz = 0 := if_pos c25
    have hqc : QC n' := by
      rw [hn2]
      split
      · exact hQC.two (by omega)
      · exact hQC
    have hn3 : sz < n' := by
      rw [hn2]
      split <;> omega
    refine j_aload_n hF dX3_add_28 rfl (j_callV hF (c_X3_makeRoomAtEnd hM.1 hn2 hz (by omega)) ms_X3_makeRoomAtEnd mv_X3_makeRoomAtEnd lk_RX3_20 dX3_add_29 hM.1.1 rfl rfl rfl (by simp [Value.category]) ⟨⟨(Nat.le_of_ble_eq_true rfl), (Nat.le_of_ble_eq_true rfl)⟩, by omega, by omega⟩ (fun v6 X6 hp6 hE6 => ?_))
    obtain ⟨rfl, u1, fq1, hM1, hc1⟩ := hp6
    have hM := hM.tr hM1
    have hc1 : ∀ i, 0 ≤ i → i < sz → fq1 (0 + i) = en (g i) := fun i i1 i2 => by rw [Int.zero_add, hc1 i i1 i2]; exact hc0 i i1 i2
    refine j_aload_n hF dX3_add_32 rfl (j_get hF hM.1.1 fl_RX3_9 dX3_add_33 rfl (j_aload_n hF dX3_add_36 rfl (j_get hF hM.1.1 fl_RX3_17 dX3_add_37 rfl (j_aload_n hF dX3_add_40 rfl (j_get hF hM.1.1 fl_RX3_13 dX3_add_41 rfl ?_)))))
    refine j_iadd hF dX3_add_44 (j_iload_n hF dX3_add_45 rfl (j_if_le hF 53 dX3_add_46 (by decide) (by omega) (fun c46 => ?_) (fun c46 => ?_)))
    ·
      refine j_iload_n hF dX3_add_53 rfl (j_iconst hF dX3_add_54 (j_ixor hF (-x - 1) (xr x) dX3_add_55 (j_iast hF hM.1.2 dX3_add_56 (by omega) (by omega) (j_nm (fun X7 eX7 => ?_)))))
      have hM := hM.u_fq eX7
      refine j_aload_n hF dX3_add_57 rfl (j_dup hF dX3_add_58 rfl (j_get hF hM.1.1 fl_RX3_13 dX3_add_59 rfl (j_iconst hF dX3_add_62 (j_iadd hF dX3_add_63 (j_put hF hM.1.1 fl_RX3_13 dX3_add_64 rfl rfl (Nat.le_of_ble_eq_true rfl) (j_nm (fun X8 eX8 => ?_)))))))
      have hM := hM.u_sz eX8
      refine j_vret hF hR dX3_add_67 (by omega) (by omega) ?_
      rw [hf2]
      refine ⟨rfl, ⟨_, _, hM.1, fun i i1 i2 => ?_, by omega, hqc⟩, hM.2⟩
      by_cases e : i = sz
      · rw [e, fu_s, fu_s]; unfold en; first | (rw [if_pos c46]; rw [if_pos (by omega)]; omega) | (rw [if_neg (show ¬ 0 < c by omega)]; rw [if_neg (by omega)]; omega)
      · rw [fu_n (by omega), fu_n e]; exact hc1 i i1 (by omega)
    ·
      refine j_iload_n hF dX3_add_49 rfl (j_goto hF 56 dX3_add_50 (by decide) (j_iast hF hM.1.2 dX3_add_56 (by omega) (by omega) (j_nm (fun X9 eX9 => ?_))))
      have hM := hM.u_fq eX9
      refine j_aload_n hF dX3_add_57 rfl (j_dup hF dX3_add_58 rfl (j_get hF hM.1.1 fl_RX3_13 dX3_add_59 rfl (j_iconst hF dX3_add_62 (j_iadd hF dX3_add_63 (j_put hF hM.1.1 fl_RX3_13 dX3_add_64 rfl rfl (Nat.le_of_ble_eq_true rfl) (j_nm (fun X10 eX10 => ?_)))))))
      have hM := hM.u_sz eX10
      refine j_vret hF hR dX3_add_67 (by omega) (by omega) ?_
      rw [hf2]
      refine ⟨rfl, ⟨_, _, hM.1, fun i i1 i2 => ?_, by omega, hqc⟩, hM.2⟩
      by_cases e : i = sz
      · rw [e, fu_s, fu_s]; unfold en; first | (rw [if_pos c46]; rw [if_pos (by omega)]; omega) | (rw [if_neg (show ¬ 0 < c by omega)]; rw [if_neg (by omega)]; omega)
      · rw [fu_n (by omega), fu_n e]; exact hc1 i i1 (by omega)

set_option maxRecDepth 100000 in
set_option maxHeartbeats 4000000 in
theorem c_X3_copyFrom {X : Hp} {b q n : Nat} {fi sz : Int} {g : Int → Int} (hR0 : QR X b q n fi sz g) {b2 q2 n2 : Nat} {fi2 sz2 : Int} {g2 : Int → Int} (hR2 : QR X b2 q2 n2 fi2 sz2 g2) (hdis : b2 + 10 ≤ b ∨ b + 10 ≤ b2) {n' : Nat} (hn' : n' = cq n sz2 n2) : Ct yX3_copyFrom cX3_copyFrom 2 none 1 30 [.ref q, .ref q2] X (n' - n) (6 * (n' - n)) (fun rv X' => rv = none ∧ QR X' b q n' 0 sz2 g2 ∧ FB b (b + 10) X X') := by
  refine Ct.of (by decide +kernel) [some (.ref q), some (.ref q2)] rfl (Nat.le_of_ble_eq_true rfl) (fun φ hF hR => ?_)
  obtain ⟨u, fq, ⟨h_q, h_u⟩, hc0, hz, hQC⟩ := hR0
  obtain ⟨u2, fq2, hO, hc2, hz2, hQC2⟩ := hR2
  have hfr := FB.refl b (b + 10) X
  have hrg := hQC.rg
  have hrg2 := hQC2.rg
  refine j_aload_n hF dX3_copyFrom_0 rfl (j_get hF hO.1 fl_RX3_13 dX3_copyFrom_1 rfl (j_aload_n hF dX3_copyFrom_4 rfl (j_get hF h_q fl_RX3_9 dX3_copyFrom_5 rfl (j_ilen hF (by decide) h_u dX3_copyFrom_8 (fun rl1 => ?_)))))
  refine j_icmp_le hF 23 dX3_copyFrom_9 (by decide) (by omega) (fun c9 => ?_) (fun c9 => ?_)
  ·
    have hn2 : n' = n := hn'.trans (if_neg (by omega))
    have hQn : QC n' := hn2 ▸ hQC
    subst hn2
    refine j_aload_n hF dX3_copyFrom_23 rfl (j_iconst hF dX3_copyFrom_24 (j_put hF h_q fl_RX3_17 dX3_copyFrom_25 rfl rfl (Nat.le_of_ble_eq_true rfl) (j_nm (fun X2 eX2 => ?_))))
    have hO := hO.keep (FB.up (lo := b) (hi := b + 10) eX2 h_q (by omega) (by omega)) (by omega)
    have hfr := hfr.trans (FB.up eX2 h_q (by omega) (by omega))
    have h_u := upx eX2 h_u h_q (by omega)
    have h_q := ups eX2
    refine j_aload_n hF dX3_copyFrom_28 rfl (j_aload_n hF dX3_copyFrom_29 rfl (j_get hF hO.1 fl_RX3_13 dX3_copyFrom_30 rfl (j_put hF h_q fl_RX3_13 dX3_copyFrom_33 rfl rfl (Nat.le_of_ble_eq_true rfl) (j_nm (fun X3 eX3 => ?_)))))
    have hO := hO.keep (FB.up (lo := b) (hi := b + 10) eX3 h_q (by omega) (by omega)) (by omega)
    have hfr := hfr.trans (FB.up eX3 h_q (by omega) (by omega))
    have h_u := upx eX3 h_u h_q (by omega)
    have h_q := ups eX3
    refine j_aload_n hF dX3_copyFrom_36 rfl (j_get hF hO.1 fl_RX3_9 dX3_copyFrom_37 rfl (j_aload_n hF dX3_copyFrom_40 rfl (j_get hF hO.1 fl_RX3_17 dX3_copyFrom_41 rfl (j_aload_n hF dX3_copyFrom_44 rfl (j_get hF h_q fl_RX3_9 dX3_copyFrom_45 rfl ?_)))))
    refine j_iconst hF dX3_copyFrom_48 (j_aload_n hF dX3_copyFrom_49 rfl (j_get hF h_q fl_RX3_13 dX3_copyFrom_50 rfl (j_copy hF lk_RX3_35 ac_nat ac_sta ac_ini hO.2 h_u dX3_copyFrom_53 (by omega) rfl (by decide) ⟨(Nat.le_of_ble_eq_true rfl), (Nat.le_of_ble_eq_true rfl)⟩ (j_nm (fun X4 eX4 => ?_)))))
    have hO := hO.keep (FB.up (lo := b) (hi := b + 10) eX4 h_u (by omega) (by omega)) (by omega)
    have hfr := hfr.trans (FB.up eX4 h_u (by omega) (by omega))
    have h_q := upx eX4 h_q h_u (by omega)
    have h_u := ups eX4
    refine j_vret hF hR dX3_copyFrom_56 (by omega) (by omega) ?_
    exact ⟨rfl, ⟨_, _, ⟨h_q, h_u⟩, fun i i1 i2 => by rw [Int.zero_add, fcI i1 (by omega), show fi2 + (i - 0) = fi2 + i by omega]; exact hc2 i i1 i2, by omega, hQn⟩, hfr⟩
  ·
    have hn2 : n' = n2 := hn'.trans (if_pos (by omega))
    have hQn : QC n' := hn2 ▸ hQC2
    have hl2 := hQC.lt hQC2 (by omega)
    subst hn2
    refine j_aload_n hF dX3_copyFrom_12 rfl (j_aload_n hF dX3_copyFrom_13 rfl (j_get hF hO.1 fl_RX3_9 dX3_copyFrom_14 rfl (j_ilen hF (by decide) hO.2 dX3_copyFrom_17 (fun rl5 => ?_))))
    refine j_newi hF (b + 1) (n') kl_ac dX3_copyFrom_18 (by omega) (by omega) (by omega) (fun a_t hq6 => j_nm (fun X6 eX6 => ?_)) (by omega)
    have hO := hO.keep (FB.new (lo := b) (hi := b + 10) eX6 hq6) (by omega)
    have hfr := hfr.trans (FB.new eX6 hq6)
    have h_q := upn eX6 h_q hq6
    have h_u := upn eX6 h_u hq6
    have h_t := ups eX6
    refine j_put hF h_q fl_RX3_9 dX3_copyFrom_20 rfl rfl (Nat.le_of_ble_eq_true rfl) (j_nm (fun X7 eX7 => ?_))
    have hO := hO.keep (FB.up (lo := b) (hi := b + 10) eX7 h_q (by omega) (by omega)) (by omega)
    have hfr := hfr.trans (FB.up eX7 h_q (by omega) (by omega))
    have h_u := upx eX7 h_u h_q (by omega)
    have h_t := upx eX7 h_t h_q (by omega)
    have h_q := ups eX7
    refine j_aload_n hF dX3_copyFrom_23 rfl (j_iconst hF dX3_copyFrom_24 (j_put hF h_q fl_RX3_17 dX3_copyFrom_25 rfl rfl (Nat.le_of_ble_eq_true rfl) (j_nm (fun X8 eX8 => ?_))))
    have hO := hO.keep (FB.up (lo := b) (hi := b + 10) eX8 h_q (by omega) (by omega)) (by omega)
    have hfr := hfr.trans (FB.up eX8 h_q (by omega) (by omega))
    have h_u := upx eX8 h_u h_q (by omega)
    have h_t := upx eX8 h_t h_q (by omega)
    have h_q := ups eX8
    refine j_aload_n hF dX3_copyFrom_28 rfl (j_aload_n hF dX3_copyFrom_29 rfl (j_get hF hO.1 fl_RX3_13 dX3_copyFrom_30 rfl (j_put hF h_q fl_RX3_13 dX3_copyFrom_33 rfl rfl (Nat.le_of_ble_eq_true rfl) (j_nm (fun X9 eX9 => ?_)))))
    have hO := hO.keep (FB.up (lo := b) (hi := b + 10) eX9 h_q (by omega) (by omega)) (by omega)
    have hfr := hfr.trans (FB.up eX9 h_q (by omega) (by omega))
    have h_u := upx eX9 h_u h_q (by omega)
    have h_t := upx eX9 h_t h_q (by omega)
    have h_q := ups eX9
    refine j_aload_n hF dX3_copyFrom_36 rfl (j_get hF hO.1 fl_RX3_9 dX3_copyFrom_37 rfl (j_aload_n hF dX3_copyFrom_40 rfl (j_get hF hO.1 fl_RX3_17 dX3_copyFrom_41 rfl (j_aload_n hF dX3_copyFrom_44 rfl (j_get hF h_q fl_RX3_9 dX3_copyFrom_45 rfl ?_)))))
    refine j_iconst hF dX3_copyFrom_48 (j_aload_n hF dX3_copyFrom_49 rfl (j_get hF h_q fl_RX3_13 dX3_copyFrom_50 rfl (j_copy hF lk_RX3_35 ac_nat ac_sta ac_ini hO.2 h_t dX3_copyFrom_53 (by omega) rfl (by decide) ⟨(Nat.le_of_ble_eq_true rfl), (Nat.le_of_ble_eq_true rfl)⟩ (j_nm (fun X10 eX10 => ?_)))))
    have hO := hO.keep (FB.up (lo := b) (hi := b + 10) eX10 h_t (by omega) (by omega)) (by omega)
    have hfr := hfr.trans (FB.up eX10 h_t (by omega) (by omega))
    have h_q := upx eX10 h_q h_t (by omega)
    have h_t := ups eX10
    refine j_vret hF hR dX3_copyFrom_56 (by omega) (by omega) ?_
    exact ⟨rfl, ⟨_, _, ⟨h_q, h_t⟩, fun i i1 i2 => by rw [Int.zero_add, fcI i1 (by omega), show fi2 + (i - 0) = fi2 + i by omega]; exact hc2 i i1 i2, by omega, hQn⟩, hfr⟩

set_option maxRecDepth 100000 in
set_option maxHeartbeats 4000000 in
theorem c_X3_init {X : Hp} {b q : Nat} (h_q : X q = some (b, ob 3 [vi 0, vi 0, .null])) : Ct yX3_init cX3_init 1 none 1 20 [.ref q] X 1 32 (fun rv X' => rv = none ∧ ∃ u', QPG X X' b q u' 32 0 0 (fun _ => 0)) := by
  refine Ct.of (by decide +kernel) [some (.ref q)] rfl (Nat.le_of_ble_eq_true rfl) (fun φ hF hR => ?_)
  have hfr := FB.refl b (b + 10) X
  refine j_aload_n hF dX3_init_0 rfl (j_obj hF lk_RX3_1 kl_oi kl_oc dX3_init_1 rfl (by decide) (Nat.le_of_ble_eq_true rfl) (Nat.le_of_ble_eq_true rfl) ?_)
  refine j_aload_n hF dX3_init_4 rfl (j_bipush hF dX3_init_5 (by decide) (j_newi hF (b + 1) (32) kl_ac dX3_init_7 (by decide) (by omega) (by omega) (fun a_u hq1 => j_nm (fun X1 eX1 => ?_)) (by rfl)))
  have h_q := upn eX1 h_q hq1
  have h_u := ups eX1
  have hfr := hfr.trans (FB.new eX1 hq1)
  refine j_put hF h_q fl_RX3_9 dX3_init_9 rfl rfl (Nat.le_of_ble_eq_true rfl) (j_nm (fun X2 eX2 => ?_))
  have hfr := hfr.trans (FB.up eX2 h_q (by omega) (by omega))
  have h_u := upx eX2 h_u h_q (by omega)
  have h_q := ups eX2
  refine j_vret hF hR dX3_init_12 (by omega) (by omega) ?_
  exact ⟨rfl, a_u, ⟨h_q, h_u⟩, hfr⟩

theorem QR.new {X X' : Hp} {b q u : Nat} {f1 : Int → Int} (h : QPG X X' b q u 32 0 0 f1) (g : Int → Int) : QR X' b q 32 0 0 g := ⟨_, _, h.1, fun i i1 i2 => absurd i2 (by omega), by omega, ⟨0, by omega, rfl⟩⟩
