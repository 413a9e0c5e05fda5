/-! saving and undoing -/
def shk (pf : Int → Int) (k : Int) : Int → Int := fun j => if 0 ≤ j ∧ j < k then pf (j + 54743) else pf j
def cpk (pf : Int → Int) (b : Int) (r : Int → Int) (k : Int) : Int → Int := fun j => if b ≤ j ∧ j < b + k then r (j - b) else pf j
theorem shk_0 (pf : Int → Int) : shk pf 0 = pf := by funext j; simp only [shk]; split <;> first | rfl | omega
theorem cpk_0 (pf : Int → Int) (b : Int) (r : Int → Int) : cpk pf b r 0 = pf := by funext j; simp only [cpk]; split <;> first | rfl | omega
theorem shk_s (pf : Int → Int) (k : Int) (h : 0 ≤ k) : fu (shk pf k) k (shk pf k (k + 54743)) = shk pf (k + 1) := by
  funext j
  simp only [fu, shk]
  (repeat' split) <;> first | rfl | omega | (congr 1; omega)
theorem cpk_s (pf : Int → Int) (b : Int) (r : Int → Int) (k : Int) (h : 0 ≤ k) : fu (cpk pf b r k) (b + k) (r k) = cpk pf b r (k + 1) := by
  funext j
  simp only [fu, cpk]
  (repeat' split) <;> first | rfl | omega | (congr 1; omega)
theorem unk_s (pf r : Int → Int) (b k : Int) (h : 0 ≤ k) : fu (cpk r 0 (fun j => pf (b + j)) k) k (pf (b + k)) = cpk r 0 (fun j => pf (b + j)) (k + 1) := by
  have := cpk_s r 0 (fun j => pf (b + j)) k h
  rwa [Int.zero_add] at this
def sv_n (sv : Int) : Int := if sv = 3 then 3 else sv + 1
def sv_p (r pf : Int → Int) (sv : Int) : Int → Int := cpk (if sv = 3 then shk pf 109486 else pf) (54743 * (if sv = 3 then 2 else sv)) r 54743
set_option maxRecDepth 100000 in
set_option maxHeartbeats 4000000 in
theorem c_X8_saves {X : Hp} {ad : Nat → Nat} {r pf : Int → Int} {sv : Int} {er sn lw rc wt : Int → Int} {wg : Int} {ls ac fi : Int → Int} {as : Int} {hh : Int64} (hM : MM X ad r pf sv er sn lw rc wt wg ls ac fi as hh) (hs : 0 ≤ sv ∧ sv ≤ 3) : Ct yX8_saves cX8_saves 2 none 0 0 [.ref (ad 0)] X 0 0 (fun rv X' => rv = none ∧ MG X X' ad r (sv_p r pf sv) (sv_n sv) er sn lw rc wt wg ls ac fi as hh) := by
  refine Ct.of (by decide +kernel) [some (.ref (ad 0)), none] rfl (Nat.le_of_ble_eq_true rfl) (fun φ hF hR => ?_)
  have hM := hM.g
  have L49 : ∀ (n : Nat) (Y : Hp) (k : Int) (pb : Int → Int) (sb : Int), (54743 - k).toNat < n → 0 ≤ k ∧ k ≤ 54743 → 0 ≤ sb ∧ sb ≤ 2 → MG X Y ad r (cpk pb (54743 * sb) r k) sb er sn lw rc wt wg ls ac fi as hh → (sv_n sv = sb + 1 ∧ sv_p r pf sv = cpk pb (54743 * sb) r 54743) → Jd φ Y 0 0 49 [some (.ref (ad 0)), some (vi k)] [] := by
    intro n
    induction n with
    | zero => intro Y k pb sb hfu; exact absurd hfu (by omega)
    | succ n ih =>
      intro Y k pb sb hfu hk hs hM hq
      refine j_iload_n hF dX8_saves_49 rfl (j_ldc hF kc_RX8_7 dX8_saves_50 (j_icmp_ge hF 81 dX8_saves_52 (by decide) (by omega) (fun c52 => ?_) (fun c52 => ?_)))
      ·
        refine j_aload_n hF dX8_saves_81 rfl (j_dup hF dX8_saves_82 rfl (j_get hF hM.1.1 fl_RX8_47 dX8_saves_83 rfl (j_iconst hF dX8_saves_86 (j_iadd hF dX8_saves_87 (j_put hF hM.1.1 fl_RX8_47 dX8_saves_88 rfl rfl (Nat.le_of_ble_eq_true rfl) (j_nm (fun X1 eX1 => ?_)))))))
        have hM := hM.u_sv eX1
        refine j_vret hF hR dX8_saves_91 (by omega) (by omega) ?_
        have ek : k = 54743 := by omega
        subst ek
        exact ⟨rfl, by rw [hq.1, hq.2]; exact hM⟩
      ·
        refine j_aload_n hF dX8_saves_55 rfl (j_get hF hM.1.1 fl_RX8_15 dX8_saves_56 rfl (j_ldc hF kc_RX8_7 dX8_saves_59 (j_aload_n hF dX8_saves_61 rfl (j_get hF hM.1.1 fl_RX8_47 dX8_saves_62 rfl (j_imul hF dX8_saves_65 ?_)))))
        refine j_iload_n hF dX8_saves_66 rfl (j_iadd hF dX8_saves_67 (j_aload_n hF dX8_saves_68 rfl (j_get hF hM.1.1 fl_RX8_8 dX8_saves_69 rfl (j_iload_n hF dX8_saves_72 rfl (j_iald hF hM.1.2.1 dX8_saves_73 (by omega) (fun ra2 rb2 => ?_))))))
        refine j_iast hF hM.1.2.2.1 dX8_saves_74 (by omega) (by omega) (j_nm (fun X3 eX3 => ?_))
        have hM := hM.u_pf eX3
        refine j_iinc hF dX8_saves_75 rfl (Nat.le_of_ble_eq_true rfl) rfl (j_goto hF 49 dX8_saves_78 (by decide) ?_)
        exact ih _ (k + 1) _ _ (by omega) (by omega) hs (by rw [← cpk_s _ _ _ _ hk.1]; exact hM) hq
  refine j_aload_n hF dX8_saves_0 rfl (j_get hF hM.1.1 fl_RX8_47 dX8_saves_1 rfl (j_iconst hF dX8_saves_4 (j_icmp_ne hF 47 dX8_saves_5 (by decide) (by omega) (fun c5 => ?_) (fun c5 => ?_))))
  ·
    refine j_iconst hF dX8_saves_47 (j_istore_n hF dX8_saves_48 (Nat.le_of_ble_eq_true rfl) rfl ?_)
    exact L49 54744 _ 0 pf sv (by decide) (by decide) (by omega) (by rw [cpk_0]; exact hM) ⟨by unfold sv_n; rw [if_neg c5], by unfold sv_p; rw [if_neg c5, if_neg c5]⟩
  ·
    refine j_iconst hF dX8_saves_8 (j_istore_n hF dX8_saves_9 (Nat.le_of_ble_eq_true rfl) rfl ?_)
    have h3 : sv = 3 := by omega
    have L10 : ∀ (n : Nat) (Y : Hp) (k : Int), (109486 - k).toNat < n → 0 ≤ k ∧ k ≤ 109486 → MG X Y ad r (shk pf k) sv er sn lw rc wt wg ls ac fi as hh → Jd φ Y 0 0 10 [some (.ref (ad 0)), some (vi k)] [] := by
      intro n
      induction n with
      | zero => intro Y k hfu; exact absurd hfu (by omega)
      | succ n ih =>
        intro Y k hfu hk hM
        refine j_iload_n hF dX8_saves_10 rfl (j_ldc hF kc_RX8_51 dX8_saves_11 (j_icmp_ge hF 37 dX8_saves_13 (by decide) (by omega) (fun c13 => ?_) (fun c13 => ?_)))
        ·
          refine j_aload_n hF dX8_saves_37 rfl (j_dup hF dX8_saves_38 rfl (j_get hF hM.1.1 fl_RX8_47 dX8_saves_39 rfl (j_iconst hF dX8_saves_42 (j_isub hF dX8_saves_43 (j_put hF hM.1.1 fl_RX8_47 dX8_saves_44 rfl rfl (Nat.le_of_ble_eq_true rfl) (j_nm (fun X1 eX1 => ?_)))))))
          have hM := hM.u_sv eX1
          refine j_iconst hF dX8_saves_47 (j_istore_n hF dX8_saves_48 (Nat.le_of_ble_eq_true rfl) rfl ?_)
          exact L49 54744 _ 0 (shk pf 109486) (sv - 1) (by decide) (by decide) (by omega) (by rw [cpk_0, show shk pf 109486 = shk pf k by rw [show k = 109486 by omega]]; exact hM) ⟨by unfold sv_n; omega, by unfold sv_p; rw [if_pos h3, if_pos h3, h3]; rfl⟩
        ·
          refine j_aload_n hF dX8_saves_16 rfl (j_get hF hM.1.1 fl_RX8_15 dX8_saves_17 rfl (j_iload_n hF dX8_saves_20 rfl (j_aload_n hF dX8_saves_21 rfl (j_get hF hM.1.1 fl_RX8_15 dX8_saves_22 rfl (j_iload_n hF dX8_saves_25 rfl ?_)))))
          refine j_ldc hF kc_RX8_7 dX8_saves_26 (j_iadd hF dX8_saves_28 (j_iald hF hM.1.2.2.1 dX8_saves_29 (by omega) (fun ra2 rb2 => ?_)))
          refine j_iast hF hM.1.2.2.1 dX8_saves_30 (by omega) (by omega) (j_nm (fun X3 eX3 => ?_))
          have hM := hM.u_pf eX3
          refine j_iinc hF dX8_saves_31 rfl (Nat.le_of_ble_eq_true rfl) rfl (j_goto hF 10 dX8_saves_34 (by decide) ?_)
          exact ih _ (k + 1) (by omega) (by omega) (by rw [← shk_s _ _ hk.1]; exact hM)
    exact L10 109487 _ 0 (by decide) (by decide) (by rw [shk_0]; exact hM)

set_option maxRecDepth 100000 in
set_option maxHeartbeats 4000000 in
theorem c_X8_undo {X : Hp} {ad : Nat → Nat} {r pf : Int → Int} {sv : Int} {er sn lw rc wt : Int → Int} {wg : Int} {ls ac fi : Int → Int} {as : Int} {hh : Int64} (hM : MM X ad r pf sv er sn lw rc wt wg ls ac fi as hh) (hs : 0 ≤ sv ∧ sv ≤ 3) (hE : EI er) : Ct yX8_undo cX8_undo 2 (some .int) 1 21 [.ref (ad 0)] X 0 0 (fun rv X' => rv = some (vi (if sv = 0 then -5 else sv - 1)) ∧ MG X X' ad (if sv = 0 then r else cpk r 0 (fun j => pf (54743 * (sv - 1) + j)) 54743) pf (if sv = 0 then sv else sv - 1) (if sv = 0 then fe er (-5) else er) sn lw rc wt wg ls ac fi as hh) := by
  refine Ct.of (by decide +kernel) [some (.ref (ad 0)), none] rfl (Nat.le_of_ble_eq_true rfl) (fun φ hF hR => ?_)
  have hM := hM.g
  refine j_aload_n hF dX8_undo_0 rfl (j_get hF hM.1.1 fl_RX8_47 dX8_undo_1 rfl (j_if_ne hF 14 dX8_undo_4 (by decide) (by omega) (fun c4 => ?_) (fun c4 => ?_)))
  ·
    refine j_aload_n hF dX8_undo_14 rfl (j_dup hF dX8_undo_15 rfl (j_get hF hM.1.1 fl_RX8_47 dX8_undo_16 rfl (j_iconst hF dX8_undo_19 (j_isub hF dX8_undo_20 (j_put hF hM.1.1 fl_RX8_47 dX8_undo_21 rfl rfl (Nat.le_of_ble_eq_true rfl) (j_nm (fun X1 eX1 => ?_)))))))
    have hM := hM.u_sv eX1
    refine j_iconst hF dX8_undo_24 (j_istore_n hF dX8_undo_25 (Nat.le_of_ble_eq_true rfl) rfl ?_)
    have L26 : ∀ (n : Nat) (Y : Hp) (k : Int), (54743 - k).toNat < n → 0 ≤ k ∧ k ≤ 54743 → MG X Y ad (cpk r 0 (fun j => pf (54743 * (sv - 1) + j)) k) pf (sv - 1) er sn lw rc wt wg ls ac fi as hh → Jd φ Y 0 0 26 [some (.ref (ad 0)), some (vi k)] [] := by
      intro n
      induction n with
      | zero => intro Y k hfu; exact absurd hfu (by omega)
      | succ n ih =>
        intro Y k hfu hk hM
        refine j_iload_n hF dX8_undo_26 rfl (j_ldc hF kc_RX8_7 dX8_undo_27 (j_icmp_ge hF 58 dX8_undo_29 (by decide) (by omega) (fun c29 => ?_) (fun c29 => ?_)))
        ·
          refine j_aload_n hF dX8_undo_58 rfl (j_get hF hM.1.1 fl_RX8_47 dX8_undo_59 rfl (j_iret hF hR dX8_undo_62 (by omega) (by omega) ?_))
          have ek : k = 54743 := by omega
          subst ek
          exact ⟨by rw [if_neg c4], by rw [if_neg c4, if_neg c4, if_neg c4]; exact hM⟩
        ·
          refine j_aload_n hF dX8_undo_32 rfl (j_get hF hM.1.1 fl_RX8_8 dX8_undo_33 rfl (j_iload_n hF dX8_undo_36 rfl (j_aload_n hF dX8_undo_37 rfl (j_get hF hM.1.1 fl_RX8_15 dX8_undo_38 rfl (j_ldc hF kc_RX8_7 dX8_undo_41 ?_)))))
          refine j_aload_n hF dX8_undo_43 rfl (j_get hF hM.1.1 fl_RX8_47 dX8_undo_44 rfl (j_imul hF dX8_undo_47 (j_iload_n hF dX8_undo_48 rfl (j_iadd hF dX8_undo_49 (j_iald hF hM.1.2.2.1 dX8_undo_50 (by omega) (fun ra1 rb1 => ?_))))))
          refine j_iast hF hM.1.2.1 dX8_undo_51 (by omega) (by omega) (j_nm (fun X2 eX2 => ?_))
          have hM := hM.u_r eX2
          refine j_iinc hF dX8_undo_52 rfl (Nat.le_of_ble_eq_true rfl) rfl (j_goto hF 26 dX8_undo_55 (by decide) ?_)
          exact ih _ (k + 1) (by omega) (by omega) (by rw [← unk_s _ _ _ _ hk.1]; exact hM)
    exact L26 54744 _ 0 (by decide) (by decide) (by rw [cpk_0]; exact hM)
  ·
    refine j_aload_n hF dX8_undo_7 rfl (j_bipush hF dX8_undo_8 (by decide) (j_callV hF (c_X8_fails hM.1 (by omega) hE) ms_X8_fails mv_X8_fails lk_RX8_52 dX8_undo_10 hM.1.1 rfl rfl rfl (by simp [Value.category]) ⟨⟨(Nat.le_of_ble_eq_true rfl), (Nat.le_of_ble_eq_true rfl)⟩, by omega, by omega⟩ (fun v2 X2 hp2 hE2 => ?_)))
    obtain ⟨rfl, hM1⟩ := hp2
    have hM := hM.tr hM1
    refine j_iret hF hR dX8_undo_13 (by omega) (by omega) ?_
    exact ⟨by rw [if_pos c4], by rw [if_pos c4, if_pos c4, if_pos c4]; exact hM⟩
