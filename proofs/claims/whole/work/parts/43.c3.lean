def c_kb (fd : Int → Int) (x y z : Int) : Int := if fd x = fd y then (if z = 0 then 0 else 3) else if fd x < fd y then 1 else 2
def c_allow (nc ec : Int) (fd fs fe fk : Int → Int) (x y z : Int) : Prop := ((-1 ≤ fd y - fd x ∧ fd y - fd x ≤ 1) ∧ (z = 1 → fd y - fd x = 0 ∧ ¬ fd x = 0)) ∧ BA (fun n => ¬ CP fd (fu fs ec x) (fu fe ec y) (fu fk ec (c_kb fd x y z)) (ec + 1) n n) nc
set_option maxRecDepth 100000 in
set_option maxHeartbeats 4000000 in
theorem c_X0_allowsEdge {X : Hp} {b : Nat} {g d s e k : Nat} {nc ec : Int} {fd fs fe fk : Int → Int} (hM : GP X b g d s e k nc ec fd fs fe fk) {x y z : Int} (hn6 : 0 ≤ nc ∧ nc ≤ 6) (hc : 0 ≤ ec ∧ ec ≤ 10) (hx : 0 ≤ x ∧ x < nc) (hy : 0 ≤ y ∧ y < nc) (hz : 0 ≤ z ∧ z ≤ 1) (hd : ∀ j, 0 ≤ j → j < 6 → 0 ≤ fd j ∧ fd j ≤ 2) (hfs : ∀ j, 0 ≤ j → j < ec → 0 ≤ fs j ∧ fs j < nc) (hfe : ∀ j, 0 ≤ j → j < ec → 0 ≤ fe j ∧ fe j < nc) : Ct yX0_allowsEdge cX0_allowsEdge 6 (some .boolean) 2 48 [.ref g, vi x, vi y, vi z] X 0 0 (fun rv X' => rv = some (vi (bz (c_allow nc ec fd fs fe fk x y z))) ∧ ∃ fs' fe' fk', GPG X X' b g d s e k nc ec fd fs' fe' fk' ∧ ∀ j, ¬ j = ec → fs' j = fs j ∧ fe' j = fe j ∧ fk' j = fk j) := by
  refine Ct.of (by decide +kernel) [some (.ref g), some (vi x), some (vi y), some (vi z), none, none] rfl (Nat.le_of_ble_eq_true rfl) (fun φ hF hR => ?_)
  have hM := hM.gg
  have dx := hd x hx.1 (by omega)
  have dy := hd y hy.1 (by omega)
  have J49 : (-1 ≤ fd y - fd x ∧ fd y - fd x ≤ 1) → (z = 1 → fd y - fd x = 0 ∧ ¬ fd x = 0) → Jd φ X 0 0 49 [some (.ref g), some (vi x), some (vi y), some (vi z), some (vi (fd y - fd x)), none] [] := by
    intro hd1 hz1
    refine j_aload_n hF dX0_allowsEdge_49 rfl (j_iload_n hF dX0_allowsEdge_50 rfl (j_iload_n hF dX0_allowsEdge_51 rfl (j_iload_n hF dX0_allowsEdge_52 rfl (j_callV hF (c_X0_putEdge hM.1 (by omega) (by omega) (by omega) (by omega)) ms_X0_putEdge mv_X0_putEdge lk_RX0_45 dX0_allowsEdge_53 hM.1.1 rfl rfl rfl (by simp [Value.category]) ⟨⟨(Nat.le_of_ble_eq_true rfl), (Nat.le_of_ble_eq_true rfl)⟩, by omega, by omega⟩ (fun v1 X1 hp1 hE1 => ?_)))))
    obtain ⟨rfl, hM1⟩ := hp1
    have hM := hM.tr hM1
    refine j_iconst hF dX0_allowsEdge_56 (j_istore hF dX0_allowsEdge_57 (Nat.le_of_ble_eq_true rfl) rfl ?_)
    have hfs2 : ∀ j, 0 ≤ j → j < ec + 1 → 0 ≤ fu fs ec x j ∧ fu fs ec x j < nc := fun j j1 j2 => by
      by_cases hj : j = ec
      · rw [hj, fu_s]; omega
      · rw [fu_n hj]; exact hfs j j1 (by omega)
    have hfe2 : ∀ j, 0 ≤ j → j < ec + 1 → 0 ≤ fu fe ec y j ∧ fu fe ec y j < nc := fun j j1 j2 => by
      by_cases hj : j = ec
      · rw [hj, fu_s]; omega
      · rw [fu_n hj]; exact hfe j j1 (by omega)
    have L59 : ∀ (n : Nat) (i : Int), (nc - i).toNat < n → 0 ≤ i ∧ i ≤ nc → BA (fun n => ¬ CP fd (fu fs ec x) (fu fe ec y) (fu fk ec (c_kb fd x y z)) (ec + 1) n n) i → Jd φ X1 0 0 59 [some (.ref g), some (vi x), some (vi y), some (vi z), some (vi (fd y - fd x)), some (vi i)] [] := by
      intro n
      induction n with
      | zero => intro i hfu; exact absurd hfu (by omega)
      | succ n ih =>
        intro i hfu hi hB
        refine j_iload hF dX0_allowsEdge_59 rfl (j_aload_n hF dX0_allowsEdge_61 rfl (j_get hF hM.1.1 fl_RX0_24 dX0_allowsEdge_62 rfl (j_icmp_ge hF 85 dX0_allowsEdge_65 (by decide) (by omega) (fun c65 => ?_) (fun c65 => ?_))))
        ·
          refine j_iconst hF dX0_allowsEdge_85 (j_zret hF hR (Or.inr rfl) dX0_allowsEdge_86 (by omega) (by omega) ?_)
          have ek : i = nc := by omega
          exact ⟨bz_r1 ⟨⟨hd1, hz1⟩, ek ▸ hB⟩, _, _, _, hM, fun j hj => ⟨fu_n hj, fu_n hj, fu_n hj⟩⟩
        ·
          refine j_aload_n hF dX0_allowsEdge_68 rfl (j_iload hF dX0_allowsEdge_69 rfl (j_callV hF (c_X0_returnsWithoutFeedback hM.1 hn6 hc hfs2 hfe2 ⟨hi.1, by omega⟩) ms_X0_returnsWithoutFeedback mv_X0_returnsWithoutFeedback lk_RX0_49 dX0_allowsEdge_71 hM.1.1 rfl rfl rfl (by simp [Value.category]) ⟨⟨(Nat.le_of_ble_eq_true rfl), (Nat.le_of_ble_eq_true rfl)⟩, by omega, by omega⟩ (fun v1 X1 hp1 hE1 => ?_)))
          obtain ⟨rfl, he1⟩ := hp1; obtain rfl := he1.symm
          refine j_b_eq hF 79 dX0_allowsEdge_74 (by decide) (fun c74 => ?_) (fun c74 => ?_)
          ·
            refine j_iinc hF dX0_allowsEdge_79 rfl (Nat.le_of_ble_eq_true rfl) rfl (j_goto hF 59 dX0_allowsEdge_82 (by decide) ?_)
            exact ih (i + 1) (by omega) (by omega) (hB.s c74)
          ·
            refine j_iconst hF dX0_allowsEdge_77 (j_zret hF hR (Or.inl rfl) dX0_allowsEdge_78 (by omega) (by omega) ?_)
            exact ⟨bz_r0 (fun g => g.2 i hi.1 (by omega) c74), _, _, _, hM, fun j hj => ⟨fu_n hj, fu_n hj, fu_n hj⟩⟩
    exact L59 (nc.toNat + 1) 0 (by omega) (by omega) (BA.z _)
  refine j_aload_n hF dX0_allowsEdge_0 rfl (j_get hF hM.1.1 fl_RX0_9 dX0_allowsEdge_1 rfl (j_iload_n hF dX0_allowsEdge_4 rfl (j_iald hF hM.1.2.1 dX0_allowsEdge_5 (by omega) (fun ra1 rb1 => ?_))))
  refine j_aload_n hF dX0_allowsEdge_6 rfl (j_get hF hM.1.1 fl_RX0_9 dX0_allowsEdge_7 rfl (j_iload_n hF dX0_allowsEdge_10 rfl (j_iald hF hM.1.2.1 dX0_allowsEdge_11 (by omega) (fun ra2 rb2 => ?_))))
  refine j_isub hF dX0_allowsEdge_12 (j_istore hF dX0_allowsEdge_13 (Nat.le_of_ble_eq_true rfl) rfl (j_iload hF dX0_allowsEdge_15 rfl (j_iconst hF dX0_allowsEdge_17 (j_icmp_gt hF 27 dX0_allowsEdge_18 (by decide) (by omega) (fun c18 => ?_) (fun c18 => ?_)))))
  ·
    refine j_iconst hF dX0_allowsEdge_27 (j_zret hF hR (Or.inl rfl) dX0_allowsEdge_28 (by omega) (by omega) ?_)
    exact ⟨bz_r0 (fun g => by have g1 := g.1.1; have g2 := g.1.2; omega), _, _, _, hM, fun j _ => ⟨rfl, rfl, rfl⟩⟩
  ·
    refine j_iload hF dX0_allowsEdge_21 rfl (j_iconst hF dX0_allowsEdge_23 (j_icmp_ge hF 29 dX0_allowsEdge_24 (by decide) (by omega) (fun c24 => ?_) (fun c24 => ?_)))
    ·
      refine j_iload_n hF dX0_allowsEdge_29 rfl (j_if_eq hF 49 dX0_allowsEdge_30 (by decide) (by omega) (fun c30 => ?_) (fun c30 => ?_))
      ·
        exact J49 (by omega) (fun h => by omega)
      ·
        refine j_iload hF dX0_allowsEdge_33 rfl (j_if_ne hF 47 dX0_allowsEdge_35 (by decide) (by omega) (fun c35 => ?_) (fun c35 => ?_))
        ·
          refine j_iconst hF dX0_allowsEdge_47 (j_zret hF hR (Or.inl rfl) dX0_allowsEdge_48 (by omega) (by omega) ?_)
          exact ⟨bz_r0 (fun g => by have g1 := g.1.1; have g2 := g.1.2; omega), _, _, _, hM, fun j _ => ⟨rfl, rfl, rfl⟩⟩
        ·
          refine j_aload_n hF dX0_allowsEdge_38 rfl (j_get hF hM.1.1 fl_RX0_9 dX0_allowsEdge_39 rfl (j_iload_n hF dX0_allowsEdge_42 rfl (j_iald hF hM.1.2.1 dX0_allowsEdge_43 (by omega) (fun ra3 rb3 => ?_))))
          refine j_if_ne hF 49 dX0_allowsEdge_44 (by decide) (by omega) (fun c44 => ?_) (fun c44 => ?_)
          ·
            exact J49 (by omega) (fun h => by omega)
          ·
            refine j_iconst hF dX0_allowsEdge_47 (j_zret hF hR (Or.inl rfl) dX0_allowsEdge_48 (by omega) (by omega) ?_)
            exact ⟨bz_r0 (fun g => by have g1 := g.1.1; have g2 := g.1.2; omega), _, _, _, hM, fun j _ => ⟨rfl, rfl, rfl⟩⟩
    ·
      refine j_iconst hF dX0_allowsEdge_27 (j_zret hF hR (Or.inl rfl) dX0_allowsEdge_28 (by omega) (by omega) ?_)
      exact ⟨bz_r0 (fun g => by have g1 := g.1.1; have g2 := g.1.2; omega), _, _, _, hM, fun j _ => ⟨rfl, rfl, rfl⟩⟩

set_option maxRecDepth 100000 in
set_option maxHeartbeats 4000000 in
theorem c_X0_isAsLargeAs {X : Hp} {b b2 : Nat} {g d s e k : Nat} {nc ec : Int} {fd fs fe fk : Int → Int} {g2 d2 s2 e2 k2 : Nat} {nc2 ec2 : Int} {fd2 fs2 fe2 fk2 : Int → Int} (hM : GP X b g d s e k nc ec fd fs fe fk) (hO : GP X b2 g2 d2 s2 e2 k2 nc2 ec2 fd2 fs2 fe2 fk2) (hdis : b2 + 10 ≤ b ∨ b + 10 ≤ b2) (h1 : 0 ≤ nc ∧ nc ≤ 6) (h2 : 0 ≤ ec ∧ ec ≤ 10) (h3 : 0 ≤ nc2 ∧ nc2 ≤ 6) (h4 : 0 ≤ ec2 ∧ ec2 ≤ 10) : Ct yX0_isAsLargeAs cX0_isAsLargeAs 2 (some .boolean) 0 0 [.ref g, .ref g2] X 0 0 (fun rv X' => rv = some (vi (bz (nc = nc2 ∧ ec = ec2))) ∧ X' = X) := by
  refine Ct.of (by decide +kernel) [some (.ref g), some (.ref g2)] rfl (Nat.le_of_ble_eq_true rfl) (fun φ hF hR => ?_)
  have hM := hM.gg
  refine j_aload_n hF dX0_isAsLargeAs_0 rfl (j_get hF hM.1.1 fl_RX0_24 dX0_isAsLargeAs_1 rfl (j_aload_n hF dX0_isAsLargeAs_4 rfl (j_get hF hO.1 fl_RX0_24 dX0_isAsLargeAs_5 rfl (j_icmp_ne hF 26 dX0_isAsLargeAs_8 (by decide) (by omega) (fun c8 => ?_) (fun c8 => ?_)))))
  ·
    refine j_iconst hF dX0_isAsLargeAs_26 (j_zret hF hR (Or.inl rfl) dX0_isAsLargeAs_27 (by omega) (by omega) ?_)
    exact ⟨bz_r0 (by omega), rfl⟩
  ·
    refine j_aload_n hF dX0_isAsLargeAs_11 rfl (j_get hF hM.1.1 fl_RX0_28 dX0_isAsLargeAs_12 rfl (j_aload_n hF dX0_isAsLargeAs_15 rfl (j_get hF hO.1 fl_RX0_28 dX0_isAsLargeAs_16 rfl (j_icmp_ne hF 26 dX0_isAsLargeAs_19 (by decide) (by omega) (fun c19 => ?_) (fun c19 => ?_)))))
    ·
      refine j_iconst hF dX0_isAsLargeAs_26 (j_zret hF hR (Or.inl rfl) dX0_isAsLargeAs_27 (by omega) (by omega) ?_)
      exact ⟨bz_r0 (by omega), rfl⟩
    ·
      refine j_iconst hF dX0_isAsLargeAs_22 (j_goto hF 27 dX0_isAsLargeAs_23 (by decide) (j_zret hF hR (Or.inr rfl) dX0_isAsLargeAs_27 (by omega) (by omega) ?_))
      exact ⟨bz_r1 (by omega), rfl⟩

set_option maxRecDepth 100000 in
set_option maxHeartbeats 4000000 in
theorem c_X0_copyFrom {X : Hp} {b b2 : Nat} {g d s e k : Nat} {nc ec : Int} {fd fs fe fk : Int → Int} {g2 d2 s2 e2 k2 : Nat} {nc2 ec2 : Int} {fd2 fs2 fe2 fk2 : Int → Int} (hM : GP X b g d s e k nc ec fd fs fe fk) (hO : GP X b2 g2 d2 s2 e2 k2 nc2 ec2 fd2 fs2 fe2 fk2) (hdis : b2 + 10 ≤ b ∨ b + 10 ≤ b2)  : Ct yX0_copyFrom cX0_copyFrom 2 none 1 30 [.ref g, .ref g2] X 0 0 (fun rv X' => rv = none ∧ GPG X X' b g d s e k nc2 ec2 (fc fd2 fd 0 0 6) (fc fs2 fs 0 0 10) (fc fe2 fe 0 0 10) (fc fk2 fk 0 0 10)) := by
  refine Ct.of (by decide +kernel) [some (.ref g), some (.ref g2)] rfl (Nat.le_of_ble_eq_true rfl) (fun φ hF hR => ?_)
  have hM := hM.gg
  refine j_aload_n hF dX0_copyFrom_0 rfl (j_aload_n hF dX0_copyFrom_1 rfl (j_get hF hO.1 fl_RX0_24 dX0_copyFrom_2 rfl (j_put hF hM.1.1 fl_RX0_24 dX0_copyFrom_5 rfl rfl (Nat.le_of_ble_eq_true rfl) (j_nm (fun X1 eX1 => ?_)))))
  have hO := hO.keep (FB.up (lo := b) (hi := b + 10) eX1 hM.1.1 (by omega) (by omega)) (by omega)
  have hM := hM.u_nc eX1
  refine j_aload_n hF dX0_copyFrom_8 rfl (j_aload_n hF dX0_copyFrom_9 rfl (j_get hF hO.1 fl_RX0_28 dX0_copyFrom_10 rfl (j_put hF hM.1.1 fl_RX0_28 dX0_copyFrom_13 rfl rfl (Nat.le_of_ble_eq_true rfl) (j_nm (fun X2 eX2 => ?_)))))
  have hO := hO.keep (FB.up (lo := b) (hi := b + 10) eX2 hM.1.1 (by omega) (by omega)) (by omega)
  have hM := hM.u_ec eX2
  refine j_aload_n hF dX0_copyFrom_16 rfl (j_get hF hO.1 fl_RX0_9 dX0_copyFrom_17 rfl (j_iconst hF dX0_copyFrom_20 (j_aload_n hF dX0_copyFrom_21 rfl (j_get hF hM.1.1 fl_RX0_9 dX0_copyFrom_22 rfl (j_iconst hF dX0_copyFrom_25 ?_)))))
  refine j_bipush hF dX0_copyFrom_26 (by decide) (j_copy hF lk_RX0_59 ac_nat ac_sta ac_ini hO.2.1 hM.1.2.1 dX0_copyFrom_28 (by omega) rfl (by decide) ⟨(Nat.le_of_ble_eq_true rfl), (Nat.le_of_ble_eq_true rfl)⟩ (j_nm (fun X3 eX3 => ?_)))
  have hO := hO.keep (FB.up (lo := b) (hi := b + 10) eX3 hM.1.2.1 (by omega) (by omega)) (by omega)
  have hM := hM.u_fd eX3
  refine j_aload_n hF dX0_copyFrom_31 rfl (j_get hF hO.1 fl_RX0_15 dX0_copyFrom_32 rfl (j_iconst hF dX0_copyFrom_35 (j_aload_n hF dX0_copyFrom_36 rfl (j_get hF hM.1.1 fl_RX0_15 dX0_copyFrom_37 rfl (j_iconst hF dX0_copyFrom_40 ?_)))))
  refine j_bipush hF dX0_copyFrom_41 (by decide) (j_copy hF lk_RX0_59 ac_nat ac_sta ac_ini hO.2.2.1 hM.1.2.2.1 dX0_copyFrom_43 (by omega) rfl (by decide) ⟨(Nat.le_of_ble_eq_true rfl), (Nat.le_of_ble_eq_true rfl)⟩ (j_nm (fun X4 eX4 => ?_)))
  have hO := hO.keep (FB.up (lo := b) (hi := b + 10) eX4 hM.1.2.2.1 (by omega) (by omega)) (by omega)
  have hM := hM.u_fs eX4
  refine j_aload_n hF dX0_copyFrom_46 rfl (j_get hF hO.1 fl_RX0_18 dX0_copyFrom_47 rfl (j_iconst hF dX0_copyFrom_50 (j_aload_n hF dX0_copyFrom_51 rfl (j_get hF hM.1.1 fl_RX0_18 dX0_copyFrom_52 rfl (j_iconst hF dX0_copyFrom_55 ?_)))))
  refine j_bipush hF dX0_copyFrom_56 (by decide) (j_copy hF lk_RX0_59 ac_nat ac_sta ac_ini hO.2.2.2.1 hM.1.2.2.2.1 dX0_copyFrom_58 (by omega) rfl (by decide) ⟨(Nat.le_of_ble_eq_true rfl), (Nat.le_of_ble_eq_true rfl)⟩ (j_nm (fun X5 eX5 => ?_)))
  have hO := hO.keep (FB.up (lo := b) (hi := b + 10) eX5 hM.1.2.2.2.1 (by omega) (by omega)) (by omega)
  have hM := hM.u_fe eX5
  refine j_aload_n hF dX0_copyFrom_61 rfl (j_get hF hO.1 fl_RX0_21 dX0_copyFrom_62 rfl (j_iconst hF dX0_copyFrom_65 (j_aload_n hF dX0_copyFrom_66 rfl (j_get hF hM.1.1 fl_RX0_21 dX0_copyFrom_67 rfl (j_iconst hF dX0_copyFrom_70 ?_)))))
  refine j_bipush hF dX0_copyFrom_71 (by decide) (j_copy hF lk_RX0_59 ac_nat ac_sta ac_ini hO.2.2.2.2 hM.1.2.2.2.2 dX0_copyFrom_73 (by omega) rfl (by decide) ⟨(Nat.le_of_ble_eq_true rfl), (Nat.le_of_ble_eq_true rfl)⟩ (j_nm (fun X6 eX6 => ?_)))
  have hO := hO.keep (FB.up (lo := b) (hi := b + 10) eX6 hM.1.2.2.2.2 (by omega) (by omega)) (by omega)
  have hM := hM.u_fk eX6
  refine j_vret hF hR dX0_copyFrom_76 (by omega) (by omega) ?_
  exact ⟨rfl, hM⟩

set_option maxRecDepth 100000 in
set_option maxHeartbeats 4000000 in
theorem c_X1_copyFrom {X : Hp} {b b2 : Nat} {ml mz mt : Nat} {fz ft : Int → Int} {ml2 mz2 mt2 : Nat} {fz2 ft2 : Int → Int} (hM : MP X b ml mz mt fz ft) (hO : MP X b2 ml2 mz2 mt2 fz2 ft2) (hdis : b2 + 10 ≤ b ∨ b + 10 ≤ b2)  : Ct yX1_copyFrom cX1_copyFrom 2 none 1 30 [.ref ml, .ref ml2] X 0 0 (fun rv X' => rv = none ∧ MPG X X' b ml mz mt (fc fz2 fz 0 0 20) (fc ft2 ft 0 0 240)) := by
  refine Ct.of (by decide +kernel) [some (.ref ml), some (.ref ml2)] rfl (Nat.le_of_ble_eq_true rfl) (fun φ hF hR => ?_)
  have hM := hM.gg
  refine j_aload_n hF dX1_copyFrom_0 rfl (j_get hF hO.1 fl_RX1_9 dX1_copyFrom_1 rfl (j_iconst hF dX1_copyFrom_4 (j_aload_n hF dX1_copyFrom_5 rfl (j_get hF hM.1.1 fl_RX1_9 dX1_copyFrom_6 rfl (j_iconst hF dX1_copyFrom_9 ?_)))))
  refine j_aload_n hF dX1_copyFrom_10 rfl (j_get hF hM.1.1 fl_RX1_9 dX1_copyFrom_11 rfl (j_ilen hF (by decide) hM.1.2.1 dX1_copyFrom_14 (fun rl1 => ?_)))
  refine j_copy hF lk_RX1_31 ac_nat ac_sta ac_ini hO.2.1 hM.1.2.1 dX1_copyFrom_15 (by omega) rfl (by decide) ⟨(Nat.le_of_ble_eq_true rfl), (Nat.le_of_ble_eq_true rfl)⟩ (j_nm (fun X2 eX2 => ?_))
  have hO := hO.keep (FB.up (lo := b) (hi := b + 10) eX2 hM.1.2.1 (by omega) (by omega)) (by omega)
  have hM := hM.u_fz eX2
  refine j_aload_n hF dX1_copyFrom_18 rfl (j_get hF hO.1 fl_RX1_15 dX1_copyFrom_19 rfl (j_iconst hF dX1_copyFrom_22 (j_aload_n hF dX1_copyFrom_23 rfl (j_get hF hM.1.1 fl_RX1_15 dX1_copyFrom_24 rfl (j_iconst hF dX1_copyFrom_27 ?_)))))
  refine j_aload_n hF dX1_copyFrom_28 rfl (j_get hF hM.1.1 fl_RX1_15 dX1_copyFrom_29 rfl (j_ilen hF (by decide) hM.1.2.2 dX1_copyFrom_32 (fun rl3 => ?_)))
  refine j_copy hF lk_RX1_31 ac_nat ac_sta ac_ini hO.2.2 hM.1.2.2 dX1_copyFrom_33 (by omega) rfl (by decide) ⟨(Nat.le_of_ble_eq_true rfl), (Nat.le_of_ble_eq_true rfl)⟩ (j_nm (fun X4 eX4 => ?_))
  have hO := hO.keep (FB.up (lo := b) (hi := b + 10) eX4 hM.1.2.2 (by omega) (by omega)) (by omega)
  have hM := hM.u_ft eX4
  refine j_vret hF hR dX1_copyFrom_36 (by omega) (by omega) ?_
  exact ⟨rfl, hM⟩

set_option maxRecDepth 100000 in
set_option maxHeartbeats 4000000 in
theorem c_X6_copyFrom {X : Hp} {b b2 : Nat} {ws wz wt : Nat} {fz ft : Int → Int} {ws2 wz2 wt2 : Nat} {fz2 ft2 : Int → Int} (hM : WP X b ws wz wt fz ft) (hO : WP X b2 ws2 wz2 wt2 fz2 ft2) (hdis : b2 + 10 ≤ b ∨ b + 10 ≤ b2)  : Ct yX6_copyFrom cX6_copyFrom 2 none 1 30 [.ref ws, .ref ws2] X 0 0 (fun rv X' => rv = none ∧ WPG X X' b ws wz wt (fc fz2 fz 0 0 2) (fc ft2 ft 0 0 24)) := by
  refine Ct.of (by decide +kernel) [some (.ref ws), some (.ref ws2)] rfl (Nat.le_of_ble_eq_true rfl) (fun φ hF hR => ?_)
  have hM := hM.gg
  refine j_aload_n hF dX6_copyFrom_0 rfl (j_get hF hO.1 fl_RX6_9 dX6_copyFrom_1 rfl (j_iconst hF dX6_copyFrom_4 (j_aload_n hF dX6_copyFrom_5 rfl (j_get hF hM.1.1 fl_RX6_9 dX6_copyFrom_6 rfl (j_iconst hF dX6_copyFrom_9 ?_)))))
  refine j_aload_n hF dX6_copyFrom_10 rfl (j_get hF hM.1.1 fl_RX6_9 dX6_copyFrom_11 rfl (j_ilen hF (by decide) hM.1.2.1 dX6_copyFrom_14 (fun rl1 => ?_)))
  refine j_copy hF lk_RX6_22 ac_nat ac_sta ac_ini hO.2.1 hM.1.2.1 dX6_copyFrom_15 (by omega) rfl (by decide) ⟨(Nat.le_of_ble_eq_true rfl), (Nat.le_of_ble_eq_true rfl)⟩ (j_nm (fun X2 eX2 => ?_))
  have hO := hO.keep (FB.up (lo := b) (hi := b + 10) eX2 hM.1.2.1 (by omega) (by omega)) (by omega)
  have hM := hM.u_fz eX2
  refine j_aload_n hF dX6_copyFrom_18 rfl (j_get hF hO.1 fl_RX6_15 dX6_copyFrom_19 rfl (j_iconst hF dX6_copyFrom_22 (j_aload_n hF dX6_copyFrom_23 rfl (j_get hF hM.1.1 fl_RX6_15 dX6_copyFrom_24 rfl (j_iconst hF dX6_copyFrom_27 ?_)))))
  refine j_aload_n hF dX6_copyFrom_28 rfl (j_get hF hM.1.1 fl_RX6_15 dX6_copyFrom_29 rfl (j_ilen hF (by decide) hM.1.2.2 dX6_copyFrom_32 (fun rl3 => ?_)))
  refine j_copy hF lk_RX6_22 ac_nat ac_sta ac_ini hO.2.2 hM.1.2.2 dX6_copyFrom_33 (by omega) rfl (by decide) ⟨(Nat.le_of_ble_eq_true rfl), (Nat.le_of_ble_eq_true rfl)⟩ (j_nm (fun X4 eX4 => ?_))
  have hO := hO.keep (FB.up (lo := b) (hi := b + 10) eX4 hM.1.2.2 (by omega) (by omega)) (by omega)
  have hM := hM.u_ft eX4
  refine j_vret hF hR dX6_copyFrom_36 (by omega) (by omega) ?_
  exact ⟨rfl, hM⟩

set_option maxRecDepth 100000 in
set_option maxHeartbeats 4000000 in
theorem c_X0_init {X : Hp} {b g : Nat} (h_g : X g = some (b, ob 0 [vi 0, vi 0, .null, .null, .null, .null])) : Ct yX0_init cX0_init 1 none 1 20 [.ref g] X 4 39 (fun rv X' => rv = none ∧ ∃ d' s' e' k', GPG X X' b g d' s' e' k' 0 0 (fun _ => 0) (fun _ => 0) (fun _ => 0) (fun _ => 0)) := by
  refine Ct.of (by decide +kernel) [some (.ref g)] rfl (Nat.le_of_ble_eq_true rfl) (fun φ hF hR => ?_)
  have hfr := FB.refl b (b + 10) X
  refine j_aload_n hF dX0_init_0 rfl (j_obj hF lk_RX0_3 kl_oi kl_oc dX0_init_1 rfl (by decide) (Nat.le_of_ble_eq_true rfl) (Nat.le_of_ble_eq_true rfl) ?_)
  refine j_aload_n hF dX0_init_4 rfl (j_bipush hF dX0_init_5 (by decide) (j_newi hF (b + 1) (6) kl_ac dX0_init_7 (by decide) (by omega) (by omega) (fun a_d hq1 => j_nm (fun X1 eX1 => ?_)) (by rfl)))
  have h_g := upn eX1 h_g hq1
  have h_d := ups eX1
  have hfr := hfr.trans (FB.new eX1 hq1)
  refine j_putF hF h_g fl_RX0_9 ⟨_, _, rfl⟩ rfl dX0_init_9 rfl rfl (Nat.le_of_ble_eq_true rfl) (j_nm (fun X2 eX2 => ?_))
  have hfr := hfr.trans (FB.up eX2 h_g (by omega) (by omega))
  have h_d := upx eX2 h_d h_g (by omega)
  have h_g := ups eX2
  refine j_aload_n hF dX0_init_12 rfl (j_bipush hF dX0_init_13 (by decide) (j_newi hF (b + 2) (11) kl_ac dX0_init_15 (by decide) (by omega) (by omega) (fun a_s hq3 => j_nm (fun X3 eX3 => ?_)) (by rfl)))
  have h_g := upn eX3 h_g hq3
  have h_d := upn eX3 h_d hq3
  have h_s := ups eX3
  have hfr := hfr.trans (FB.new eX3 hq3)
  refine j_putF hF h_g fl_RX0_15 ⟨_, _, rfl⟩ rfl dX0_init_17 rfl rfl (Nat.le_of_ble_eq_true rfl) (j_nm (fun X4 eX4 => ?_))
  have hfr := hfr.trans (FB.up eX4 h_g (by omega) (by omega))
  have h_d := upx eX4 h_d h_g (by omega)
  have h_s := upx eX4 h_s h_g (by omega)
  have h_g := ups eX4
  refine j_aload_n hF dX0_init_20 rfl (j_bipush hF dX0_init_21 (by decide) (j_newi hF (b + 3) (11) kl_ac dX0_init_23 (by decide) (by omega) (by omega) (fun a_e hq5 => j_nm (fun X5 eX5 => ?_)) (by rfl)))
  have h_g := upn eX5 h_g hq5
  have h_d := upn eX5 h_d hq5
  have h_s := upn eX5 h_s hq5
  have h_e := ups eX5
  have hfr := hfr.trans (FB.new eX5 hq5)
  refine j_putF hF h_g fl_RX0_18 ⟨_, _, rfl⟩ rfl dX0_init_25 rfl rfl (Nat.le_of_ble_eq_true rfl) (j_nm (fun X6 eX6 => ?_))
  have hfr := hfr.trans (FB.up eX6 h_g (by omega) (by omega))
  have h_d := upx eX6 h_d h_g (by omega)
  have h_s := upx eX6 h_s h_g (by omega)
  have h_e := upx eX6 h_e h_g (by omega)
  have h_g := ups eX6
  refine j_aload_n hF dX0_init_28 rfl (j_bipush hF dX0_init_29 (by decide) (j_newi hF (b + 4) (11) kl_ac dX0_init_31 (by decide) (by omega) (by omega) (fun a_k hq7 => j_nm (fun X7 eX7 => ?_)) (by rfl)))
  have h_g := upn eX7 h_g hq7
  have h_d := upn eX7 h_d hq7
  have h_s := upn eX7 h_s hq7
  have h_e := upn eX7 h_e hq7
  have h_k := ups eX7
  have hfr := hfr.trans (FB.new eX7 hq7)
  refine j_putF hF h_g fl_RX0_21 ⟨_, _, rfl⟩ rfl dX0_init_33 rfl rfl (Nat.le_of_ble_eq_true rfl) (j_nm (fun X8 eX8 => ?_))
  have hfr := hfr.trans (FB.up eX8 h_g (by omega) (by omega))
  have h_d := upx eX8 h_d h_g (by omega)
  have h_s := upx eX8 h_s h_g (by omega)
  have h_e := upx eX8 h_e h_g (by omega)
  have h_k := upx eX8 h_k h_g (by omega)
  have h_g := ups eX8
  refine j_vret hF hR dX0_init_36 (by omega) (by omega) ?_
  exact ⟨rfl, a_d, a_s, a_e, a_k, ⟨h_g, h_d, h_s, h_e, h_k⟩, hfr⟩

set_option maxRecDepth 100000 in
set_option maxHeartbeats 4000000 in
theorem c_X1_init {X : Hp} {b ml : Nat} (h_ml : X ml = some (b, ob 1 [.null, .null])) : Ct yX1_init cX1_init 1 none 1 20 [.ref ml] X 2 260 (fun rv X' => rv = none ∧ ∃ mz' mt', MPG X X' b ml mz' mt' (fun _ => 0) (fun _ => 0)) := by
  refine Ct.of (by decide +kernel) [some (.ref ml)] rfl (Nat.le_of_ble_eq_true rfl) (fun φ hF hR => ?_)
  have hfr := FB.refl b (b + 10) X
  refine j_aload_n hF dX1_init_0 rfl (j_obj hF lk_RX1_3 kl_oi kl_oc dX1_init_1 rfl (by decide) (Nat.le_of_ble_eq_true rfl) (Nat.le_of_ble_eq_true rfl) ?_)
  refine j_aload_n hF dX1_init_4 rfl (j_bipush hF dX1_init_5 (by decide) (j_newi hF (b + 1) (20) kl_ac dX1_init_7 (by decide) (by omega) (by omega) (fun a_mz hq1 => j_nm (fun X1 eX1 => ?_)) (by rfl)))
  have h_ml := upn eX1 h_ml hq1
  have h_mz := ups eX1
  have hfr := hfr.trans (FB.new eX1 hq1)
  refine j_putF hF h_ml fl_RX1_9 ⟨_, _, rfl⟩ rfl dX1_init_9 rfl rfl (Nat.le_of_ble_eq_true rfl) (j_nm (fun X2 eX2 => ?_))
  have hfr := hfr.trans (FB.up eX2 h_ml (by omega) (by omega))
  have h_mz := upx eX2 h_mz h_ml (by omega)
  have h_ml := ups eX2
  refine j_aload_n hF dX1_init_12 rfl (j_sipush hF dX1_init_13 (by decide) (j_newi hF (b + 2) (240) kl_ac dX1_init_16 (by decide) (by omega) (by omega) (fun a_mt hq3 => j_nm (fun X3 eX3 => ?_)) (by rfl)))
  have h_ml := upn eX3 h_ml hq3
  have h_mz := upn eX3 h_mz hq3
  have h_mt := ups eX3
  have hfr := hfr.trans (FB.new eX3 hq3)
  refine j_putF hF h_ml fl_RX1_15 ⟨_, _, rfl⟩ rfl dX1_init_18 rfl rfl (Nat.le_of_ble_eq_true rfl) (j_nm (fun X4 eX4 => ?_))
  have hfr := hfr.trans (FB.up eX4 h_ml (by omega) (by omega))
  have h_mz := upx eX4 h_mz h_ml (by omega)
  have h_mt := upx eX4 h_mt h_ml (by omega)
  have h_ml := ups eX4
  refine j_vret hF hR dX1_init_21 (by omega) (by omega) ?_
  exact ⟨rfl, a_mz, a_mt, ⟨h_ml, h_mz, h_mt⟩, hfr⟩

set_option maxRecDepth 100000 in
set_option maxHeartbeats 4000000 in
theorem c_X6_init {X : Hp} {b ws : Nat} (h_ws : X ws = some (b, ob 6 [.null, .null])) : Ct yX6_init cX6_init 1 none 1 20 [.ref ws] X 2 26 (fun rv X' => rv = none ∧ ∃ wz' wt', WPG X X' b ws wz' wt' (fun _ => 0) (fun _ => 0)) := by
  refine Ct.of (by decide +kernel) [some (.ref ws)] rfl (Nat.le_of_ble_eq_true rfl) (fun φ hF hR => ?_)
  have hfr := FB.refl b (b + 10) X
  refine j_aload_n hF dX6_init_0 rfl (j_obj hF lk_RX6_3 kl_oi kl_oc dX6_init_1 rfl (by decide) (Nat.le_of_ble_eq_true rfl) (Nat.le_of_ble_eq_true rfl) ?_)
  refine j_aload_n hF dX6_init_4 rfl (j_iconst hF dX6_init_5 (j_newi hF (b + 1) (2) kl_ac dX6_init_6 (by decide) (by omega) (by omega) (fun a_wz hq1 => j_nm (fun X1 eX1 => ?_)) (by rfl)))
  have h_ws := upn eX1 h_ws hq1
  have h_wz := ups eX1
  have hfr := hfr.trans (FB.new eX1 hq1)
  refine j_putF hF h_ws fl_RX6_9 ⟨_, _, rfl⟩ rfl dX6_init_8 rfl rfl (Nat.le_of_ble_eq_true rfl) (j_nm (fun X2 eX2 => ?_))
  have hfr := hfr.trans (FB.up eX2 h_ws (by omega) (by omega))
  have h_wz := upx eX2 h_wz h_ws (by omega)
  have h_ws := ups eX2
  refine j_aload_n hF dX6_init_11 rfl (j_bipush hF dX6_init_12 (by decide) (j_newi hF (b + 2) (24) kl_ac dX6_init_14 (by decide) (by omega) (by omega) (fun a_wt hq3 => j_nm (fun X3 eX3 => ?_)) (by rfl)))
  have h_ws := upn eX3 h_ws hq3
  have h_wz := upn eX3 h_wz hq3
  have h_wt := ups eX3
  have hfr := hfr.trans (FB.new eX3 hq3)
  refine j_putF hF h_ws fl_RX6_15 ⟨_, _, rfl⟩ rfl dX6_init_16 rfl rfl (Nat.le_of_ble_eq_true rfl) (j_nm (fun X4 eX4 => ?_))
  have hfr := hfr.trans (FB.up eX4 h_ws (by omega) (by omega))
  have h_wz := upx eX4 h_wz h_ws (by omega)
  have h_wt := upx eX4 h_wt h_ws (by omega)
  have h_ws := ups eX4
  refine j_vret hF hR dX6_init_19 (by omega) (by omega) ?_
  exact ⟨rfl, a_wz, a_wt, ⟨h_ws, h_wz, h_wt⟩, hfr⟩

set_option maxRecDepth 100000 in
set_option maxHeartbeats 4000000 in
theorem c_X1_sizeOf {X : Hp} {b : Nat} {ml mz mt : Nat} {fz ft : Int → Int} (hM : MP X b ml mz mt fz ft) {w x : Int} (hw : 0 ≤ w ∧ w ≤ 1) (he : 0 ≤ x ∧ x < 10) : Ct yX1_sizeOf cX1_sizeOf 3 (some .int) 0 0 [.ref ml, vi w, vi x] X 0 0 (fun rv X' => rv = some (vi (fz (10 * w + x))) ∧ X' = X) := by
  refine Ct.of (by decide +kernel) [some (.ref ml), some (vi w), some (vi x)] rfl (Nat.le_of_ble_eq_true rfl) (fun φ hF hR => ?_)
  have hM := hM.gg
  refine j_aload_n hF dX1_sizeOf_0 rfl (j_get hF hM.1.1 fl_RX1_9 dX1_sizeOf_1 rfl (j_iload_n hF dX1_sizeOf_4 rfl (j_bipush hF dX1_sizeOf_5 (by decide) (j_imul hF dX1_sizeOf_7 (j_iload_n hF dX1_sizeOf_8 rfl ?_)))))
  refine j_iadd hF dX1_sizeOf_9 (j_iald hF hM.1.2.1 dX1_sizeOf_10 (by omega) (fun ra1 rb1 => ?_))
  refine j_iret hF hR dX1_sizeOf_11 (by omega) (by omega) ?_
  rw [show w * 10 + x = 10 * w + x by omega]
  exact ⟨rfl, rfl⟩

set_option maxRecDepth 100000 in
set_option maxHeartbeats 4000000 in
theorem c_X1_timeOf {X : Hp} {b : Nat} {ml mz mt : Nat} {fz ft : Int → Int} (hM : MP X b ml mz mt fz ft) {w x i : Int} (hw : 0 ≤ w ∧ w ≤ 1) (he : 0 ≤ x ∧ x < 10) (hi : 0 ≤ i ∧ i < 12) : Ct yX1_timeOf cX1_timeOf 4 (some .int) 0 0 [.ref ml, vi w, vi x, vi i] X 0 0 (fun rv X' => rv = some (vi (ft (12 * (10 * w + x) + i))) ∧ X' = X) := by
  refine Ct.of (by decide +kernel) [some (.ref ml), some (vi w), some (vi x), some (vi i)] rfl (Nat.le_of_ble_eq_true rfl) (fun φ hF hR => ?_)
  have hM := hM.gg
  refine j_aload_n hF dX1_timeOf_0 rfl (j_get hF hM.1.1 fl_RX1_15 dX1_timeOf_1 rfl (j_iload_n hF dX1_timeOf_4 rfl (j_bipush hF dX1_timeOf_5 (by decide) (j_imul hF dX1_timeOf_7 (j_iload_n hF dX1_timeOf_8 rfl ?_)))))
  refine j_iadd hF dX1_timeOf_9 (j_bipush hF dX1_timeOf_10 (by decide) (j_imul hF dX1_timeOf_12 (j_iload_n hF dX1_timeOf_13 rfl (j_iadd hF dX1_timeOf_14 (j_iald hF hM.1.2.2 dX1_timeOf_15 (by omega) (fun ra1 rb1 => ?_))))))
  refine j_iret hF hR dX1_timeOf_16 (by omega) (by omega) ?_
  rw [show (w * 10 + x) * 12 + i = 12 * (10 * w + x) + i by omega]
  exact ⟨rfl, rfl⟩

set_option maxRecDepth 100000 in
set_option maxHeartbeats 4000000 in
theorem c_X1_isFull {X : Hp} {b : Nat} {ml mz mt : Nat} {fz ft : Int → Int} (hM : MP X b ml mz mt fz ft) {w x : Int} (hw : 0 ≤ w ∧ w ≤ 1) (he : 0 ≤ x ∧ x < 10) (hz : 0 ≤ fz (10 * w + x) ∧ fz (10 * w + x) ≤ 12) : Ct yX1_isFull cX1_isFull 3 (some .boolean) 1 22 [.ref ml, vi w, vi x] X 0 0 (fun rv X' => rv = some (vi (bz (fz (10 * w + x) = 12))) ∧ X' = X) := by
  refine Ct.of (by decide +kernel) [some (.ref ml), some (vi w), some (vi x)] rfl (Nat.le_of_ble_eq_true rfl) (fun φ hF hR => ?_)
  have hM := hM.gg
  refine j_aload_n hF dX1_isFull_0 rfl (j_iload_n hF dX1_isFull_1 rfl (j_iload_n hF dX1_isFull_2 rfl (j_callV hF (c_X1_sizeOf hM.1 (by omega) (by omega)) ms_X1_sizeOf mv_X1_sizeOf lk_RX1_18 dX1_isFull_3 hM.1.1 rfl rfl rfl (by simp [Value.category]) ⟨⟨(Nat.le_of_ble_eq_true rfl), (Nat.le_of_ble_eq_true rfl)⟩, by omega, by omega⟩ (fun v1 X1 hp1 hE1 => ?_))))
  obtain ⟨rfl, he1⟩ := hp1; obtain rfl := he1.symm
  refine j_bipush hF dX1_isFull_6 (by decide) (j_icmp_lt hF 15 dX1_isFull_8 (by decide) (by omega) (fun c8 => ?_) (fun c8 => ?_))
  ·
    refine j_iconst hF dX1_isFull_15 (j_zret hF hR (Or.inl rfl) dX1_isFull_16 (by omega) (by omega) ?_)
    exact ⟨bz_r0 (by omega), rfl⟩
  ·
    refine j_iconst hF dX1_isFull_11 (j_goto hF 16 dX1_isFull_12 (by decide) (j_zret hF hR (Or.inr rfl) dX1_isFull_16 (by omega) (by omega) ?_))
    exact ⟨bz_r1 (by omega), rfl⟩

set_option maxRecDepth 100000 in
set_option maxHeartbeats 4000000 in
theorem c_X1_isAnyFull {X : Hp} {b : Nat} {ml mz mt : Nat} {fz ft : Int → Int} (hM : MP X b ml mz mt fz ft) {w o : Int} (hw : 0 ≤ w ∧ w ≤ 1) (ho : 0 ≤ o ∧ o < 1024) (hz : ∀ x, 0 ≤ x → x < 10 → 0 ≤ fz (10 * w + x) ∧ fz (10 * w + x) ≤ 12) : Ct yX1_isAnyFull cX1_isAnyFull 4 (some .boolean) 2 44 [.ref ml, vi w, vi o] X 0 0 (fun rv X' => rv = some (vi (bz (BE (fun x => hb o x ∧ fz (10 * w + x) = 12) 10))) ∧ X' = X) := by
  refine Ct.of (by decide +kernel) [some (.ref ml), some (vi w), some (vi o), none] rfl (Nat.le_of_ble_eq_true rfl) (fun φ hF hR => ?_)
  have hM := hM.gg
  refine j_iconst hF dX1_isAnyFull_0 (j_istore_n hF dX1_isAnyFull_1 (Nat.le_of_ble_eq_true rfl) rfl ?_)
  have LL : ∀ (n : Nat) (i : Int), (10 - i).toNat < n → 0 ≤ i ∧ i ≤ 10 → ¬ BE (fun x => hb o x ∧ fz (10 * w + x) = 12) i → Jd φ X 0 0 2 [some (.ref ml), some (vi w), some (vi o), some (vi i)] [] := by
    intro n
    induction n with
    | zero => intro i hfu; exact absurd hfu (by omega)
    | succ n ih =>
      intro i hfu hi hB
      refine j_iload_n hF dX1_isAnyFull_2 rfl (j_bipush hF dX1_isAnyFull_3 (by decide) (j_icmp_ge hF 33 dX1_isAnyFull_5 (by decide) (by omega) (fun c5 => ?_) (fun c5 => ?_)))
      ·
        refine j_iconst hF dX1_isAnyFull_33 (j_zret hF hR (Or.inl rfl) dX1_isAnyFull_34 (by omega) (by omega) ?_)
        have ek : i = 10 := by omega
        exact ⟨bz_r0 (ek ▸ hB), rfl⟩
      ·
        refine j_iload_n hF dX1_isAnyFull_8 rfl (j_iload_n hF dX1_isAnyFull_9 rfl (j_callS hF (c_X0_contains ho (by omega)) ms_X0_contains mt_X0_contains lk_RX1_22 dX1_isAnyFull_10 rfl rfl rfl (by simp [Value.category]) ⟨⟨(Nat.le_of_ble_eq_true rfl), (Nat.le_of_ble_eq_true rfl)⟩, by omega, by omega⟩ (fun v1 X1 hp1 hE1 => ?_)))
        obtain ⟨rfl, he1⟩ := hp1; obtain rfl := he1.symm
        refine j_b_eq hF 27 dX1_isAnyFull_13 (by decide) (fun c13 => ?_) (fun c13 => ?_)
        ·
          refine j_iinc hF dX1_isAnyFull_27 rfl (Nat.le_of_ble_eq_true rfl) rfl (j_goto hF 2 dX1_isAnyFull_30 (by decide) ?_)
          exact ih (i + 1) (by omega) (by omega) (BE.f hB (fun g => c13 g.1))
        ·
          refine j_aload_n hF dX1_isAnyFull_16 rfl (j_iload_n hF dX1_isAnyFull_17 rfl (j_iload_n hF dX1_isAnyFull_18 rfl (j_callV hF (c_X1_isFull hM.1 hw (by omega) (hz i hi.1 (by omega))) ms_X1_isFull mv_X1_isFull lk_RX1_28 dX1_isAnyFull_19 hM.1.1 rfl rfl rfl (by simp [Value.category]) ⟨⟨(Nat.le_of_ble_eq_true rfl), (Nat.le_of_ble_eq_true rfl)⟩, by omega, by omega⟩ (fun v2 X2 hp2 hE2 => ?_))))
          obtain ⟨rfl, he2⟩ := hp2; obtain rfl := he2.symm
          refine j_b_eq hF 27 dX1_isAnyFull_22 (by decide) (fun c22 => ?_) (fun c22 => ?_)
          ·
            refine j_iinc hF dX1_isAnyFull_27 rfl (Nat.le_of_ble_eq_true rfl) rfl (j_goto hF 2 dX1_isAnyFull_30 (by decide) ?_)
            exact ih (i + 1) (by omega) (by omega) (BE.f hB (fun g => c22 g.2))
          ·
            refine j_iconst hF dX1_isAnyFull_25 (j_zret hF hR (Or.inr rfl) dX1_isAnyFull_26 (by omega) (by omega) ?_)
            exact ⟨bz_r1 ⟨i, hi.1, by omega, c13, c22⟩, rfl⟩
  exact LL 11 0 (by omega) (by omega) (BE.z _)

set_option maxRecDepth 100000 in
set_option maxHeartbeats 4000000 in
theorem c_X1_put {X : Hp} {b : Nat} {ml mz mt : Nat} {fz ft : Int → Int} (hM : MP X b ml mz mt fz ft) {w x t : Int} (hw : 0 ≤ w ∧ w ≤ 1) (he : 0 ≤ x ∧ x < 10) (ht : 0 ≤ t ∧ t ≤ 999) (hz : 0 ≤ fz (10 * w + x) ∧ fz (10 * w + x) < 12) : Ct yX1_put cX1_put 5 none 0 0 [.ref ml, vi w, vi x, vi t] X 0 0 (fun rv X' => rv = none ∧ MPG X X' b ml mz mt (fu fz (10 * w + x) (fz (10 * w + x) + 1)) (fu ft (12 * (10 * w + x) + fz (10 * w + x)) t)) := by
  refine Ct.of (by decide +kernel) [some (.ref ml), some (vi w), some (vi x), some (vi t), none] rfl (Nat.le_of_ble_eq_true rfl) (fun φ hF hR => ?_)
  have hM := hM.gg
  refine j_iload_n hF dX1_put_0 rfl (j_bipush hF dX1_put_1 (by decide) (j_imul hF dX1_put_3 (j_iload_n hF dX1_put_4 rfl (j_iadd hF dX1_put_5 (j_istore hF dX1_put_6 (Nat.le_of_ble_eq_true rfl) rfl ?_)))))
  rw [show w * 10 + x = 10 * w + x by omega]
  refine j_aload_n hF dX1_put_8 rfl (j_get hF hM.1.1 fl_RX1_15 dX1_put_9 rfl (j_iload hF dX1_put_12 rfl (j_bipush hF dX1_put_14 (by decide) (j_imul hF dX1_put_16 ?_))))
  rw [show (10 * w + x) * 12 = 12 * (10 * w + x) by omega]
  refine j_aload_n hF dX1_put_17 rfl (j_get hF hM.1.1 fl_RX1_9 dX1_put_18 rfl (j_iload hF dX1_put_21 rfl (j_iald hF hM.1.2.1 dX1_put_23 (by omega) (fun ra1 rb1 => ?_))))
  refine j_iadd hF dX1_put_24 (j_iload_n hF dX1_put_25 rfl (j_iast hF hM.1.2.2 dX1_put_26 (by omega) (by omega) (j_nm (fun X2 eX2 => ?_))))
  have hM := hM.u_ft eX2
  refine j_aload_n hF dX1_put_27 rfl (j_get hF hM.1.1 fl_RX1_9 dX1_put_28 rfl (j_iload hF dX1_put_31 rfl (j_dup2 hF dX1_put_33 rfl rfl (j_iald hF hM.1.2.1 dX1_put_34 (by omega) (fun ra3 rb3 => ?_)))))
  refine j_iconst hF dX1_put_35 (j_iadd hF dX1_put_36 (j_iast hF hM.1.2.1 dX1_put_37 (by omega) (by omega) (j_nm (fun X4 eX4 => ?_))))
  have hM := hM.u_fz eX4
  refine j_vret hF hR dX1_put_38 (by omega) (by omega) ?_
  exact ⟨rfl, hM⟩

set_option maxRecDepth 100000 in
set_option maxHeartbeats 4000000 in
theorem c_X1_take {X : Hp} {b : Nat} {ml mz mt : Nat} {fz ft : Int → Int} (hM : MP X b ml mz mt fz ft) {w x : Int} (hw : 0 ≤ w ∧ w ≤ 1) (he : 0 ≤ x ∧ x < 10) (hz : 1 ≤ fz (10 * w + x) ∧ fz (10 * w + x) ≤ 12) : Ct yX1_take cX1_take 6 (some .int) 1 30 [.ref ml, vi w, vi x] X 0 0 (fun rv X' => rv = some (vi (ft (12 * (10 * w + x)))) ∧ MPG X X' b ml mz mt (fu fz (10 * w + x) (fz (10 * w + x) - 1)) (fc ft ft (12 * (10 * w + x) + 1) (12 * (10 * w + x)) (fz (10 * w + x) - 1))) := by
  refine Ct.of (by decide +kernel) [some (.ref ml), some (vi w), some (vi x), none, none, none] rfl (Nat.le_of_ble_eq_true rfl) (fun φ hF hR => ?_)
  have hM := hM.gg
  refine j_iload_n hF dX1_take_0 rfl (j_bipush hF dX1_take_1 (by decide) (j_imul hF dX1_take_3 (j_iload_n hF dX1_take_4 rfl (j_iadd hF dX1_take_5 (j_istore_n hF dX1_take_6 (Nat.le_of_ble_eq_true rfl) rfl ?_)))))
  rw [show w * 10 + x = 10 * w + x by omega]
  refine j_iload_n hF dX1_take_7 rfl (j_bipush hF dX1_take_8 (by decide) (j_imul hF dX1_take_10 (j_istore hF dX1_take_11 (Nat.le_of_ble_eq_true rfl) rfl ?_)))
  rw [show (10 * w + x) * 12 = 12 * (10 * w + x) by omega]
  refine j_aload_n hF dX1_take_13 rfl (j_get hF hM.1.1 fl_RX1_15 dX1_take_14 rfl (j_iload hF dX1_take_17 rfl (j_iald hF hM.1.2.2 dX1_take_19 (by omega) (fun ra1 rb1 => ?_))))
  refine j_istore hF dX1_take_20 (Nat.le_of_ble_eq_true rfl) rfl (j_aload_n hF dX1_take_22 rfl (j_get hF hM.1.1 fl_RX1_9 dX1_take_23 rfl (j_iload_n hF dX1_take_26 rfl (j_dup2 hF dX1_take_27 rfl rfl (j_iald hF hM.1.2.1 dX1_take_28 (by omega) (fun ra2 rb2 => ?_))))))
  refine j_iconst hF dX1_take_29 (j_isub hF dX1_take_30 (j_iast hF hM.1.2.1 dX1_take_31 (by omega) (by omega) (j_nm (fun X3 eX3 => ?_))))
  have hM := hM.u_fz eX3
  refine j_aload_n hF dX1_take_32 rfl (j_get hF hM.1.1 fl_RX1_15 dX1_take_33 rfl (j_iload hF dX1_take_36 rfl (j_iconst hF dX1_take_38 (j_iadd hF dX1_take_39 (j_aload_n hF dX1_take_40 rfl ?_)))))
  refine j_get hF hM.1.1 fl_RX1_15 dX1_take_41 rfl (j_iload hF dX1_take_44 rfl (j_aload_n hF dX1_take_46 rfl (j_get hF hM.1.1 fl_RX1_9 dX1_take_47 rfl (j_iload_n hF dX1_take_50 rfl (j_iald hF hM.1.2.1 dX1_take_51 (by omega) (fun ra4 rb4 => ?_))))))
  rw [fu_s]
  refine j_copy hF lk_RX1_31 ac_nat ac_sta ac_ini hM.1.2.2 hM.1.2.2 dX1_take_52 (by omega) rfl (by decide) ⟨(Nat.le_of_ble_eq_true rfl), (Nat.le_of_ble_eq_true rfl)⟩ (j_nm (fun X5 eX5 => ?_))
  have hM := hM.u_ft eX5
  refine j_iload hF dX1_take_55 rfl (j_iret hF hR dX1_take_57 (by omega) (by omega) ?_)
  exact ⟨rfl, hM⟩
