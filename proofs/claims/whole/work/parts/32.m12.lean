set_option maxRecDepth 100000 in
set_option maxHeartbeats 4000000 in
theorem c_X8_mix {X : Hp} {ad : Nat → Nat} {r pf : Int → Int} {sv : Int} {er sn lw rc wt : Int → Int} {wg : Int} {ls ac fi : Int → Int} {as : Int} {hh : Int64} (hM : MM X ad r pf sv er sn lw rc wt wg ls ac fi as hh) {v : Int} : Ct yX8_mix cX8_mix 2 none 0 0 [.ref (ad 0), vi v] X 0 0 (fun rv X' => rv = none ∧ MG X X' ad r pf sv er sn lw rc wt wg ls ac fi as (mx hh v)) := by
  refine Ct.of (by decide +kernel) [some (.ref (ad 0)), some (vi v)] rfl (Nat.le_of_ble_eq_true rfl) (fun φ hF hR => ?_)
  have hM := hM.g
  refine j_aload_n hF dX8_mix_0 rfl (j_ldc2 hF kc_RX8_171 dX8_mix_1 (j_aload_n hF dX8_mix_4 rfl (j_get hF hM.1.1 fl_RX8_173 dX8_mix_5 rfl (j_lmul hF dX8_mix_8 (j_iload_n hF dX8_mix_9 rfl ?_)))))
  refine j_i2l hF dX8_mix_10 (j_ladd hF dX8_mix_11 (j_put hF hM.1.1 fl_RX8_173 dX8_mix_12 rfl rfl (Nat.le_of_ble_eq_true rfl) (j_nm (fun X1 eX1 => ?_))))
  have hM := hM.u_hh eX1
  refine j_vret hF hR dX8_mix_15 (by omega) (by omega) ?_
  exact ⟨rfl, hM⟩

set_option maxRecDepth 100000 in
set_option maxHeartbeats 4000000 in
theorem c_X8_mixWorker {X : Hp} {ad : Nat → Nat} {r pf : Int → Int} {sv : Int} {er sn lw rc wt : Int → Int} {wg : Int} {ls ac fi : Int → Int} {as : Int} {hh : Int64} (hM : MM X ad r pf sv er sn lw rc wt wg ls ac fi as hh) {w : Int} (hG : GI r) (hw : 0 ≤ w ∧ w ≤ 1) (hm : RM2 r) (hA : AS r) (hT : AT r) : Ct yX8_mixWorker cX8_mixWorker 5 none 4 99 [.ref (ad 0), vi w] X 0 0 (fun rv X' => rv = none ∧ ∃ rc' wt' wg' ls' ac' fi' as', MG X X' ad r pf sv er sn lw rc' wt' wg' ls' ac' fi' as' (h_wk r w hh)) := by
  refine Ct.of (by decide +kernel) [some (.ref (ad 0)), some (vi w), none, none, none] rfl (Nat.le_of_ble_eq_true rfl) (fun φ hF hR => ?_)
  have hM := hM.g
  have g0 := hG.1
  have g1 := hG.2.1
  refine j_iconst hF dX8_mixWorker_0 (j_istore_n hF dX8_mixWorker_1 (Nat.le_of_ble_eq_true rfl) rfl ?_)
  have L2 : ∀ (n : Nat) (k : Int) (Y : Hp), (r 1 - k).toNat < n → 0 ≤ k ∧ k ≤ r 1 → MG X Y ad r pf sv er sn lw rc wt wg ls ac fi as (h_mail r w k.toNat hh) → Jd φ Y 0 0 2 [some (.ref (ad 0)), some (vi w), some (vi k), none, none] [] := by
    intro n
    induction n with
    | zero => intro k Y hfu; exact absurd hfu (by omega)
    | succ n ih =>
      intro k Y hfu hk hM
      refine j_iload_n hF dX8_mixWorker_2 rfl (j_aload_n hF dX8_mixWorker_3 rfl (j_get hF hM.1.1 fl_RX8_8 dX8_mixWorker_4 rfl (j_iconst hF dX8_mixWorker_7 (j_iald hF hM.1.2.1 dX8_mixWorker_8 (by omega) (fun ra1 rb1 => ?_)))))
      refine j_icmp_ge hF 80 dX8_mixWorker_9 (by decide) (by omega) (fun c9 => ?_) (fun c9 => ?_)
      ·
        refine j_aload_n hF dX8_mixWorker_80 rfl (j_iload_n hF dX8_mixWorker_81 rfl (j_callV hF (c_X8_findsFrontier hM.1 hG (by omega)) ms_X8_findsFrontier mv_X8_findsFrontier lk_RX8_159 dX8_mixWorker_82 hM.1.1 rfl rfl rfl (by simp [Value.category]) ⟨⟨(Nat.le_of_ble_eq_true rfl), (Nat.le_of_ble_eq_true rfl)⟩, by omega, by omega⟩ (fun v2 X2 hp2 hE2 => ?_)))
        obtain ⟨rfl, rc0, wt0, wg0, ls0, ac0, fi0, as0, hM1, hFI⟩ := hp2
        have hM := hM.tr hM1
        refine j_iconst hF dX8_mixWorker_85 (j_istore_n hF dX8_mixWorker_86 (Nat.le_of_ble_eq_true rfl) rfl ?_)
        have ek : k = r 1 := by omega
        rw [ek] at hM
        have L87 : ∀ (n : Nat) (k : Int) (Y : Hp), (r 0 - k).toNat < n → 0 ≤ k ∧ k ≤ r 0 → MG X Y ad r pf sv er sn lw rc0 wt0 wg0 ls0 ac0 fi0 as0 (h_not r w k.toNat (h_mail r w (r 1).toNat hh)) → Jd φ Y 0 0 87 [some (.ref (ad 0)), some (vi w), some (vi k), none, none] [] := by
          intro n
          induction n with
          | zero => intro k Y hfu; exact absurd hfu (by omega)
          | succ n ih =>
            intro k Y hfu hk hM
            refine j_iload_n hF dX8_mixWorker_87 rfl (j_aload_n hF dX8_mixWorker_88 rfl (j_get hF hM.1.1 fl_RX8_8 dX8_mixWorker_89 rfl (j_iconst hF dX8_mixWorker_92 (j_iald hF hM.1.2.1 dX8_mixWorker_93 (by omega) (fun ra1 rb1 => ?_)))))
            refine j_icmp_ge hF 123 dX8_mixWorker_94 (by decide) (by omega) (fun c94 => ?_) (fun c94 => ?_)
            ·
              refine j_aload_n hF dX8_mixWorker_123 rfl (j_aload_n hF dX8_mixWorker_124 rfl (j_get hF hM.1.1 fl_RX8_149 dX8_mixWorker_125 rfl (j_callV hF (c_X8_mix hM.1) ms_X8_mix mv_X8_mix lk_RX8_177 dX8_mixWorker_128 hM.1.1 rfl rfl rfl (by simp [Value.category]) ⟨⟨(Nat.le_of_ble_eq_true rfl), (Nat.le_of_ble_eq_true rfl)⟩, by omega, by omega⟩ (fun v2 X2 hp2 hE2 => ?_))))
              obtain ⟨rfl, hM1⟩ := hp2
              have hM := hM.tr hM1
              refine j_aload_n hF dX8_mixWorker_131 rfl (j_iconst hF dX8_mixWorker_132 (j_callV hF (c_X8_frontierAt hM.1 hFI (by omega)) ms_X8_frontierAt mv_X8_frontierAt lk_RX8_168 dX8_mixWorker_133 hM.1.1 rfl rfl rfl (by simp [Value.category]) ⟨⟨(Nat.le_of_ble_eq_true rfl), (Nat.le_of_ble_eq_true rfl)⟩, by omega, by omega⟩ (fun v3 X3 hp3 hE3 => ?_)))
              obtain ⟨rfl, he3⟩ := hp3; obtain rfl := he3.symm
              rw [if_pos rfl]
              have nr := cf_rg (f := oF r w) 16000 (fun j j1 j2 => bz_rg _)
              refine j_istore_n hF dX8_mixWorker_136 (Nat.le_of_ble_eq_true rfl) rfl (j_aload_n hF dX8_mixWorker_137 rfl (j_iload_n hF dX8_mixWorker_138 rfl (j_callV hF (c_X8_mix hM.1) ms_X8_mix mv_X8_mix lk_RX8_177 dX8_mixWorker_139 hM.1.1 rfl rfl rfl (by simp [Value.category]) ⟨⟨(Nat.le_of_ble_eq_true rfl), (Nat.le_of_ble_eq_true rfl)⟩, by omega, by omega⟩ (fun v4 X4 hp4 hE4 => ?_))))
              obtain ⟨rfl, hM1⟩ := hp4
              have hM := hM.tr hM1
              refine j_iconst hF dX8_mixWorker_142 (j_istore_n hF dX8_mixWorker_143 (Nat.le_of_ble_eq_true rfl) rfl ?_)
              have L144 : ∀ (n : Nat) (k : Int) (Y : Hp), (cf (oF r w) 16000 - k).toNat < n → 0 ≤ k ∧ k ≤ cf (oF r w) 16000 → MG X Y ad r pf sv er sn lw rc0 wt0 wg0 ls0 ac0 fi0 as0 (hf (frAt r w) k.toNat (mx (mx (h_not r w (r 0).toNat (h_mail r w (r 1).toNat hh)) (cf (aF r w) 16000)) (cf (oF r w) 16000))) → Jd φ Y 0 0 144 [some (.ref (ad 0)), some (vi w), some (vi (cf (oF r w) 16000)), some (vi k), none] [] := by
                intro n
                induction n with
                | zero => intro k Y hfu; exact absurd hfu (by omega)
                | succ n ih =>
                  intro k Y hfu hk hM
                  refine j_iload_n hF dX8_mixWorker_144 rfl (j_iload_n hF dX8_mixWorker_145 rfl (j_icmp_ge hF 164 dX8_mixWorker_146 (by decide) (by omega) (fun c146 => ?_) (fun c146 => ?_)))
                  ·
                    refine j_aload_n hF dX8_mixWorker_164 rfl (j_aload_n hF dX8_mixWorker_165 rfl (j_get hF hM.1.1 fl_RX8_8 dX8_mixWorker_166 rfl (j_sipush hF dX8_mixWorker_169 (by decide) (j_iload_n hF dX8_mixWorker_172 rfl (j_iadd hF dX8_mixWorker_173 ?_)))))
                    refine j_iald hF hM.1.2.1 dX8_mixWorker_174 (by omega) (fun ra1 rb1 => ?_)
                    refine j_callV hF (c_X8_mix hM.1) ms_X8_mix mv_X8_mix lk_RX8_177 dX8_mixWorker_175 hM.1.1 rfl rfl rfl (by simp [Value.category]) ⟨⟨(Nat.le_of_ble_eq_true rfl), (Nat.le_of_ble_eq_true rfl)⟩, by omega, by omega⟩ (fun v2 X2 hp2 hE2 => ?_)
                    obtain ⟨rfl, hM1⟩ := hp2
                    have hM := hM.tr hM1
                    refine j_vret hF hR dX8_mixWorker_178 (by omega) (by omega) ?_
                    have ek : k = cf (oF r w) 16000 := by omega
                    rw [ek] at hM
                    exact ⟨rfl, _, _, _, _, _, _, _, hM⟩
                  ·
                    refine j_aload_n hF dX8_mixWorker_149 rfl (j_aload_n hF dX8_mixWorker_150 rfl (j_iload_n hF dX8_mixWorker_151 rfl (j_callV hF (c_X8_frontierAt hM.1 hFI (by omega)) ms_X8_frontierAt mv_X8_frontierAt lk_RX8_168 dX8_mixWorker_152 hM.1.1 rfl rfl rfl (by simp [Value.category]) ⟨⟨(Nat.le_of_ble_eq_true rfl), (Nat.le_of_ble_eq_true rfl)⟩, by omega, by omega⟩ (fun v3 X3 hp3 hE3 => ?_))))
                    obtain ⟨rfl, he3⟩ := hp3; obtain rfl := he3.symm
                    rw [if_neg (show ¬ k = -1 by omega)]
                    refine j_callV hF (c_X8_mix hM.1) ms_X8_mix mv_X8_mix lk_RX8_177 dX8_mixWorker_155 hM.1.1 rfl rfl rfl (by simp [Value.category]) ⟨⟨(Nat.le_of_ble_eq_true rfl), (Nat.le_of_ble_eq_true rfl)⟩, by omega, by omega⟩ (fun v4 X4 hp4 hE4 => ?_)
                    obtain ⟨rfl, hM1⟩ := hp4
                    have hM := hM.tr hM1
                    refine j_iinc hF dX8_mixWorker_158 rfl (Nat.le_of_ble_eq_true rfl) rfl (j_goto hF 144 dX8_mixWorker_161 (by decide) ?_)
                    have et : (k + 1).toNat = k.toNat + 1 := by omega
                    have ek : ((k.toNat : Nat) : Int) = k := by omega
                    refine ih (k + 1) _ (by omega) (by omega) ?_
                    rw [et, hf, ek]
                    exact hM
              have ek : k = r 0 := by omega
              have ea : as0 = cf (aF r w) 16000 := hFI.1.2.1
              refine L144 16002 0 _ (by omega) (by omega) ?_
              rw [← ek, ← ea]
              exact hM
            ·
              refine j_aload_n hF dX8_mixWorker_97 rfl (j_aload_n hF dX8_mixWorker_98 rfl (j_iload_n hF dX8_mixWorker_99 rfl (j_iload_n hF dX8_mixWorker_100 rfl (j_callV hF (c_X8_requestsOf hM.1 (by omega) hA (by omega)) ms_X8_requestsOf mv_X8_requestsOf lk_RX8_165 dX8_mixWorker_101 hM.1.1 rfl rfl rfl (by simp [Value.category]) ⟨⟨(Nat.le_of_ble_eq_true rfl), (Nat.le_of_ble_eq_true rfl)⟩, by omega, by omega⟩ (fun v5 X5 hp5 hE5 => ?_)))))
              obtain ⟨rfl, he5⟩ := hp5; obtain rfl := he5.symm
              refine j_callV hF (c_X8_mix hM.1) ms_X8_mix mv_X8_mix lk_RX8_177 dX8_mixWorker_104 hM.1.1 rfl rfl rfl (by simp [Value.category]) ⟨⟨(Nat.le_of_ble_eq_true rfl), (Nat.le_of_ble_eq_true rfl)⟩, by omega, by omega⟩ (fun v6 X6 hp6 hE6 => ?_)
              obtain ⟨rfl, hM1⟩ := hp6
              have hM := hM.tr hM1
              refine j_aload_n hF dX8_mixWorker_107 rfl (j_aload_n hF dX8_mixWorker_108 rfl (j_iload_n hF dX8_mixWorker_109 rfl (j_iload_n hF dX8_mixWorker_110 rfl (j_callV hF (c_X8_nextAt hM.1 hFI (by omega) hA hT (by omega)) ms_X8_nextAt mv_X8_nextAt lk_RX8_162 dX8_mixWorker_111 hM.1.1 rfl rfl rfl (by simp [Value.category]) ⟨⟨(Nat.le_of_ble_eq_true rfl), (Nat.le_of_ble_eq_true rfl)⟩, by omega, by omega⟩ (fun v7 X7 hp7 hE7 => ?_)))))
              obtain ⟨rfl, he7⟩ := hp7; obtain rfl := he7.symm
              refine j_callV hF (c_X8_mix hM.1) ms_X8_mix mv_X8_mix lk_RX8_177 dX8_mixWorker_114 hM.1.1 rfl rfl rfl (by simp [Value.category]) ⟨⟨(Nat.le_of_ble_eq_true rfl), (Nat.le_of_ble_eq_true rfl)⟩, by omega, by omega⟩ (fun v8 X8 hp8 hE8 => ?_)
              obtain ⟨rfl, hM1⟩ := hp8
              have hM := hM.tr hM1
              refine j_iinc hF dX8_mixWorker_117 rfl (Nat.le_of_ble_eq_true rfl) rfl (j_goto hF 87 dX8_mixWorker_120 (by decide) ?_)
              have et : (k + 1).toNat = k.toNat + 1 := by omega
              have ek : ((k.toNat : Nat) : Int) = k := by omega
              refine ih (k + 1) _ (by omega) (by omega) ?_
              rw [et, h_not, ek]
              exact hM
        exact L87 ((r 0).toNat + 1) 0 _ (by omega) (by omega) hM
      ·
        have m0 := hm (10 * w + k) (by omega) (by omega)
        refine j_aload_n hF dX8_mixWorker_12 rfl (j_iload_n hF dX8_mixWorker_13 rfl (j_iload_n hF dX8_mixWorker_14 rfl (j_callV hF (c_X8_lineOf hM.1) ms_X8_lineOf mv_X8_lineOf lk_RX8_108 dX8_mixWorker_15 hM.1.1 rfl rfl rfl (by simp [Value.category]) ⟨⟨(Nat.le_of_ble_eq_true rfl), (Nat.le_of_ble_eq_true rfl)⟩, by omega, by omega⟩ (fun v3 X3 hp3 hE3 => ?_))))
        obtain ⟨rfl, he3⟩ := hp3; obtain rfl := he3.symm
        refine j_istore_n hF dX8_mixWorker_18 (Nat.le_of_ble_eq_true rfl) rfl (j_aload_n hF dX8_mixWorker_19 rfl (j_aload_n hF dX8_mixWorker_20 rfl (j_get hF hM.1.1 fl_RX8_8 dX8_mixWorker_21 rfl (j_bipush hF dX8_mixWorker_24 (by decide) (j_iload_n hF dX8_mixWorker_26 rfl ?_)))))
        refine j_iadd hF dX8_mixWorker_27 (j_iald hF hM.1.2.1 dX8_mixWorker_28 (by omega) (fun ra4 rb4 => ?_))
        refine j_callV hF (c_X8_mix hM.1) ms_X8_mix mv_X8_mix lk_RX8_177 dX8_mixWorker_29 hM.1.1 rfl rfl rfl (by simp [Value.category]) ⟨⟨(Nat.le_of_ble_eq_true rfl), (Nat.le_of_ble_eq_true rfl)⟩, by omega, by omega⟩ (fun v5 X5 hp5 hE5 => ?_)
        obtain ⟨rfl, hM1⟩ := hp5
        have hM := hM.tr hM1
        refine j_iconst hF dX8_mixWorker_32 (j_istore hF dX8_mixWorker_33 (Nat.le_of_ble_eq_true rfl) rfl ?_)
        have L35 : ∀ (n2 : Nat) (j : Int) (Y : Hp), (r (47 + (10 * w + k)) - j).toNat < n2 → 0 ≤ j ∧ j ≤ r (47 + (10 * w + k)) → MG X Y ad r pf sv er sn lw rc wt wg ls ac fi as (hf (fun x => r (67 + 12 * (10 * w + k) + x)) j.toNat (mx (h_mail r w k.toNat hh) (r (47 + (10 * w + k))))) → Jd φ Y 0 0 35 [some (.ref (ad 0)), some (vi w), some (vi k), some (vi (10 * w + k)), some (vi j)] [] := by
          intro n2
          induction n2 with
          | zero => intro j Y hfu; exact absurd hfu (by omega)
          | succ n2 ih2 =>
            intro j Y hfu hj hM
            refine j_iload hF dX8_mixWorker_35 rfl (j_aload_n hF dX8_mixWorker_37 rfl (j_get hF hM.1.1 fl_RX8_8 dX8_mixWorker_38 rfl (j_bipush hF dX8_mixWorker_41 (by decide) (j_iload_n hF dX8_mixWorker_43 rfl (j_iadd hF dX8_mixWorker_44 ?_)))))
            refine j_iald hF hM.1.2.1 dX8_mixWorker_45 (by omega) (fun ra1 rb1 => ?_)
            refine j_icmp_ge hF 74 dX8_mixWorker_46 (by decide) (by omega) (fun c46 => ?_) (fun c46 => ?_)
            ·
              refine j_iinc hF dX8_mixWorker_74 rfl (Nat.le_of_ble_eq_true rfl) rfl (j_goto hF 2 dX8_mixWorker_77 (by decide) ?_)
              refine j_unset 3 (j_unset 4 ?_)
              have ej : j = r (47 + (10 * w + k)) := by omega
              subst ej
              have et : (k + 1).toNat = k.toNat + 1 := by omega
              have ek : ((k.toNat : Nat) : Int) = k := by omega
              refine ih (k + 1) _ (by omega) (by omega) ?_
              rw [et, h_mail, ek]
              exact hM
            ·
              refine j_aload_n hF dX8_mixWorker_49 rfl (j_aload_n hF dX8_mixWorker_50 rfl (j_get hF hM.1.1 fl_RX8_8 dX8_mixWorker_51 rfl (j_bipush hF dX8_mixWorker_54 (by decide) (j_bipush hF dX8_mixWorker_56 (by decide) (j_iload_n hF dX8_mixWorker_58 rfl ?_)))))
              refine j_imul hF dX8_mixWorker_59 (j_iadd hF dX8_mixWorker_60 (j_iload hF dX8_mixWorker_61 rfl (j_iadd hF dX8_mixWorker_63 (j_iald hF hM.1.2.1 dX8_mixWorker_64 (by omega) (fun ra2 rb2 => ?_)))))
              refine j_callV hF (c_X8_mix hM.1) ms_X8_mix mv_X8_mix lk_RX8_177 dX8_mixWorker_65 hM.1.1 rfl rfl rfl (by simp [Value.category]) ⟨⟨(Nat.le_of_ble_eq_true rfl), (Nat.le_of_ble_eq_true rfl)⟩, by omega, by omega⟩ (fun v3 X3 hp3 hE3 => ?_)
              obtain ⟨rfl, hM1⟩ := hp3
              have hM := hM.tr hM1
              refine j_iinc hF dX8_mixWorker_68 rfl (Nat.le_of_ble_eq_true rfl) rfl (j_goto hF 35 dX8_mixWorker_71 (by decide) ?_)
              have et : (j + 1).toNat = j.toNat + 1 := by omega
              have ej : ((j.toNat : Nat) : Int) = j := by omega
              refine ih2 (j + 1) _ (by omega) (by omega) ?_
              rw [et, hf, ej]
              exact hM
        exact L35 14 0 _ (by omega) (by omega) hM
  exact L2 ((r 1).toNat + 1) 0 _ (by omega) (by omega) hM

set_option maxRecDepth 100000 in
set_option maxHeartbeats 4000000 in
theorem c_X8_digest {X : Hp} {ad : Nat → Nat} {r pf : Int → Int} {sv : Int} {er sn lw rc wt : Int → Int} {wg : Int} {ls ac fi : Int → Int} {as : Int} {hh : Int64} (hM : MM X ad r pf sv er sn lw rc wt wg ls ac fi as hh) (hG : GI r) (hm : RM2 r) (hA : AS r) (hT : AT r) : Ct yX8_digest cX8_digest 2 (some .long) 5 123 [.ref (ad 0)] X 0 0 (fun rv X' => rv = some (.long (h_dig (r, pf, sv, er))) ∧ MX X X' ad (r, pf, sv, er)) := by
  refine Ct.of (by decide +kernel) [some (.ref (ad 0)), none] rfl (Nat.le_of_ble_eq_true rfl) (fun φ hF hR => ?_)
  have hM := hM.g
  have g0 := hG.1
  have g1 := hG.2.1
  refine j_aload_n hF dX8_digest_0 rfl (j_ldc2 hF kc_RX8_180 dX8_digest_1 (j_put hF hM.1.1 fl_RX8_173 dX8_digest_4 rfl rfl (Nat.le_of_ble_eq_true rfl) (j_nm (fun X1 eX1 => ?_))))
  have hM := hM.u_hh eX1
  refine j_iconst hF dX8_digest_7 (j_istore_n hF dX8_digest_8 (Nat.le_of_ble_eq_true rfl) rfl ?_)
  have L9 : ∀ (n : Nat) (k : Int) (Y : Hp), (4 - k).toNat < n → 0 ≤ k ∧ k ≤ 4 → MG X Y ad r pf sv er sn lw rc wt wg ls ac fi as (hf er k.toNat 2731) → Jd φ Y 0 0 9 [some (.ref (ad 0)), some (vi k)] [] := by
    intro n
    induction n with
    | zero => intro k Y hfu; exact absurd hfu (by omega)
    | succ n ih =>
      intro k Y hfu hk hM
      refine j_iload_n hF dX8_digest_9 rfl (j_iconst hF dX8_digest_10 (j_icmp_ge hF 30 dX8_digest_11 (by decide) (by omega) (fun c11 => ?_) (fun c11 => ?_)))
      ·
        have ek : k = 4 := by omega
        rw [ek] at hM
        refine j_aload_n hF dX8_digest_30 rfl (j_aload_n hF dX8_digest_31 rfl (j_get hF hM.1.1 fl_RX8_8 dX8_digest_32 rfl (j_iconst hF dX8_digest_35 (j_iald hF hM.1.2.1 dX8_digest_36 (by omega) (fun ra1 rb1 => ?_)))))
        refine j_callV hF (c_X8_mix hM.1) ms_X8_mix mv_X8_mix lk_RX8_177 dX8_digest_37 hM.1.1 rfl rfl rfl (by simp [Value.category]) ⟨⟨(Nat.le_of_ble_eq_true rfl), (Nat.le_of_ble_eq_true rfl)⟩, by omega, by omega⟩ (fun v2 X2 hp2 hE2 => ?_)
        obtain ⟨rfl, hM1⟩ := hp2
        have hM := hM.tr hM1
        refine j_iconst hF dX8_digest_40 (j_istore_n hF dX8_digest_41 (Nat.le_of_ble_eq_true rfl) rfl ?_)
        have L42 : ∀ (n : Nat) (k : Int) (Y : Hp), (r 0 - k).toNat < n → 0 ≤ k ∧ k ≤ r 0 → MG X Y ad r pf sv er sn lw rc wt wg ls ac fi as (h_nodes r k.toNat (mx (hf er 4 2731) (r 0))) → Jd φ Y 0 0 42 [some (.ref (ad 0)), some (vi k)] [] := by
          intro n
          induction n with
          | zero => intro k Y hfu; exact absurd hfu (by omega)
          | succ n ih =>
            intro k Y hfu hk hM
            refine j_iload_n hF dX8_digest_42 rfl (j_aload_n hF dX8_digest_43 rfl (j_get hF hM.1.1 fl_RX8_8 dX8_digest_44 rfl (j_iconst hF dX8_digest_47 (j_iald hF hM.1.2.1 dX8_digest_48 (by omega) (fun ra1 rb1 => ?_)))))
            refine j_icmp_ge hF 83 dX8_digest_49 (by decide) (by omega) (fun c49 => ?_) (fun c49 => ?_)
            ·
              have ek : k = r 0 := by omega
              rw [ek] at hM
              refine j_aload_n hF dX8_digest_83 rfl (j_aload_n hF dX8_digest_84 rfl (j_get hF hM.1.1 fl_RX8_8 dX8_digest_85 rfl (j_iconst hF dX8_digest_88 (j_iald hF hM.1.2.1 dX8_digest_89 (by omega) (fun ra2 rb2 => ?_)))))
              refine j_callV hF (c_X8_mix hM.1) ms_X8_mix mv_X8_mix lk_RX8_177 dX8_digest_90 hM.1.1 rfl rfl rfl (by simp [Value.category]) ⟨⟨(Nat.le_of_ble_eq_true rfl), (Nat.le_of_ble_eq_true rfl)⟩, by omega, by omega⟩ (fun v3 X3 hp3 hE3 => ?_)
              obtain ⟨rfl, hM1⟩ := hp3
              have hM := hM.tr hM1
              refine j_iconst hF dX8_digest_93 (j_istore_n hF dX8_digest_94 (Nat.le_of_ble_eq_true rfl) rfl ?_)
              have L95 : ∀ (n : Nat) (k : Int) (Y : Hp), (r 1 - k).toNat < n → 0 ≤ k ∧ k ≤ r 1 → MG X Y ad r pf sv er sn lw rc wt wg ls ac fi as (h_edges r k.toNat (mx (h_nodes r (r 0).toNat (mx (hf er 4 2731) (r 0))) (r 1))) → Jd φ Y 0 0 95 [some (.ref (ad 0)), some (vi k)] [] := by
                intro n
                induction n with
                | zero => intro k Y hfu; exact absurd hfu (by omega)
                | succ n ih =>
                  intro k Y hfu hk hM
                  refine j_iload_n hF dX8_digest_95 rfl (j_aload_n hF dX8_digest_96 rfl (j_get hF hM.1.1 fl_RX8_8 dX8_digest_97 rfl (j_iconst hF dX8_digest_100 (j_iald hF hM.1.2.1 dX8_digest_101 (by omega) (fun ra1 rb1 => ?_)))))
                  refine j_icmp_ge hF 146 dX8_digest_102 (by decide) (by omega) (fun c102 => ?_) (fun c102 => ?_)
                  ·
                    have ek : k = r 1 := by omega
                    rw [ek] at hM
                    refine j_iconst hF dX8_digest_146 (j_istore_n hF dX8_digest_147 (Nat.le_of_ble_eq_true rfl) rfl ?_)
                    have J148 : ∀ (Y : Hp) (rc1 wt1 : Int → Int) (wg1 : Int) (ls1 ac1 fi1 : Int → Int) (as1 : Int), MG X Y ad r pf sv er sn lw rc1 wt1 wg1 ls1 ac1 fi1 as1 (h_wk r 1 (h_wk r 0 (h_edges r (r 1).toNat (mx (h_nodes r (r 0).toNat (mx (hf er 4 2731) (r 0))) (r 1))))) → Jd φ Y 0 0 148 [some (.ref (ad 0)), some (vi 2)] [] := by
                      intro Y rc1 wt1 wg1 ls1 ac1 fi1 as1 hM
                      refine j_iload_n hF dX8_digest_148 rfl (j_iconst hF dX8_digest_149 (j_icmp_ge hF 164 dX8_digest_150 (by decide) (by omega) (fun c150 => ?_) (fun c150 => absurd c150 (by decide))))
                      refine j_aload_n hF dX8_digest_164 rfl (j_aload_n hF dX8_digest_165 rfl (j_get hF hM.1.1 fl_RX8_8 dX8_digest_166 rfl (j_iconst hF dX8_digest_169 (j_iald hF hM.1.2.1 dX8_digest_170 (by omega) (fun ra1 rb1 => ?_)))))
                      refine j_callV hF (c_X8_mix hM.1) ms_X8_mix mv_X8_mix lk_RX8_177 dX8_digest_171 hM.1.1 rfl rfl rfl (by simp [Value.category]) ⟨⟨(Nat.le_of_ble_eq_true rfl), (Nat.le_of_ble_eq_true rfl)⟩, by omega, by omega⟩ (fun v2 X2 hp2 hE2 => ?_)
                      obtain ⟨rfl, hM1⟩ := hp2
                      have hM := hM.tr hM1
                      refine j_aload_n hF dX8_digest_174 rfl (j_aload_n hF dX8_digest_175 rfl (j_get hF hM.1.1 fl_RX8_8 dX8_digest_176 rfl (j_iconst hF dX8_digest_179 (j_iald hF hM.1.2.1 dX8_digest_180 (by omega) (fun ra3 rb3 => ?_)))))
                      refine j_callV hF (c_X8_mix hM.1) ms_X8_mix mv_X8_mix lk_RX8_177 dX8_digest_181 hM.1.1 rfl rfl rfl (by simp [Value.category]) ⟨⟨(Nat.le_of_ble_eq_true rfl), (Nat.le_of_ble_eq_true rfl)⟩, by omega, by omega⟩ (fun v4 X4 hp4 hE4 => ?_)
                      obtain ⟨rfl, hM1⟩ := hp4
                      have hM := hM.tr hM1
                      refine j_aload_n hF dX8_digest_184 rfl (j_aload_n hF dX8_digest_185 rfl (j_get hF hM.1.1 fl_RX8_47 dX8_digest_186 rfl (j_callV hF (c_X8_mix hM.1) ms_X8_mix mv_X8_mix lk_RX8_177 dX8_digest_189 hM.1.1 rfl rfl rfl (by simp [Value.category]) ⟨⟨(Nat.le_of_ble_eq_true rfl), (Nat.le_of_ble_eq_true rfl)⟩, by omega, by omega⟩ (fun v5 X5 hp5 hE5 => ?_))))
                      obtain ⟨rfl, hM1⟩ := hp5
                      have hM := hM.tr hM1
                      refine j_aload_n hF dX8_digest_192 rfl (j_get hF hM.1.1 fl_RX8_173 dX8_digest_193 rfl (j_lret hF hR dX8_digest_196 (by omega) (by omega) ?_))
                      exact ⟨rfl, _, _, _, _, _, _, _, _, _, _, hM⟩
                    have J1 : ∀ (Y : Hp) (rc1 wt1 : Int → Int) (wg1 : Int) (ls1 ac1 fi1 : Int → Int) (as1 : Int), MG X Y ad r pf sv er sn lw rc1 wt1 wg1 ls1 ac1 fi1 as1 (h_wk r 0 (h_edges r (r 1).toNat (mx (h_nodes r (r 0).toNat (mx (hf er 4 2731) (r 0))) (r 1)))) → Jd φ Y 0 0 148 [some (.ref (ad 0)), some (vi 1)] [] := by
                      intro Y rc1 wt1 wg1 ls1 ac1 fi1 as1 hM
                      refine j_iload_n hF dX8_digest_148 rfl (j_iconst hF dX8_digest_149 (j_icmp_ge hF 164 dX8_digest_150 (by decide) (by omega) (fun c150 => absurd c150 (by decide)) (fun c150 => ?_)))
                      refine j_aload_n hF dX8_digest_153 rfl (j_iload_n hF dX8_digest_154 rfl (j_callV hF (c_X8_mixWorker hM.1 hG (by omega) hm hA hT) ms_X8_mixWorker mv_X8_mixWorker lk_RX8_182 dX8_digest_155 hM.1.1 rfl rfl rfl (by simp [Value.category]) ⟨⟨(Nat.le_of_ble_eq_true rfl), (Nat.le_of_ble_eq_true rfl)⟩, by omega, by omega⟩ (fun v1 X1 hp1 hE1 => ?_)))
                      obtain ⟨rfl, rc1, wt1, wg1, ls1, ac1, fi1, as1, hM1⟩ := hp1
                      have hM := hM.tr hM1
                      refine j_iinc hF dX8_digest_158 rfl (Nat.le_of_ble_eq_true rfl) rfl (j_goto hF 148 dX8_digest_161 (by decide) ?_)
                      exact J148 _ _ _ _ _ _ _ _ hM
                    refine j_iload_n hF dX8_digest_148 rfl (j_iconst hF dX8_digest_149 (j_icmp_ge hF 164 dX8_digest_150 (by decide) (by omega) (fun c150 => absurd c150 (by decide)) (fun c150 => ?_)))
                    refine j_aload_n hF dX8_digest_153 rfl (j_iload_n hF dX8_digest_154 rfl (j_callV hF (c_X8_mixWorker hM.1 hG (by omega) hm hA hT) ms_X8_mixWorker mv_X8_mixWorker lk_RX8_182 dX8_digest_155 hM.1.1 rfl rfl rfl (by simp [Value.category]) ⟨⟨(Nat.le_of_ble_eq_true rfl), (Nat.le_of_ble_eq_true rfl)⟩, by omega, by omega⟩ (fun v1 X1 hp1 hE1 => ?_)))
                    obtain ⟨rfl, rc1, wt1, wg1, ls1, ac1, fi1, as1, hM1⟩ := hp1
                    have hM := hM.tr hM1
                    refine j_iinc hF dX8_digest_158 rfl (Nat.le_of_ble_eq_true rfl) rfl (j_goto hF 148 dX8_digest_161 (by decide) ?_)
                    exact J1 _ _ _ _ _ _ _ _ hM
                  ·
                    refine j_aload_n hF dX8_digest_105 rfl (j_aload_n hF dX8_digest_106 rfl (j_get hF hM.1.1 fl_RX8_8 dX8_digest_107 rfl (j_bipush hF dX8_digest_110 (by decide) (j_iload_n hF dX8_digest_112 rfl (j_iadd hF dX8_digest_113 ?_)))))
                    refine j_iald hF hM.1.2.1 dX8_digest_114 (by omega) (fun ra2 rb2 => ?_)
                    refine j_callV hF (c_X8_mix hM.1) ms_X8_mix mv_X8_mix lk_RX8_177 dX8_digest_115 hM.1.1 rfl rfl rfl (by simp [Value.category]) ⟨⟨(Nat.le_of_ble_eq_true rfl), (Nat.le_of_ble_eq_true rfl)⟩, by omega, by omega⟩ (fun v3 X3 hp3 hE3 => ?_)
                    obtain ⟨rfl, hM1⟩ := hp3
                    have hM := hM.tr hM1
                    refine j_aload_n hF dX8_digest_118 rfl (j_aload_n hF dX8_digest_119 rfl (j_get hF hM.1.1 fl_RX8_8 dX8_digest_120 rfl (j_bipush hF dX8_digest_123 (by decide) (j_iload_n hF dX8_digest_125 rfl (j_iadd hF dX8_digest_126 ?_)))))
                    refine j_iald hF hM.1.2.1 dX8_digest_127 (by omega) (fun ra4 rb4 => ?_)
                    refine j_callV hF (c_X8_mix hM.1) ms_X8_mix mv_X8_mix lk_RX8_177 dX8_digest_128 hM.1.1 rfl rfl rfl (by simp [Value.category]) ⟨⟨(Nat.le_of_ble_eq_true rfl), (Nat.le_of_ble_eq_true rfl)⟩, by omega, by omega⟩ (fun v5 X5 hp5 hE5 => ?_)
                    obtain ⟨rfl, hM1⟩ := hp5
                    have hM := hM.tr hM1
                    refine j_aload_n hF dX8_digest_131 rfl (j_aload_n hF dX8_digest_132 rfl (j_iload_n hF dX8_digest_133 rfl (j_callV hF (c_X8_kindOf hM.1 hG (by omega)) ms_X8_kindOf mv_X8_kindOf lk_RX8_80 dX8_digest_134 hM.1.1 rfl rfl rfl (by simp [Value.category]) ⟨⟨(Nat.le_of_ble_eq_true rfl), (Nat.le_of_ble_eq_true rfl)⟩, by omega, by omega⟩ (fun v6 X6 hp6 hE6 => ?_))))
                    obtain ⟨rfl, he6⟩ := hp6; obtain rfl := he6.symm
                    refine j_callV hF (c_X8_mix hM.1) ms_X8_mix mv_X8_mix lk_RX8_177 dX8_digest_137 hM.1.1 rfl rfl rfl (by simp [Value.category]) ⟨⟨(Nat.le_of_ble_eq_true rfl), (Nat.le_of_ble_eq_true rfl)⟩, by omega, by omega⟩ (fun v7 X7 hp7 hE7 => ?_)
                    obtain ⟨rfl, hM1⟩ := hp7
                    have hM := hM.tr hM1
                    refine j_iinc hF dX8_digest_140 rfl (Nat.le_of_ble_eq_true rfl) rfl (j_goto hF 95 dX8_digest_143 (by decide) ?_)
                    have et : (k + 1).toNat = k.toNat + 1 := by omega
                    have ek : ((k.toNat : Nat) : Int) = k := by omega
                    refine ih (k + 1) _ (by omega) (by omega) ?_
                    rw [et, h_edges, ek]
                    exact hM
              exact L95 ((r 1).toNat + 1) 0 _ (by omega) (by omega) hM
            ·
              refine j_aload_n hF dX8_digest_52 rfl (j_aload_n hF dX8_digest_53 rfl (j_get hF hM.1.1 fl_RX8_8 dX8_digest_54 rfl (j_iconst hF dX8_digest_57 (j_iload_n hF dX8_digest_58 rfl (j_iadd hF dX8_digest_59 ?_)))))
              refine j_iald hF hM.1.2.1 dX8_digest_60 (by omega) (fun ra4 rb4 => ?_)
              refine j_callV hF (c_X8_mix hM.1) ms_X8_mix mv_X8_mix lk_RX8_177 dX8_digest_61 hM.1.1 rfl rfl rfl (by simp [Value.category]) ⟨⟨(Nat.le_of_ble_eq_true rfl), (Nat.le_of_ble_eq_true rfl)⟩, by omega, by omega⟩ (fun v5 X5 hp5 hE5 => ?_)
              obtain ⟨rfl, hM1⟩ := hp5
              have hM := hM.tr hM1
              refine j_aload_n hF dX8_digest_64 rfl (j_aload_n hF dX8_digest_65 rfl (j_get hF hM.1.1 fl_RX8_8 dX8_digest_66 rfl (j_bipush hF dX8_digest_69 (by decide) (j_iload_n hF dX8_digest_71 rfl (j_iadd hF dX8_digest_72 ?_)))))
              refine j_iald hF hM.1.2.1 dX8_digest_73 (by omega) (fun ra6 rb6 => ?_)
              refine j_callV hF (c_X8_mix hM.1) ms_X8_mix mv_X8_mix lk_RX8_177 dX8_digest_74 hM.1.1 rfl rfl rfl (by simp [Value.category]) ⟨⟨(Nat.le_of_ble_eq_true rfl), (Nat.le_of_ble_eq_true rfl)⟩, by omega, by omega⟩ (fun v7 X7 hp7 hE7 => ?_)
              obtain ⟨rfl, hM1⟩ := hp7
              have hM := hM.tr hM1
              refine j_iinc hF dX8_digest_77 rfl (Nat.le_of_ble_eq_true rfl) rfl (j_goto hF 42 dX8_digest_80 (by decide) ?_)
              have et : (k + 1).toNat = k.toNat + 1 := by omega
              have ek : ((k.toNat : Nat) : Int) = k := by omega
              refine ih (k + 1) _ (by omega) (by omega) ?_
              rw [et, h_nodes, ek]
              exact hM
        exact L42 ((r 0).toNat + 1) 0 _ (by omega) (by omega) hM
      ·
        refine j_aload_n hF dX8_digest_14 rfl (j_aload_n hF dX8_digest_15 rfl (j_get hF hM.1.1 fl_RX8_18 dX8_digest_16 rfl (j_iload_n hF dX8_digest_19 rfl (j_iald hF hM.1.2.2.2.1 dX8_digest_20 (by omega) (fun ra3 rb3 => ?_)))))
        refine j_callV hF (c_X8_mix hM.1) ms_X8_mix mv_X8_mix lk_RX8_177 dX8_digest_21 hM.1.1 rfl rfl rfl (by simp [Value.category]) ⟨⟨(Nat.le_of_ble_eq_true rfl), (Nat.le_of_ble_eq_true rfl)⟩, by omega, by omega⟩ (fun v4 X4 hp4 hE4 => ?_)
        obtain ⟨rfl, hM1⟩ := hp4
        have hM := hM.tr hM1
        refine j_iinc hF dX8_digest_24 rfl (Nat.le_of_ble_eq_true rfl) rfl (j_goto hF 9 dX8_digest_27 (by decide) ?_)
        have et : (k + 1).toNat = k.toNat + 1 := by omega
        have ek : ((k.toNat : Nat) : Int) = k := by omega
        refine ih (k + 1) _ (by omega) (by omega) ?_
        rw [et, hf, ek]
        exact hM
  exact L9 5 0 _ (by omega) (by omega) hM

set_option maxRecDepth 100000 in
set_option maxHeartbeats 4000000 in
theorem c_X8_init {X : Hp} {mo : Nat} (h_m : X mo = some (5000, ob 8 [.null, .null, vi 0, .null, .null, .null, .null, .null, vi 0, .null, .null, .null, vi 0, .long 0])) : Ct yX8_init cX8_init 1 none 1 20 [.ref mo] X 10 254204 (fun rv X' => rv = none ∧ ∃ ad : Nat → Nat, ad 0 = mo ∧ MG X X' ad (fun _ => 0) (fun _ => 0) 0 (fun _ => 0) (fun _ => 0) (fun _ => 0) (fun _ => 0) (fun _ => 0) 0 (fun _ => 0) (fun _ => 0) (fun _ => 0) 0 0) := by
  refine Ct.of (by decide +kernel) [some (.ref mo)] rfl (Nat.le_of_ble_eq_true rfl) (fun φ hF hR => ?_)
  have hfr := FR.refl X
  refine j_aload_n hF dX8_init_0 rfl (j_obj hF lk_RX8_1 kl_oi kl_oc dX8_init_1 rfl (by decide) (Nat.le_of_ble_eq_true rfl) (Nat.le_of_ble_eq_true rfl) ?_)
  refine j_aload_n hF dX8_init_4 rfl (j_ldc hF kc_RX8_7 dX8_init_5 (j_newi hF (5001) (54743) kl_ac dX8_init_7 (by decide) (by omega) (by omega) (fun a_N hq1 => j_nm (fun X1 eX1 => ?_)) (by rfl)))
  have h_m := upn eX1 h_m hq1
  have h_N := ups eX1
  have hfr := hfr.trans (FR.new eX1 hq1)
  refine j_putF hF h_m fl_RX8_8 ⟨_, _, rfl⟩ rfl dX8_init_9 rfl rfl (Nat.le_of_ble_eq_true rfl) (j_nm (fun X2 eX2 => ?_))
  have hfr := hfr.trans (FR.up eX2 h_m (by decide))
  have h_N := upx eX2 h_N h_m (by decide)
  have h_m := ups eX2
  refine j_aload_n hF dX8_init_12 rfl (j_ldc hF kc_RX8_14 dX8_init_13 (j_newi hF (5002) (164229) kl_ac dX8_init_15 (by decide) (by omega) (by omega) (fun a_P hq3 => j_nm (fun X3 eX3 => ?_)) (by rfl)))
  have h_m := upn eX3 h_m hq3
  have h_N := upn eX3 h_N hq3
  have h_P := ups eX3
  have hfr := hfr.trans (FR.new eX3 hq3)
  refine j_putF hF h_m fl_RX8_15 ⟨_, _, rfl⟩ rfl dX8_init_17 rfl rfl (Nat.le_of_ble_eq_true rfl) (j_nm (fun X4 eX4 => ?_))
  have hfr := hfr.trans (FR.up eX4 h_m (by decide))
  have h_N := upx eX4 h_N h_m (by decide)
  have h_P := upx eX4 h_P h_m (by decide)
  have h_m := ups eX4
  refine j_aload_n hF dX8_init_20 rfl (j_iconst hF dX8_init_21 (j_newi hF (5003) (4) kl_ac dX8_init_22 (by decide) (by omega) (by omega) (fun a_E hq5 => j_nm (fun X5 eX5 => ?_)) (by rfl)))
  have h_m := upn eX5 h_m hq5
  have h_N := upn eX5 h_N hq5
  have h_P := upn eX5 h_P hq5
  have h_E := ups eX5
  have hfr := hfr.trans (FR.new eX5 hq5)
  refine j_putF hF h_m fl_RX8_18 ⟨_, _, rfl⟩ rfl dX8_init_24 rfl rfl (Nat.le_of_ble_eq_true rfl) (j_nm (fun X6 eX6 => ?_))
  have hfr := hfr.trans (FR.up eX6 h_m (by decide))
  have h_N := upx eX6 h_N h_m (by decide)
  have h_P := upx eX6 h_P h_m (by decide)
  have h_E := upx eX6 h_E h_m (by decide)
  have h_m := ups eX6
  refine j_aload_n hF dX8_init_27 rfl (j_bipush hF dX8_init_28 (by decide) (j_newi hF (5004) (6) kl_ac dX8_init_30 (by decide) (by omega) (by omega) (fun a_S hq7 => j_nm (fun X7 eX7 => ?_)) (by rfl)))
  have h_m := upn eX7 h_m hq7
  have h_N := upn eX7 h_N hq7
  have h_P := upn eX7 h_P hq7
  have h_E := upn eX7 h_E hq7
  have h_S := ups eX7
  have hfr := hfr.trans (FR.new eX7 hq7)
  refine j_putF hF h_m fl_RX8_21 ⟨_, _, rfl⟩ rfl dX8_init_32 rfl rfl (Nat.le_of_ble_eq_true rfl) (j_nm (fun X8 eX8 => ?_))
  have hfr := hfr.trans (FR.up eX8 h_m (by decide))
  have h_N := upx eX8 h_N h_m (by decide)
  have h_P := upx eX8 h_P h_m (by decide)
  have h_E := upx eX8 h_E h_m (by decide)
  have h_S := upx eX8 h_S h_m (by decide)
  have h_m := ups eX8
  refine j_aload_n hF dX8_init_35 rfl (j_bipush hF dX8_init_36 (by decide) (j_newi hF (5005) (6) kl_ac dX8_init_38 (by decide) (by omega) (by omega) (fun a_L hq9 => j_nm (fun X9 eX9 => ?_)) (by rfl)))
  have h_m := upn eX9 h_m hq9
  have h_N := upn eX9 h_N hq9
  have h_P := upn eX9 h_P hq9
  have h_E := upn eX9 h_E hq9
  have h_S := upn eX9 h_S hq9
  have h_L := ups eX9
  have hfr := hfr.trans (FR.new eX9 hq9)
  refine j_putF hF h_m fl_RX8_24 ⟨_, _, rfl⟩ rfl dX8_init_40 rfl rfl (Nat.le_of_ble_eq_true rfl) (j_nm (fun X10 eX10 => ?_))
  have hfr := hfr.trans (FR.up eX10 h_m (by decide))
  have h_N := upx eX10 h_N h_m (by decide)
  have h_P := upx eX10 h_P h_m (by decide)
  have h_E := upx eX10 h_E h_m (by decide)
  have h_S := upx eX10 h_S h_m (by decide)
  have h_L := upx eX10 h_L h_m (by decide)
  have h_m := ups eX10
  refine j_aload_n hF dX8_init_43 rfl (j_sipush hF dX8_init_44 (by decide) (j_newz hF (5006) (1600) kl_az dX8_init_47 (by decide) (by omega) (by omega) (fun a_R hq11 => j_nm (fun X11 eX11 => ?_)) (by rfl)))
  have h_m := upn eX11 h_m hq11
  have h_N := upn eX11 h_N hq11
  have h_P := upn eX11 h_P hq11
  have h_E := upn eX11 h_E hq11
  have h_S := upn eX11 h_S hq11
  have h_L := upn eX11 h_L hq11
  have h_R := ups eX11
  have hfr := hfr.trans (FR.new eX11 hq11)
  refine j_putF hF h_m fl_RX8_27 ⟨_, _, rfl⟩ rfl dX8_init_49 rfl rfl (Nat.le_of_ble_eq_true rfl) (j_nm (fun X12 eX12 => ?_))
  have hfr := hfr.trans (FR.up eX12 h_m (by decide))
  have h_N := upx eX12 h_N h_m (by decide)
  have h_P := upx eX12 h_P h_m (by decide)
  have h_E := upx eX12 h_E h_m (by decide)
  have h_S := upx eX12 h_S h_m (by decide)
  have h_L := upx eX12 h_L h_m (by decide)
  have h_R := upx eX12 h_R h_m (by decide)
  have h_m := ups eX12
  refine j_aload_n hF dX8_init_52 rfl (j_sipush hF dX8_init_53 (by decide) (j_newi hF (5007) (1600) kl_ac dX8_init_56 (by decide) (by omega) (by omega) (fun a_W hq13 => j_nm (fun X13 eX13 => ?_)) (by rfl)))
  have h_m := upn eX13 h_m hq13
  have h_N := upn eX13 h_N hq13
  have h_P := upn eX13 h_P hq13
  have h_E := upn eX13 h_E hq13
  have h_S := upn eX13 h_S hq13
  have h_L := upn eX13 h_L hq13
  have h_R := upn eX13 h_R hq13
  have h_W := ups eX13
  have hfr := hfr.trans (FR.new eX13 hq13)
  refine j_putF hF h_m fl_RX8_31 ⟨_, _, rfl⟩ rfl dX8_init_58 rfl rfl (Nat.le_of_ble_eq_true rfl) (j_nm (fun X14 eX14 => ?_))
  have hfr := hfr.trans (FR.up eX14 h_m (by decide))
  have h_N := upx eX14 h_N h_m (by decide)
  have h_P := upx eX14 h_P h_m (by decide)
  have h_E := upx eX14 h_E h_m (by decide)
  have h_S := upx eX14 h_S h_m (by decide)
  have h_L := upx eX14 h_L h_m (by decide)
  have h_R := upx eX14 h_R h_m (by decide)
  have h_W := upx eX14 h_W h_m (by decide)
  have h_m := ups eX14
  refine j_aload_n hF dX8_init_61 rfl (j_bipush hF dX8_init_62 (by decide) (j_newi hF (5008) (16) kl_ac dX8_init_64 (by decide) (by omega) (by omega) (fun a_M hq15 => j_nm (fun X15 eX15 => ?_)) (by rfl)))
  have h_m := upn eX15 h_m hq15
  have h_N := upn eX15 h_N hq15
  have h_P := upn eX15 h_P hq15
  have h_E := upn eX15 h_E hq15
  have h_S := upn eX15 h_S hq15
  have h_L := upn eX15 h_L hq15
  have h_R := upn eX15 h_R hq15
  have h_W := upn eX15 h_W hq15
  have h_M := ups eX15
  have hfr := hfr.trans (FR.new eX15 hq15)
  refine j_putF hF h_m fl_RX8_34 ⟨_, _, rfl⟩ rfl dX8_init_66 rfl rfl (Nat.le_of_ble_eq_true rfl) (j_nm (fun X16 eX16 => ?_))
  have hfr := hfr.trans (FR.up eX16 h_m (by decide))
  have h_N := upx eX16 h_N h_m (by decide)
  have h_P := upx eX16 h_P h_m (by decide)
  have h_E := upx eX16 h_E h_m (by decide)
  have h_S := upx eX16 h_S h_m (by decide)
  have h_L := upx eX16 h_L h_m (by decide)
  have h_R := upx eX16 h_R h_m (by decide)
  have h_W := upx eX16 h_W h_m (by decide)
  have h_M := upx eX16 h_M h_m (by decide)
  have h_m := ups eX16
  refine j_aload_n hF dX8_init_69 rfl (j_sipush hF dX8_init_70 (by decide) (j_newi hF (5009) (16000) kl_ac dX8_init_73 (by decide) (by omega) (by omega) (fun a_A hq17 => j_nm (fun X17 eX17 => ?_)) (by rfl)))
  have h_m := upn eX17 h_m hq17
  have h_N := upn eX17 h_N hq17
  have h_P := upn eX17 h_P hq17
  have h_E := upn eX17 h_E hq17
  have h_S := upn eX17 h_S hq17
  have h_L := upn eX17 h_L hq17
  have h_R := upn eX17 h_R hq17
  have h_W := upn eX17 h_W hq17
  have h_M := upn eX17 h_M hq17
  have h_A := ups eX17
  have hfr := hfr.trans (FR.new eX17 hq17)
  refine j_putF hF h_m fl_RX8_37 ⟨_, _, rfl⟩ rfl dX8_init_75 rfl rfl (Nat.le_of_ble_eq_true rfl) (j_nm (fun X18 eX18 => ?_))
  have hfr := hfr.trans (FR.up eX18 h_m (by decide))
  have h_N := upx eX18 h_N h_m (by decide)
  have h_P := upx eX18 h_P h_m (by decide)
  have h_E := upx eX18 h_E h_m (by decide)
  have h_S := upx eX18 h_S h_m (by decide)
  have h_L := upx eX18 h_L h_m (by decide)
  have h_R := upx eX18 h_R h_m (by decide)
  have h_W := upx eX18 h_W h_m (by decide)
  have h_M := upx eX18 h_M h_m (by decide)
  have h_A := upx eX18 h_A h_m (by decide)
  have h_m := ups eX18
  refine j_aload_n hF dX8_init_78 rfl (j_sipush hF dX8_init_79 (by decide) (j_newz hF (5010) (16000) kl_az dX8_init_82 (by decide) (by omega) (by omega) (fun a_F hq19 => j_nm (fun X19 eX19 => ?_)) (by rfl)))
  have h_m := upn eX19 h_m hq19
  have h_N := upn eX19 h_N hq19
  have h_P := upn eX19 h_P hq19
  have h_E := upn eX19 h_E hq19
  have h_S := upn eX19 h_S hq19
  have h_L := upn eX19 h_L hq19
  have h_R := upn eX19 h_R hq19
  have h_W := upn eX19 h_W hq19
  have h_M := upn eX19 h_M hq19
  have h_A := upn eX19 h_A hq19
  have h_F := ups eX19
  have hfr := hfr.trans (FR.new eX19 hq19)
  refine j_putF hF h_m fl_RX8_40 ⟨_, _, rfl⟩ rfl dX8_init_84 rfl rfl (Nat.le_of_ble_eq_true rfl) (j_nm (fun X20 eX20 => ?_))
  have hfr := hfr.trans (FR.up eX20 h_m (by decide))
  have h_N := upx eX20 h_N h_m (by decide)
  have h_P := upx eX20 h_P h_m (by decide)
  have h_E := upx eX20 h_E h_m (by decide)
  have h_S := upx eX20 h_S h_m (by decide)
  have h_L := upx eX20 h_L h_m (by decide)
  have h_R := upx eX20 h_R h_m (by decide)
  have h_W := upx eX20 h_W h_m (by decide)
  have h_M := upx eX20 h_M h_m (by decide)
  have h_A := upx eX20 h_A h_m (by decide)
  have h_F := upx eX20 h_F h_m (by decide)
  have h_m := ups eX20
  refine j_vret hF hR dX8_init_87 (by omega) (by omega) ?_
  refine ⟨rfl, fun i => match i with | 0 => mo | 1 => a_N | 2 => a_P | 3 => a_E | 4 => a_S | 5 => a_L | 6 => a_R | 7 => a_W | 8 => a_M | 9 => a_A | _ => a_F, rfl, ⟨h_m, h_N, h_P, h_E, h_S, h_L, h_R, h_W, h_M, h_A, h_F⟩, hfr⟩
