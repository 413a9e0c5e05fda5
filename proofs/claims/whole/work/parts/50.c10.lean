theorem BC.bm {r rc fp rc' fp' : Int → Int} {n pc pc' : Int} (h : BC r rc fp n) (hn : n ≤ pc) (g : BM rc fp pc rc' fp' pc') : BC r rc' fp' n := fun i i1 i2 q d st => by
  rw [g.2.2 i (by omega)] at st
  exact g.2.1 _ (h i i1 i2 q d st)
theorem BC.next {r rc fp : Int → Int} {n : Int} (h : BC r rc fp n) (g : ∀ q d, Sgo r (fp n / 100) (fp n % 100) q d → rc (100 * q + d) = 1) : BC r rc fp (n + 1) := fun i i1 i2 q d st => by
  by_cases e : i = n
  · subst e; exact g q d st
  · exact h i i1 (by omega) q d st
theorem Sgo.lo {r : Int → Int} {p c q d : Int} (h : Sgo r p c q d) (hp : p < 6) : ∃ e, 0 ≤ e ∧ e < r 1 ∧ r (17 + e) = p ∧ q = 6 + e ∧ d = c := by
  rcases h with h | h
  · exact h.2
  · exact absurd h.1 (by omega)
theorem Sgo.hi {r : Int → Int} {p c q d : Int} (h : Sgo r p c q d) (hp : 6 ≤ p) : ¬ m_moved r (p - 6) c = -1 ∧ q = r (27 + p - 6) ∧ d = m_moved r (p - 6) c := by
  rcases h with h | h
  · exact absurd h.1 (by omega)
  · exact h.2
theorem LR.ext {row row' fp : Int → Int} {n : Int} (h : LR row fp n) (e : ∀ q, row' q = row q) : LR row' fp n := by
  have : row' = row := funext e
  rw [this]; exact h
theorem fu_sh {f : Int → Int} {k z R q : Int} : fu f (R + k) z (R + q) = fu (fun q => f (R + q)) k z q := by
  unfold fu
  by_cases e : q = k
  · rw [if_pos e, if_pos (by omega)]
  · rw [if_neg e, if_neg (by omega)]
theorem fu_same {f : Int → Int} {k R q : Int} : fu (fun q => f (R + q)) k (f (R + k)) q = f (R + q) := by
  unfold fu
  by_cases e : q = k
  · rw [if_pos e, e]
  · rw [if_neg e]
set_option maxRecDepth 100000 in
set_option maxHeartbeats 4000000 in
theorem c_X5_search {X : Hp} {b : Nat} {y l i s p : Nat}  {pc gn sr : Int} {fl ff fs fp : Int → Int} (hM : YP X b y l i s p 25600 1600 1600 1600 pc gn sr fl ff fs fp) {b2 : Nat} {g2 d2 s2 e2 k2 : Nat} {nc2 ec2 : Int} {fd2 fs2 fe2 fk2 : Int → Int} (hO : GP X b2 g2 d2 s2 e2 k2 nc2 ec2 fd2 fs2 fe2 fk2) (hdis : b2 + 10 ≤ b ∨ b + 10 ≤ b2) {r : Int → Int} (hE : GE r nc2 ec2 fd2 fs2 fe2 fk2) (hG : GV r) {a c : Int} (hv : vt r a c) (hsr : 0 ≤ sr ∧ sr ≤ 900000000) (hfs : ∀ j, 0 ≤ j → j < 1600 → 0 ≤ fs j ∧ fs j ≤ sr) : Ct yX5_search cX5_search 8 none 2 46 [.ref y, .ref g2, vi (100 * a + c)] X 0 0 (fun rv X' => rv = none ∧ ∃ fl' fs' fp' pc', YPG X X' b y l i s p 25600 1600 1600 1600 pc' gn (sr + 1) fl' ff fs' fp' ∧ (∀ j, j < (16 * (100 * a + c)) ∨ (16 * (100 * a + c)) + 16 ≤ j → fl' j = fl j) ∧ (∀ q, 0 ≤ q → q < 16 → ILs r a c q (fl' ((16 * (100 * a + c)) + q))) ∧ ∀ j, 0 ≤ j → j < 1600 → 0 ≤ fs' j ∧ fs' j ≤ (sr + 1)) := by
  refine Ct.of (by decide +kernel) [some (.ref y), some (.ref g2), some (vi (100 * a + c)), none, none, none, none, none] rfl (Nat.le_of_ble_eq_true rfl) (fun φ hF hR => ?_)
  have hM := hM.gg
  obtain ⟨⟨rfl, rfl⟩, hE2, hE3⟩ := hE
  have ha := hv.1.rg hG.1
  have hc0 := hv.2.1
  have hg0 := hG.1.1
  have hg1_ := hG.1.2.1
  refine j_iload_n hF dX5_search_0 rfl (j_bipush hF dX5_search_1 (by decide) (j_imul hF dX5_search_3 ?_))
  rw [show (100 * a + c) * 16 = 16 * (100 * a + c) by omega]
  refine j_istore_n hF dX5_search_4 (Nat.le_of_ble_eq_true rfl) rfl (j_aload_n hF dX5_search_5 rfl (j_get hF hM.1.1 fl_RX5_11 dX5_search_6 rfl (j_iload_n hF dX5_search_9 rfl (j_iload_n hF dX5_search_10 rfl (j_bipush hF dX5_search_11 (by decide) ?_)))))
  refine j_iadd hF dX5_search_13 (j_iconst hF dX5_search_14 (j_callS hF (c_J7_fill_fda19 hM.1.2.1 (by omega) (by omega) (by omega) (by omega)) ms_J7_fill_fda19 mt_J7_fill_fda19 lk_RX5_43 dX5_search_15 rfl rfl rfl (by simp [Value.category]) ⟨⟨(Nat.le_of_ble_eq_true rfl), (Nat.le_of_ble_eq_true rfl)⟩, by omega, by omega⟩ (fun v1 X1 hp1 hE1 => ?_)))
  obtain ⟨rfl, g1, hl1, hg1, hg2, hk1⟩ := hp1
  have hO := hO.keep hk1 (by omega)
  have hM : YPG X X1 b y l i s p 25600 1600 1600 1600 pc gn sr g1 ff fs fp := ⟨⟨hk1 _ _ _ hM.1.1 (by omega), hl1, hk1 _ _ _ hM.1.2.2.1 (by omega), hk1 _ _ _ hM.1.2.2.2.1 (by omega), hk1 _ _ _ hM.1.2.2.2.2 (by omega)⟩, hM.2.trans (hk1.mono (by omega) (by omega))⟩
  refine j_aload_n hF dX5_search_18 rfl (j_dup hF dX5_search_19 rfl (j_get hF hM.1.1 fl_RX5_49 dX5_search_20 rfl (j_iconst hF dX5_search_23 (j_iadd hF dX5_search_24 (j_put hF hM.1.1 fl_RX5_49 dX5_search_25 rfl rfl (Nat.le_of_ble_eq_true rfl) (j_nm (fun X2 eX2 => ?_)))))))
  have hO := hO.keep (FB.up (lo := b) (hi := b + 10) eX2 hM.1.1 (by omega) (by omega)) (by omega)
  have hM := hM.u_sr eX2
  refine j_aload_n hF dX5_search_28 rfl (j_iconst hF dX5_search_29 (j_put hF hM.1.1 fl_RX5_52 dX5_search_30 rfl rfl (Nat.le_of_ble_eq_true rfl) (j_nm (fun X3 eX3 => ?_))))
  have hO := hO.keep (FB.up (lo := b) (hi := b + 10) eX3 hM.1.1 (by omega) (by omega)) (by omega)
  have hM := hM.u_pc eX3
  refine j_aload_n hF dX5_search_33 rfl (j_iload_n hF dX5_search_34 rfl (j_bipush hF dX5_search_35 (by decide) (j_idiv hF dX5_search_37 (by omega) (j_iload_n hF dX5_search_38 rfl (j_bipush hF dX5_search_39 (by decide) ?_)))))
  refine j_irem hF dX5_search_41 (by omega) ?_
  rw [show (100 * a + c) / 100 = a by omega, show (100 * a + c) % 100 = c by omega]
  refine j_callV hF (c_X5_addPlace hM.1 (by omega) (by omega) (by omega) (fun _ => ⟨by omega, by omega⟩)) ms_X5_addPlace mv_X5_addPlace lk_RX5_55 dX5_search_42 hM.1.1 rfl rfl rfl (by simp [Value.category]) ⟨⟨(Nat.le_of_ble_eq_true rfl), (Nat.le_of_ble_eq_true rfl)⟩, by omega, by omega⟩ (fun v4 X4 hp4 hE4 => ?_)
  obtain ⟨rfl, fs9, fp9, pc9, hM9, hA⟩ := hp4
  have hO := hO.keep hM9.2 (by omega)
  have hM := hM.tr hM9
  have hB0 := BF.zero (r := r) (a := a) (c := c) (sr := (sr + 1)) (fs := fs) (fp := fp) (fun j j1 j2 => by have := hfs j j1 j2; omega)
  obtain ⟨⟨ls9, hB9⟩, hS9, hBM⟩ := hA.bf hB0 (by omega) (by omega) (Rc.refl r a c)
  have hrg := hA.rg (by omega) (fun j j1 j2 => by have := hfs j j1 j2; omega)
  refine j_iconst hF dX5_search_45 (j_istore hF dX5_search_46 (Nat.le_of_ble_eq_true rfl) rfl ?_)
  have L48 : ∀ (n : Nat) (ix : Int) (X1 : Hp) (pc1 : Int) (fl1 fs1 fp1 ls1 : Int → Int), (1600 - ix).toNat < n → 0 ≤ ix ∧ ix ≤ pc1 → YPG X X1 b y l i s p 25600 1600 1600 1600 pc1 gn (sr + 1) fl1 ff fs1 fp1 → GP X1 b2 g2 d2 s2 e2 k2 (r 0) (r 1) fd2 fs2 fe2 fk2 → BF r a c (sn_ fs1 (sr + 1)) fp1 pc1 ls1 → BC r (sn_ fs1 (sr + 1)) fp1 ix → sn_ fs1 (sr + 1) (100 * a + c) = 1 → LR (fun q => fl1 ((16 * (100 * a + c)) + q)) fp1 ix → (∀ j, j < (16 * (100 * a + c)) ∨ (16 * (100 * a + c)) + 16 ≤ j → fl1 j = fl j) → (∀ j, 0 ≤ j → j < 1600 → 0 ≤ fs1 j ∧ fs1 j ≤ (sr + 1)) → Jd φ X1 0 0 48 [some (.ref y), some (.ref g2), some (vi (100 * a + c)), some (vi (16 * (100 * a + c))), some (vi ix), none, none, none] [] := by
    intro n
    induction n with
    | zero => intro ix X1 pc1 fl1 fs1 fp1 ls1 hfu; exact absurd hfu (by omega)
    | succ n ih =>
      intro ix X1 pc1 fl1 fs1 fp1 ls1 hfu hi hM hO hB hC hS hL hK hrg
      have hpb := hB.1
      have J127 : ix < pc1 → ∀ (X2 : Hp) (fl2 : Int → Int), YPG X X2 b y l i s p 25600 1600 1600 1600 pc1 gn (sr + 1) fl2 ff fs1 fp1 → GP X2 b2 g2 d2 s2 e2 k2 (r 0) (r 1) fd2 fs2 fe2 fk2 → LR (fun q => fl2 ((16 * (100 * a + c)) + q)) fp1 (ix + 1) → (∀ j, j < (16 * (100 * a + c)) ∨ (16 * (100 * a + c)) + 16 ≤ j → fl2 j = fl j) → Jd φ X2 0 0 127 [some (.ref y), some (.ref g2), some (vi (100 * a + c)), some (vi (16 * (100 * a + c))), some (vi ix), some (vi (fp1 ix / 100)), some (vi (fp1 ix % 100)), none] [] := by
        intro hlt X2 fl2 hM hO hL2 hK2
        obtain ⟨hw1, hw2, hw3⟩ := hB.2.2.2.1 ix hi.1 hlt
        have hvt := hv.reach hG hw3
        refine j_iconst hF dX5_search_127 (j_istore hF dX5_search_128 (Nat.le_of_ble_eq_true rfl) rfl ?_)
        have L130 : ∀ (n : Nat) (j : Int) (X3 : Hp) (pc3 : Int) (fs3 fp3 ls3 : Int → Int), (r 1 - j).toNat < n → 0 ≤ j ∧ j ≤ r 1 → YPG X X3 b y l i s p 25600 1600 1600 1600 pc3 gn (sr + 1) fl2 ff fs3 fp3 → GP X3 b2 g2 d2 s2 e2 k2 (r 0) (r 1) fd2 fs2 fe2 fk2 → BF r a c (sn_ fs3 (sr + 1)) fp3 pc3 ls3 → BC r (sn_ fs3 (sr + 1)) fp3 ix → sn_ fs3 (sr + 1) (100 * a + c) = 1 → (∀ j, 0 ≤ j → j < 1600 → 0 ≤ fs3 j ∧ fs3 j ≤ (sr + 1)) → (∀ i, i < pc1 → fp3 i = fp1 i) → pc1 ≤ pc3 → (∀ e, 0 ≤ e → e < j → r (17 + e) = fp1 ix / 100 → sn_ fs3 (sr + 1) (100 * (6 + e) + fp1 ix % 100) = 1) → Jd φ X3 0 0 130 [some (.ref y), some (.ref g2), some (vi (100 * a + c)), some (vi (16 * (100 * a + c))), some (vi ix), some (vi (fp1 ix / 100)), some (vi (fp1 ix % 100)), some (vi j)] [] := by
          intro n
          induction n with
          | zero => intro j X3 pc3 fs3 fp3 ls3 hfu; exact absurd hfu (by omega)
          | succ n ih2 =>
            intro j X3 pc3 fs3 fp3 ls3 hfu hj hM hO hB hC hS hrg hfp hpc hD
            refine j_iload hF dX5_search_130 rfl (j_aload_n hF dX5_search_132 rfl (j_get hF hO.1 fl_RX5_59 dX5_search_133 rfl (j_icmp_ge hF 168 dX5_search_136 (by decide) (by omega) (fun c136 => ?_) (fun c136 => ?_))))
            ·
              have ej : j = r 1 := by omega
              have J190 : ∀ z : Int, (-1 ≤ z ∧ z ≤ 99) → ((z = -1 ∧ ∀ q d, Sgo r (fp1 ix / 100) (fp1 ix % 100) q d → sn_ fs3 (sr + 1) (100 * q + d) = 1) ∨ (¬ z = -1 ∧ 6 ≤ (fp1 ix / 100) ∧ (fp1 ix / 100) - 6 < r 1 ∧ z = m_moved r ((fp1 ix / 100) - 6) (fp1 ix % 100))) → Jd φ X3 0 0 190 [some (.ref y), some (.ref g2), some (vi (100 * a + c)), some (vi (16 * (100 * a + c))), some (vi ix), some (vi (fp1 ix / 100)), some (vi (fp1 ix % 100)), some (vi j)] [vi z] := by
                intro z hzr hz
                refine j_istore hF dX5_search_190 (Nat.le_of_ble_eq_true rfl) rfl (j_iload hF dX5_search_192 rfl (j_iconst hF dX5_search_194 (j_icmp_eq hF 214 dX5_search_195 (by decide) (by omega) (fun c195 => ?_) (fun c195 => ?_))))
                ·
                  have hN := (hz.resolve_right (fun q => q.1 c195)).2
                  refine j_iinc hF dX5_search_214 rfl (Nat.le_of_ble_eq_true rfl) rfl (j_goto hF 48 dX5_search_217 (by decide) ?_)
                  refine j_unset 5 (j_unset 6 (j_unset 7 ?_))
                  exact ih (ix + 1) _ pc3 fl2 fs3 fp3 ls3 (by omega) (by omega) hM hO hB (BC.next hC (by rw [hfp ix (by omega)]; exact hN)) hS (hL2.bm (fun i i1 i2 => hfp i (by omega))) hK2 hrg
                ·
                  obtain ⟨-, l6, l7, hzm⟩ := hz.resolve_left (fun q => c195 q.1)
                  have eN := hG.1.ed (fp1 ix / 100 - 6) (by omega) (by omega)
                  rw [show (27 : Int) + (fp1 ix / 100 - 6) = 27 + fp1 ix / 100 - 6 by omega] at eN
                  refine j_aload_n hF dX5_search_198 rfl (j_aload_n hF dX5_search_199 rfl (j_get hF hO.1 fl_RX5_71 dX5_search_200 rfl (j_iload hF dX5_search_203 rfl (j_bipush hF dX5_search_205 (by decide) (j_isub hF dX5_search_207 ?_)))))
                  refine j_iald hF hO.2.2.2.1 dX5_search_208 (by omega) (fun ra1 rb1 => ?_)
                  rw [(hE3 (fp1 ix / 100 - 6) (by omega) (by omega)).2.1, show (27 : Int) + (fp1 ix / 100 - 6) = 27 + fp1 ix / 100 - 6 by omega]
                  refine j_iload hF dX5_search_209 rfl (j_callV hF (c_X5_addPlace hM.1 (by omega) (by omega) (by omega) (fun q => AP.room hB (by omega) q)) ms_X5_addPlace mv_X5_addPlace lk_RX5_55 dX5_search_211 hM.1.1 rfl rfl rfl (by simp [Value.category]) ⟨⟨(Nat.le_of_ble_eq_true rfl), (Nat.le_of_ble_eq_true rfl)⟩, by omega, by omega⟩ (fun v2 X2 hp2 hE2 => ?_))
                  obtain ⟨rfl, fs9, fp9, pc9, hM9, hA⟩ := hp2
                  have hO := hO.keep hM9.2 (by omega)
                  have hM := hM.tr hM9
                  obtain ⟨⟨ls9, hB9⟩, hS9, hBM⟩ := hA.bf hB (by omega) (by omega) (Rc.step hw3 (Or.inr ⟨l6, by rw [← hzm]; exact c195, rfl, hzm⟩))
                  have hrg := hA.rg (by omega) hrg
                  have hC := hC.bm (by omega) hBM
                  have hS := hBM.2.1 _ hS
                  have hpc9 := hBM.1
                  have hfp : ∀ i, i < pc1 → fp9 i = fp1 i := fun i i1 => (hBM.2.2 i (by omega)).trans (hfp i i1)
                  have hN : ∀ q d, Sgo r (fp1 ix / 100) (fp1 ix % 100) q d → sn_ fs9 (sr + 1) (100 * q + d) = 1 := by
                    intro q d st
                    obtain ⟨t1, t2, t3⟩ := st.hi l6
                    rw [t2, t3, ← hzm]
                    exact hS9
                  refine j_iinc hF dX5_search_214 rfl (Nat.le_of_ble_eq_true rfl) rfl (j_goto hF 48 dX5_search_217 (by decide) ?_)
                  refine j_unset 5 (j_unset 6 (j_unset 7 ?_))
                  exact ih (ix + 1) _ pc9 fl2 fs9 fp9 ls9 (by omega) (by omega) hM hO hB9 (BC.next hC (by rw [hfp ix (by omega)]; exact hN)) hS (hL2.bm (fun i i1 i2 => hfp i (by omega))) hK2 hrg
              refine j_iload hF dX5_search_168 rfl (j_bipush hF dX5_search_170 (by decide) (j_icmp_ge hF 179 dX5_search_172 (by decide) (by omega) (fun c172 => ?_) (fun c172 => ?_)))
              ·
                have l7 : fp1 ix / 100 - 6 < r 1 := by
                  rcases hvt.1 with q | q <;> omega
                refine j_aload_n hF dX5_search_179 rfl (j_iload hF dX5_search_180 rfl (j_bipush hF dX5_search_182 (by decide) (j_isub hF dX5_search_184 (j_iload hF dX5_search_185 rfl ?_))))
                have f0 := hE3 (fp1 ix / 100 - 6) (by omega) (by omega)
                have f1 := hG.1.ed (fp1 ix / 100 - 6) (by omega) (by omega)
                have f2 := hG.1.dep _ f1.1.1 f1.1.2
                have hdp : fd2 (fs2 (fp1 ix / 100 - 6)) = r (5 + r (17 + (fp1 ix / 100 - 6))) := by rw [f0.1]; exact hE2 _ f1.1.1 f1.1.2
                have hmr : -1 ≤ m_moved r (fp1 ix / 100 - 6) (fp1 ix % 100) ∧ m_moved r (fp1 ix / 100 - 6) (fp1 ix % 100) ≤ 99 := by
                  rcases mv_rg hG.1 (e := fp1 ix / 100 - 6) (t := fp1 ix % 100) (by omega) (by omega) with q | q <;> omega
                have hvd : r (5 + r (17 + (fp1 ix / 100 - 6))) = 2 ∨ (r (5 + r (17 + (fp1 ix / 100 - 6))) = 1 ∧ fp1 ix % 100 % 10 = 0) ∨ (r (5 + r (17 + (fp1 ix / 100 - 6))) = 0 ∧ fp1 ix % 100 % 100 = 0) := by
                  have q := hvt.2.2
                  unfold m_depth at q
                  rw [if_neg (by omega), show 17 + fp1 ix / 100 - 6 = 17 + (fp1 ix / 100 - 6) by omega] at q
                  exact q
                refine j_callV hF (c_X0_timeAfter hO (by omega) (by omega) (by rw [f0.1]; omega) (by rw [hdp]; omega) (by rw [f0.2.2]; exact m_kind_rg _ _)) ms_X0_timeAfter mv_X0_timeAfter lk_RX5_67 dX5_search_187 hO.1 rfl rfl rfl (by simp [Value.category]) ⟨⟨(Nat.le_of_ble_eq_true rfl), (Nat.le_of_ble_eq_true rfl)⟩, by omega, by omega⟩ (fun v1 X1 hp1 hE1 => ?_)
                obtain ⟨rfl, he1⟩ := hp1; obtain rfl := he1.symm
                rw [moved_eq hG (by omega) (by omega) f0.2.2 hdp hvd]
                by_cases hz : m_moved r (fp1 ix / 100 - 6) (fp1 ix % 100) = -1
                · exact J190 _ (by omega) (Or.inl ⟨hz, fun q d st => absurd hz (st.hi (by omega)).1⟩)
                · exact J190 _ hmr (Or.inr ⟨hz, by omega, by omega, rfl⟩)
              ·
                refine j_iconst hF dX5_search_175 (j_goto hF 190 dX5_search_176 (by decide) ?_)
                refine J190 (-1) (by omega) (Or.inl ⟨rfl, fun q d st => ?_⟩)
                obtain ⟨e, e1, e2, e3, e4, e5⟩ := st.lo (by omega)
                rw [e4, e5]
                exact hD e e1 (by omega) e3
            ·
              have e0 := hE3 j hj.1 (by omega)
              have e1 := hG.1.ed j hj.1 (by omega)
              refine j_aload_n hF dX5_search_139 rfl (j_get hF hO.1 fl_RX5_64 dX5_search_140 rfl (j_iload hF dX5_search_143 rfl (j_iald hF hO.2.2.1 dX5_search_145 (by omega) (fun ra2 rb2 => ?_))))
              rw [e0.1]
              refine j_iload hF dX5_search_146 rfl (j_icmp_ne hF 162 dX5_search_148 (by decide) (by omega) (fun c148 => ?_) (fun c148 => ?_))
              ·
                have hD2 : ∀ e, 0 ≤ e → e < j + 1 → r (17 + e) = fp1 ix / 100 → sn_ fs3 (sr + 1) (100 * (6 + e) + fp1 ix % 100) = 1 := by
                  intro e e1 e2 e3
                  by_cases q : e = j
                  · rw [q] at e3; exact absurd e3 c148
                  · exact hD e e1 (by omega) e3
                refine j_iinc hF dX5_search_162 rfl (Nat.le_of_ble_eq_true rfl) rfl (j_goto hF 130 dX5_search_165 (by decide) ?_)
                exact ih2 (j + 1) _ _ _ _ _ (by omega) (by omega) hM hO hB hC hS hrg hfp (by omega) hD2
              ·
                refine j_aload_n hF dX5_search_151 rfl (j_bipush hF dX5_search_152 (by decide) (j_iload hF dX5_search_154 rfl (j_iadd hF dX5_search_156 (j_iload hF dX5_search_157 rfl (j_callV hF (c_X5_addPlace hM.1 (by omega) (by omega) (by omega) (fun q => AP.room hB (by omega) q)) ms_X5_addPlace mv_X5_addPlace lk_RX5_55 dX5_search_159 hM.1.1 rfl rfl rfl (by simp [Value.category]) ⟨⟨(Nat.le_of_ble_eq_true rfl), (Nat.le_of_ble_eq_true rfl)⟩, by omega, by omega⟩ (fun v3 X3 hp3 hE3 => ?_))))))
                obtain ⟨rfl, fs9, fp9, pc9, hM9, hA⟩ := hp3
                have hO := hO.keep hM9.2 (by omega)
                have hM := hM.tr hM9
                obtain ⟨⟨ls9, hB9⟩, hS9, hBM⟩ := hA.bf hB (by omega) (by omega) (Rc.step hw3 (Or.inl ⟨by omega, j, hj.1, by omega, c148, rfl, rfl⟩))
                have hrg := hA.rg (by omega) hrg
                have hC := hC.bm (by omega) hBM
                have hS := hBM.2.1 _ hS
                have hpc9 := hBM.1
                have hfp : ∀ i, i < pc1 → fp9 i = fp1 i := fun i i1 => (hBM.2.2 i (by omega)).trans (hfp i i1)
                have hB := hB9
                have hD2 : ∀ e, 0 ≤ e → e < j + 1 → r (17 + e) = fp1 ix / 100 → sn_ fs9 (sr + 1) (100 * (6 + e) + fp1 ix % 100) = 1 := by
                  intro e e1 e2 e3
                  by_cases q : e = j
                  · rw [q]; exact hS9
                  · exact hBM.2.1 _ (hD e e1 (by omega) e3)
                refine j_iinc hF dX5_search_162 rfl (Nat.le_of_ble_eq_true rfl) rfl (j_goto hF 130 dX5_search_165 (by decide) ?_)
                exact ih2 (j + 1) _ _ _ _ _ (by omega) (by omega) hM hO hB hC hS hrg hfp (by omega) hD2
        exact L130 ((r 1).toNat + 1) 0 _ pc1 fs1 fp1 ls1 (by omega) (by omega) hM hO hB hC hS hrg (fun _ _ => rfl) (Int.le_refl _) (fun e e1 e2 => absurd e2 (by omega))
      refine j_iload hF dX5_search_48 rfl (j_sipush hF dX5_search_50 (by decide) (j_icmp_ge hF 220 dX5_search_53 (by decide) (by omega) (fun c53 => ?_) (fun c53 => ?_)))
      ·
        refine j_vret hF hR dX5_search_220 (by omega) (by omega) ?_
        have ek : ix = pc1 := by omega
        refine ⟨rfl, fl1, fs1, fp1, pc1, hM, hK, fun q q1 q2 => ?_, hrg⟩
        have e1 : fl1 ((16 * (100 * a + c)) + q) = ls1 q := LR.fin hB (ek ▸ hL) q1 q2
        rw [e1]
        exact BF.fin hG.1 hB (ek ▸ hC) ha hv.2.1 hS q1 q2
      ·
        refine j_iload hF dX5_search_56 rfl (j_aload_n hF dX5_search_58 rfl (j_get hF hM.1.1 fl_RX5_52 dX5_search_59 rfl (j_icmp_ge hF 220 dX5_search_62 (by decide) (by omega) (fun c62 => ?_) (fun c62 => ?_))))
        ·
          refine j_vret hF hR dX5_search_220 (by omega) (by omega) ?_
          have ek : ix = pc1 := by omega
          refine ⟨rfl, fl1, fs1, fp1, pc1, hM, hK, fun q q1 q2 => ?_, hrg⟩
          have e1 : fl1 ((16 * (100 * a + c)) + q) = ls1 q := LR.fin hB (ek ▸ hL) q1 q2
          rw [e1]
          exact BF.fin hG.1 hB (ek ▸ hC) ha hv.2.1 hS q1 q2
        ·
          obtain ⟨hw1, hw2, hw3⟩ := hB.2.2.2.1 ix hi.1 (by omega)
          refine j_aload_n hF dX5_search_65 rfl (j_get hF hM.1.1 fl_RX5_21 dX5_search_66 rfl (j_iload hF dX5_search_69 rfl (j_iald hF hM.1.2.2.2.2 dX5_search_71 (by omega) (fun ra1 rb1 => ?_))))
          refine j_bipush hF dX5_search_72 (by decide) (j_idiv hF dX5_search_74 (by omega) (j_istore hF dX5_search_75 (Nat.le_of_ble_eq_true rfl) rfl (j_aload_n hF dX5_search_77 rfl (j_get hF hM.1.1 fl_RX5_21 dX5_search_78 rfl (j_iload hF dX5_search_81 rfl ?_)))))
          refine j_iald hF hM.1.2.2.2.2 dX5_search_83 (by omega) (fun ra2 rb2 => ?_)
          refine j_bipush hF dX5_search_84 (by decide) (j_irem hF dX5_search_86 (by omega) (j_istore hF dX5_search_87 (Nat.le_of_ble_eq_true rfl) rfl (j_aload_n hF dX5_search_89 rfl (j_get hF hM.1.1 fl_RX5_11 dX5_search_90 rfl (j_iload_n hF dX5_search_93 rfl ?_)))))
          refine j_iload hF dX5_search_94 rfl (j_iadd hF dX5_search_96 (j_iald hF hM.1.2.1 dX5_search_97 (by omega) (fun ra3 rb3 => ?_)))
          refine j_iconst hF dX5_search_98 (j_icmp_eq hF 116 dX5_search_99 (by decide) (by omega) (fun c99 => ?_) (fun c99 => ?_))
          ·
            have hcn : fl1 ((16 * (100 * a + c)) + fp1 ix / 100) = -1 ∨ fp1 ix % 100 < fl1 ((16 * (100 * a + c)) + fp1 ix / 100) := Or.inl c99
            refine j_aload_n hF dX5_search_116 rfl (j_get hF hM.1.1 fl_RX5_11 dX5_search_117 rfl (j_iload_n hF dX5_search_120 rfl (j_iload hF dX5_search_121 rfl (j_iadd hF dX5_search_123 (j_iload hF dX5_search_124 rfl ?_)))))
            refine j_iast hF hM.1.2.1 dX5_search_126 (by omega) (by omega) (j_nm (fun X4 eX4 => ?_))
            have hO := hO.keep (FB.up (lo := b) (hi := b + 10) eX4 hM.1.2.1 (by omega) (by omega)) (by omega)
            have hM := hM.u_fl eX4
            refine J127 (by omega) _ _ hM hO ?_ (fun j j1 => by rw [fu_n (by omega)]; exact hK j j1)
            have hLn := hL.next (z := fp1 ix % 100) hi.1 hw1 (by rw [if_pos hcn])
            refine LR.ext hLn (fun q => ?_)
            exact fu_sh
          ·
            refine j_iload hF dX5_search_102 rfl (j_aload_n hF dX5_search_104 rfl (j_get hF hM.1.1 fl_RX5_11 dX5_search_105 rfl (j_iload_n hF dX5_search_108 rfl (j_iload hF dX5_search_109 rfl (j_iadd hF dX5_search_111 ?_)))))
            refine j_iald hF hM.1.2.1 dX5_search_112 (by omega) (fun ra5 rb5 => ?_)
            refine j_icmp_ge hF 127 dX5_search_113 (by decide) (by omega) (fun c113 => ?_) (fun c113 => ?_)
            ·
              exact J127 (by omega) _ _ hM hO (LR.ext (hL.next (z := fl1 ((16 * (100 * a + c)) + fp1 ix / 100)) hi.1 hw1 (by rw [if_neg (by omega)])) (fun q => fu_same.symm)) hK
            ·
              have hcn : fl1 ((16 * (100 * a + c)) + fp1 ix / 100) = -1 ∨ fp1 ix % 100 < fl1 ((16 * (100 * a + c)) + fp1 ix / 100) := Or.inr (by omega)
              refine j_aload_n hF dX5_search_116 rfl (j_get hF hM.1.1 fl_RX5_11 dX5_search_117 rfl (j_iload_n hF dX5_search_120 rfl (j_iload hF dX5_search_121 rfl (j_iadd hF dX5_search_123 (j_iload hF dX5_search_124 rfl ?_)))))
              refine j_iast hF hM.1.2.1 dX5_search_126 (by omega) (by omega) (j_nm (fun X6 eX6 => ?_))
              have hO := hO.keep (FB.up (lo := b) (hi := b + 10) eX6 hM.1.2.1 (by omega) (by omega)) (by omega)
              have hM := hM.u_fl eX6
              refine J127 (by omega) _ _ hM hO ?_ (fun j j1 => by rw [fu_n (by omega)]; exact hK j j1)
              have hLn := hL.next (z := fp1 ix % 100) hi.1 hw1 (by rw [if_pos hcn])
              refine LR.ext hLn (fun q => ?_)
              exact fu_sh
  exact L48 1601 0 _ pc9 g1 fs9 fp9 ls9 (by omega) (by have := hB9.1; omega) hM hO hB9 (fun i i1 i2 => absurd i2 (by omega)) hS9 (fun q q1 q2 => Or.inl ⟨hg1 _ (by omega) (by omega), fun i i1 i2 => absurd i2 (by omega)⟩) hg2 hrg

