theorem SS.gr {X X1 : Hp} {B st g ml ws va qa oe dc : Nat} {v q : Int → Nat} {r r' : Int → Int} (hA : AS r) (h : SS X B st g ml ws va qa oe dc v q r) (hF : FB (B + 10) (B + 20) X X1) (hg : GR X1 (B + 10) g r') (e : ∀ i, 0 ≤ i → (2 ≤ i ∧ i < 5) ∨ (11 ≤ i ∧ i < 17) ∨ 47 ≤ i → r' i = r i) : SS X1 B st g ml ws va qa oe dc v q r' := by
  obtain ⟨fv, fq, fo, fd, h1, -, h3, h4, h5, h6, h7, h8, h9, h10, h11⟩ := h
  refine ⟨fv, fq, fo, fd, ?_, hg, (h3.keep hF (by omega)).row (fun i i1 i2 => e i (by omega) (by omega)), (h4.keep hF (by omega)).row hA (fun i i1 i2 => e i (by omega) (by omega)), hF _ _ _ h5 (by omega), hF _ _ _ h6 (by omega), hF _ _ _ h7 (by omega), hF _ _ _ h8 (by omega), h9, fun j j1 j2 => ?_, h11.row (fun i i1 i2 => e i (by omega) (by omega))⟩
  · rw [e 2 (by omega) (by omega), e 3 (by omega) (by omega), e 4 (by omega) (by omega)]; exact hF _ _ _ h1 (by omega)
  · rw [e (11 + j) (by omega) (by omega)]; exact h10 j j1 j2
def sp_undo (σ : St) : Int × St := if σ.2.2.1 = 0 then sp_fail σ (-5) else (σ.2.2.1 - 1, cpk σ.1 0 (fun j => σ.2.1 (54743 * (σ.2.2.1 - 1) + j)) 54743, σ.2.1, σ.2.2.1 - 1, σ.2.2.2)
theorem OT.swap {X' : Hp} {pt ea sa y st B : Nat} {sv : Int} {pf r : Int → Int} {kr kn : Nat} {ad bs kp : Int → Nat} {fs : Int → Option Nat} {rw_ : Int → Int → Int} (hs : 0 ≤ sv ∧ sv < 3) (hp : X' pt = some (0, ob 7 [.ref ea, .ref sa, .ref y, .ref (ad sv), vi sv])) (ha : X' sa = some (2, ra 2 3 (fo fs sv (some st)))) (hB : LB B)
    (h4 : ∀ i, 0 ≤ i → i < 3 → fs i = some (ad i) ∧ (LB (bs i) ∧ ¬ bs i = B) ∧ ST X' (bs i) (ad i) (kp i) (rw_ i)) (hn : ST X' B st kn r) (h5 : ∀ i j, 0 ≤ i → i < j → j < 3 → ¬ bs i = bs j) (h6 : ∀ i, 0 ≤ i → i < sv + 1 → rw_ i = pr pf i) (h7 : kr = kp 0 + kp 1 + kp 2) : ∃ kr', OT X' pt ea sa y (ad sv) (bs sv) sv pf kr' ∧ kr' + kp sv = kr + kn ∧ ST X' (bs sv) (ad sv) (kp sv) (pr pf sv) := by
  have p5 : ∀ i j, 0 ≤ i → i < 3 → 0 ≤ j → j < 3 → ¬ i = j → ¬ bs i = bs j := fun i j i1 i2 j1 j2 q => by
    rcases (show i < j ∨ j < i by omega) with e | e
    · exact h5 i j i1 e j2
    · exact fun e2 => h5 j i j1 e i2 e2.symm
  refine ⟨fN kp sv kn 0 + fN kp sv kn 1 + fN kp sv kn 2, ⟨fN ad sv st, fN bs sv B, fN kp sv kn, _, fun i => if i = sv then r else rw_ i, hp, ha, (h4 sv hs.1 hs.2).2.1.1, fun i i1 i2 => ?_, fun i j i1 i2 i3 => ?_, fun i i1 i2 => ?_, rfl⟩, ?_, ?_⟩
  · by_cases q : i = sv
    · subst q
      rw [fo_s, fN_s, fN_s, fN_s]
      refine ⟨rfl, ⟨hB, fun e => (h4 i i1 i2).2.1.2 e.symm⟩, ?_⟩
      show ST X' B st kn (if i = i then r else rw_ i)
      rw [if_pos rfl]; exact hn
    · rw [fo_n q, fN_n q, fN_n q, fN_n q]
      refine ⟨(h4 i i1 i2).1, ⟨(h4 i i1 i2).2.1.1, p5 i sv i1 i2 hs.1 hs.2 q⟩, ?_⟩
      show ST X' (bs i) (ad i) (kp i) (if i = sv then r else rw_ i)
      rw [if_neg q]; exact (h4 i i1 i2).2.2
  · by_cases q : i = sv
    · subst q
      rw [fN_s, fN_n (by omega)]
      exact fun e => (h4 j (by omega) i3).2.1.2 e.symm
    · by_cases q2 : j = sv
      · subst q2
        rw [fN_s, fN_n q]
        exact (h4 i i1 (by omega)).2.1.2
      · rw [fN_n q, fN_n q2]; exact h5 i j i1 i2 i3
  · show (if i = sv then r else rw_ i) = _
    rw [if_neg (by omega)]; exact h6 i i1 (by omega)
  · rcases (show sv = 0 ∨ sv = 1 ∨ sv = 2 by omega) with rfl | rfl | rfl
    · rw [fN_s, fN_n (by omega), fN_n (by omega)]; omega
    · rw [fN_s, fN_n (by omega), fN_n (by omega)]; omega
    · rw [fN_s, fN_n (by omega), fN_n (by omega)]; omega
  · rw [← h6 sv hs.1 (by omega)]; exact (h4 sv hs.1 hs.2).2.2
set_option maxRecDepth 100000 in
set_option maxHeartbeats 4000000 in
theorem c_X7_addEdge {X : Hp} {pt kap : Nat} {ct : Int} {r pf : Int → Int} {sv : Int} {er : Int → Int} (hP : PP X pt kap ct (r, pf, sv, er)) (hGV : GV r) (hE : EI er)  {fr to fb : Int} (hsv : 0 ≤ sv ∧ sv ≤ 3) (hA : AS r) {N : Int} (hI : RI r N) (hN : N + 12 < 6145) (h02 : r 2 = 0 ∨ r 2 = 1) (hC : CAN r) (hm : RM2 r) (ho : EO r) (hNC : NCy r) (h_fr : -2147483648 ≤ fr ∧ fr ≤ 2147483647) (h_to : -2147483648 ≤ to ∧ to ≤ 2147483647) (h_fb : -2147483648 ≤ fb ∧ fb ≤ 2147483647) : Cv yX7_addEdge cX7_addEdge 5 (some .int) 6 137 [.ref pt, vi fr, vi to, vi fb] X (393155 - kap) (6 * (393155 - kap)) (fun rv X' kk nn => rv = some (vi (sp_addEdge (r, pf, sv, er) fr to fb).1) ∧ PPQ X X' pt kap (ct + 1) (sp_addEdge (r, pf, sv, er) fr to fb).2 kk nn) := by
  refine Cv.of (by decide +kernel) [some (.ref pt), some (vi fr), some (vi to), some (vi fb), none] rfl (Nat.le_of_ble_eq_true rfl) (fun φ hF hR => ?_)
  obtain ⟨ea, sa, y, st, B, mk, gn, kn, kr, hO, hea, hWR, hgn, hST, hkap⟩ := id hP
  dsimp only at hO hea hWR hST
  obtain ⟨g, ml, ws, va, qa, oe, dc, v_, q_, n_, m_, z_, f_, hS, hV, hQ, hk_⟩ := id hST
  obtain ⟨av, aq, ao, af, h1, ⟨ga, gb, gc, gd, nc, ec, jd, js, je, jk, hGP, hGE⟩, ⟨mz, mt, yz, yt, hMP, x1, x2⟩, ⟨wz, wt, uz, ut, hWP, x3⟩, h5, h6, h7, h8, h9, h10, h11⟩ := id hS
  obtain ⟨g1, g1'⟩ := id hGE.1
  subst g1
  subst g1'
  have hpt := hO.pt.1
  have hLB := hO.pt.2
  unfold LB at hLB
  have b0 := hGV.1.1
  have b1 := hGV.1.2.1
  have hP2 := hP
  have hF2 := FB.refl 0 5000 X
  have hl1 := hST.le
  have hl2 := hO.le
  have hl3 := hWR.mk
  have hl4 : kpo n_ m_ = kn := hk_.symm
  refine j_aload_n hF dX7_addEdge_0 rfl (j_get hF hpt fl_RX7_27 dX7_addEdge_1 rfl (j_get hF h1 fl_RX7_43 dX7_addEdge_4 rfl (j_astore hF dX7_addEdge_7 (Nat.le_of_ble_eq_true rfl) rfl (j_aload hF dX7_addEdge_9 rfl (j_iload_n hF dX7_addEdge_11 rfl ?_)))))
  refine j_callV hF (c_X0_hasNode hGP (by omega) (by omega)) ms_X0_hasNode mv_X0_hasNode lk_RX7_63 dX7_addEdge_12 hGP.1 rfl rfl rfl (by simp [Value.category]) ⟨⟨(Nat.le_of_ble_eq_true rfl), (Nat.le_of_ble_eq_true rfl)⟩, by omega, by omega⟩ (fun v1 X1 hp1 hE1 => ?_)
  obtain ⟨rfl, he1⟩ := hp1; obtain rfl := he1.symm
  refine j_b_eq hF 34 dX7_addEdge_15 (by decide) (fun c15 => ?_) (fun c15 => ?_)
  ·
    refine j_aload_n hF dX7_addEdge_34 rfl (j_bipush hF dX7_addEdge_35 (by decide) (j_callV hF (c_X7_fail hP hE (by omega)) ms_X7_fail mv_X7_fail lk_RX7_35 dX7_addEdge_37 hpt rfl rfl rfl (by simp [Value.category]) ⟨⟨(Nat.le_of_ble_eq_true rfl), (Nat.le_of_ble_eq_true rfl)⟩, by omega, by omega⟩ (fun v2 X2 hp2 hE2 => ?_)))
    obtain ⟨rfl, hP2, hF2⟩ := hp2
    refine j_iretv hF hR dX7_addEdge_40 (by omega) (by omega) ?_
    refine PV ?_ (hP2.mono (by omega)) hF2 (by omega) (by omega) (by omega)
    unfold sp_addEdge
    first | exact pif_f (fun h => c15 h.1.1) | exact pif_f (fun h => c24 h.1.2) | exact pif_f (fun h => c31 h.2)
  ·
    refine j_aload hF dX7_addEdge_18 rfl (j_iload_n hF dX7_addEdge_20 rfl (j_callV hF (c_X0_hasNode hGP (by omega) (by omega)) ms_X0_hasNode mv_X0_hasNode lk_RX7_63 dX7_addEdge_21 hGP.1 rfl rfl rfl (by simp [Value.category]) ⟨⟨(Nat.le_of_ble_eq_true rfl), (Nat.le_of_ble_eq_true rfl)⟩, by omega, by omega⟩ (fun v3 X3 hp3 hE3 => ?_)))
    obtain ⟨rfl, he3⟩ := hp3; obtain rfl := he3.symm
    refine j_b_eq hF 34 dX7_addEdge_24 (by decide) (fun c24 => ?_) (fun c24 => ?_)
    ·
      refine j_aload_n hF dX7_addEdge_34 rfl (j_bipush hF dX7_addEdge_35 (by decide) (j_callV hF (c_X7_fail hP hE (by omega)) ms_X7_fail mv_X7_fail lk_RX7_35 dX7_addEdge_37 hpt rfl rfl rfl (by simp [Value.category]) ⟨⟨(Nat.le_of_ble_eq_true rfl), (Nat.le_of_ble_eq_true rfl)⟩, by omega, by omega⟩ (fun v4 X4 hp4 hE4 => ?_)))
      obtain ⟨rfl, hP2, hF2⟩ := hp4
      refine j_iretv hF hR dX7_addEdge_40 (by omega) (by omega) ?_
      refine PV ?_ (hP2.mono (by omega)) hF2 (by omega) (by omega) (by omega)
      unfold sp_addEdge
      first | exact pif_f (fun h => c15 h.1.1) | exact pif_f (fun h => c24 h.1.2) | exact pif_f (fun h => c31 h.2)
    ·
      refine j_iload_n hF dX7_addEdge_27 rfl (j_callS hF (c_X7_isFlag (by omega)) ms_X7_isFlag mt_X7_isFlag lk_RX7_31 dX7_addEdge_28 rfl rfl rfl (by simp [Value.category]) ⟨⟨(Nat.le_of_ble_eq_true rfl), (Nat.le_of_ble_eq_true rfl)⟩, by omega, by omega⟩ (fun v5 X5 hp5 hE5 => ?_))
      obtain ⟨rfl, he5⟩ := hp5; obtain rfl := he5.symm
      refine j_b_ne hF 41 dX7_addEdge_31 (by decide) (fun c31 => ?_) (fun c31 => ?_)
      ·
        refine j_aload_n hF dX7_addEdge_41 rfl (j_get hF hpt fl_RX7_27 dX7_addEdge_42 rfl (j_get hF h1 fl_RX7_39 dX7_addEdge_45 rfl (j_if_ne hF 82 dX7_addEdge_48 (by decide) (by omega) (fun c48 => ?_) (fun c48 => ?_))))
        ·
          refine j_aload_n hF dX7_addEdge_82 rfl (j_bipush hF dX7_addEdge_83 (by decide) (j_callV hF (c_X7_fail hP hE (by omega)) ms_X7_fail mv_X7_fail lk_RX7_35 dX7_addEdge_85 hpt rfl rfl rfl (by simp [Value.category]) ⟨⟨(Nat.le_of_ble_eq_true rfl), (Nat.le_of_ble_eq_true rfl)⟩, by omega, by omega⟩ (fun v6 X6 hp6 hE6 => ?_)))
          obtain ⟨rfl, hP2, hF2⟩ := hp6
          refine j_iretv hF hR dX7_addEdge_88 (by omega) (by omega) ?_
          refine PV ?_ (hP2.mono (by omega)) hF2 (by omega) (by omega) (by omega)
          unfold sp_addEdge
          refine (pif_t ⟨⟨c15, c24⟩, c31⟩).trans ?_
          first | exact pif_f c79 | exact pif_f (fun h => c59 h.1.1.1.2) | exact pif_f (fun h => h.1.1.1.1 (by dsimp only; omega))
        ·
          refine j_aload_n hF dX7_addEdge_51 rfl (j_get hF hpt fl_RX7_27 dX7_addEdge_52 rfl (j_iload_n hF dX7_addEdge_55 rfl (j_callV hF (c_X2_isInput hST ho (by omega)) ms_X2_isInput mv_X2_isInput lk_RX7_66 dX7_addEdge_56 h1 rfl rfl rfl (by simp [Value.category]) ⟨⟨(Nat.le_of_ble_eq_true rfl), (Nat.le_of_ble_eq_true rfl)⟩, by omega, by omega⟩ (fun v7 X7 hp7 hE7 => ?_))))
          obtain ⟨rfl, he7⟩ := hp7; obtain rfl := he7.symm
          refine j_b_ne hF 82 dX7_addEdge_59 (by decide) (fun c59 => ?_) (fun c59 => ?_)
          ·
            refine j_aload_n hF dX7_addEdge_82 rfl (j_bipush hF dX7_addEdge_83 (by decide) (j_callV hF (c_X7_fail hP hE (by omega)) ms_X7_fail mv_X7_fail lk_RX7_35 dX7_addEdge_85 hpt rfl rfl rfl (by simp [Value.category]) ⟨⟨(Nat.le_of_ble_eq_true rfl), (Nat.le_of_ble_eq_true rfl)⟩, by omega, by omega⟩ (fun v8 X8 hp8 hE8 => ?_)))
            obtain ⟨rfl, hP2, hF2⟩ := hp8
            refine j_iretv hF hR dX7_addEdge_88 (by omega) (by omega) ?_
            refine PV ?_ (hP2.mono (by omega)) hF2 (by omega) (by omega) (by omega)
            unfold sp_addEdge
            refine (pif_t ⟨⟨c15, c24⟩, c31⟩).trans ?_
            first | exact pif_f c79 | exact pif_f (fun h => c59 h.1.1.1.2) | exact pif_f (fun h => h.1.1.1.1 (by dsimp only; omega))
          ·
            refine j_aload hF dX7_addEdge_62 rfl (j_iload_n hF dX7_addEdge_64 rfl (j_iload_n hF dX7_addEdge_65 rfl (j_iload_n hF dX7_addEdge_66 rfl (j_iconst hF dX7_addEdge_67 (j_icmp_ne hF 75 dX7_addEdge_68 (by decide) (by omega) (fun c68 => ?_) (fun c68 => ?_))))))
            ·
              obtain rfl : fb = 0 := by omega
              refine j_iconst hF dX7_addEdge_75 (j_callV hF (c_X0_allowsEdge (z := 0) hGP (by omega) (by omega) ⟨c15.1, by omega⟩ ⟨c24.1, by omega⟩ (by omega) (hGE.rgd hGV.1) (fun j j1 j2 => by rw [(hGE.2.2 j j1 j2).1]; exact ⟨(hGV.1.ed j j1 (by omega)).1.1, (hGV.2.1 j j1 j2).1.1⟩) (fun j j1 j2 => by rw [(hGE.2.2 j j1 j2).2.1]; exact ⟨(hGV.1.ed j j1 (by omega)).2.1.1, (hGV.2.1 j j1 j2).1.2⟩)) ms_X0_allowsEdge mv_X0_allowsEdge lk_RX7_69 dX7_addEdge_76 hGP.1 rfl rfl rfl (by simp [Value.category]) ⟨⟨(Nat.le_of_ble_eq_true rfl), (Nat.le_of_ble_eq_true rfl)⟩, by omega, by omega⟩ (fun v9 X9 hp9 hE9 => ?_))
              obtain ⟨rfl, js3, je3, jk3, hG3, hoff⟩ := hp9
              have hFg : FB (B + 10) (B + 20) X X9 := hG3.2
              have hGP := hG3.1
              have hGE3 : GE r (r 0) (r 1) jd js3 je3 jk3 := ⟨⟨rfl, rfl⟩, hGE.2.1, fun j j1 j2 => by obtain ⟨o1, o2, o3⟩ := hoff j (by omega); rw [o1, o2, o3]; exact hGE.2.2 j j1 j2⟩
              have hS := hS.gr hA hFg ⟨_, _, _, _, _, _, _, _, _, _, hGP, hGE3⟩ (fun i _ _ => rfl)
              have hV := hV.keep hFg (by omega)
              have hQ := hQ.keep hFg (by omega)
              have hO := hO.keep hFg (by omega)
              have hpt := hO.pt.1
              have h1 := hS.o1
              have hea := hFg _ _ _ hea (by omega)
              have hWR := hWR.keep hFg (by omega)
              have hP : PP X9 pt kap ct (r, pf, sv, er) := ⟨ea, sa, y, st, B, mk, gn, kn, kr, hO, hea, hWR, hgn, ⟨_, _, _, _, _, _, _, _, _, _, _, _, _, hS, hV, hQ, hk_⟩, hkap⟩
              have hFX : FB 0 5000 X X9 := hFg.mono (by omega) (by omega)
              rw [bz_iff (allow_iff hGV hGE hNC ⟨c15.1, by omega⟩ ⟨c24.1, by omega⟩ (by omega) (by omega) (by omega))]
              refine j_b_ne hF 89 dX7_addEdge_79 (by decide) (fun c79 => ?_) (fun c79 => ?_)
              ·
                refine j_aload hF dX7_addEdge_89 rfl (j_get hF hGP.1 fl_RX7_73 dX7_addEdge_91 rfl (j_bipush hF dX7_addEdge_94 (by decide) (j_icmp_lt hF 106 dX7_addEdge_96 (by decide) (by omega) (fun c96 => ?_) (fun c96 => ?_))))
                ·
                  refine j_aload_n hF dX7_addEdge_106 rfl (j_callVv hF (c_X7_save hO ⟨hea, hWR, hS, hV, hQ⟩ hsv hGV.1 hA hI (by omega) h02 hC) ms_X7_save mv_X7_save lk_RX7_53 dX7_addEdge_107 hpt rfl rfl rfl (by simp [Value.category]) ⟨⟨(Nat.le_of_ble_eq_true rfl), (Nat.le_of_ble_eq_true rfl)⟩, by omega, by omega⟩ (fun v10 X10 k10 n10 hp10 hE10 => ?_))
                  obtain ⟨rfl, kr2, hO, ⟨hea, hWR, hS, hV, hQ⟩, hFF0, hb1, hb2, hb3⟩ := hp10
                  have hkl2 := hO.le
                  have hpt := hO.pt.1
                  have h1 := hS.o1
                  have hFF := hFX.trans hFF0
                  obtain ⟨yl, hyo⟩ := hWR.obj
                  refine j_aload_n hF dX7_addEdge_110 rfl (j_get hF hpt fl_RX7_22 dX7_addEdge_111 rfl (j_callV hF (c_X5_forgets hWR (m_edge r fr to 0)) ms_X5_forget mv_X5_forget lk_RX7_56 dX7_addEdge_114 hyo rfl rfl rfl (by simp [Value.category]) ⟨⟨(Nat.le_of_ble_eq_true rfl), (Nat.le_of_ble_eq_true rfl)⟩, by omega, by omega⟩ (fun v11 X11 hp11 hE11 => ?_)))
                  obtain ⟨rfl, hWR, hFy⟩ := hp11
                  have hO := hO.keep hFy (by omega)
                  have hpt := hO.pt.1
                  have hea := hFy _ _ _ hea (by omega)
                  have hS := hS.keep hFy (by omega)
                  have hV := hV.keep hFy (by omega)
                  have hQ := hQ.keep hFy (by omega)
                  have h1 := hS.o1
                  have hFF := hFF.trans (hFy.mono (by omega) (by omega))
                  obtain ⟨av2, aq2, ao2, af2, h1, ⟨ga2, gb2, gc2, gd2, nc2, ec2, jd2, js2, je2, jk2, hGP, hGE2⟩, -⟩ := id hS
                  obtain ⟨g1, g1'⟩ := id hGE2.1
                  subst g1
                  subst g1'
                  refine j_aload hF dX7_addEdge_117 rfl (j_iload_n hF dX7_addEdge_119 rfl (j_iload_n hF dX7_addEdge_120 rfl (j_iload_n hF dX7_addEdge_121 rfl (j_iconst hF dX7_addEdge_122 (j_icmp_ne hF 130 dX7_addEdge_123 (by decide) (by omega) (fun c123 => ?_) (fun c123 => absurd c123 (by omega)))))))
                  refine j_iconst hF dX7_addEdge_130 (j_callV hF (c_X0_appendEdge (z := 0) hGP ⟨b1.1, by omega⟩ (by omega) (by omega) (by omega)) ms_X0_appendEdge mv_X0_appendEdge lk_RX7_76 dX7_addEdge_131 hGP.1 rfl rfl rfl (by simp [Value.category]) ⟨⟨(Nat.le_of_ble_eq_true rfl), (Nat.le_of_ble_eq_true rfl)⟩, by omega, by omega⟩ (fun v12 X12 hp12 hE12 => ?_))
                  obtain ⟨rfl, hG4⟩ := hp12
                  have hFh := hG4.2
                  have b10 : 0 ≤ r 1 ∧ r 1 < 10 := ⟨b1.1, by omega⟩
                  have hme : ∀ i, 0 ≤ i → (2 ≤ i ∧ i < 5) ∨ (11 ≤ i ∧ i < 17) ∨ 47 ≤ i → m_edge r fr to 0 i = r i := fun i _ _ => me_o (by omega) (by omega) (by omega) (by omega)
                  have hS := hS.gr hA hFh ⟨_, _, _, _, _, _, _, _, _, _, hG4.1, hGE2.edge (z := 0) hGV.1 b10 (by omega) (by omega) (by omega) (fun q => by have := c79.1.2 q; omega)⟩ hme
                  have hV := (hV.keep hFh (by omega)).row (r' := m_edge r fr to 0) (fun i i1 => hme i (by omega) (by omega))
                  have hQ := (hQ.keep hFh (by omega)).row (r' := m_edge r fr to 0) (fun i i1 _ => hme i (by omega) (by omega))
                  have hP2 := PP.mk (hO.keep hFh (by omega)) (hFh _ _ _ hea (by omega)) (hWR.keep hFh (by omega)) (c := ct + 1) (by omega) (⟨g, ml, ws, va, qa, oe, dc, v_, q_, n_, m_, z_, f_, hS, hV, hQ, rfl⟩ : ST _ B st (kpo n_ m_) _)
                  have hF2 := hFF.trans (hFh.mono (by omega) (by omega))
                  refine j_iretv hF hR dX7_addEdge_134 (by omega) (by omega) ?_
                  refine PV ?_ hP2 hF2 (by omega) (by omega) (by omega)
                  unfold sp_addEdge
                  exact (pif_t ⟨⟨c15, c24⟩, c31⟩).trans ((pif_t c79).trans (pif_f (by dsimp only; omega)))
                ·
                  refine j_aload_n hF dX7_addEdge_99 rfl (j_bipush hF dX7_addEdge_100 (by decide) (j_callV hF (c_X7_fail hP hE (by omega)) ms_X7_fail mv_X7_fail lk_RX7_35 dX7_addEdge_102 hpt rfl rfl rfl (by simp [Value.category]) ⟨⟨(Nat.le_of_ble_eq_true rfl), (Nat.le_of_ble_eq_true rfl)⟩, by omega, by omega⟩ (fun v13 X13 hp13 hE13 => ?_)))
                  obtain ⟨rfl, hP2, hF2⟩ := hp13
                  refine j_iretv hF hR dX7_addEdge_105 (by omega) (by omega) ?_
                  refine PV ?_ (hP2.mono (by omega)) (hFX.trans hF2) (by omega) (by omega) (by omega)
                  unfold sp_addEdge
                  exact (pif_t ⟨⟨c15, c24⟩, c31⟩).trans ((pif_t c79).trans (pif_t (by dsimp only; omega)))
              ·
                refine j_aload_n hF dX7_addEdge_82 rfl (j_bipush hF dX7_addEdge_83 (by decide) (j_callV hF (c_X7_fail hP hE (by omega)) ms_X7_fail mv_X7_fail lk_RX7_35 dX7_addEdge_85 hpt rfl rfl rfl (by simp [Value.category]) ⟨⟨(Nat.le_of_ble_eq_true rfl), (Nat.le_of_ble_eq_true rfl)⟩, by omega, by omega⟩ (fun v14 X14 hp14 hE14 => ?_)))
                obtain ⟨rfl, hP2, hF2⟩ := hp14
                refine j_iretv hF hR dX7_addEdge_88 (by omega) (by omega) ?_
                refine PV ?_ (hP2.mono (by omega)) (hFX.trans hF2) (by omega) (by omega) (by omega)
                unfold sp_addEdge
                refine (pif_t ⟨⟨c15, c24⟩, c31⟩).trans ?_
                first | exact pif_f c79 | exact pif_f (fun h => c59 h.1.1.1.2) | exact pif_f (fun h => h.1.1.1.1 (by dsimp only; omega))
            ·
              obtain rfl : fb = 1 := c68
              refine j_iconst hF dX7_addEdge_71 (j_goto hF 76 dX7_addEdge_72 (by decide) (j_callV hF (c_X0_allowsEdge (z := 1) hGP (by omega) (by omega) ⟨c15.1, by omega⟩ ⟨c24.1, by omega⟩ (by omega) (hGE.rgd hGV.1) (fun j j1 j2 => by rw [(hGE.2.2 j j1 j2).1]; exact ⟨(hGV.1.ed j j1 (by omega)).1.1, (hGV.2.1 j j1 j2).1.1⟩) (fun j j1 j2 => by rw [(hGE.2.2 j j1 j2).2.1]; exact ⟨(hGV.1.ed j j1 (by omega)).2.1.1, (hGV.2.1 j j1 j2).1.2⟩)) ms_X0_allowsEdge mv_X0_allowsEdge lk_RX7_69 dX7_addEdge_76 hGP.1 rfl rfl rfl (by simp [Value.category]) ⟨⟨(Nat.le_of_ble_eq_true rfl), (Nat.le_of_ble_eq_true rfl)⟩, by omega, by omega⟩ (fun v15 X15 hp15 hE15 => ?_)))
              obtain ⟨rfl, js3, je3, jk3, hG3, hoff⟩ := hp15
              have hFg : FB (B + 10) (B + 20) X X15 := hG3.2
              have hGP := hG3.1
              have hGE3 : GE r (r 0) (r 1) jd js3 je3 jk3 := ⟨⟨rfl, rfl⟩, hGE.2.1, fun j j1 j2 => by obtain ⟨o1, o2, o3⟩ := hoff j (by omega); rw [o1, o2, o3]; exact hGE.2.2 j j1 j2⟩
              have hS := hS.gr hA hFg ⟨_, _, _, _, _, _, _, _, _, _, hGP, hGE3⟩ (fun i _ _ => rfl)
              have hV := hV.keep hFg (by omega)
              have hQ := hQ.keep hFg (by omega)
              have hO := hO.keep hFg (by omega)
              have hpt := hO.pt.1
              have h1 := hS.o1
              have hea := hFg _ _ _ hea (by omega)
              have hWR := hWR.keep hFg (by omega)
              have hP : PP X15 pt kap ct (r, pf, sv, er) := ⟨ea, sa, y, st, B, mk, gn, kn, kr, hO, hea, hWR, hgn, ⟨_, _, _, _, _, _, _, _, _, _, _, _, _, hS, hV, hQ, hk_⟩, hkap⟩
              have hFX : FB 0 5000 X X15 := hFg.mono (by omega) (by omega)
              rw [bz_iff (allow_iff hGV hGE hNC ⟨c15.1, by omega⟩ ⟨c24.1, by omega⟩ (by omega) (by omega) (by omega))]
              refine j_b_ne hF 89 dX7_addEdge_79 (by decide) (fun c79 => ?_) (fun c79 => ?_)
              ·
                refine j_aload hF dX7_addEdge_89 rfl (j_get hF hGP.1 fl_RX7_73 dX7_addEdge_91 rfl (j_bipush hF dX7_addEdge_94 (by decide) (j_icmp_lt hF 106 dX7_addEdge_96 (by decide) (by omega) (fun c96 => ?_) (fun c96 => ?_))))
                ·
                  refine j_aload_n hF dX7_addEdge_106 rfl (j_callVv hF (c_X7_save hO ⟨hea, hWR, hS, hV, hQ⟩ hsv hGV.1 hA hI (by omega) h02 hC) ms_X7_save mv_X7_save lk_RX7_53 dX7_addEdge_107 hpt rfl rfl rfl (by simp [Value.category]) ⟨⟨(Nat.le_of_ble_eq_true rfl), (Nat.le_of_ble_eq_true rfl)⟩, by omega, by omega⟩ (fun v16 X16 k16 n16 hp16 hE16 => ?_))
                  obtain ⟨rfl, kr2, hO, ⟨hea, hWR, hS, hV, hQ⟩, hFF0, hb1, hb2, hb3⟩ := hp16
                  have hkl2 := hO.le
                  have hpt := hO.pt.1
                  have h1 := hS.o1
                  have hFF := hFX.trans hFF0
                  obtain ⟨yl, hyo⟩ := hWR.obj
                  refine j_aload_n hF dX7_addEdge_110 rfl (j_get hF hpt fl_RX7_22 dX7_addEdge_111 rfl (j_callV hF (c_X5_forgets hWR (m_edge r fr to 1)) ms_X5_forget mv_X5_forget lk_RX7_56 dX7_addEdge_114 hyo rfl rfl rfl (by simp [Value.category]) ⟨⟨(Nat.le_of_ble_eq_true rfl), (Nat.le_of_ble_eq_true rfl)⟩, by omega, by omega⟩ (fun v17 X17 hp17 hE17 => ?_)))
                  obtain ⟨rfl, hWR, hFy⟩ := hp17
                  have hO := hO.keep hFy (by omega)
                  have hpt := hO.pt.1
                  have hea := hFy _ _ _ hea (by omega)
                  have hS := hS.keep hFy (by omega)
                  have hV := hV.keep hFy (by omega)
                  have hQ := hQ.keep hFy (by omega)
                  have h1 := hS.o1
                  have hFF := hFF.trans (hFy.mono (by omega) (by omega))
                  obtain ⟨av2, aq2, ao2, af2, h1, ⟨ga2, gb2, gc2, gd2, nc2, ec2, jd2, js2, je2, jk2, hGP, hGE2⟩, -⟩ := id hS
                  obtain ⟨g1, g1'⟩ := id hGE2.1
                  subst g1
                  subst g1'
                  refine j_aload hF dX7_addEdge_117 rfl (j_iload_n hF dX7_addEdge_119 rfl (j_iload_n hF dX7_addEdge_120 rfl (j_iload_n hF dX7_addEdge_121 rfl (j_iconst hF dX7_addEdge_122 (j_icmp_ne hF 130 dX7_addEdge_123 (by decide) (by omega) (fun c123 => absurd c123 (by omega)) (fun c123 => ?_))))))
                  refine j_iconst hF dX7_addEdge_126 (j_goto hF 131 dX7_addEdge_127 (by decide) (j_callV hF (c_X0_appendEdge (z := 1) hGP ⟨b1.1, by omega⟩ (by omega) (by omega) (by omega)) ms_X0_appendEdge mv_X0_appendEdge lk_RX7_76 dX7_addEdge_131 hGP.1 rfl rfl rfl (by simp [Value.category]) ⟨⟨(Nat.le_of_ble_eq_true rfl), (Nat.le_of_ble_eq_true rfl)⟩, by omega, by omega⟩ (fun v18 X18 hp18 hE18 => ?_)))
                  obtain ⟨rfl, hG4⟩ := hp18
                  have hFh := hG4.2
                  have b10 : 0 ≤ r 1 ∧ r 1 < 10 := ⟨b1.1, by omega⟩
                  have hme : ∀ i, 0 ≤ i → (2 ≤ i ∧ i < 5) ∨ (11 ≤ i ∧ i < 17) ∨ 47 ≤ i → m_edge r fr to 1 i = r i := fun i _ _ => me_o (by omega) (by omega) (by omega) (by omega)
                  have hS := hS.gr hA hFh ⟨_, _, _, _, _, _, _, _, _, _, hG4.1, hGE2.edge (z := 1) hGV.1 b10 (by omega) (by omega) (by omega) (fun q => by have := c79.1.2 q; omega)⟩ hme
                  have hV := (hV.keep hFh (by omega)).row (r' := m_edge r fr to 1) (fun i i1 => hme i (by omega) (by omega))
                  have hQ := (hQ.keep hFh (by omega)).row (r' := m_edge r fr to 1) (fun i i1 _ => hme i (by omega) (by omega))
                  have hP2 := PP.mk (hO.keep hFh (by omega)) (hFh _ _ _ hea (by omega)) (hWR.keep hFh (by omega)) (c := ct + 1) (by omega) (⟨g, ml, ws, va, qa, oe, dc, v_, q_, n_, m_, z_, f_, hS, hV, hQ, rfl⟩ : ST _ B st (kpo n_ m_) _)
                  have hF2 := hFF.trans (hFh.mono (by omega) (by omega))
                  refine j_iretv hF hR dX7_addEdge_134 (by omega) (by omega) ?_
                  refine PV ?_ hP2 hF2 (by omega) (by omega) (by omega)
                  unfold sp_addEdge
                  exact (pif_t ⟨⟨c15, c24⟩, c31⟩).trans ((pif_t c79).trans (pif_f (by dsimp only; omega)))
                ·
                  refine j_aload_n hF dX7_addEdge_99 rfl (j_bipush hF dX7_addEdge_100 (by decide) (j_callV hF (c_X7_fail hP hE (by omega)) ms_X7_fail mv_X7_fail lk_RX7_35 dX7_addEdge_102 hpt rfl rfl rfl (by simp [Value.category]) ⟨⟨(Nat.le_of_ble_eq_true rfl), (Nat.le_of_ble_eq_true rfl)⟩, by omega, by omega⟩ (fun v19 X19 hp19 hE19 => ?_)))
                  obtain ⟨rfl, hP2, hF2⟩ := hp19
                  refine j_iretv hF hR dX7_addEdge_105 (by omega) (by omega) ?_
                  refine PV ?_ (hP2.mono (by omega)) (hFX.trans hF2) (by omega) (by omega) (by omega)
                  unfold sp_addEdge
                  exact (pif_t ⟨⟨c15, c24⟩, c31⟩).trans ((pif_t c79).trans (pif_t (by dsimp only; omega)))
              ·
                refine j_aload_n hF dX7_addEdge_82 rfl (j_bipush hF dX7_addEdge_83 (by decide) (j_callV hF (c_X7_fail hP hE (by omega)) ms_X7_fail mv_X7_fail lk_RX7_35 dX7_addEdge_85 hpt rfl rfl rfl (by simp [Value.category]) ⟨⟨(Nat.le_of_ble_eq_true rfl), (Nat.le_of_ble_eq_true rfl)⟩, by omega, by omega⟩ (fun v20 X20 hp20 hE20 => ?_)))
                obtain ⟨rfl, hP2, hF2⟩ := hp20
                refine j_iretv hF hR dX7_addEdge_88 (by omega) (by omega) ?_
                refine PV ?_ (hP2.mono (by omega)) (hFX.trans hF2) (by omega) (by omega) (by omega)
                unfold sp_addEdge
                refine (pif_t ⟨⟨c15, c24⟩, c31⟩).trans ?_
                first | exact pif_f c79 | exact pif_f (fun h => c59 h.1.1.1.2) | exact pif_f (fun h => h.1.1.1.1 (by dsimp only; omega))
      ·
        refine j_aload_n hF dX7_addEdge_34 rfl (j_bipush hF dX7_addEdge_35 (by decide) (j_callV hF (c_X7_fail hP hE (by omega)) ms_X7_fail mv_X7_fail lk_RX7_35 dX7_addEdge_37 hpt rfl rfl rfl (by simp [Value.category]) ⟨⟨(Nat.le_of_ble_eq_true rfl), (Nat.le_of_ble_eq_true rfl)⟩, by omega, by omega⟩ (fun v21 X21 hp21 hE21 => ?_)))
        obtain ⟨rfl, hP2, hF2⟩ := hp21
        refine j_iretv hF hR dX7_addEdge_40 (by omega) (by omega) ?_
        refine PV ?_ (hP2.mono (by omega)) hF2 (by omega) (by omega) (by omega)
        unfold sp_addEdge
        first | exact pif_f (fun h => c15 h.1.1) | exact pif_f (fun h => c24 h.1.2) | exact pif_f (fun h => c31 h.2)

