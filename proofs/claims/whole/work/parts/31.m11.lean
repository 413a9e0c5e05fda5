theorem nx_spec {r : Int → Int} {w nd : Int} (hA : AS r) (hT : AT r) (hw : 0 ≤ w ∧ w ≤ 1) : NX r w nd (12 * w + r (307 + w)) (nxt r w nd) := by
  have key : ∀ n : Nat, n ≤ 12 → ∃ v, NX r w nd (12 * w + n) v := by
    intro n
    induction n with
    | zero => intro _; exact ⟨-1, by rw [show 12 * w + ((0 : Nat) : Int) = 12 * w by omega]; exact NX.z _ _ _⟩
    | succ n ih =>
      intro hn
      obtain ⟨v, hv⟩ := ih (by omega)
      have t0 := hT (12 * w + n) (by omega) (by omega)
      rw [show 12 * w + ((n + 1 : Nat) : Int) = 12 * w + n + 1 by omega]
      by_cases h1 : r (309 + (12 * w + n)) = nd ∧ onF r w (1000 * nd + r (333 + (12 * w + n)))
      · by_cases h2 : v = -1 ∨ r (333 + (12 * w + n)) < v
        · exact ⟨_, hv.take (by omega) t0 h1.1 h1.2 h2⟩
        · exact ⟨v, hv.keep (fun _ _ => by omega)⟩
      · exact ⟨v, hv.keep (fun a b => absurd ⟨a, b⟩ h1)⟩
  have a0 := hA w hw.1 (by omega)
  obtain ⟨v, hv⟩ := key (r (307 + w)).toNat (by omega)
  rw [show (((r (307 + w)).toNat : Nat) : Int) = r (307 + w) by omega] at hv
  rw [nxt_eq hv]; exact hv
theorem m_out_n {r : Int → Int} {w nd t i : Int} (hw : 0 ≤ w ∧ w ≤ 1) (hA : AS r) (hf : FX r w nd t (fix r w nd t)) (hi : i < 307 ∨ 357 ≤ i) : m_out r w nd t i = r i := by
  have a0 := hA w hw.1 (by omega)
  have f0 := hf.1
  simp only [m_out, m_sf]
  rw [if_neg (by omega), fu_n (by omega)]
/-! the digest -/
def mx (h : Int64) (v : Int) : Int64 := 31 * h + (Int32.ofInt v).toInt64
def hf (f : Int → Int) : Nat → Int64 → Int64
  | 0, h => h
  | n + 1, h => mx (hf f n h) (f n)
def h_mail (r : Int → Int) (w : Int) : Nat → Int64 → Int64
  | 0, h => h
  | e + 1, h => hf (fun k => r (67 + 12 * (10 * w + e) + k)) (r (47 + (10 * w + e))).toNat (mx (h_mail r w e h) (r (47 + (10 * w + e))))
noncomputable def h_not (r : Int → Int) (w : Int) : Nat → Int64 → Int64
  | 0, h => h
  | n + 1, h => mx (mx (h_not r w n h) (m_asked r w n)) (nxt r w n)
noncomputable def h_view (r : Int → Int) (w : Int) (h : Int64) : Int64 := mx (hf (frAt r w) (cf (oF r w) 16000).toNat (mx (mx h (cf (aF r w) 16000)) (cf (oF r w) 16000))) (r (357 + w))
noncomputable def h_wk (r : Int → Int) (w : Int) (h : Int64) : Int64 := h_view r w (h_not r w (r 0).toNat (h_mail r w (r 1).toNat h))
def h_nodes (r : Int → Int) : Nat → Int64 → Int64
  | 0, h => h
  | n + 1, h => mx (mx (h_nodes r n h) (r (5 + n))) (r (11 + n))
def h_edges (r : Int → Int) : Nat → Int64 → Int64
  | 0, h => h
  | n + 1, h => mx (mx (mx (h_edges r n h) (r (17 + n))) (r (27 + n))) (m_kind r n)
noncomputable def h_dig (σ : St) : Int64 := mx (mx (mx (h_wk σ.1 1 (h_wk σ.1 0 (h_edges σ.1 (σ.1 1).toNat (mx (h_nodes σ.1 (σ.1 0).toNat (mx (hf σ.2.2.2 4 2731) (σ.1 0))) (σ.1 1))))) (σ.1 3)) (σ.1 4)) σ.2.2.1
theorem FR.new {X X1 : Hp} {q : Nat} {v : Option (Nat × Cel)} (e : X1 = va_up X q v) (h : X q = none) : FR X X1 := fun b lb cb hb _ => upn e hb h
set_option maxRecDepth 100000 in
set_option maxHeartbeats 4000000 in
theorem c_X8_deliver {X : Hp} {ad : Nat → Nat} {r pf : Int → Int} {sv : Int} {er sn lw rc wt : Int → Int} {wg : Int} {ls ac fi : Int → Int} {as : Int} {hh : Int64} (hM : MM X ad r pf sv er sn lw rc wt wg ls ac fi as hh) {w nd o tg N : Int} (hG : GI r) (hE : EI er) (hI : RI r N) (hN : N + 12 < 8192) (hm : RM2 r) (hs : 0 ≤ sv ∧ sv ≤ 3) (hA : AS r) (hT : AT r) (hv : VC r) (h_w : -2147483648 ≤ w ∧ w ≤ 2147483647) (h_nd : -2147483648 ≤ nd ∧ nd ≤ 2147483647) (h_o : -2147483648 ≤ o ∧ o ≤ 2147483647) (h_tg : -2147483648 ≤ tg ∧ tg ≤ 2147483647) : Ct yX8_deliver cX8_deliver 8 (some .int) 4 99 [.ref (ad 0), vi w, vi nd, vi o, vi tg] X 0 0 (fun rv X' => rv = some (vi (sp_deliver (r, pf, sv, er) w nd o tg).1) ∧ MX X X' ad (sp_deliver (r, pf, sv, er) w nd o tg).2) := by
  refine Ct.of (by decide +kernel) [some (.ref (ad 0)), some (vi w), some (vi nd), some (vi o), some (vi tg), none, none, none] rfl (Nat.le_of_ble_eq_true rfl) (fun φ hF hR => ?_)
  have hM := hM.g
  have g0 := hG.1
  have g1 := hG.2.1
  have hv3 := hv.1
  refine j_iload_n hF dX8_deliver_0 rfl (j_callS hF (c_X8_isWorker (by omega)) ms_X8_isWorker mt_X8_isWorker lk_RX8_111 dX8_deliver_1 rfl rfl rfl (by simp [Value.category]) ⟨⟨(Nat.le_of_ble_eq_true rfl), (Nat.le_of_ble_eq_true rfl)⟩, by omega, by omega⟩ (fun v1 X1 hp1 hE1 => ?_))
  obtain ⟨rfl, he1⟩ := hp1; obtain rfl := he1.symm
  refine j_b_eq hF 31 dX8_deliver_4 (by decide) (fun c4 => ?_) (fun c4 => ?_)
  ·
    refine j_aload_n hF dX8_deliver_31 rfl (j_bipush hF dX8_deliver_32 (by decide) (j_callV hF (c_X8_fails hM.1 (by omega) hE) ms_X8_fails mv_X8_fails lk_RX8_52 dX8_deliver_34 hM.1.1 rfl rfl rfl (by simp [Value.category]) ⟨⟨(Nat.le_of_ble_eq_true rfl), (Nat.le_of_ble_eq_true rfl)⟩, by omega, by omega⟩ (fun v2 X2 hp2 hE2 => ?_)))
    obtain ⟨rfl, hM1⟩ := hp2
    have hM := hM.tr hM1
    refine j_iret hF hR dX8_deliver_37 (by omega) (by omega) ?_
    refine PU ?_ (MX.of hM)
    unfold sp_deliver
    first | exact (pif_t ⟨⟨⟨c4, c12⟩, c20⟩, c28⟩).trans ((pif_f (fun h => h.elim c54 (fun g => g c63))).trans (pif_t c80)) | exact (pif_t ⟨⟨⟨c4, c12⟩, c20⟩, c28⟩).trans (pif_t (Or.inl c54)) | exact (pif_t ⟨⟨⟨c4, c12⟩, c20⟩, c28⟩).trans (pif_t (Or.inr c63)) | exact pif_f (fun h => c4 h.1.1.1) | exact pif_f (fun h => c12 h.1.1.2) | exact pif_f (fun h => c20 h.1.2) | exact pif_f (fun h => c28 h.2)
  ·
    refine j_aload_n hF dX8_deliver_7 rfl (j_iload_n hF dX8_deliver_8 rfl (j_callV hF (c_X8_isNode hM.1 hG (by omega)) ms_X8_isNode mv_X8_isNode lk_RX8_71 dX8_deliver_9 hM.1.1 rfl rfl rfl (by simp [Value.category]) ⟨⟨(Nat.le_of_ble_eq_true rfl), (Nat.le_of_ble_eq_true rfl)⟩, by omega, by omega⟩ (fun v3 X3 hp3 hE3 => ?_)))
    obtain ⟨rfl, he3⟩ := hp3; obtain rfl := he3.symm
    refine j_b_eq hF 31 dX8_deliver_12 (by decide) (fun c12 => ?_) (fun c12 => ?_)
    ·
      refine j_aload_n hF dX8_deliver_31 rfl (j_bipush hF dX8_deliver_32 (by decide) (j_callV hF (c_X8_fails hM.1 (by omega) hE) ms_X8_fails mv_X8_fails lk_RX8_52 dX8_deliver_34 hM.1.1 rfl rfl rfl (by simp [Value.category]) ⟨⟨(Nat.le_of_ble_eq_true rfl), (Nat.le_of_ble_eq_true rfl)⟩, by omega, by omega⟩ (fun v4 X4 hp4 hE4 => ?_)))
      obtain ⟨rfl, hM1⟩ := hp4
      have hM := hM.tr hM1
      refine j_iret hF hR dX8_deliver_37 (by omega) (by omega) ?_
      refine PU ?_ (MX.of hM)
      unfold sp_deliver
      first | exact (pif_t ⟨⟨⟨c4, c12⟩, c20⟩, c28⟩).trans ((pif_f (fun h => h.elim c54 (fun g => g c63))).trans (pif_t c80)) | exact (pif_t ⟨⟨⟨c4, c12⟩, c20⟩, c28⟩).trans (pif_t (Or.inl c54)) | exact (pif_t ⟨⟨⟨c4, c12⟩, c20⟩, c28⟩).trans (pif_t (Or.inr c63)) | exact pif_f (fun h => c4 h.1.1.1) | exact pif_f (fun h => c12 h.1.1.2) | exact pif_f (fun h => c20 h.1.2) | exact pif_f (fun h => c28 h.2)
    ·
      refine j_iload hF dX8_deliver_15 rfl (j_callS hF (c_X8_isWorker (by omega)) ms_X8_isWorker mt_X8_isWorker lk_RX8_111 dX8_deliver_17 rfl rfl rfl (by simp [Value.category]) ⟨⟨(Nat.le_of_ble_eq_true rfl), (Nat.le_of_ble_eq_true rfl)⟩, by omega, by omega⟩ (fun v5 X5 hp5 hE5 => ?_))
      obtain ⟨rfl, he5⟩ := hp5; obtain rfl := he5.symm
      refine j_b_eq hF 31 dX8_deliver_20 (by decide) (fun c20 => ?_) (fun c20 => ?_)
      ·
        refine j_aload_n hF dX8_deliver_31 rfl (j_bipush hF dX8_deliver_32 (by decide) (j_callV hF (c_X8_fails hM.1 (by omega) hE) ms_X8_fails mv_X8_fails lk_RX8_52 dX8_deliver_34 hM.1.1 rfl rfl rfl (by simp [Value.category]) ⟨⟨(Nat.le_of_ble_eq_true rfl), (Nat.le_of_ble_eq_true rfl)⟩, by omega, by omega⟩ (fun v6 X6 hp6 hE6 => ?_)))
        obtain ⟨rfl, hM1⟩ := hp6
        have hM := hM.tr hM1
        refine j_iret hF hR dX8_deliver_37 (by omega) (by omega) ?_
        refine PU ?_ (MX.of hM)
        unfold sp_deliver
        first | exact (pif_t ⟨⟨⟨c4, c12⟩, c20⟩, c28⟩).trans ((pif_f (fun h => h.elim c54 (fun g => g c63))).trans (pif_t c80)) | exact (pif_t ⟨⟨⟨c4, c12⟩, c20⟩, c28⟩).trans (pif_t (Or.inl c54)) | exact (pif_t ⟨⟨⟨c4, c12⟩, c20⟩, c28⟩).trans (pif_t (Or.inr c63)) | exact pif_f (fun h => c4 h.1.1.1) | exact pif_f (fun h => c12 h.1.1.2) | exact pif_f (fun h => c20 h.1.2) | exact pif_f (fun h => c28 h.2)
      ·
        refine j_aload_n hF dX8_deliver_23 rfl (j_iload_n hF dX8_deliver_24 rfl (j_callV hF (c_X8_areEdges hM.1 hG (by omega)) ms_X8_areEdges mv_X8_areEdges lk_RX8_131 dX8_deliver_25 hM.1.1 rfl rfl rfl (by simp [Value.category]) ⟨⟨(Nat.le_of_ble_eq_true rfl), (Nat.le_of_ble_eq_true rfl)⟩, by omega, by omega⟩ (fun v7 X7 hp7 hE7 => ?_)))
        obtain ⟨rfl, he7⟩ := hp7; obtain rfl := he7.symm
        refine j_b_ne hF 38 dX8_deliver_28 (by decide) (fun c28 => ?_) (fun c28 => ?_)
        ·
          have pw1 := (pw_shl g1.1 g1.2).2
          have a0 := hA w c4.1 (by omega)
          refine j_aload_n hF dX8_deliver_38 rfl (j_iload_n hF dX8_deliver_39 rfl (j_callV hF (c_X8_findsFrontier hM.1 hG (by omega)) ms_X8_findsFrontier mv_X8_findsFrontier lk_RX8_159 dX8_deliver_40 hM.1.1 rfl rfl rfl (by simp [Value.category]) ⟨⟨(Nat.le_of_ble_eq_true rfl), (Nat.le_of_ble_eq_true rfl)⟩, by omega, by omega⟩ (fun v8 X8 hp8 hE8 => ?_)))
          obtain ⟨rfl, rc0, wt0, wg0, ls0, ac0, fi0, as0, hM1, hFI⟩ := hp8
          have hM := hM.tr hM1
          refine j_aload_n hF dX8_deliver_43 rfl (j_iload_n hF dX8_deliver_44 rfl (j_iload_n hF dX8_deliver_45 rfl (j_callV hF (c_X8_nextAt hM.1 hFI (by omega) hA hT (by omega)) ms_X8_nextAt mv_X8_nextAt lk_RX8_162 dX8_deliver_46 hM.1.1 rfl rfl rfl (by simp [Value.category]) ⟨⟨(Nat.le_of_ble_eq_true rfl), (Nat.le_of_ble_eq_true rfl)⟩, by omega, by omega⟩ (fun v9 X9 hp9 hE9 => ?_))))
          obtain ⟨rfl, he9⟩ := hp9; obtain rfl := he9.symm
          have hnx := nx_spec (nd := nd) hA hT c4
          have nr := hnx.rg
          refine j_istore hF dX8_deliver_49 (Nat.le_of_ble_eq_true rfl) rfl (j_iload hF dX8_deliver_51 rfl (j_iconst hF dX8_deliver_53 (j_icmp_eq hF 66 dX8_deliver_54 (by decide) (by omega) (fun c54 => ?_) (fun c54 => ?_))))
          ·
            refine j_aload_n hF dX8_deliver_66 rfl (j_bipush hF dX8_deliver_67 (by decide) (j_callV hF (c_X8_fails hM.1 (by omega) hE) ms_X8_fails mv_X8_fails lk_RX8_52 dX8_deliver_69 hM.1.1 rfl rfl rfl (by simp [Value.category]) ⟨⟨(Nat.le_of_ble_eq_true rfl), (Nat.le_of_ble_eq_true rfl)⟩, by omega, by omega⟩ (fun v10 X10 hp10 hE10 => ?_)))
            obtain ⟨rfl, hM1⟩ := hp10
            have hM := hM.tr hM1
            refine j_iret hF hR dX8_deliver_72 (by omega) (by omega) ?_
            refine PU ?_ (MX.of hM)
            unfold sp_deliver
            first | exact (pif_t ⟨⟨⟨c4, c12⟩, c20⟩, c28⟩).trans ((pif_f (fun h => h.elim c54 (fun g => g c63))).trans (pif_t c80)) | exact (pif_t ⟨⟨⟨c4, c12⟩, c20⟩, c28⟩).trans (pif_t (Or.inl c54)) | exact (pif_t ⟨⟨⟨c4, c12⟩, c20⟩, c28⟩).trans (pif_t (Or.inr c63)) | exact pif_f (fun h => c4 h.1.1.1) | exact pif_f (fun h => c12 h.1.1.2) | exact pif_f (fun h => c20 h.1.2) | exact pif_f (fun h => c28 h.2)
          ·
            refine j_aload_n hF dX8_deliver_57 rfl (j_iload_n hF dX8_deliver_58 rfl (j_iload_n hF dX8_deliver_59 rfl (j_callV hF (c_X8_startAt hM.1 hG (by omega) (by omega)) ms_X8_startAt mv_X8_startAt lk_RX8_134 dX8_deliver_60 hM.1.1 rfl rfl rfl (by simp [Value.category]) ⟨⟨(Nat.le_of_ble_eq_true rfl), (Nat.le_of_ble_eq_true rfl)⟩, by omega, by omega⟩ (fun v11 X11 hp11 hE11 => ?_))))
            obtain ⟨rfl, he11⟩ := hp11; obtain rfl := he11.symm
            refine j_b_ne hF 73 dX8_deliver_63 (by decide) (fun c63 => ?_) (fun c63 => ?_)
            ·
              refine j_aload_n hF dX8_deliver_73 rfl (j_iload_n hF dX8_deliver_74 rfl (j_iload hF dX8_deliver_75 rfl (j_callV hF (c_X8_isOneFull hM.1 hG (by omega) (by omega)) ms_X8_isOneFull mv_X8_isOneFull lk_RX8_137 dX8_deliver_77 hM.1.1 rfl rfl rfl (by simp [Value.category]) ⟨⟨(Nat.le_of_ble_eq_true rfl), (Nat.le_of_ble_eq_true rfl)⟩, by omega, by omega⟩ (fun v12 X12 hp12 hE12 => ?_))))
              obtain ⟨rfl, he12⟩ := hp12; obtain rfl := he12.symm
              refine j_b_eq hF 90 dX8_deliver_80 (by decide) (fun c80 => ?_) (fun c80 => ?_)
              ·
                refine j_aload_n hF dX8_deliver_90 rfl (j_callV hF (c_X8_saves hM.1 (by omega)) ms_X8_saves mv_X8_saves lk_RX8_56 dX8_deliver_91 hM.1.1 rfl rfl rfl (by simp [Value.category]) ⟨⟨(Nat.le_of_ble_eq_true rfl), (Nat.le_of_ble_eq_true rfl)⟩, by omega, by omega⟩ (fun v13 X13 hp13 hE13 => ?_))
                obtain ⟨rfl, hM1⟩ := hp13
                have hM := hM.tr hM1
                obtain ⟨x0, hx0a, hx0b, hx0⟩ : ∃ x, (12 * w ≤ x ∧ x < 12 * w + r (307 + w)) ∧ True ∧ (r (309 + x) = nd ∧ r (333 + x) = nxt r w nd) := by
                  rcases hnx with ⟨q, -⟩ | ⟨-, ⟨x, x1, x2, x3, x4, x5⟩, -⟩
                  · exact absurd q c54
                  · exact ⟨x, ⟨x1, x2⟩, trivial, x3, x4⟩
                refine j_bipush hF dX8_deliver_94 (by decide) (j_iload_n hF dX8_deliver_96 rfl (j_imul hF dX8_deliver_97 (j_istore hF dX8_deliver_98 (Nat.le_of_ble_eq_true rfl) rfl ?_)))
                have L100 : ∀ (n : Nat) (a : Int), (x0 + 1 - a).toNat < n → (12 * w ≤ a ∧ a ≤ x0) → (∀ x, 12 * w ≤ x → x < a → ¬ (r (309 + x) = nd ∧ r (333 + x) = nxt r w nd)) → Jd φ X13 0 0 100 [some (.ref (ad 0)), some (vi w), some (vi nd), some (vi o), some (vi tg), some (vi (nxt r w nd)), some (vi a), none] [] := by
                  intro n
                  induction n with
                  | zero => intro a hfu; exact absurd hfu (by omega)
                  | succ n ih =>
                    intro a hfu ha hno
                    refine j_aload_n hF dX8_deliver_100 rfl (j_get hF hM.1.1 fl_RX8_8 dX8_deliver_101 rfl (j_sipush hF dX8_deliver_104 (by decide) (j_iload hF dX8_deliver_107 rfl (j_iadd hF dX8_deliver_109 (j_iald hF hM.1.2.1 dX8_deliver_110 (by omega) (fun ra1 rb1 => ?_))))))
                    refine j_iload_n hF dX8_deliver_111 rfl (j_icmp_ne hF 131 dX8_deliver_112 (by decide) (by omega) (fun c112 => ?_) (fun c112 => ?_))
                    ·
                      refine j_iinc hF dX8_deliver_131 rfl (Nat.le_of_ble_eq_true rfl) rfl (j_goto hF 100 dX8_deliver_134 (by decide) ?_)
                      have hna : ¬ a = x0 := fun q => c112 (by rw [q]; exact hx0.1)
                      refine ih (a + 1) (by omega) (by omega) (fun x x1 x2 => ?_)
                      rcases (show x < a ∨ x = a by omega) with q | rfl
                      · exact hno x x1 q
                      · exact fun g => c112 g.1
                    ·
                      refine j_aload_n hF dX8_deliver_115 rfl (j_get hF hM.1.1 fl_RX8_8 dX8_deliver_116 rfl (j_sipush hF dX8_deliver_119 (by decide) (j_iload hF dX8_deliver_122 rfl (j_iadd hF dX8_deliver_124 (j_iald hF hM.1.2.1 dX8_deliver_125 (by omega) (fun ra2 rb2 => ?_))))))
                      refine j_iload hF dX8_deliver_126 rfl (j_icmp_eq hF 137 dX8_deliver_128 (by decide) (by omega) (fun c128 => ?_) (fun c128 => ?_))
                      ·
                        refine j_aload_n hF dX8_deliver_137 rfl (j_get hF hM.1.1 fl_RX8_8 dX8_deliver_138 rfl (j_sipush hF dX8_deliver_141 (by decide) (j_iload_n hF dX8_deliver_144 rfl (j_iadd hF dX8_deliver_145 (j_dup2 hF dX8_deliver_146 rfl rfl ?_)))))
                        refine j_iald hF hM.1.2.1 dX8_deliver_147 (by omega) (fun ra3 rb3 => ?_)
                        refine j_iconst hF dX8_deliver_148 (j_isub hF dX8_deliver_149 (j_iast hF hM.1.2.1 dX8_deliver_150 (by omega) (by omega) (j_nm (fun X4 eX4 => ?_))))
                        have hM := hM.u_r eX4
                        refine j_iload hF dX8_deliver_151 rfl (j_istore hF dX8_deliver_153 (Nat.le_of_ble_eq_true rfl) rfl ?_)
                        have hma : r (309 + a) = nd ∧ r (333 + a) = nxt r w nd := ⟨c112, c128⟩
                        have L155 : ∀ (n : Nat) (k : Int) (Y : Hp), (12 * w + r (307 + w) - k).toNat < n → a ≤ k ∧ k ≤ 12 * w + (r (307 + w) - 1) → MG X Y ad (m_sf (fu r (307 + w) (r (307 + w) - 1)) a k) (sv_p r pf sv) (sv_n sv) er sn lw rc0 wt0 wg0 ls0 ac0 fi0 as0 hh → Jd φ Y 0 0 155 [some (.ref (ad 0)), some (vi w), some (vi nd), some (vi o), some (vi tg), some (vi (nxt r w nd)), some (vi a), some (vi k)] [] := by
                          intro n
                          induction n with
                          | zero => intro k Y hfu; exact absurd hfu (by omega)
                          | succ n ih =>
                            intro k Y hfu hk hM
                            refine j_iload hF dX8_deliver_155 rfl (j_bipush hF dX8_deliver_157 (by decide) (j_iload_n hF dX8_deliver_159 rfl (j_imul hF dX8_deliver_160 (j_aload_n hF dX8_deliver_161 rfl (j_get hF hM.1.1 fl_RX8_8 dX8_deliver_162 rfl ?_)))))
                            refine j_sipush hF dX8_deliver_165 (by decide) (j_iload_n hF dX8_deliver_168 rfl (j_iadd hF dX8_deliver_169 (j_iald hF hM.1.2.1 dX8_deliver_170 (by omega) (fun ra1 rb1 => ?_))))
                            have e1 : m_sf (fu r (307 + w) (r (307 + w) - 1)) a k (307 + w) = r (307 + w) - 1 := by simp only [m_sf]; rw [if_neg (by omega), fu_s]
                            refine j_iadd hF dX8_deliver_171 (j_icmp_ge hF 229 dX8_deliver_172 (by decide) (by omega) (fun c172 => ?_) (fun c172 => ?_))
                            ·
                              have ek : k = 12 * w + (r (307 + w) - 1) := by omega
                              have hfx : FX r w nd (nxt r w nd) a := ⟨by omega, hma, hno⟩
                              have ea := fix_eq hfx
                              have hfx2 := hfx
                              rw [← ea] at hfx2
                              obtain ⟨r1, hr1⟩ : ∃ z, z = m_out r w nd (nxt r w nd) := ⟨_, rfl⟩
                              have eo : m_sf (fu r (307 + w) (r (307 + w) - 1)) a k = r1 := by rw [hr1, ek]; unfold m_out; rw [ea]
                              rw [eo] at hM
                              have n1 : ∀ i, (i < 307 ∨ 357 ≤ i) → r1 i = r i := fun i a => by rw [hr1]; exact m_out_n c4 hA hfx2 a
                              have v3 : r1 3 = r 3 := n1 3 (by omega)
                              have v1 : r1 1 = r 1 := n1 1 (by omega)
                              refine j_aload_n hF dX8_deliver_229 rfl (j_get hF hM.1.1 fl_RX8_8 dX8_deliver_230 rfl (j_iconst hF dX8_deliver_233 (j_dup2 hF dX8_deliver_234 rfl rfl (j_iald hF hM.1.2.1 dX8_deliver_235 (by omega) (fun ra2 rb2 => ?_)))))
                              refine j_iconst hF dX8_deliver_236 (j_iadd hF dX8_deliver_237 (j_iast hF hM.1.2.1 dX8_deliver_238 (by omega) (by omega) (j_nm (fun X3 eX3 => ?_))))
                              have hM := hM.u_r eX3
                              refine j_aload_n hF dX8_deliver_239 rfl (j_get hF hM.1.1 fl_RX8_8 dX8_deliver_240 rfl (j_sipush hF dX8_deliver_243 (by decide) (j_sipush hF dX8_deliver_246 (by decide) (j_iload_n hF dX8_deliver_249 rfl (j_imul hF dX8_deliver_250 ?_)))))
                              refine j_iadd hF dX8_deliver_251 (j_iload hF dX8_deliver_252 rfl (j_iadd hF dX8_deliver_254 (j_iconst hF dX8_deliver_255 (j_iast hF hM.1.2.1 dX8_deliver_256 (by omega) (by omega) (j_nm (fun X4 eX4 => ?_))))))
                              have hM := hM.u_r eX4
                              have f1 : ∀ i, i ≠ 3 → (i < 307 ∨ (357 ≤ i ∧ i < 359) ∨ 6359 ≤ i) → (fu (fu r1 3 (r1 3 + 1)) (359 + 1000 * nd + nxt r w nd) 1) i = r i := fun i a b => by rw [fu_n (by omega), fu_n a, n1 i (by omega)]
                              obtain ⟨r2, hr2⟩ : ∃ z, z = fu (fu r1 3 (r1 3 + 1)) (359 + 1000 * nd + nxt r w nd) 1 := ⟨_, rfl⟩
                              rw [← hr2] at hM f1
                              have hG2 : GI r2 := hG.eq (fun i _ _ _ h3 _ _ => f1 i h3 (by omega))
                              have hI2 : RI r2 N := hI.eq (fun i _ _ _ => f1 i (by omega) (by omega))
                              have hm2 : RM2 r2 := fun x x1 x2 => by rw [f1 _ (by omega) (by omega)]; exact hm x x1 x2
                              have w1 : r2 1 = r 1 := f1 1 (by omega) (by omega)
                              have hf2 : ∀ x, 0 ≤ x → x < r2 1 → hb o x → r2 (47 + (10 * tg + x)) < 12 := fun x x1 x2 x3 => by
                                rw [f1 _ (by omega) (by omega)]
                                have q1 := hm (10 * tg + x) (by omega) (by omega)
                                have q2 : ¬ r (47 + (10 * tg + x)) = 12 := fun g => c80 ⟨x, x1, by omega, x3, g⟩
                                omega
                              have kI := m_pa_inv (w := w) (o := o) (tg := tg) (t := nxt r w nd) hI2 hm2 (by omega) c4 c20 (by omega) (by omega) hf2 (r2 1).toNat (by omega)
                              refine j_aload_n hF dX8_deliver_257 rfl (j_iload_n hF dX8_deliver_258 rfl (j_iload_n hF dX8_deliver_259 rfl (j_iload hF dX8_deliver_260 rfl (j_iload hF dX8_deliver_262 rfl (j_callV hF (c_X8_putsAll (N := N) hM.1 hG2 hI2 hm2 (by omega) (by omega) (by omega) (by omega) (by omega) hf2) ms_X8_putsAll mv_X8_putsAll lk_RX8_146 dX8_deliver_264 hM.1.1 rfl rfl rfl (by simp [Value.category]) ⟨⟨(Nat.le_of_ble_eq_true rfl), (Nat.le_of_ble_eq_true rfl)⟩, by omega, by omega⟩ (fun v5 X5 hp5 hE5 => ?_))))))
                              obtain ⟨rfl, hM1⟩ := hp5
                              have hM := hM.tr hM1
                              refine j_aload_n hF dX8_deliver_267 rfl (j_iload_n hF dX8_deliver_268 rfl (j_iload_n hF dX8_deliver_269 rfl (j_iload hF dX8_deliver_270 rfl (j_iconst hF dX8_deliver_272 (j_callV hF (c_X8_updates (N := N + 10) hM.1 (by omega) (by omega) (by omega) (by omega) (by omega) (kI.1.mono (by omega))) ms_X8_updates mv_X8_updates lk_RX8_121 dX8_deliver_273 hM.1.1 rfl rfl rfl (by simp [Value.category]) ⟨⟨(Nat.le_of_ble_eq_true rfl), (Nat.le_of_ble_eq_true rfl)⟩, by omega, by omega⟩ (fun v6 X6 hp6 hE6 => ?_))))))
                              obtain ⟨rfl, hM1⟩ := hp6
                              have hM := hM.tr hM1
                              refine j_iload hF dX8_deliver_276 rfl (j_iret hF hR dX8_deliver_278 (by omega) (by omega) ?_)
                              refine PU ?_ (MX.of hM)
                              unfold sp_deliver
                              refine (pif_t ⟨⟨⟨c4, c12⟩, c20⟩, c28⟩).trans ((pif_f (fun h => h.elim c54 (fun g => g c63))).trans ((pif_f c80).trans ?_))
                              subst hr2
                              subst hr1
                              rfl
                            ·
                              refine j_aload_n hF dX8_deliver_175 rfl (j_get hF hM.1.1 fl_RX8_8 dX8_deliver_176 rfl (j_sipush hF dX8_deliver_179 (by decide) (j_iload hF dX8_deliver_182 rfl (j_iadd hF dX8_deliver_184 (j_aload_n hF dX8_deliver_185 rfl ?_)))))
                              refine j_get hF hM.1.1 fl_RX8_8 dX8_deliver_186 rfl (j_sipush hF dX8_deliver_189 (by decide) (j_iload hF dX8_deliver_192 rfl (j_iadd hF dX8_deliver_194 (j_iconst hF dX8_deliver_195 (j_iadd hF dX8_deliver_196 ?_)))))
                              refine j_iald hF hM.1.2.1 dX8_deliver_197 (by omega) (fun ra7 rb7 => ?_)
                              refine j_iast hF hM.1.2.1 dX8_deliver_198 (by omega) (by omega) (j_nm (fun X8 eX8 => ?_))
                              have hM := hM.u_r eX8
                              refine j_aload_n hF dX8_deliver_199 rfl (j_get hF hM.1.1 fl_RX8_8 dX8_deliver_200 rfl (j_sipush hF dX8_deliver_203 (by decide) (j_iload hF dX8_deliver_206 rfl (j_iadd hF dX8_deliver_208 (j_aload_n hF dX8_deliver_209 rfl ?_)))))
                              refine j_get hF hM.1.1 fl_RX8_8 dX8_deliver_210 rfl (j_sipush hF dX8_deliver_213 (by decide) (j_iload hF dX8_deliver_216 rfl (j_iadd hF dX8_deliver_218 (j_iconst hF dX8_deliver_219 (j_iadd hF dX8_deliver_220 ?_)))))
                              refine j_iald hF hM.1.2.1 dX8_deliver_221 (by omega) (fun ra9 rb9 => ?_)
                              refine j_iast hF hM.1.2.1 dX8_deliver_222 (by omega) (by omega) (j_nm (fun X10 eX10 => ?_))
                              have hM := hM.u_r eX10
                              refine j_iinc hF dX8_deliver_223 rfl (Nat.le_of_ble_eq_true rfl) rfl (j_goto hF 155 dX8_deliver_226 (by decide) ?_)
                              refine ih (k + 1) _ (by omega) (by omega) ?_
                              rw [← m_sf_s _ _ _ (by omega) hk.1 (by omega)]
                              exact hM
                        exact L155 (13) a _ (by omega) (by omega) (by rw [m_sf_0]; exact hM)
                      ·
                        refine j_iinc hF dX8_deliver_131 rfl (Nat.le_of_ble_eq_true rfl) rfl (j_goto hF 100 dX8_deliver_134 (by decide) ?_)
                        have hna : ¬ a = x0 := fun q => c128 (by rw [q]; exact hx0.2)
                        refine ih (a + 1) (by omega) (by omega) (fun x x1 x2 => ?_)
                        rcases (show x < a ∨ x = a by omega) with q | rfl
                        · exact hno x x1 q
                        · exact fun g => c128 g.2
                exact L100 25 (12 * w) (by omega) (by omega) (fun x x1 x2 => by omega)
              ·
                refine j_aload_n hF dX8_deliver_83 rfl (j_bipush hF dX8_deliver_84 (by decide) (j_callV hF (c_X8_fails hM.1 (by omega) hE) ms_X8_fails mv_X8_fails lk_RX8_52 dX8_deliver_86 hM.1.1 rfl rfl rfl (by simp [Value.category]) ⟨⟨(Nat.le_of_ble_eq_true rfl), (Nat.le_of_ble_eq_true rfl)⟩, by omega, by omega⟩ (fun v14 X14 hp14 hE14 => ?_)))
                obtain ⟨rfl, hM1⟩ := hp14
                have hM := hM.tr hM1
                refine j_iret hF hR dX8_deliver_89 (by omega) (by omega) ?_
                refine PU ?_ (MX.of hM)
                unfold sp_deliver
                first | exact (pif_t ⟨⟨⟨c4, c12⟩, c20⟩, c28⟩).trans ((pif_f (fun h => h.elim c54 (fun g => g c63))).trans (pif_t c80)) | exact (pif_t ⟨⟨⟨c4, c12⟩, c20⟩, c28⟩).trans (pif_t (Or.inl c54)) | exact (pif_t ⟨⟨⟨c4, c12⟩, c20⟩, c28⟩).trans (pif_t (Or.inr c63)) | exact pif_f (fun h => c4 h.1.1.1) | exact pif_f (fun h => c12 h.1.1.2) | exact pif_f (fun h => c20 h.1.2) | exact pif_f (fun h => c28 h.2)
            ·
              refine j_aload_n hF dX8_deliver_66 rfl (j_bipush hF dX8_deliver_67 (by decide) (j_callV hF (c_X8_fails hM.1 (by omega) hE) ms_X8_fails mv_X8_fails lk_RX8_52 dX8_deliver_69 hM.1.1 rfl rfl rfl (by simp [Value.category]) ⟨⟨(Nat.le_of_ble_eq_true rfl), (Nat.le_of_ble_eq_true rfl)⟩, by omega, by omega⟩ (fun v15 X15 hp15 hE15 => ?_)))
              obtain ⟨rfl, hM1⟩ := hp15
              have hM := hM.tr hM1
              refine j_iret hF hR dX8_deliver_72 (by omega) (by omega) ?_
              refine PU ?_ (MX.of hM)
              unfold sp_deliver
              first | exact (pif_t ⟨⟨⟨c4, c12⟩, c20⟩, c28⟩).trans ((pif_f (fun h => h.elim c54 (fun g => g c63))).trans (pif_t c80)) | exact (pif_t ⟨⟨⟨c4, c12⟩, c20⟩, c28⟩).trans (pif_t (Or.inl c54)) | exact (pif_t ⟨⟨⟨c4, c12⟩, c20⟩, c28⟩).trans (pif_t (Or.inr c63)) | exact pif_f (fun h => c4 h.1.1.1) | exact pif_f (fun h => c12 h.1.1.2) | exact pif_f (fun h => c20 h.1.2) | exact pif_f (fun h => c28 h.2)
        ·
          refine j_aload_n hF dX8_deliver_31 rfl (j_bipush hF dX8_deliver_32 (by decide) (j_callV hF (c_X8_fails hM.1 (by omega) hE) ms_X8_fails mv_X8_fails lk_RX8_52 dX8_deliver_34 hM.1.1 rfl rfl rfl (by simp [Value.category]) ⟨⟨(Nat.le_of_ble_eq_true rfl), (Nat.le_of_ble_eq_true rfl)⟩, by omega, by omega⟩ (fun v16 X16 hp16 hE16 => ?_)))
          obtain ⟨rfl, hM1⟩ := hp16
          have hM := hM.tr hM1
          refine j_iret hF hR dX8_deliver_37 (by omega) (by omega) ?_
          refine PU ?_ (MX.of hM)
          unfold sp_deliver
          first | exact (pif_t ⟨⟨⟨c4, c12⟩, c20⟩, c28⟩).trans ((pif_f (fun h => h.elim c54 (fun g => g c63))).trans (pif_t c80)) | exact (pif_t ⟨⟨⟨c4, c12⟩, c20⟩, c28⟩).trans (pif_t (Or.inl c54)) | exact (pif_t ⟨⟨⟨c4, c12⟩, c20⟩, c28⟩).trans (pif_t (Or.inr c63)) | exact pif_f (fun h => c4 h.1.1.1) | exact pif_f (fun h => c12 h.1.1.2) | exact pif_f (fun h => c20 h.1.2) | exact pif_f (fun h => c28 h.2)
