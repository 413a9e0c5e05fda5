theorem ILs.rg {r : Int → Int} {a c p v : Int} (h : ILs r a c p v) : -1 ≤ v ∧ v ≤ 99 := by
  rcases h with h | h
  · have := h.1; omega
  · have := h.1; omega
theorem WR.mk {X : Hp} {b y mk : Nat} {gn : Int} {r : Int → Int} (h : WR X b y mk gn r) : mk ≤ 1 := by
  obtain ⟨l, i, s, p, pc, sr, fl, ff, fs, fp, hM, hm, hV⟩ := h
  exact hm
set_option maxRecDepth 100000 in
set_option maxHeartbeats 4000000 in
theorem c_X5_lead {X : Hp} {b y mk : Nat} {gn : Int} {r : Int → Int} (hW : WR X b y mk gn r) {b2 : Nat} {g2 d2 s2 e2 k2 : Nat} {nc2 ec2 : Int} {fd2 fs2 fe2 fk2 : Int → Int} (hO : GP X b2 g2 d2 s2 e2 k2 nc2 ec2 fd2 fs2 fe2 fk2) (hdis : b2 + 10 ≤ b ∨ b + 10 ≤ b2) (hE : GE r nc2 ec2 fd2 fs2 fe2 fk2) (hG : GV r) {a t q u : Int} (hv : vt r a (t % 100)) (ht : 0 ≤ t ∧ t ≤ 999) (hq : 0 ≤ q ∧ q < 16) (hu : 0 ≤ u ∧ u ≤ 999) (hgn : gn ≤ 100000) : Cv yX5_lead cX5_lead 6 (some .boolean) 4 97 [.ref y, .ref g2, vi (1000 * a + t), vi (1000 * q + u)] X (4 * (1 - mk)) (30400 * (1 - mk)) (fun rv X' k n => rv = some (vi (bz (Ld r a t q u))) ∧ ∃ mk', mk ≤ mk' ∧ WR X' b y mk' gn r ∧ FB b (b + 10) X X' ∧ k ≤ 4 * (mk' - mk) ∧ n ≤ 30400 * (mk' - mk)) := by
  refine Cv.of (by decide +kernel) [some (.ref y), some (.ref g2), some (vi (1000 * a + t)), some (vi (1000 * q + u)), none, none] rfl (Nat.le_of_ble_eq_true rfl) (fun φ hF hR => ?_)
  have ha := hv.1.rg hG.1
  have hmk := hW.mk
  obtain ⟨ol, hob⟩ := hW.obj
  refine j_iload_n hF dX5_lead_0 rfl (j_sipush hF dX5_lead_1 (by decide) (j_irem hF dX5_lead_4 (by omega) (j_istore hF dX5_lead_5 (Nat.le_of_ble_eq_true rfl) rfl (j_iload_n hF dX5_lead_7 rfl (j_sipush hF dX5_lead_8 (by decide) ?_)))))
  refine j_irem hF dX5_lead_11 (by omega) (j_bipush hF dX5_lead_12 (by decide) (j_idiv hF dX5_lead_14 (by omega) (j_iload hF dX5_lead_15 rfl (j_bipush hF dX5_lead_17 (by decide) (j_idiv hF dX5_lead_19 (by omega) ?_)))))
  refine j_icmp_le hF 25 dX5_lead_20 (by decide) (by omega) (fun c20 => ?_) (fun c20 => ?_)
  ·
    refine j_aload_n hF dX5_lead_25 rfl (j_aload_n hF dX5_lead_26 rfl (j_iload_n hF dX5_lead_27 rfl (j_iload_n hF dX5_lead_28 rfl (j_sipush hF dX5_lead_29 (by decide) (j_idiv hF dX5_lead_32 (by omega) ?_)))))
    rw [show (1000 * q + u) / 1000 = q by omega]
    refine j_callV hF (c_X5_leastCounters hW hO hdis hE hG hv ht (q := q) (by omega) hgn) ms_X5_leastCounters mv_X5_leastCounters lk_RX5_28 dX5_lead_33 hob rfl rfl rfl (by simp [Value.category]) ⟨⟨(Nat.le_of_ble_eq_true rfl), (Nat.le_of_ble_eq_true rfl)⟩, by omega, by omega⟩ (fun v1 X1 hp1 hE1 => ?_)
    obtain ⟨rfl, hW1, hf1, hIL⟩ := hp1
    have hls := hIL.rg
    refine j_istore hF dX5_lead_36 (Nat.le_of_ble_eq_true rfl) rfl (j_iload hF dX5_lead_38 rfl (j_iconst hF dX5_lead_40 (j_icmp_eq hF 58 dX5_lead_41 (by decide) (by omega) (fun c41 => ?_) (fun c41 => ?_))))
    ·
      refine j_iconst hF dX5_lead_58 (j_zretv hF hR (Or.inl rfl) dX5_lead_59 (by omega) (by omega) ?_)
      exact ⟨bz_r0 (fun g => by have g1 := hIL.ld.mp g; omega), 1, hmk, hW1, hf1, by omega, by omega⟩
    ·
      refine j_iload hF dX5_lead_44 rfl (j_iload hF dX5_lead_46 rfl ?_)
      rw [show (1000 * q + u) % 1000 = u by omega]
      refine j_callSN hF (c_X7_countersOf (by omega)) ms_X7_countersOf mt_X7_countersOf ln_RX5_32 dX5_lead_48 rfl rfl rfl (by simp [Value.category]) ⟨⟨(Nat.le_of_ble_eq_true rfl), (Nat.le_of_ble_eq_true rfl)⟩, by omega, by omega⟩ (fun v2 X2 hp2 hE2 => ?_)
      obtain ⟨rfl, he2⟩ := hp2; obtain rfl := he2.symm
      refine j_icmp_gt hF 58 dX5_lead_51 (by decide) (by omega) (fun c51 => ?_) (fun c51 => ?_)
      ·
        refine j_iconst hF dX5_lead_58 (j_zretv hF hR (Or.inl rfl) dX5_lead_59 (by omega) (by omega) ?_)
        exact ⟨bz_r0 (fun g => by have g1 := hIL.ld.mp g; omega), 1, hmk, hW1, hf1, by omega, by omega⟩
      ·
        refine j_iconst hF dX5_lead_54 (j_goto hF 59 dX5_lead_55 (by decide) (j_zretv hF hR (Or.inr rfl) dX5_lead_59 (by omega) (by omega) ?_))
        exact ⟨bz_r1 (hIL.ld.mpr ⟨by omega, c41, by omega⟩), 1, hmk, hW1, hf1, by omega, by omega⟩
  ·
    refine j_iconst hF dX5_lead_23 (j_zretv hF hR (Or.inl rfl) dX5_lead_24 (by omega) (by omega) ?_)
    exact ⟨bz_r0 (fun g => absurd g.1 (by omega)), mk, Nat.le_refl _, hW, FB.refl _ _ X, by omega, by omega⟩

