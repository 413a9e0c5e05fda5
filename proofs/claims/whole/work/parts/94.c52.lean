def lw_tg (k : Nat) : Nat := ([148, 181, 224, 247, 280, 333, 376, 409, 432, 455, 518, 571, 604, 637, 680, 713, 746, 789, 812, 845, 868, 881, 894, 907, 930] : List Nat).getD k 0
theorem lw_go {φ : Fi} {nm : String} (hF : Fx φ cL_law 4 RL (some .boolean) nm 11 450 600000 7302250) {b L : Nat} {xs : Nat → Int32} (hLS : LwS φ b L xs) (hL : L ≤ 3072) {tr : Nat} {ad : Nat → Nat} : ∀ (n : Nat) (X : Hp) (σ : St) (kap kc ks : Nat) (i c : Int), ((L : Int) - i).toNat < n → (0 ≤ i ∧ i ≤ L) → i = 6 * c → PP X tr kap c σ → MMx X ad σ → PI σ c → 384 ≤ kap → kc ≤ 131 + (kap - 384) → ks ≤ 256593 + 6 * (kap - 384) → Jd φ X kc ks 18 [some (.ref b), some (.ref tr), some (.ref (ad 0)), some (vi i)] [] := by
  intro n
  induction n with
  | zero => intro X σ kap kc ks i c hfu; exact absurd hfu (by omega)
  | succ n ih =>
    intro X σ kap kc ks i c hfu hi hc hP hM hI hk0 hkc hks
    have hkl := hP.le
    refine j_iload_n hF dL_law_18 rfl (j_aload_n hF dL_law_19 rfl (j_slen hF hLS dL_law_20 (j_bipush hF dL_law_21 (by decide) (j_isub hF dL_law_23 (j_icmp_gt hF 950 dL_law_24 (by decide) (by omega) (fun c24 => ?_) (fun c24 => ?_))))))
    · exact j_iconst hF dL_law_950 (j_lend hF hLS dL_law_951 (by omega) (by omega))
    · have K : ∀ (X2 : Hp) (σ2 : St) (kap2 kc2 ks2 : Nat), PP X2 tr kap2 (c + 1) σ2 → MMx X2 ad σ2 → PI σ2 (c + 1) → 384 ≤ kap2 → kc2 ≤ 131 + (kap2 - 384) → ks2 ≤ 256593 + 6 * (kap2 - 384) → Jd φ X2 kc2 ks2 944 [some (.ref b), some (.ref tr), some (.ref (ad 0)), some (vi i)] [] := fun X2 σ2 kap2 kc2 ks2 g1 g2 g3 g4 g5 g6 => j_iinc hF dL_law_944 rfl (Nat.le_of_ble_eq_true rfl) rfl (j_goto hF 18 dL_law_947 (by decide) (ih X2 σ2 kap2 kc2 ks2 (i + 6) (c + 1) (by omega) (by omega) (by omega) g1 g2 g3 g4 g5 g6))
      refine j_aload_n hF dL_law_27 rfl (j_iload_n hF dL_law_28 rfl (j_sld hF hLS hL dL_law_29 (by omega) (j_bipush hF dL_law_30 (by decide) (j_andx hF dL_law_32 (fun z => ?_)))))
      refine j_tsw hF dL_law_33 944 (by decide) lw_tg (by decide) (K _ _ _ _ _ (hP.mono (by omega)) hM (hI.mono (by omega)) hk0 hkc hks) (fun k hk => ?_)
      obtain ⟨r, pf, sv, er⟩ := σ
      rcases (show k = 0 ∨ k = 1 ∨ k = 2 ∨ k = 3 ∨ k = 4 ∨ k = 5 ∨ k = 6 ∨ k = 7 ∨ k = 8 ∨ k = 9 ∨ k = 10 ∨ k = 11 ∨ k = 12 ∨ k = 13 ∨ k = 14 ∨ k = 15 ∨ k = 16 ∨ k = 17 ∨ k = 18 ∨ k = 19 ∨ k = 20 ∨ k = 21 ∨ k = 22 ∨ k = 23 ∨ k = 24 by omega) with rfl | rfl | rfl | rfl | rfl | rfl | rfl | rfl | rfl | rfl | rfl | rfl | rfl | rfl | rfl | rfl | rfl | rfl | rfl | rfl | rfl | rfl | rfl | rfl | rfl
      · exact lwc_addNode hF hLS hL ⟨hi.1, by omega⟩ hc hP hM hI hk0 hkc hks K
      · exact lwc_addEdge hF hLS hL ⟨hi.1, by omega⟩ hc hP hM hI hk0 hkc hks K
      · exact lwc_kind hF hLS hL ⟨hi.1, by omega⟩ hc hP hM hI hk0 hkc hks K
      · exact lwc_move hF hLS hL ⟨hi.1, by omega⟩ hc hP hM hI hk0 hkc hks K
      · exact lwc_couldResultIn hF hLS hL ⟨hi.1, by omega⟩ hc hP hM hI hk0 hkc hks K
      · exact lwc_earliest hF hLS hL ⟨hi.1, by omega⟩ hc hP hM hI hk0 hkc hks K
      · exact lwc_send hF hLS hL ⟨hi.1, by omega⟩ hc hP hM hI hk0 hkc hks K
      · exact lwc_advance hF hLS hL ⟨hi.1, by omega⟩ hc hP hM hI hk0 hkc hks K
      · exact lwc_close hF hLS hL ⟨hi.1, by omega⟩ hc hP hM hI hk0 hkc hks K
      · exact lwc_process hF hLS hL ⟨hi.1, by omega⟩ hc hP hM hI hk0 hkc hks K
      · exact lwc_deliver hF hLS hL ⟨hi.1, by omega⟩ hc hP hM hI hk0 hkc hks K
      · exact lwc_receive hF hLS hL ⟨hi.1, by omega⟩ hc hP hM hI hk0 hkc hks K
      · exact lwc_messages hF hLS hL ⟨hi.1, by omega⟩ hc hP hM hI hk0 hkc hks K
      · exact lwc_messageTime hF hLS hL ⟨hi.1, by omega⟩ hc hP hM hI hk0 hkc hks K
      · exact lwc_requests hF hLS hL ⟨hi.1, by omega⟩ hc hP hM hI hk0 hkc hks K
      · exact lwc_deliverable hF hLS hL ⟨hi.1, by omega⟩ hc hP hM hI hk0 hkc hks K
      · exact lwc_count hF hLS hL ⟨hi.1, by omega⟩ hc hP hM hI hk0 hkc hks K
      · exact lwc_active hF hLS hL ⟨hi.1, by omega⟩ hc hP hM hI hk0 hkc hks K
      · exact lwc_frontier hF hLS hL ⟨hi.1, by omega⟩ hc hP hM hI hk0 hkc hks K
      · exact lwc_pending hF hLS hL ⟨hi.1, by omega⟩ hc hP hM hI hk0 hkc hks K
      · exact lwc_delivered hF hLS hL ⟨hi.1, by omega⟩ hc hP hM hI hk0 hkc hks K
      · exact lwc_violations hF hLS hL ⟨hi.1, by omega⟩ hc hP hM hI hk0 hkc hks K
      · exact lwc_undo hF hLS hL ⟨hi.1, by omega⟩ hc hP hM hI hk0 hkc hks K
      · exact lwc_errorCount hF hLS hL ⟨hi.1, by omega⟩ hc hP hM hI hk0 hkc hks K
      · exact lwc_digest hF hLS hL ⟨hi.1, by omega⟩ hc hP hM hI hk0 hkc hks K
theorem lw_known {s : State} (hKw : Kw s) : ∃ (D : va_G) (cy : Nat → ClassId), va_K D vwCl (ja_tys cy) s := by
  obtain ⟨cc0, ii0, hk0⟩ := nw_kn hKw nw_RX2_9
  obtain ⟨cc1, ii1, hk1⟩ := nw_kn hKw nw_RX2_18
  obtain ⟨cc2, ii2, hk2⟩ := nw_kn hKw nw_RX7_13
  obtain ⟨cc3, ii3, hk3⟩ := nw_kn hKw nw_RX2_38
  obtain ⟨cc4, ii4, hk4⟩ := nw_kn hKw nw_RX2_32
  obtain ⟨cc5, ii5, hk5⟩ := nw_kn hKw nw_RX7_19
  obtain ⟨cc6, ii6, hk6⟩ := nw_kn hKw nw_RX2_25
  obtain ⟨cc7, ii7, hk7⟩ := nw_kn hKw nw_RL_7
  obtain ⟨cc8, ii8, hk8⟩ := nw_kn hKw nw_RL_10
  obtain ⟨a0, ha0, hb0⟩ := arr_kn (ty := .int) hKw kl_ac (fun cA h => h)
  obtain ⟨a1, ha1, hb1⟩ := arr_kn (ty := .boolean) hKw kl_az (fun cA h => h)
  obtain ⟨a2, ha2, hb2⟩ := arr_kq (C := RX2) hKw aw_RX7_13.2
  obtain ⟨a3, ha3, hb3⟩ := arr_kq (C := RX3) hKw aw_RX2_38.2
  obtain ⟨a4, ha4, hb4⟩ := arr_kq (C := RX4) hKw aw_RX2_32.2
  refine ⟨(fun k => if k = 0 then cc0 else if k = 1 then cc1 else if k = 2 then cc2 else if k = 3 then cc3 else if k = 4 then cc4 else if k = 5 then cc5 else if k = 6 then cc6 else if k = 7 then cc7 else cc8, fun k => if k = 0 then ii0 else if k = 1 then ii1 else if k = 2 then ii2 else if k = 3 then ii3 else if k = 4 then ii4 else if k = 5 then ii5 else if k = 6 then ii6 else if k = 7 then ii7 else ii8), fun k => if k = 0 then a0 else if k = 1 then a1 else if k = 2 then a2 else if k = 3 then a3 else a4, fun k q hq => ?_, fun k q hq => ?_⟩
  · match k, hq with
    | 0, hq => exact hk0 q hq
    | 1, hq => exact hk1 q hq
    | 2, hq => exact hk2 q hq
    | 3, hq => exact hk3 q hq
    | 4, hq => exact hk4 q hq
    | 5, hq => exact hk5 q hq
    | 6, hq => exact hk6 q hq
    | 7, hq => exact hk7 q hq
    | 8, hq => exact hk8 q hq
    | k + 9, hq => simp [vwCl] at hq
  · match k, hq with
    | 0, hq => cases hq; exact ⟨ha0, hb0⟩
    | 1, hq => cases hq; exact ⟨ha1, hb1⟩
    | 2, hq => cases hq; exact ⟨ha2, hb2⟩
    | 3, hq => cases hq; exact ⟨ha3, hb3⟩
    | 4, hq => cases hq; exact ⟨ha4, hb4⟩
    | k + 5, hq => simp [ja_tys] at hq
theorem po_none {D : va_G} {cy : Nat → ClassId} {A : Nat → Prop} {H : Heap} : PO D cy (fun _ => none) A H := by
  refine ⟨⟨[], fun a => ⟨fun h => absurd h List.not_mem_nil, fun h => ?_⟩, fun k q h => ?_, ⟨fun i j p q h => ?_, fun k q h => ?_⟩⟩, ⟨fun a lb t n f h => ?_, fun a lb t n f h => ?_⟩⟩
  · obtain ⟨q, h⟩ := h
    cases h
  · simp [va_pl] at h
  · simp [va_pl] at h
  · simp [va_pl] at h
  · cases h
  · cases h
set_option maxRecDepth 100000 in
set_option maxHeartbeats 4000000 in
theorem lw_body {φ : Fi} {nm : String} (hF : Fx φ cL_law 4 RL (some .boolean) nm 11 450 600000 7302250) {b L : Nat} {xs : Nat → Int32} (hLS : LwS φ b L xs) (hL : L ≤ 3072) : Jd φ (fun _ => none) 0 0 0 [some (.ref b), none, none, none] [] := by
  refine j_new hF 0 nw_RL_7 dL_law_0 (by decide) (by decide) (fun tr hq1 => j_nm (fun X1 eX1 => ?_))
  have h_p := ups eX1
  refine j_dup hF dL_law_3 rfl (j_callI hF (c_X7_init h_p) ms_X7_init mi_X7_init lk_RL_9 dL_law_4 rfl rfl rfl (by simp [Value.category]) ⟨⟨(Nat.le_of_ble_eq_true rfl), (Nat.le_of_ble_eq_true rfl)⟩, by decide, by decide⟩ (fun v2 X2 hp2 hE2 => ?_))
  obtain ⟨rfl, hP, hFB⟩ := hp2
  refine j_astore_n hF dL_law_7 (Nat.le_of_ble_eq_true rfl) rfl (j_new hF 5000 nw_RL_10 dL_law_8 (by decide) (by decide) (fun mo hq3 => j_nm (fun X3 eX3 => ?_)))
  have h_m := ups eX3
  have hFR3 : FR X2 X3 := fun a l c h _ => upn eX3 h hq3
  have hP := hP.kr hFR3
  refine j_dup hF dL_law_11 rfl (j_callI hF (c_X8_init h_m) ms_X8_init mi_X8_init lk_RL_12 dL_law_12 rfl rfl rfl (by simp [Value.category]) ⟨⟨(Nat.le_of_ble_eq_true rfl), (Nat.le_of_ble_eq_true rfl)⟩, by decide, by decide⟩ (fun v4 X4 hp4 hE4 => ?_))
  obtain ⟨rfl, ad, rfl, hMG⟩ := hp4
  have hP := hP.kr hMG.2
  refine j_astore_n hF dL_law_15 (Nat.le_of_ble_eq_true rfl) rfl (j_iconst hF dL_law_16 (j_istore_n hF dL_law_17 (Nat.le_of_ble_eq_true rfl) rfl ?_))
  exact lw_go hF hLS hL (L + 1) X4 (fun _ => 0, fun _ => 0, 0, fun _ => 0) _ _ _ 0 0 (by omega) (by omega) (by omega) hP ⟨_, _, _, _, _, _, _, _, _, _, hMG.1⟩ PI.zero (by decide) (by decide) (by decide)
theorem whole_start {p : Program} {e : Env} {s : State} {m : MethodId} {below : List Frame} {meth : Method} {c : Code} (l : Launch) (hflags : l.flags = flags0) {b L : Nat} {xs : Nat → Int32} (hL : L ≤ 3072) (C0 : lw_At p s m meth c b L xs) : W p l e room_1 s m #[Value.ref b] below meth c s.heap [] 0 0 (lw_Z below #[Value.ref b] s) (entryFrame m ([Value.ref b] : List Value).toArray 4) := by
  obtain ⟨hx, hb, hr, hml, hown, hts, hX, hbl, hlocks, hgv⟩ := id C0
  have hKw : Kw s := fun w hw hk => kw_moved hk (State.WarmedH.refl s) (hts w hw)
  obtain ⟨D, cy, hK⟩ := lw_known hKw
  rw [lg_entry_eq]
  exact lw_body (φ := ((p, l, e, room_1, s), (m, #[Value.ref b], below, meth, c), D, cy, (fun q => s.heap.size ≤ q), lw_Z below #[Value.ref b] s, fun _ => none)) (nm := meth.name) ⟨hx, hb, hml, hown, hKw, hlocks, hr, rfl, hK, fun q h => h, rfl⟩ ⟨hX, hbl, rfl, rfl, rfl, rfl, hr, hlocks⟩ hL s.heap [] _ po_none (XE.refl _) va_S.rf (lh.entry [Value.ref b] (Nat.le_of_ble_eq_true rfl))

