/-! ===== fill: class and reference ===== -/
theorem bsF_fc {B np no : Nat} {q o : Nat → Nat} {M : AMem} {I : Nat → Nat → Int32} {S : FS} (d : FD B np no q o) (hf : FC B np no q o (mI M) I S) : bsF B (stW M I) = bsF B M := by
  have g : ∀ k, k < 45 → ¬ k = 13 → mI (stW M I) (B + k) = mI M (B + k) := fun k hk h13 => by rw [mI_stW]; exact FC_k d hf hk h13
  funext k i
  unfold bsF pkW szN
  rw [g 26 (by decide) (by decide), g 27 (by decide) (by decide), g 28 (by decide) (by decide), g 32 (by decide) (by decide), g 34 (by decide) (by decide), g 35 (by decide) (by decide), g 40 (by decide) (by decide)]
theorem INV_fill {B s L : Nat} {M M2 : AMem} {ns np no nl cn : Nat} {p q o : Nat → Nat} {H F P : Nat → Int32} (h : INV B s L M ns np no nl p q o) (hfi : FI B M np no (H, F, P, cn)) (hT : mT M2 = mT M) (hR : mR M2 = mR M) (hN2 : mN M2 = mN M) (hL2 : mL M2 = mL M)
    (K : ∀ k, k < 45 → ¬ k = 13 → ¬ k = 14 → ¬ k = 29 → ¬ k = 33 → ¬ k = 41 → ¬ k = 42 → mI M2 (B + k) = mI M (B + k)) (K13 : mI M2 (B + 13) = P) (K14 : ∀ c, ¬ c = 36 → mI M2 (B + 14) c = mI M (B + 14) c) (K33 : mI M2 (B + 33) = H) (K41 : mI M2 (B + 41) = F) (K42 : mI M2 (B + 42) = P)
    (Kq : ∀ i, i < np → mI M2 (q i) = upd (mI M (q i)) 8 (H i)) (Kq1 : ∀ i, i < np → mI M2 (q i + 1) = mI M (q i + 1)) (Ko : ∀ i, i < no → mI M2 (o i) = upd (mI M (o i)) 4 (F i))
    (Kf : ∀ a, (∀ i, i < np → ¬ a = q i) → (∀ k, k < no → ¬ a = o k) → ¬ a = B + 13 → ¬ a = B + 14 → ¬ a = B + 29 → ¬ a = B + 33 → ¬ a = B + 41 → ¬ a = B + 42 → mI M2 a = mI M a) : INV B s L M2 ns np no nl p q o := by
  have hA := h.1
  have gk : ∀ {a k : Nat}, k < 45 → ¬ gr B (mT M) a = gtab.getD k 9 → ¬ a = B + k := fun {a k} hk hg e => hg (by rw [e, gr_k hk])
  obtain ⟨f1, f2, f3, f4⟩ := hfi
  refine INV_set [1, 6, 7, 8] h (fun a _ => by rw [hT]) (fun a _ => by rw [hR]) (Nat.le_of_eq hN2.symm) (fun a ha hg h9 => ?_) (fun a _ _ => by rw [hL2]) (Or.inl rfl) (fun _ => ?_) (fun e => absurd e (by decide)) (fun e => absurd e (by decide)) (fun e => absurd e (by decide)) (fun e => absurd e (by decide)) (fun _ => ?_) (fun _ => ?_) (fun _ => ?_)
  · have g1 := ng hg (j := 1) rfl
    have g6 := ng hg (j := 6) rfl
    have g7 := ng hg (j := 7) rfl
    have g8 := ng hg (j := 8) rfl
    exact Kf a (fun i hi e => g6 (by rw [e]; exact (ad_q hA hi).1.2)) (fun i hi e => g7 (by rw [e]; exact (ad_o hA hi).2)) (gk (by decide) g8) (gk (by decide) g1) (gk (by decide) h9) (gk (by decide) g6) (gk (by decide) g7) (gk (by decide) g8)
  · have kB : mI M2 B = mI M B := K 0 (by decide) (by decide) (by decide) (by decide) (by decide) (by decide) (by decide)
    unfold D1
    rw [kB, K14 28 (by decide), K14 29 (by decide), K14 30 (by decide), K14 31 (by decide), K14 32 (by decide), K14 33 (by decide), K14 34 (by decide), K14 35 (by decide)]
    exact h.2.1
  · refine ⟨fun i hi => ?_, ?_⟩
    · obtain ⟨n, Kd, c1, ⟨e4, e4'⟩, ⟨e27, eK⟩, ⟨e1, e2⟩, ⟨e5, e5'⟩, ⟨e8, e8'⟩, e7, ⟨e28, ec⟩, e9, e10, e11⟩ := iv_PD h hi
      have hsz : szN B M i = n := by
        unfold szN
        rw [e4', nI_clamp (show n < 2 ^ 31 by omega)]
      have ew : pkW B M i n = wrS (mI M (q i + 1)) n Kd (mI M (q i) 1) (mI M (q i) 2) := by
        unfold pkW
        rw [e27, e1, e2]
        exact wrS_ext (fun k hk => (e28 k (by omega)).symm)
      have u : ∀ c, ¬ c = 8 → upd (mI M (q i)) 8 (H i) c = mI M (q i) c := fun c hc => by rw [upd_ap, if_neg hc]
      have u8 : upd (mI M (q i)) 8 (H i) 8 = H i := by rw [upd_ap, if_pos rfl]
      unfold PD
      rw [hL2, Kq i hi, Kq1 i hi, K33, K 26 (by decide) (by decide) (by decide) (by decide) (by decide) (by decide) (by decide), K 27 (by decide) (by decide) (by decide) (by decide) (by decide) (by decide) (by decide), K 28 (by decide) (by decide) (by decide) (by decide) (by decide) (by decide) (by decide), K 32 (by decide) (by decide) (by decide) (by decide) (by decide) (by decide) (by decide), K 34 (by decide) (by decide) (by decide) (by decide) (by decide) (by decide) (by decide), K 35 (by decide) (by decide) (by decide) (by decide) (by decide) (by decide) (by decide), K 36 (by decide) (by decide) (by decide) (by decide) (by decide) (by decide) (by decide)]
      rw [u 1 (by decide), u 2 (by decide), u 4 (by decide), u 5 (by decide), u 6 (by decide), u 7 (by decide), u8]
      refine ⟨n, Kd, c1, ⟨e4, e4'⟩, ⟨e27, eK⟩, ⟨e1, e2⟩, ⟨e5, e5'⟩, ⟨rfl, ?_⟩, e7, ⟨e28, ec⟩, ?_, e10, e11⟩
      · rcases f1 i hi with g | ⟨⟨w, w4, g⟩, -⟩
        · have g' : H i = mI M (B + 33) i := g
          rw [g']
          exact e8'
        · exact Or.inr ⟨w, w4, g⟩
      · rcases f1 i hi with g | ⟨-, -, g⟩
        · have g' : H i = mI M (q i) 8 := g.trans e8.symm
          rw [g']
          exact e9
        · rw [hsz, ew] at g
          exact fun _ _ => g
    · rw [K 32 (by decide) (by decide) (by decide) (by decide) (by decide) (by decide) (by decide), K 36 (by decide) (by decide) (by decide) (by decide) (by decide) (by decide) (by decide), K 28 (by decide) (by decide) (by decide) (by decide) (by decide) (by decide) (by decide)]
      exact h.2.2.2.2.2.2.1.2
  · refine ⟨fun k hk => ?_, fun k hk h12 => ?_⟩
    · obtain ⟨w, m, z, Kd, b, c1, o0, o1, o2, o3, o4⟩ := iv_OD h hk
      obtain ⟨b', hb⟩ := f2 k hk
      have hb' : F k = bi b' := hb
      have u : ∀ c, ¬ c = 4 → upd (mI M (o k)) 4 (F k) c = mI M (o k) c := fun c hc => by rw [upd_ap, if_neg hc]
      have u4 : upd (mI M (o k)) 4 (F k) 4 = F k := by rw [upd_ap, if_pos rfl]
      unfold OD
      rw [hL2, Ko k hk, K41, K 37 (by decide) (by decide) (by decide) (by decide) (by decide) (by decide) (by decide), K 38 (by decide) (by decide) (by decide) (by decide) (by decide) (by decide) (by decide), K 39 (by decide) (by decide) (by decide) (by decide) (by decide) (by decide) (by decide), K 40 (by decide) (by decide) (by decide) (by decide) (by decide) (by decide) (by decide)]
      rw [u 0 (by decide), u 2 (by decide), u 3 (by decide), u4]
      exact ⟨w, m, z, Kd, b', c1, o0, o1, o2, o3, hb', hb'⟩
    · rw [K41]
      exact (f3 k hk).trans (h.2.2.2.2.2.2.2.1.2 k hk h12)
  · refine ⟨by rw [K13, K42], fun w hw => ?_⟩
    rw [K42]
    refine (f4 w hw).trans (sumF_ext no (fun k hk => ?_))
    unfold owF owG
    rw [K41, K 37 (by decide) (by decide) (by decide) (by decide) (by decide) (by decide) (by decide), K 38 (by decide) (by decide) (by decide) (by decide) (by decide) (by decide) (by decide), K 39 (by decide) (by decide) (by decide) (by decide) (by decide) (by decide) (by decide)]
theorem op35 {B s L : Nat} {M : AMem} {ns np no nl : Nat} {p q o : Nat → Nat} (h : INV B s L M ns np no nl p q o) : GD B s L 79 160 M := by
  have d := fd_of h
  have h0 := INV_ST h
  have hsB := h.1.1.2.1
  have hN := ad_N h.1
  obtain ⟨I, hf, e79⟩ := f79 h
  have hfi := FI_R h 99
  have g : ∀ k, k < 45 → ¬ k = 13 → mI (stW M I) (B + k) = mI M (B + k) := fun k hk h13 => by rw [mI_stW]; exact FC_k d hf hk h13
  have ebs := bsF_fc d hf
  have eom : omN B (stW M I) = omN B M := by funext k; unfold omN; rw [g 38 (by decide) (by decide)]
  have eoh : ohN B (stW M I) = ohN B M := by funext k; unfold ohN; rw [g 37 (by decide) (by decide)]
  have hS1 : ST B (stW M I) := by rw [ST_stW]; exact h0
  have e160 := fun Q => sp160 (B := B) (np := np) (no := no) (M := stW M I) hS1 (by rw [g 14 (by decide) (by decide)]; exact (iv_np h).1) (iv_np h).2 (by rw [g 14 (by decide) (by decide)]; exact (iv_no h).1) (iv_no h).2 (fun i hi => by
      obtain ⟨h6, -, -⟩ := iv_rp h hi
      obtain ⟨n, Kd, ⟨hn60, hK⟩, ⟨e4, e4'⟩, -, -, -, -, -, ⟨e28, ec⟩, -⟩ := iv_PD h hi
      have hsz : szN B (stW M I) i = n := by
        unfold szN
        rw [g 32 (by decide) (by decide), e4', nI_clamp (show n < 2 ^ 31 by omega)]
      rw [hsz]
      refine ⟨h6, by rw [g 32 (by decide) (by decide)]; exact e4', hn60, fun k hk => ?_⟩
      rw [g 28 (by decide) (by decide), ← e28 k (by omega)]
      exact ec k hk) (fun k hk => by
      obtain ⟨oh, om, z, Kd', b, ⟨b1, b2, b3, b4, b5, -⟩, ⟨o0, o0'⟩, -, ⟨o2, o2'⟩, ⟨o3, o3'⟩, -⟩ := iv_OD h hk
      have hom : omN B M k = om := by unfold omN; rw [o2', nI_clamp (show om < 2 ^ 31 by omega)]
      have hoh : ohN B M k = oh := by unfold ohN; rw [o0', nI_clamp (show oh < 2 ^ 31 by omega)]
      rw [eom, eoh, hom, hoh, g 38 (by decide) (by decide), g 37 (by decide) (by decide)]
      exact ⟨o2', b3, o0', b1⟩) Q
  rw [ebs, eom, eoh, g 39 (by decide) (by decide), g 33 (by decide) (by decide), g 41 (by decide) (by decide), g 42 (by decide) (by decide)] at e160
  change ∀ Q, ∃ z', CaP 160 [.ref (B + 14)] (stW M I) Q = Q (mfM B (thr B (stW M I) 0) (fiR B M np no 99).1 (fiR B M np no 99).2.1 (fiR B M np no 99).2.2.1 z', .inl (some (.int (nI (fiR B M np no 99).2.2.2)))) at e160
  have hde := det_ex (m := 160) (as := [.ref (B + 14)]) (M := stW M I) (P := fun R => ∃ z', R = (mfM B (thr B (stW M I) 0) (fiR B M np no 99).1 (fiR B M np no 99).2.1 (fiR B M np no 99).2.2.1 z', .inl (some (.int (nI (fiR B M np no 99).2.2.2))))) (fun Q => by
    obtain ⟨z', e⟩ := e160 Q
    exact ⟨_, ⟨z', rfl⟩, e⟩)
  obtain ⟨R, ⟨z, rfl⟩, e160'⟩ := hde
  clear e160
  generalize fiR B M np no 99 = S at *
  obtain ⟨H, F, P, cn⟩ := S
  have hM2 : ∀ a, mI (mfM B (thr B (stW M I) 0) H F P z) a = if a = B + 42 then P else if a = B + 41 then F else if a = B + 33 then H else if a = B + 29 then z else mI (thr B (stW M I) 0) a := fun a => by
    simp only [mfM, mI_stI, va_up_ap]
  have ht : ∀ a, ¬ a = B + 14 → mI (thr B (stW M I) 0) a = I a := fun a ha => by
    simp [thr, mI_stI, va_up_ap, mI_stW, ha]
  have n13 : ∀ i, i < np → ¬ q i = B + 13 := fun i hi => by have := d.1 i hi; omega
  refine ⟨mfM B (thr B (stW M I) 0) H F P z, ⟨⟨ns, np, no, nl, p, q, o, ?_⟩, Nat.le_trans (Nat.le_of_eq (show _ = mN M from rfl)) (by omega), Nat.le_trans (Nat.le_of_eq (show _ = mS M from rfl)) (by omega)⟩, stW M I, nI cn, e79, ⟨hS1, by rw [mT_stW], by rw [mI_stW]; exact FC_low d hf hsB⟩, e160', ⟨hS1, rfl, ?_⟩⟩
  · have K : ∀ k, k < 45 → ¬ k = 13 → ¬ k = 14 → ¬ k = 29 → ¬ k = 33 → ¬ k = 41 → ¬ k = 42 → mI (mfM B (thr B (stW M I) 0) H F P z) (B + k) = mI M (B + k) := fun k h1 h2 h3 h4 h5 h6 h7 => by
      rw [hM2, if_neg (by omega), if_neg (by omega), if_neg (by omega), if_neg (by omega), ht _ (by omega)]
      exact FC_k d hf h1 h2
    have K33 : mI (mfM B (thr B (stW M I) 0) H F P z) (B + 33) = H := by rw [hM2, if_neg (by omega), if_neg (by omega), if_pos rfl]
    have K41 : mI (mfM B (thr B (stW M I) 0) H F P z) (B + 41) = F := by rw [hM2, if_neg (by omega), if_pos rfl]
    have K42 : mI (mfM B (thr B (stW M I) 0) H F P z) (B + 42) = P := by rw [hM2, if_pos rfl]
    have K13 : mI (mfM B (thr B (stW M I) 0) H F P z) (B + 13) = P := by
      rw [hM2, if_neg (by omega), if_neg (by omega), if_neg (by omega), if_neg (by omega), ht _ (by omega)]
      exact hf.2.2.1
    have Kq : ∀ i, i < np → mI (mfM B (thr B (stW M I) 0) H F P z) (q i) = upd (mI M (q i)) 8 (H i) := fun i hi => by
      have := d.1 i hi
      rw [hM2, if_neg (by omega), if_neg (by omega), if_neg (by omega), if_neg (by omega), ht _ (by omega)]
      exact hf.1 i hi
    have Kq1 : ∀ i, i < np → mI (mfM B (thr B (stW M I) 0) H F P z) (q i + 1) = mI M (q i + 1) := fun i hi => by
      have := d.1 i hi
      rw [hM2, if_neg (by omega), if_neg (by omega), if_neg (by omega), if_neg (by omega), ht _ (by omega)]
      exact FC_q1 d hf hi
    have Ko : ∀ i, i < no → mI (mfM B (thr B (stW M I) 0) H F P z) (o i) = upd (mI M (o i)) 4 (F i) := fun i hi => by
      have := d.2.1 i hi
      rw [hM2, if_neg (by omega), if_neg (by omega), if_neg (by omega), if_neg (by omega), ht _ (by omega)]
      exact hf.2.1 i hi
    have K14 : ∀ c, ¬ c = 36 → mI (mfM B (thr B (stW M I) 0) H F P z) (B + 14) c = mI M (B + 14) c := fun c hc => by
      rw [hM2, if_neg (by omega), if_neg (by omega), if_neg (by omega), if_neg (by omega)]
      simp [thr, mI_stI, va_up_ap, mI_stW, upd_ap, hc, FC_k d hf (show 14 < 45 by decide) (by decide)]
    refine INV_fill h hfi rfl rfl rfl rfl K K13 K14 K33 K41 K42 Kq Kq1 Ko (fun a a1 a2 a3 a4 a5 a6 a7 a8 => ?_)
    rw [hM2, if_neg a8, if_neg a7, if_neg a6, if_neg a5, ht _ a4]
    exact hf.2.2.2 a a1 a2 a3
  · rw [hM2, if_neg (by omega), if_neg (by omega), if_neg (by omega), if_neg (by omega), ht _ (by omega)]
    exact FC_low d hf hsB
theorem ld35 {B s i : Nat} {T : ALs} {M M2 : AMem} (hS : ST B M) (h : Pdi B s 79 160 M M2) : ∀ Q, EvP 205 2354 (LL B s i T) [] M Q = EvP 205 2700 (LL B s i T) [] M2 Q := by
  intro Q
  obtain ⟨M1, r, h1, k1, h2, k2⟩ := h
  simp only [LL, List.cons_append, List.nil_append]
  simp [lv_args, sStep, amStep, a_nx, a_ii, a_jj, a_ji, a_ld, a_st, a_if, a_ald, a_c1, a_c2, lkp, lput, lput2, lins, oP_none, oP_next, oP_call, oP_ret, oP_thr, outP_ite, aft_ret, aft_void, aft_thr, fHnd, List.isEmpty_nil, List.filter_cons, List.filter_nil, Value.category, csum, List.map_cons, List.map_nil, List.sum_cons, List.sum_nil, List.cons_append, List.nil_append, Option.toList, vp_nar_int, narrow_b1, narrow_b0, nc115, vc115, fc115, nc111, vc111, fc111, nc100, vc100, fc100, nc109, vc109, fc109, nc120, vc120, fc120, nc119, vc119, fc119, nc116, vc116, fc116, nc45, vc45, fc45, nc32, vc32, fc32, nc102, vc102, fc102, nc106, vc106, fc106, fin3, rf_some, rf_none, upd_ap, va_up_ap, nar_bi, fits_bi, nvp_bi, bi_t, bi_f, fval, fty, ftabs, wrv_0, wrv_1, wrv_2, wrv_3, wrv_5, mT_stI, mI_stI, mL_stI, mD_stI, mR_stI, mN_stI, mS_stI, mT_stL, mI_stL, mL_stL, mD_stL, mR_stL, mN_stL, mS_stL, mT_stD, mI_stD, mL_stD, mD_stD, mR_stD, mN_stD, mS_stD, mT_stR, mI_stR, mL_stR, mD_stR, mR_stR, mN_stR, mS_stR, mT_stN, mI_stN, mL_stN, mD_stN, mR_stN, mN_stN, mS_stN, e205_2354, e205_2355, e205_2358, e205_2359, e205_2362, e205_2365, e205_2366, rt205, cl79, cl160, h1, h2, tT0 hS, tT14 k1.1]
theorem ca35 {B s L i : Nat} {T : ALs} {M : AMem} (hI : Inv B s L M) (hi : i + 5 ≤ L) (hL : L ≤ 2560) (hT : tl T) : CA B s L i 2354 T M := by
  obtain ⟨ns, np, no, nl, p, q, o, h⟩ := hI
  obtain ⟨M2, hc, hp⟩ := op35 h
  exact ⟨M2, T, hc, hT, ld35 (INV_ST h) hp⟩
