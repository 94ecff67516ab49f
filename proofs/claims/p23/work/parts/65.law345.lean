/-! The law's hour: what was foreseen, sledges, boats. -/
theorem cnt_1 {al : Nat → Nat → Int32} {h : Nat} (hh : al 0 8 = nI h) (hh3 : h < 2 ^ 31) : v_count al (nI 1) = al 3 (h % 8) := by
  have e : v_count al (nI 1) = al 3 (ix (al 0 8) % 8) := rfl
  rw [e, hh, ix_nI hh3]
theorem then_eq {be : Nat → Nat → Int32} {q : Nat} (hq : q < 3) : (upd (upd (upd (fun _ => 0) 0 (v_count be (nI 5))) 1 (v_count be (nI 6))) 2 (v_count be (nI 7))) q = v_count be (nI (5 + q)) := by
  rcases (show q = 0 ∨ q = 1 ∨ q = 2 by omega) with rfl | rfl | rfl <;> rfl
set_option maxHeartbeats 8000000 in
set_option maxRecDepth 100000 in
theorem lw_S3 {p : Program} (l : Launch) {e : Env} {s : State} {m : MethodId} {args : Array Value} {below : List Frame} {meth : Method} {c : Code} {H : Heap} {locs : List Loc} {cells slots : Nat} {Q : State → Prop} {ls : Array Slot} {D : va_G} {ad a0 cy sa : Nat → Nat} {A : Nat → Prop} {b L N B h n0 tm : Nat} {xs : Nat → Int32} {al : Nat → Nat → Int32} {ex : Nat → va_E} (hfl : l.stackTraces = false) (S : CallFix p m c cL_law 21 s args wsL_law RL) (hE : ZEnv D cy sa A s) (hcb : cells ≤ 100000) (hsb : slots ≤ 200000) (hI : InvT al N B h) (hh3 : h < 2 ^ 20) (hn0 : n0 = 35 + 2 * N + B) {cl : Nat → Nat → Int32} (ha0 : ∀ k, n0 ≤ k → k < n0 + 3 + N → ad k = a0 k) (hTI : TI cl) (hAG : AG cl al) (hW : WS D (n0 + 3 + N) ad (sW cy ad N B cl al (exH cy a0 n0 N (pfx (f1 al) N) (pfx (f2 al) N) (wsP (fT al) N 0) ex)) A s.heap H locs) (hl : lv_has ls 21 [(8, .ref (ad (n0 + 2))), (7, .ref (ad (n0 + 1))), (6, .ref (ad n0)), (5, .int (nI N)), (3, .int (nI tm)), (2, .ref (ad 28)), (1, .ref (ad 0)), (0, .ref b)]) (kk : ∀ (cl : Nat → Nat → Int32) (ad : Nat → Nat) (H : Heap) (locs : List Loc) (ls : Array Slot), AG cl (hourS al) → TI cl → (∀ k, n0 ≤ k → k < n0 + 3 + N → ad k = a0 k) → WS D (n0 + 3 + N) ad (sW cy ad N B cl (hourS al) (exH cy a0 n0 N (pfx (f1 al) N) (pfx (f2 al) N) (wsP (fT al) N 0) ex)) A s.heap H locs → lv_has ls 21 [(11, .int (ash (hourS al) - ash al)), (9, .int (al 3 (h % 8))), (8, .ref (ad (n0 + 2))), (7, .ref (ad (n0 + 1))), (6, .ref (ad n0)), (5, .int (nI N)), (3, .int (nI tm)), (2, .ref (ad 28)), (1, .ref (ad 0)), (0, .ref b)] → W p l e room_1 s m args below meth c H locs (cells + 40) (slots + 200) Q (F0 m 352 ls [])) : W p l e room_1 s m args below meth c H locs cells slots Q (F0 m 266 ls []) := by
  have hx := S.1
  have hb := S.2.1
  have hown := S.2.2.2.1
  have hts := S.2.2.2.2
  have hN := hI.1.1.1
  have hN6 := hI.1.1.2.1
  have hB := hI.1.1.2.2.1
  have hB4 := hI.1.1.2.2.2.1
  have hh := hI.1.1.2.2.2.2
  have hIc := AG.inv hI.1 hAG hTI
  have hI1 := hI.hour (by omega)
  have har := hts (.arrayClass .int) (by decide +kernel)
  refine lv_aload_n hx hb dL_law_266 rfl (lv_at hl 6 rfl) ?_
  refine lv_iconst (v := 1) hx hb dL_law_267 (by decide) ?_
  refine z_cVi (As := [.int (nI 1)]) (rest := []) (k := 0) S hE hW (cX3_count0_ok l D (n0 + 3 + N) ad cy sa H.size (by omega) cl (exS cy ad N B al (exH cy a0 n0 N (pfx (f1 al) N) (pfx (f2 al) N) (wsP (fT al) N 0) ex)) N hIc.1.1 hIc.1.2.1 h hIc.1.2.2.2.2 (by omega) 1 (by omega)) (cwV 1 hts gL_law_X3_count rfl rfl rfl (by decide +kernel) ⟨Nat.le_of_ble_eq_true rfl, Nat.le_of_ble_eq_true rfl⟩) (by omega) cC_0 rfl rfl rfl hl.1 rfl (Nat.le_of_ble_eq_true rfl) dL_law_268 ⟨(Nat.le_trans (m := 600000) (by omega) (Nat.le_of_ble_eq_true rfl)), (Nat.le_trans (m := 600000) (by omega) (Nat.le_of_ble_eq_true rfl))⟩ (fun r _ H locs hp hW => ?_)
  subst hp
  refine z_top2 (y := al 3 (h % 8)) ((ag_count hAG hN hN6 _).trans (cnt_1 hh (by omega))) ?_
  refine lv_istore (lv' := [(9, .int (al 3 (h % 8))), (8, .ref (ad (n0 + 2))), (7, .ref (ad (n0 + 1))), (6, .ref (ad n0)), (5, .int (nI N)), (3, .int (nI tm)), (2, .ref (ad 28)), (1, .ref (ad 0)), (0, .ref b)]) hx hb dL_law_271 hl (by decide) rfl (fun ls hl => ?_)
  refine lv_iconst (v := 3) hx hb dL_law_273 (by decide) ?_
  refine z_newI (M := 3) S hE (by omega) hW har rfl (by decide) (Nat.le_trans (m := 600000) (by omega) (Nat.le_of_ble_eq_true rfl)) (Nat.le_trans (m := 600000) (by omega) (Nat.le_of_ble_eq_true rfl)) dL_law_274 (fun ad3 H had3 hW => ?_)
  replace hl : lv_has ls 21 [(9, .int (al 3 (h % 8))), (8, .ref (ad3 (n0 + 2))), (7, .ref (ad3 (n0 + 1))), (6, .ref (ad3 n0)), (5, .int (nI N)), (3, .int (nI tm)), (2, .ref (ad3 28)), (1, .ref (ad3 0)), (0, .ref b)] := by
    rw [had3 (n0 + 2) (by omega), had3 (n0 + 1) (by omega), had3 n0 (by omega), had3 28 (by omega), had3 0 (by omega)]; exact hl
  have ha0ad3 : ∀ k, n0 ≤ k → k < n0 + 3 + N → ad3 k = a0 k := fun k h1 h2 => (had3 k (by omega)).trans (ha0 k h1 h2)
  refine lv_dup hx hb dL_law_276 rfl ?_
  refine lv_iconst (v := 0) hx hb dL_law_277 (by decide) ?_
  refine lv_aload_n hx hb dL_law_278 rfl (lv_at hl 7 rfl) ?_
  refine lv_iconst (v := 1) hx hb dL_law_279 (by decide) ?_
  refine lv_iconst (v := 5) hx hb dL_law_280 (by decide) ?_
  refine z_xVi (As := [.int 1, .int (nI 5)]) (rest := [.int 0, .ref (ad3 (n0 + 3 + N)), .ref (ad3 (n0 + 3 + N))]) (k := 0) S hE hW (cX3_foresee_ok l D ((n0 + 3 + N) + 1) ad3 cy sa H.size (by omega) cl (exS cy ad3 N B al (cen (exH cy a0 n0 N (pfx (f1 al) N) (pfx (f2 al) N) (wsP (fT al) N 0) ex) (n0 + 3 + N) (.inl (cy 0, 3, .inl (fun _ => 0))))) 1 (nI 5) N hIc.1.1 hIc.1.2.1 h hIc.1.2.2.2.2 (by omega) hIc.ab hfl) (cwV 2 hts gL_law_X3_foresee rfl rfl rfl (by decide +kernel) ⟨Nat.le_of_ble_eq_true rfl, Nat.le_of_ble_eq_true rfl⟩) (by omega) cC_0 rfl rfl rfl hl.1 rfl (Nat.le_of_ble_eq_true rfl) dL_law_281 ⟨(Nat.le_trans (m := 600000) (by omega) (Nat.le_of_ble_eq_true rfl)), (Nat.le_trans (m := 600000) (by omega) (Nat.le_of_ble_eq_true rfl))⟩ (fun E x9 q9 H locs hbad hW hx9 hv9 hc9 => absurd hbad (zbad_0 (k0_foresee (q := 5) (by decide) (by decide)))) (fun r _ H locs hp hW => ?_)
  obtain ⟨-, rfl⟩ := hp
  obtain ⟨cl10, hcl10⟩ : ∃ z, z = u_foresee cl 1 (nI 5) := ⟨_, rfl⟩
  rw [← hcl10] at hW
  have hAG10 : AG cl10 al := by rw [hcl10]; exact (st_foresee hIc (q := 5) (by decide) (by decide)).2.tr hAG
  have hTI10 : TI cl10 := by rw [hcl10]; exact (st_foresee hIc (q := 5) (by decide) (by decide)).1
  have hIc10 := AG.inv hI.1 hAG10 hTI10
  refine z_top2 (y := v_count (hourS al) (nI 5)) (ag_see hAG hIc hN (by omega) 5 (by decide) (by decide)) ?_
  refine z_ast (ce' := sW cy ad3 N B cl10 al (cen (exH cy a0 n0 N (pfx (f1 al) N) (pfx (f2 al) N) (wsP (fT al) N 0) ex) (n0 + 3 + N) (.inl (cy 0, 3, .inl (upd (fun _ => 0) 0 (v_count (hourS al) (nI 5))))))) S hE hW (by omega) ((sW_x (by omega)).trans cen_k) 0 rfl (by decide) (by decide) ((sW_x (by omega)).trans cen_k) (fun j h => sW_ext (cen_oo h)) dL_law_284 (fun H locs hW => ?_)
  refine lv_dup hx hb dL_law_285 rfl ?_
  refine lv_iconst (v := 1) hx hb dL_law_286 (by decide) ?_
  refine lv_aload_n hx hb dL_law_287 rfl (lv_at hl 7 rfl) ?_
  refine lv_iconst (v := 1) hx hb dL_law_288 (by decide) ?_
  refine lv_bipush (v := 6) hx hb dL_law_289 (by decide) ?_
  refine z_xVi (As := [.int 1, .int (nI 6)]) (rest := [.int 1, .ref (ad3 (n0 + 3 + N)), .ref (ad3 (n0 + 3 + N))]) (k := 0) S hE hW (cX3_foresee_ok l D ((n0 + 3 + N) + 1) ad3 cy sa H.size (by omega) cl10 (exS cy ad3 N B al (cen (exH cy a0 n0 N (pfx (f1 al) N) (pfx (f2 al) N) (wsP (fT al) N 0) ex) (n0 + 3 + N) (.inl (cy 0, 3, .inl (upd (fun _ => 0) 0 (v_count (hourS al) (nI 5))))))) 1 (nI 6) N hIc10.1.1 hIc10.1.2.1 h hIc10.1.2.2.2.2 (by omega) hIc10.ab hfl) (cwV 2 hts gL_law_X3_foresee rfl rfl rfl (by decide +kernel) ⟨Nat.le_of_ble_eq_true rfl, Nat.le_of_ble_eq_true rfl⟩) (by omega) cC_0 rfl rfl rfl hl.1 rfl (Nat.le_of_ble_eq_true rfl) dL_law_291 ⟨(Nat.le_trans (m := 600000) (by omega) (Nat.le_of_ble_eq_true rfl)), (Nat.le_trans (m := 600000) (by omega) (Nat.le_of_ble_eq_true rfl))⟩ (fun E x9 q9 H locs hbad hW hx9 hv9 hc9 => absurd hbad (zbad_0 (k0_foresee (q := 6) (by decide) (by decide)))) (fun r _ H locs hp hW => ?_)
  obtain ⟨-, rfl⟩ := hp
  obtain ⟨cl11, hcl11⟩ : ∃ z, z = u_foresee cl10 1 (nI 6) := ⟨_, rfl⟩
  rw [← hcl11] at hW
  have hAG11 : AG cl11 al := by rw [hcl11]; exact (st_foresee hIc10 (q := 6) (by decide) (by decide)).2.tr hAG10
  have hTI11 : TI cl11 := by rw [hcl11]; exact (st_foresee hIc10 (q := 6) (by decide) (by decide)).1
  have hIc11 := AG.inv hI.1 hAG11 hTI11
  refine z_top2 (y := v_count (hourS al) (nI 6)) (ag_see hAG10 hIc10 hN (by omega) 6 (by decide) (by decide)) ?_
  refine z_ast (ce' := sW cy ad3 N B cl11 al (cen (exH cy a0 n0 N (pfx (f1 al) N) (pfx (f2 al) N) (wsP (fT al) N 0) ex) (n0 + 3 + N) (.inl (cy 0, 3, .inl (upd (upd (fun _ => 0) 0 (v_count (hourS al) (nI 5))) 1 (v_count (hourS al) (nI 6))))))) S hE hW (by omega) ((sW_x (by omega)).trans cen_k) 1 rfl (by decide) (by decide) ((sW_x (by omega)).trans cen_k) (fun j h => sW_ext (cen_oo h)) dL_law_294 (fun H locs hW => ?_)
  refine lv_dup hx hb dL_law_295 rfl ?_
  refine lv_iconst (v := 2) hx hb dL_law_296 (by decide) ?_
  refine lv_aload_n hx hb dL_law_297 rfl (lv_at hl 7 rfl) ?_
  refine lv_iconst (v := 1) hx hb dL_law_298 (by decide) ?_
  refine lv_bipush (v := 7) hx hb dL_law_299 (by decide) ?_
  refine z_xVi (As := [.int 1, .int (nI 7)]) (rest := [.int 2, .ref (ad3 (n0 + 3 + N)), .ref (ad3 (n0 + 3 + N))]) (k := 0) S hE hW (cX3_foresee_ok l D ((n0 + 3 + N) + 1) ad3 cy sa H.size (by omega) cl11 (exS cy ad3 N B al (cen (exH cy a0 n0 N (pfx (f1 al) N) (pfx (f2 al) N) (wsP (fT al) N 0) ex) (n0 + 3 + N) (.inl (cy 0, 3, .inl (upd (upd (fun _ => 0) 0 (v_count (hourS al) (nI 5))) 1 (v_count (hourS al) (nI 6))))))) 1 (nI 7) N hIc11.1.1 hIc11.1.2.1 h hIc11.1.2.2.2.2 (by omega) hIc11.ab hfl) (cwV 2 hts gL_law_X3_foresee rfl rfl rfl (by decide +kernel) ⟨Nat.le_of_ble_eq_true rfl, Nat.le_of_ble_eq_true rfl⟩) (by omega) cC_0 rfl rfl rfl hl.1 rfl (Nat.le_of_ble_eq_true rfl) dL_law_301 ⟨(Nat.le_trans (m := 600000) (by omega) (Nat.le_of_ble_eq_true rfl)), (Nat.le_trans (m := 600000) (by omega) (Nat.le_of_ble_eq_true rfl))⟩ (fun E x9 q9 H locs hbad hW hx9 hv9 hc9 => absurd hbad (zbad_0 (k0_foresee (q := 7) (by decide) (by decide)))) (fun r _ H locs hp hW => ?_)
  obtain ⟨-, rfl⟩ := hp
  obtain ⟨cl12, hcl12⟩ : ∃ z, z = u_foresee cl11 1 (nI 7) := ⟨_, rfl⟩
  rw [← hcl12] at hW
  have hAG12 : AG cl12 al := by rw [hcl12]; exact (st_foresee hIc11 (q := 7) (by decide) (by decide)).2.tr hAG11
  have hTI12 : TI cl12 := by rw [hcl12]; exact (st_foresee hIc11 (q := 7) (by decide) (by decide)).1
  have hIc12 := AG.inv hI.1 hAG12 hTI12
  refine z_top2 (y := v_count (hourS al) (nI 7)) (ag_see hAG11 hIc11 hN (by omega) 7 (by decide) (by decide)) ?_
  refine z_ast (ce' := sW cy ad3 N B cl12 al (cen (exH cy a0 n0 N (pfx (f1 al) N) (pfx (f2 al) N) (wsP (fT al) N 0) ex) (n0 + 3 + N) (.inl (cy 0, 3, .inl (upd (upd (upd (fun _ => 0) 0 (v_count (hourS al) (nI 5))) 1 (v_count (hourS al) (nI 6))) 2 (v_count (hourS al) (nI 7))))))) S hE hW (by omega) ((sW_x (by omega)).trans cen_k) 2 rfl (by decide) (by decide) ((sW_x (by omega)).trans cen_k) (fun j h => sW_ext (cen_oo h)) dL_law_304 (fun H locs hW => ?_)
  refine lv_astore (lv' := [(10, .ref (ad3 (n0 + 3 + N))), (9, .int (al 3 (h % 8))), (8, .ref (ad3 (n0 + 2))), (7, .ref (ad3 (n0 + 1))), (6, .ref (ad3 n0)), (5, .int (nI N)), (3, .int (nI tm)), (2, .ref (ad3 28)), (1, .ref (ad3 0)), (0, .ref b)]) hx hb dL_law_305 hl (by decide) rfl (fun ls hl => ?_)
  refine lv_aload_n hx hb dL_law_307 rfl (lv_at hl 8 rfl) ?_
  refine lv_iconst (v := 1) hx hb dL_law_308 (by decide) ?_
  refine z_xVi (As := [.int 1]) (rest := []) (k := 0) S hE hW (cX3_pass_ok l D ((n0 + 3 + N) + 1) ad3 cy sa H.size (by omega) cl12 (exS cy ad3 N B al (cen (exH cy a0 n0 N (pfx (f1 al) N) (pfx (f2 al) N) (wsP (fT al) N 0) ex) (n0 + 3 + N) (.inl (cy 0, 3, .inl (upd (upd (upd (fun _ => 0) 0 (v_count (hourS al) (nI 5))) 1 (v_count (hourS al) (nI 6))) 2 (v_count (hourS al) (nI 7))))))) 1 N hIc12.1.1 hIc12.1.2.1 h hIc12.1.2.2.2.2 (by omega) hIc12.ab hfl) (cwV 1 hts gL_law_X3_pass rfl rfl rfl (by decide +kernel) ⟨Nat.le_of_ble_eq_true rfl, Nat.le_of_ble_eq_true rfl⟩) (by omega) cC_0 rfl rfl rfl hl.1 rfl (Nat.le_of_ble_eq_true rfl) dL_law_309 ⟨(Nat.le_trans (m := 600000) (by omega) (Nat.le_of_ble_eq_true rfl)), (Nat.le_trans (m := 600000) (by omega) (Nat.le_of_ble_eq_true rfl))⟩ (fun E x9 q9 H locs hbad hW hx9 hv9 hc9 => absurd hbad (zbad_0 (k0_pass1))) (fun r _ H locs hp hW => ?_)
  obtain ⟨-, rfl⟩ := hp
  obtain ⟨cl13, hcl13⟩ : ∃ z, z = hourS cl12 := ⟨_, rfl⟩
  rw [u_pass1] at hW
  rw [← hcl13] at hW
  have hAG13 : AG cl13 (hourS al) := by rw [hcl13]; exact hAG12.hour hN hN6
  have hTI13 : TI cl13 := by rw [hcl13]; exact TI.hour hIc12 (by omega)
  have hIc13 := AG.inv hI1.1 hAG13 hTI13
  refine z_top2 (y := (ash (hourS al) - ash al)) (v_pass1.trans (ag_pass hAG12 hN hN6)) ?_
  refine lv_istore (lv' := [(11, .int (ash (hourS al) - ash al)), (10, .ref (ad3 (n0 + 3 + N))), (9, .int (al 3 (h % 8))), (8, .ref (ad3 (n0 + 2))), (7, .ref (ad3 (n0 + 1))), (6, .ref (ad3 n0)), (5, .int (nI N)), (3, .int (nI tm)), (2, .ref (ad3 28)), (1, .ref (ad3 0)), (0, .ref b)]) hx hb dL_law_312 hl (by decide) rfl (fun ls hl => ?_)
  refine lv_aload_n hx hb dL_law_314 rfl (lv_at hl 8 rfl) ?_
  refine z_gVi (As := []) (rest := []) (k := 28) S hE hW (cX4_pass_ok l D ((n0 + 3 + N) + 1) ad3 cy sa H.size N B (by omega) hI.1.1.2.1 hI.1.1.2.2.2.1 cl13 al (cen (exH cy a0 n0 N (pfx (f1 al) N) (pfx (f2 al) N) (wsP (fT al) N 0) ex) (n0 + 3 + N) (.inl (cy 0, 3, .inl (upd (upd (upd (fun _ => 0) 0 (v_count (hourS al) (nI 5))) 1 (v_count (hourS al) (nI 6))) 2 (v_count (hourS al) (nI 7)))))) h hI.1.1.1 hI.1.1.2.2.2.2 (by omega) hI.1.ab hI.1.2.2.2.2.1) (cwV 0 hts gL_law_X4_pass rfl rfl rfl (by decide +kernel) ⟨Nat.le_of_ble_eq_true rfl, Nat.le_of_ble_eq_true rfl⟩) (by omega) sW_28 rfl rfl rfl hl.1 rfl (Nat.le_of_ble_eq_true rfl) dL_law_315 ⟨(Nat.le_trans (m := 600000) (by omega) (Nat.le_of_ble_eq_true rfl)), (Nat.le_trans (m := 600000) (by omega) (Nat.le_of_ble_eq_true rfl))⟩ (fun r ad14 H locs hp hW => ?_)
  obtain ⟨rfl, had14⟩ := hp
  replace hW : WS D ((n0 + 3 + N) + 1) ad14 (sW cy ad14 N B cl13 (hourS al) (cen (exH cy a0 n0 N (pfx (f1 al) N) (pfx (f2 al) N) (wsP (fT al) N 0) ex) (n0 + 3 + N) (.inl (cy 0, 3, .inl (upd (upd (upd (fun _ => 0) 0 (v_count (hourS al) (nI 5))) 1 (v_count (hourS al) (nI 6))) 2 (v_count (hourS al) (nI 7))))))) A s.heap H locs := hW
  replace hl : lv_has ls 21 [(11, .int (ash (hourS al) - ash al)), (10, .ref (ad14 (n0 + 3 + N))), (9, .int (al 3 (h % 8))), (8, .ref (ad14 (n0 + 2))), (7, .ref (ad14 (n0 + 1))), (6, .ref (ad14 n0)), (5, .int (nI N)), (3, .int (nI tm)), (2, .ref (ad14 28)), (1, .ref (ad14 0)), (0, .ref b)] := by
    rw [had14 (n0 + 3 + N) (fun i hi => by omega), had14 (n0 + 2) (fun i hi => by omega), had14 (n0 + 1) (fun i hi => by omega), had14 n0 (fun i hi => by omega), had14 28 (fun i hi => by omega), had14 0 (fun i hi => by omega)]; exact hl
  have hI14 := hI.hour (by omega)
  have hN614 := hI14.1.1.2.1
  have hB414 := hI14.1.1.2.2.2.1
  have ha0ad14 : ∀ k, n0 ≤ k → k < n0 + 3 + N → ad14 k = a0 k := fun k h1 h2 => (had14 k (fun i hi => by omega)).trans (ha0ad3 k h1 h2)
  refine lv_pop hx hb dL_law_318 rfl ?_
  refine lv_iconst (v := 0) hx hb dL_law_319 (by decide) ?_
  refine lv_istore (lv' := [(12, .int 0), (11, .int (ash (hourS al) - ash al)), (10, .ref (ad14 (n0 + 3 + N))), (9, .int (al 3 (h % 8))), (8, .ref (ad14 (n0 + 2))), (7, .ref (ad14 (n0 + 1))), (6, .ref (ad14 n0)), (5, .int (nI N)), (3, .int (nI tm)), (2, .ref (ad14 28)), (1, .ref (ad14 0)), (0, .ref b)]) hx hb dL_law_320 hl (by decide) rfl (fun ls hl => ?_)
  have L322 : ∀ (kr q : Nat) (H : Heap) (locs : List Loc) (ls : Array Slot), q + kr = 3 → WS D ((n0 + 3 + N) + 1) ad14 (sW cy ad14 N B cl13 (hourS al) (cen (exH cy a0 n0 N (pfx (f1 al) N) (pfx (f2 al) N) (wsP (fT al) N 0) ex) (n0 + 3 + N) (.inl (cy 0, 3, .inl (upd (upd (upd (fun _ => 0) 0 (v_count (hourS al) (nI 5))) 1 (v_count (hourS al) (nI 6))) 2 (v_count (hourS al) (nI 7))))))) A s.heap H locs → lv_has ls 21 [(12, .int (nI q)), (11, .int (ash (hourS al) - ash al)), (10, .ref (ad14 (n0 + 3 + N))), (9, .int (al 3 (h % 8))), (8, .ref (ad14 (n0 + 2))), (7, .ref (ad14 (n0 + 1))), (6, .ref (ad14 n0)), (5, .int (nI N)), (3, .int (nI tm)), (2, .ref (ad14 28)), (1, .ref (ad14 0)), (0, .ref b)] → W p l e room_1 s m args below meth c H locs ((((((cells + 1) + 1) + 1) + 1) + 1) + 12) ((((((slots + 3) + 6) + 6) + 6) + 6) + 96) Q (F0 m 322 ls []) := by
    intro kr
    induction kr with
    | zero =>
      intro q H locs ls hjkq hW hl
      have hjNq : q = 3 := by omega
      try rw [hjNq] at hW
      try rw [hjNq] at hl
      refine lv_iload hx hb dL_law_322 (lv_at hl 0 rfl) ?_
      refine lv_iconst (v := 3) hx hb dL_law_324 (by decide) ?_
      refine lv_icmp_ge (tgt := 352) hx hb dL_law_325 (by decide) (fun _ => ?_) (fun h => absurd (by decide) h)
      replace hW := sm_drop hW
      refine W.widen (k := cells + 40) (n := slots + 200) (by omega) (by omega) ?_
      exact kk cl13 ad14 H locs ls hAG13 hTI13 ha0ad14 hW (lv_sub hl [1, 3, 4, 5, 6, 7, 8, 9, 10, 11] rfl)
    | succ kr ihq =>
      intro q H locs ls hjkq hW hl
      have hjq : q < 3 := by omega
      refine lv_iload hx hb dL_law_322 (lv_at hl 0 rfl) ?_
      refine lv_iconst (v := 3) hx hb dL_law_324 (by decide) ?_
      refine lv_icmp_ge (tgt := 352) hx hb dL_law_325 (by decide) (fun h => absurd h (nI_ge (b := 3) hjq (by decide))) (fun _ => ?_)
      refine lv_aload_n hx hb dL_law_328 rfl (lv_at hl 10 rfl) ?_
      refine lv_iconst (v := 5) hx hb dL_law_329 (by decide) ?_
      refine lv_iload hx hb dL_law_330 (lv_at hl 0 rfl) ?_
      refine lv_iadd hx hb dL_law_332 ?_
      refine z_top2 (y := nI (5 + q)) (nI_add 5 q) ?_
      refine z_cVi (As := [.int (nI (5 + q))]) (rest := []) (k := 0) S hE hW (cX3_count0_ok l D ((n0 + 3 + N) + 1) ad14 cy sa H.size (by omega) cl13 (exS cy ad14 N B (hourS al) (cen (exH cy a0 n0 N (pfx (f1 al) N) (pfx (f2 al) N) (wsP (fT al) N 0) ex) (n0 + 3 + N) (.inl (cy 0, 3, .inl (upd (upd (upd (fun _ => 0) 0 (v_count (hourS al) (nI 5))) 1 (v_count (hourS al) (nI 6))) 2 (v_count (hourS al) (nI 7))))))) N hIc13.1.1 hIc13.1.2.1 (h + 1) hIc13.1.2.2.2.2 (by omega) (5 + q) (by omega)) (cwV 1 hts gL_law_X3_count rfl rfl rfl (by decide +kernel) ⟨Nat.le_of_ble_eq_true rfl, Nat.le_of_ble_eq_true rfl⟩) (by omega) cC_0 rfl rfl rfl hl.1 rfl (Nat.le_of_ble_eq_true rfl) dL_law_333 ⟨(Nat.le_trans (m := 600000) (by omega) (Nat.le_of_ble_eq_true rfl)), (Nat.le_trans (m := 600000) (by omega) (Nat.le_of_ble_eq_true rfl))⟩ (fun r _ H locs hp hW => ?_)
      subst hp
      refine z_top2 (y := v_count (hourS al) (nI (5 + q))) (ag_count hAG13 hI1.1.1.1 hN6 _) ?_
      refine lv_aload hx hb dL_law_336 (lv_at hl 2 rfl) ?_
      refine lv_iload hx hb dL_law_338 (lv_at hl 0 rfl) ?_
      refine z_ald S hE hW (by omega) ((sW_x (by omega)).trans cen_k) q rfl (by omega) (by decide) (v := v_count (hourS al) (nI (5 + q))) ((then_eq (by omega))) dL_law_340 ?_
      refine lv_icmp_eq (tgt := 346) hx hb dL_law_341 (by decide) (fun _ => ?_) (fun h => absurd rfl h)
      refine lv_iinc (v := nI (q + 1)) (lv' := [(12, .int (nI (q + 1))), (11, .int (ash (hourS al) - ash al)), (10, .ref (ad14 (n0 + 3 + N))), (9, .int (al 3 (h % 8))), (8, .ref (ad14 (n0 + 2))), (7, .ref (ad14 (n0 + 1))), (6, .ref (ad14 n0)), (5, .int (nI N)), (3, .int (nI tm)), (2, .ref (ad14 28)), (1, .ref (ad14 0)), (0, .ref b)]) hx hb dL_law_346 hl (k := 0) rfl (nI_1 _) (by decide) rfl (fun ls hl => ?_)
      refine lv_goto (tgt := 322) hx hb dL_law_349 (by decide) ?_
      exact ihq (q + 1) H locs ls (by omega) hW (lv_sub hl [0, 1, 2, 3, 4, 5, 6, 7, 8, 9, 10, 11] rfl)
  exact L322 (3) 0 _ _ ls (by omega) hW (lv_sub hl [0, 1, 2, 3, 4, 5, 6, 7, 8, 9, 10, 11] rfl)

set_option maxHeartbeats 8000000 in
set_option maxRecDepth 100000 in
theorem lw_S4 {p : Program} (l : Launch) {e : Env} {s : State} {m : MethodId} {args : Array Value} {below : List Frame} {meth : Method} {c : Code} {H : Heap} {locs : List Loc} {cells slots : Nat} {Q : State → Prop} {ls : Array Slot} {D : va_G} {ad a0 cy sa : Nat → Nat} {A : Nat → Prop} {b L N B h n0 tm : Nat} {xs : Nat → Int32} {al : Nat → Nat → Int32} {ex : Nat → va_E} (hfl : l.stackTraces = false) (S : CallFix p m c cL_law 21 s args wsL_law RL) (hE : ZEnv D cy sa A s) (hcb : cells ≤ 100000) (hsb : slots ≤ 200000) (hI : InvT al N B h) (hh3 : h < 2 ^ 20) (hn0 : n0 = 35 + 2 * N + B) {cl : Nat → Nat → Int32} (ha0 : ∀ k, n0 ≤ k → k < n0 + 3 + N → ad k = a0 k) (hTI : TI cl) (hAG : AG cl (hourS al)) (hW : WS D (n0 + 3 + N) ad (sW cy ad N B cl (hourS al) (exH cy a0 n0 N (pfx (f1 al) N) (pfx (f2 al) N) (wsP (fT al) N 0) ex)) A s.heap H locs) (hl : lv_has ls 21 [(11, .int (ash (hourS al) - ash al)), (9, .int (al 3 (h % 8))), (8, .ref (ad (n0 + 2))), (7, .ref (ad (n0 + 1))), (6, .ref (ad n0)), (5, .int (nI N)), (3, .int (nI tm)), (2, .ref (ad 28)), (1, .ref (ad 0)), (0, .ref b)]) (kk : ∀ (cl : Nat → Nat → Int32) (H : Heap) (locs : List Loc) (ls : Array Slot), AG cl (hourS al) → TI cl → WS D (n0 + 3 + N) ad (sW cy ad N B cl (hourS al) (exH cy a0 n0 N (pfx (f1 al) N) (pfx (f2 al) N) (wsP (fT al) N 0) ex)) A s.heap H locs → lv_has ls 21 [(3, .int (nI tm)), (2, .ref (ad 28)), (1, .ref (ad 0)), (0, .ref b)] → W p l e room_1 s m args below meth c H locs (cells + 12) (slots + 72) Q (F0 m 599 ls [])) : W p l e room_1 s m args below meth c H locs cells slots Q (F0 m 352 ls []) := by
  have hx := S.1
  have hb := S.2.1
  have hown := S.2.2.2.1
  have hts := S.2.2.2.2
  have hN := hI.1.1.1
  have hN6 := hI.1.1.2.1
  have hB := hI.1.1.2.2.1
  have hB4 := hI.1.1.2.2.2.1
  have hh := hI.1.1.2.2.2.2
  have hI1 := hI.hour (by omega)
  have l133 := hts (.methodLink RL 133 Lib.Math.max.name) (by decide +kernel)
  have ls_max := hts (.static Lib.Math.max.name) (by decide +kernel)
  have li_Math := hts (.initialized "java/lang/Math") (by decide +kernel)
  have lc_max := hts (.code Lib.Math.max.name Lib.Math.max.code 2 (some .int)) (by decide +kernel)
  refine lv_iconst (v := 0) hx hb dL_law_352 (by decide) ?_
  refine lv_istore (lv' := [(12, .int 0), (11, .int (ash (hourS al) - ash al)), (9, .int (al 3 (h % 8))), (8, .ref (ad (n0 + 2))), (7, .ref (ad (n0 + 1))), (6, .ref (ad n0)), (5, .int (nI N)), (3, .int (nI tm)), (2, .ref (ad 28)), (1, .ref (ad 0)), (0, .ref b)]) hx hb dL_law_353 hl (by decide) rfl (fun ls hl => ?_)
  refine lv_iconst (v := 0) hx hb dL_law_355 (by decide) ?_
  refine lv_istore (lv' := [(13, .int 0), (12, .int 0), (11, .int (ash (hourS al) - ash al)), (9, .int (al 3 (h % 8))), (8, .ref (ad (n0 + 2))), (7, .ref (ad (n0 + 1))), (6, .ref (ad n0)), (5, .int (nI N)), (3, .int (nI tm)), (2, .ref (ad 28)), (1, .ref (ad 0)), (0, .ref b)]) hx hb dL_law_356 hl (by decide) rfl (fun ls hl => ?_)
  have L358 : ∀ (kq j : Nat) (cl : Nat → Nat → Int32) (H : Heap) (locs : List Loc) (ls : Array Slot), j + kq = N → AG cl (hourS al) → TI cl → WS D (n0 + 3 + N) ad (sW cy ad N B cl (hourS al) (exH cy a0 n0 N (pfx (f1 al) N) (pfx (f2 al) N) (wsP (fT al) N 0) ex)) A s.heap H locs → lv_has ls 21 [(13, .int (nI j)), (12, .int (sumI (fun i => landA (rowS al i) (al 3 (h % 8))) j)), (11, .int (ash (hourS al) - ash al)), (9, .int (al 3 (h % 8))), (8, .ref (ad (n0 + 2))), (7, .ref (ad (n0 + 1))), (6, .ref (ad n0)), (5, .int (nI N)), (3, .int (nI tm)), (2, .ref (ad 28)), (1, .ref (ad 0)), (0, .ref b)] → W p l e room_1 s m args below meth c H locs (cells + 2 * j) (slots + 12 * j) Q (F0 m 358 ls []) := by
    intro kq
    induction kq with
    | zero =>
      intro j cl H locs ls hjk hAG hTI hW hl
      have hjN : j = N := by omega
      try rw [hjN] at hW
      try rw [hjN] at hl
      have hIc := AG.inv hI1.1 hAG hTI
      refine lv_iload hx hb dL_law_358 (lv_at hl 0 rfl) ?_
      refine lv_iload hx hb dL_law_360 (lv_at hl 7 rfl) ?_
      refine lv_icmp_ge (tgt := 590) hx hb dL_law_362 (by decide) (fun _ => ?_) (fun h => absurd (nI_le (Nat.le_refl _) (by omega)) h)
      refine lv_iload hx hb dL_law_590 (lv_at hl 2 rfl) ?_
      refine lv_iload hx hb dL_law_592 (lv_at hl 1 rfl) ?_
      refine lv_icmp_eq (tgt := 599) hx hb dL_law_594 (by decide) (fun _ => ?_) (fun h => absurd (lf_comes hI.1 (by omega)) h)
      refine W.widen (k := cells + 12) (n := slots + 72) (by omega) (by omega) ?_
      exact kk cl H locs ls hAG hTI hW (lv_sub hl [8, 9, 10, 11] rfl)
    | succ kq ih =>
      intro j cl H locs ls hjk hAG hTI hW hl
      have hj : j < N := by omega
      have hIc := AG.inv hI1.1 hAG hTI
      refine lv_iload hx hb dL_law_358 (lv_at hl 0 rfl) ?_
      refine lv_iload hx hb dL_law_360 (lv_at hl 7 rfl) ?_
      refine lv_icmp_ge (tgt := 590) hx hb dL_law_362 (by decide) (fun h => absurd h (nI_ge hj (by omega))) (fun _ => ?_)
      refine lv_aload_n hx hb dL_law_365 rfl (lv_at hl 10 rfl) ?_
      refine lv_iload hx hb dL_law_366 (lv_at hl 0 rfl) ?_
      refine lv_iconst (v := 3) hx hb dL_law_368 (by decide) ?_
      refine z_cVi (As := [.int (nI j), .int (nI 3)]) (rest := []) (k := 0) S hE hW (cX3_told0_ok l D (n0 + 3 + N) ad cy sa H.size (by omega) cl (exS cy ad N B (hourS al) (exH cy a0 n0 N (pfx (f1 al) N) (pfx (f2 al) N) (wsP (fT al) N 0) ex)) N hIc.1.1 hIc.1.2.1 hIc.ab j (by omega) 3 (by omega)) (cwV 2 hts gL_law_X3_told rfl rfl rfl (by decide +kernel) ⟨Nat.le_of_ble_eq_true rfl, Nat.le_of_ble_eq_true rfl⟩) (by omega) cC_0 rfl rfl rfl hl.1 rfl (Nat.le_of_ble_eq_true rfl) dL_law_369 ⟨(Nat.le_trans (m := 600000) (by omega) (Nat.le_of_ble_eq_true rfl)), (Nat.le_trans (m := 600000) (by omega) (Nat.le_of_ble_eq_true rfl))⟩ (fun r _ H locs hp hW => ?_)
      subst hp
      refine z_top2 (y := hourS al (10 + j) 4) ((ag_told hAG (by omega) _).trans (fT_3 (by omega))) ?_
      refine lv_istore (lv' := [(14, .int (hourS al (10 + j) 4)), (13, .int (nI j)), (12, .int (sumI (fun i => landA (rowS al i) (al 3 (h % 8))) j)), (11, .int (ash (hourS al) - ash al)), (9, .int (al 3 (h % 8))), (8, .ref (ad (n0 + 2))), (7, .ref (ad (n0 + 1))), (6, .ref (ad n0)), (5, .int (nI N)), (3, .int (nI tm)), (2, .ref (ad 28)), (1, .ref (ad 0)), (0, .ref b)]) hx hb dL_law_372 hl (by decide) rfl (fun ls hl => ?_)
      refine lv_aload hx hb dL_law_374 (lv_at hl 5 rfl) ?_
      refine lv_iload hx hb dL_law_376 (lv_at hl 1 rfl) ?_
      refine z_aldA S hE hW (by omega) ((sW_x (by omega)).trans exH_w) j rfl (by omega) (by omega) (v := .ref (ad (n0 + 3 + j))) ((congrArg va_rf (if_pos hj)).trans (congrArg Value.ref (ha0 (n0 + 3 + j) (by omega) (by omega)).symm)) dL_law_378 ?_
      refine lv_iconst (v := 3) hx hb dL_law_379 (by decide) ?_
      refine z_ald S hE hW (by omega) ((sW_x (by omega)).trans (exH_r hj)) 3 rfl (by decide) (by decide) (v := al (10 + j) 4) ((congrFun (wsP_lt (by omega)) 3).trans ((pfx_at (by decide)).trans (fT_3 (by omega)))) dL_law_380 ?_
      refine lv_if_eq (tgt := 402) hx hb dL_law_381 (by decide) (fun c381 => ?_) (fun c381 => ?_)
      · refine lv_aload hx hb dL_law_402 (lv_at hl 5 rfl) ?_
        refine lv_iload hx hb dL_law_404 (lv_at hl 1 rfl) ?_
        refine z_aldA S hE hW (by omega) ((sW_x (by omega)).trans exH_w) j rfl (by omega) (by omega) (v := .ref (ad (n0 + 3 + j))) ((congrArg va_rf (if_pos hj)).trans (congrArg Value.ref (ha0 (n0 + 3 + j) (by omega) (by omega)).symm)) dL_law_406 ?_
        refine lv_iconst (v := 3) hx hb dL_law_407 (by decide) ?_
        refine z_ald S hE hW (by omega) ((sW_x (by omega)).trans (exH_r hj)) 3 rfl (by decide) (by decide) (v := al (10 + j) 4) ((congrFun (wsP_lt (by omega)) 3).trans ((pfx_at (by decide)).trans (fT_3 (by omega)))) dL_law_408 ?_
        refine lv_iconst (v := 1) hx hb dL_law_409 (by decide) ?_
        refine lv_icmp_eq (tgt := 416) hx hb dL_law_410 (by decide) (fun h => absurd h (fun z => absurd (c381.symm.trans z) (by decide))) (fun _ => ?_)
        refine lv_goto (tgt := 584) hx hb dL_law_413 (by decide) ?_
        replace hl : lv_has ls 21 [(14, .int (hourS al (10 + j) 4)), (13, .int (nI j)), (12, .int (sumI (fun i => landA (rowS al i) (al 3 (h % 8))) (j + 1))), (11, .int (ash (hourS al) - ash al)), (9, .int (al 3 (h % 8))), (8, .ref (ad (n0 + 2))), (7, .ref (ad (n0 + 1))), (6, .ref (ad n0)), (5, .int (nI N)), (3, .int (nI tm)), (2, .ref (ad 28)), (1, .ref (ad 0)), (0, .ref b)] := by rw [show sumI (fun i => landA (rowS al i) (al 3 (h % 8))) (j + 1) = sumI (fun i => landA (rowS al i) (al 3 (h % 8))) j from by show sumI (fun i => landA (rowS al i) (al 3 (h % 8))) j + landA (rowS al j) (al 3 (h % 8)) = _; rw [land_n (fun z => absurd (c381.symm.trans z) (by decide)), Int32.add_zero]]; exact hl
        refine lv_iinc (v := nI (j + 1)) (lv' := [(13, .int (nI (j + 1))), (14, .int (hourS al (10 + j) 4)), (12, .int (sumI (fun i => landA (rowS al i) (al 3 (h % 8))) (j + 1))), (11, .int (ash (hourS al) - ash al)), (9, .int (al 3 (h % 8))), (8, .ref (ad (n0 + 2))), (7, .ref (ad (n0 + 1))), (6, .ref (ad n0)), (5, .int (nI N)), (3, .int (nI tm)), (2, .ref (ad 28)), (1, .ref (ad 0)), (0, .ref b)]) hx hb dL_law_584 hl (k := 1) rfl (nI_1 _) (by decide) rfl (fun ls hl => ?_)
        refine lv_goto (tgt := 358) hx hb dL_law_587 (by decide) ?_
        refine W.widen (k := cells + 2 * (j + 1)) (n := slots + 12 * (j + 1)) (by omega) (by omega) ?_
        exact ih (j + 1) cl H locs ls (by omega) hAG hTI hW (lv_sub hl [0, 2, 3, 4, 5, 6, 7, 8, 9, 10, 11, 12] rfl)
      · refine lv_aload_n hx hb dL_law_384 rfl (lv_at hl 11 rfl) ?_
        refine lv_iload hx hb dL_law_385 (lv_at hl 1 rfl) ?_
        refine z_xVi (As := [.int (nI j)]) (rest := []) (k := 0) S hE hW (cX3_back_ok l D (n0 + 3 + N) ad cy sa H.size (by omega) cl (exS cy ad N B (hourS al) (exH cy a0 n0 N (pfx (f1 al) N) (pfx (f2 al) N) (wsP (fT al) N 0) ex)) (nI j) N hIc.1.1 hIc.1.2.1 (h + 1) hIc.1.2.2.2.2 (by omega) hIc.ab hfl) (cwV 1 hts gL_law_X3_back rfl rfl rfl (by decide +kernel) ⟨Nat.le_of_ble_eq_true rfl, Nat.le_of_ble_eq_true rfl⟩) (by omega) cC_0 rfl rfl rfl hl.1 rfl (Nat.le_of_ble_eq_true rfl) dL_law_387 ⟨(Nat.le_trans (m := 600000) (by omega) (Nat.le_of_ble_eq_true rfl)), (Nat.le_trans (m := 600000) (by omega) (Nat.le_of_ble_eq_true rfl))⟩ (fun E x9 q9 H locs hbad hW hx9 hv9 hc9 => absurd hbad (zbad_0 (k0_back hIc (by omega)))) (fun r _ H locs hp hW => ?_)
        obtain ⟨-, rfl⟩ := hp
        obtain ⟨cl10, hcl10⟩ : ∃ z, z = u_back cl (nI j) := ⟨_, rfl⟩
        rw [← hcl10] at hW
        have hAG10 : AG cl10 (hourS al) := by rw [hcl10]; exact (st_back hIc (by omega)).2.tr hAG
        have hTI10 : TI cl10 := by rw [hcl10]; exact (st_back hIc (by omega)).1
        have hIc10 := AG.inv hI1.1 hAG10 hTI10
        refine z_top2 (y := v_back (hourS al) (nI j)) (ag_back hAG (by omega)) ?_
        refine lv_aload hx hb dL_law_390 (lv_at hl 7 rfl) ?_
        refine lv_iload hx hb dL_law_392 (lv_at hl 1 rfl) ?_
        refine z_ald S hE hW (by omega) ((sW_x (by omega)).trans exH_b) j rfl (by omega) (by omega) (v := f1 al j) ((pfx_at (by omega))) dL_law_394 ?_
        refine lv_iconst (v := 1) hx hb dL_law_395 (by decide) ?_
        refine lv_isub hx hb dL_law_396 ?_
        refine lv_icmp_eq (tgt := 402) hx hb dL_law_397 (by decide) (fun _ => ?_) (fun h => absurd (lf_back1 hI.1 (by omega) hj c381) h)
        refine lv_aload hx hb dL_law_402 (lv_at hl 5 rfl) ?_
        refine lv_iload hx hb dL_law_404 (lv_at hl 1 rfl) ?_
        refine z_aldA S hE hW (by omega) ((sW_x (by omega)).trans exH_w) j rfl (by omega) (by omega) (v := .ref (ad (n0 + 3 + j))) ((congrArg va_rf (if_pos hj)).trans (congrArg Value.ref (ha0 (n0 + 3 + j) (by omega) (by omega)).symm)) dL_law_406 ?_
        refine lv_iconst (v := 3) hx hb dL_law_407 (by decide) ?_
        refine z_ald S hE hW (by omega) ((sW_x (by omega)).trans (exH_r hj)) 3 rfl (by decide) (by decide) (v := al (10 + j) 4) ((congrFun (wsP_lt (by omega)) 3).trans ((pfx_at (by decide)).trans (fT_3 (by omega)))) dL_law_408 ?_
        refine lv_iconst (v := 1) hx hb dL_law_409 (by decide) ?_
        refine lv_icmp_eq (tgt := 416) hx hb dL_law_410 (by decide) (fun c410 => ?_) (fun c410 => ?_)
        · obtain ⟨r3, r4, r2⟩ := lf_row1 hI.1 (by omega) hj c410
          refine lv_aload hx hb dL_law_416 (lv_at hl 5 rfl) ?_
          refine lv_iload hx hb dL_law_418 (lv_at hl 1 rfl) ?_
          refine z_aldA S hE hW (by omega) ((sW_x (by omega)).trans exH_w) j rfl (by omega) (by omega) (v := .ref (ad (n0 + 3 + j))) ((congrArg va_rf (if_pos hj)).trans (congrArg Value.ref (ha0 (n0 + 3 + j) (by omega) (by omega)).symm)) dL_law_420 ?_
          refine lv_iconst (v := 1) hx hb dL_law_421 (by decide) ?_
          refine z_ald S hE hW (by omega) ((sW_x (by omega)).trans (exH_r hj)) 1 rfl (by decide) (by decide) (v := al (10 + j) 2) ((congrFun (wsP_lt (by omega)) 1).trans ((pfx_at (by decide)).trans (fT_1 (by omega)))) dL_law_422 ?_
          refine lv_aload hx hb dL_law_423 (lv_at hl 5 rfl) ?_
          refine lv_iload hx hb dL_law_425 (lv_at hl 1 rfl) ?_
          refine z_aldA S hE hW (by omega) ((sW_x (by omega)).trans exH_w) j rfl (by omega) (by omega) (v := .ref (ad (n0 + 3 + j))) ((congrArg va_rf (if_pos hj)).trans (congrArg Value.ref (ha0 (n0 + 3 + j) (by omega) (by omega)).symm)) dL_law_427 ?_
          refine lv_iconst (v := 1) hx hb dL_law_428 (by decide) ?_
          refine z_ald S hE hW (by omega) ((sW_x (by omega)).trans (exH_r hj)) 1 rfl (by decide) (by decide) (v := al (10 + j) 2) ((congrFun (wsP_lt (by omega)) 1).trans ((pfx_at (by decide)).trans (fT_1 (by omega)))) dL_law_429 ?_
          refine lv_if_le (tgt := 453) hx hb dL_law_430 (by decide) (fun c430 => ?_) (fun c430 => ?_)
          · refine lv_iconst (v := 0) hx hb dL_law_453 (by decide) ?_
            refine lv_isub hx hb dL_law_454 ?_
            refine z_top2 (y := fallA (al (10 + j) 2) (al 3 (h % 8))) (fall_n1 c430) ?_
            refine lv_istore (lv' := [(15, .int (fallA (al (10 + j) 2) (al 3 (h % 8)))), (14, .int (hourS al (10 + j) 4)), (13, .int (nI j)), (12, .int (sumI (fun i => landA (rowS al i) (al 3 (h % 8))) j)), (11, .int (ash (hourS al) - ash al)), (9, .int (al 3 (h % 8))), (8, .ref (ad (n0 + 2))), (7, .ref (ad (n0 + 1))), (6, .ref (ad n0)), (5, .int (nI N)), (3, .int (nI tm)), (2, .ref (ad 28)), (1, .ref (ad 0)), (0, .ref b)]) hx hb dL_law_455 hl (by decide) rfl (fun ls hl => ?_)
            refine lv_iconst (v := 0) hx hb dL_law_457 (by decide) ?_
            refine lv_aload hx hb dL_law_458 (lv_at hl 6 rfl) ?_
            refine lv_iload hx hb dL_law_460 (lv_at hl 2 rfl) ?_
            refine z_aldA S hE hW (by omega) ((sW_x (by omega)).trans exH_w) j rfl (by omega) (by omega) (v := .ref (ad (n0 + 3 + j))) ((congrArg va_rf (if_pos hj)).trans (congrArg Value.ref (ha0 (n0 + 3 + j) (by omega) (by omega)).symm)) dL_law_462 ?_
            refine lv_iconst (v := 2) hx hb dL_law_463 (by decide) ?_
            refine z_ald S hE hW (by omega) ((sW_x (by omega)).trans (exH_r hj)) 2 rfl (by decide) (by decide) (v := al (10 + j) 3) ((congrFun (wsP_lt (by omega)) 2).trans ((pfx_at (by decide)).trans (fT_2 (by omega)))) dL_law_464 ?_
            refine lv_iconst (v := 4) hx hb dL_law_465 (by decide) ?_
            refine lv_isub hx hb dL_law_466 ?_
            refine lv_iload hx hb dL_law_467 (lv_at hl 0 rfl) ?_
            refine lv_iconst (v := 3) hx hb dL_law_469 (by decide) ?_
            refine lv_idiv hx hb dL_law_470 (by decide) ?_
            refine lv_iadd hx hb dL_law_471 ?_
            refine lv_iload hx hb dL_law_472 (lv_at hl 5 rfl) ?_
            refine lv_iconst (v := 2) hx hb dL_law_474 (by decide) ?_
            refine lv_idiv hx hb dL_law_475 (by decide) ?_
            refine lv_isub hx hb dL_law_476 ?_
            refine z_mmax S hl.1 l133 ls_max li_Math lc_max ⟨Nat.le_of_ble_eq_true rfl, Nat.le_of_ble_eq_true rfl, (Nat.le_trans (m := 600000) (by omega) (Nat.le_of_ble_eq_true rfl)), (Nat.le_trans (m := 600000) (by omega) (Nat.le_of_ble_eq_true rfl))⟩ dL_law_477 (v := zmx 0 (((al (10 + j) 3 - 4) + (fallA (al (10 + j) 2) (al 3 (h % 8)) / 3)) - (al 3 (h % 8) / 2))) rfl ?_
            refine z_top2 (y := dropH (al (10 + j) 2) (al (10 + j) 3) (al 3 (h % 8))) (lf_h rfl) ?_
            refine lv_istore (lv' := [(16, .int (dropH (al (10 + j) 2) (al (10 + j) 3) (al 3 (h % 8)))), (15, .int (fallA (al (10 + j) 2) (al 3 (h % 8)))), (14, .int (hourS al (10 + j) 4)), (13, .int (nI j)), (12, .int (sumI (fun i => landA (rowS al i) (al 3 (h % 8))) j)), (11, .int (ash (hourS al) - ash al)), (9, .int (al 3 (h % 8))), (8, .ref (ad (n0 + 2))), (7, .ref (ad (n0 + 1))), (6, .ref (ad n0)), (5, .int (nI N)), (3, .int (nI tm)), (2, .ref (ad 28)), (1, .ref (ad 0)), (0, .ref b)]) hx hb dL_law_480 hl (by decide) rfl (fun ls hl => ?_)
            refine lv_aload_n hx hb dL_law_482 rfl (lv_at hl 13 rfl) ?_
            refine lv_iload hx hb dL_law_483 (lv_at hl 3 rfl) ?_
            refine lv_iconst (v := 2) hx hb dL_law_485 (by decide) ?_
            refine z_cVi (As := [.int (nI j), .int (nI 2)]) (rest := []) (k := 0) S hE hW (cX3_told0_ok l D (n0 + 3 + N) ad cy sa H.size (by omega) cl10 (exS cy ad N B (hourS al) (exH cy a0 n0 N (pfx (f1 al) N) (pfx (f2 al) N) (wsP (fT al) N 0) ex)) N hIc10.1.1 hIc10.1.2.1 hIc10.ab j (by omega) 2 (by omega)) (cwV 2 hts gL_law_X3_told rfl rfl rfl (by decide +kernel) ⟨Nat.le_of_ble_eq_true rfl, Nat.le_of_ble_eq_true rfl⟩) (by omega) cC_0 rfl rfl rfl hl.1 rfl (Nat.le_of_ble_eq_true rfl) dL_law_486 ⟨(Nat.le_trans (m := 600000) (by omega) (Nat.le_of_ble_eq_true rfl)), (Nat.le_trans (m := 600000) (by omega) (Nat.le_of_ble_eq_true rfl))⟩ (fun r _ H locs hp hW => ?_)
            subst hp
            refine z_top2 (y := hourS al (10 + j) 3) ((ag_told hAG10 (by omega) _).trans (fT_2 (by omega))) ?_
            refine z_top2 (y := dropH (al (10 + j) 2) (al (10 + j) 3) (al 3 (h % 8))) r3 ?_
            refine lv_iload hx hb dL_law_489 (lv_at hl 0 rfl) ?_
            refine lv_icmp_ne (tgt := 530) hx hb dL_law_491 (by decide) (fun h => absurd rfl h) (fun _ => ?_)
            refine lv_iload hx hb dL_law_494 (lv_at hl 2 rfl) ?_
            refine lv_iload hx hb dL_law_496 (lv_at hl 0 rfl) ?_
            refine lv_if_ne (tgt := 505) hx hb dL_law_498 (by decide) (fun c498 => ?_) (fun c498 => ?_)
            · refine lv_iconst (v := 1) hx hb dL_law_505 (by decide) ?_
              refine lv_icmp_ne (tgt := 530) hx hb dL_law_506 (by decide) (fun h => absurd (r4.trans (if_neg c498)) h) (fun _ => ?_)
              refine lv_aload_n hx hb dL_law_509 rfl (lv_at hl 13 rfl) ?_
              refine lv_iload hx hb dL_law_510 (lv_at hl 3 rfl) ?_
              refine lv_iconst (v := 1) hx hb dL_law_512 (by decide) ?_
              refine z_cVi (As := [.int (nI j), .int (nI 1)]) (rest := []) (k := 0) S hE hW (cX3_told0_ok l D (n0 + 3 + N) ad cy sa H.size (by omega) cl10 (exS cy ad N B (hourS al) (exH cy a0 n0 N (pfx (f1 al) N) (pfx (f2 al) N) (wsP (fT al) N 0) ex)) N hIc10.1.1 hIc10.1.2.1 hIc10.ab j (by omega) 1 (by omega)) (cwV 2 hts gL_law_X3_told rfl rfl rfl (by decide +kernel) ⟨Nat.le_of_ble_eq_true rfl, Nat.le_of_ble_eq_true rfl⟩) (by omega) cC_0 rfl rfl rfl hl.1 rfl (Nat.le_of_ble_eq_true rfl) dL_law_513 ⟨(Nat.le_trans (m := 600000) (by omega) (Nat.le_of_ble_eq_true rfl)), (Nat.le_trans (m := 600000) (by omega) (Nat.le_of_ble_eq_true rfl))⟩ (fun r _ H locs hp hW => ?_)
              subst hp
              refine z_top2 (y := hourS al (10 + j) 2) ((ag_told hAG10 (by omega) _).trans (fT_1 (by omega))) ?_
              refine lv_iload hx hb dL_law_516 (lv_at hl 0 rfl) ?_
              refine lv_if_ne (tgt := 525) hx hb dL_law_518 (by decide) (fun _ => ?_) (fun h => absurd h c498)
              refine lv_iload hx hb dL_law_525 (lv_at hl 1 rfl) ?_
              refine lv_icmp_eq (tgt := 532) hx hb dL_law_527 (by decide) (fun _ => ?_) (fun h => absurd (r2.trans (if_neg c498)) h)
              refine lv_iload hx hb dL_law_532 (lv_at hl 0 rfl) ?_
              refine lv_if_ne (tgt := 547) hx hb dL_law_534 (by decide) (fun _ => ?_) (fun h => absurd h c498)
              refine lv_iload hx hb dL_law_547 (lv_at hl 0 rfl) ?_
              refine lv_if_le (tgt := 568) hx hb dL_law_549 (by decide) (fun h => absurd h (drop_le hI.1 hj c498)) (fun _ => ?_)
              refine lv_aload_n hx hb dL_law_552 rfl (lv_at hl 13 rfl) ?_
              refine lv_iload hx hb dL_law_553 (lv_at hl 3 rfl) ?_
              refine z_xVi (As := [.int (nI j)]) (rest := []) (k := 0) S hE hW (cX3_arrives_ok l D (n0 + 3 + N) ad cy sa H.size (by omega) cl10 (exS cy ad N B (hourS al) (exH cy a0 n0 N (pfx (f1 al) N) (pfx (f2 al) N) (wsP (fT al) N 0) ex)) (nI j) N hIc10.1.1 hIc10.1.2.1 (h + 1) hIc10.1.2.2.2.2 (by omega) hIc10.ab hfl) (cwV 1 hts gL_law_X3_arrives rfl rfl rfl (by decide +kernel) ⟨Nat.le_of_ble_eq_true rfl, Nat.le_of_ble_eq_true rfl⟩) (by omega) cC_0 rfl rfl rfl hl.1 rfl (Nat.le_of_ble_eq_true rfl) dL_law_555 ⟨(Nat.le_trans (m := 600000) (by omega) (Nat.le_of_ble_eq_true rfl)), (Nat.le_trans (m := 600000) (by omega) (Nat.le_of_ble_eq_true rfl))⟩ (fun E x9 q9 H locs hbad hW hx9 hv9 hc9 => absurd hbad (zbad_0 (k0_arrives hIc10 (by omega)))) (fun r _ H locs hp hW => ?_)
              obtain ⟨-, rfl⟩ := hp
              obtain ⟨cl11, hcl11⟩ : ∃ z, z = u_arrives cl10 (nI j) := ⟨_, rfl⟩
              rw [← hcl11] at hW
              have hAG11 : AG cl11 (hourS al) := by rw [hcl11]; exact (st_arrives hIc10 (by omega)).2.tr hAG10
              have hTI11 : TI cl11 := by rw [hcl11]; exact (st_arrives hIc10 (by omega)).1
              have hIc11 := AG.inv hI1.1 hAG11 hTI11
              refine z_top2 (y := v_arrives (hourS al) (nI j)) (ag_arr hAG10 hIc10 hI1.1 (by omega)) ?_
              refine lv_aload hx hb dL_law_558 (lv_at hl 8 rfl) ?_
              refine lv_iload hx hb dL_law_560 (lv_at hl 3 rfl) ?_
              refine z_ald S hE hW (by omega) ((sW_x (by omega)).trans exH_a) j rfl (by omega) (by omega) (v := f2 al j) ((pfx_at (by omega))) dL_law_562 ?_
              refine lv_icmp_eq (tgt := 568) hx hb dL_law_563 (by decide) (fun _ => ?_) (fun h => absurd (lf_stay hI.1 hI1.1 (by omega) hj c410 c498) h)
              refine lv_iload hx hb dL_law_568 (lv_at hl 4 rfl) ?_
              refine lv_iload hx hb dL_law_570 (lv_at hl 0 rfl) ?_
              refine lv_if_ne (tgt := 580) hx hb dL_law_572 (by decide) (fun _ => ?_) (fun h => absurd h c498)
              refine lv_iconst (v := 0) hx hb dL_law_580 (by decide) ?_
              refine lv_iadd hx hb dL_law_581 ?_
              refine z_top2 (y := sumI (fun i => landA (rowS al i) (al 3 (h % 8))) (j + 1)) (by show _ = sumI (fun i => landA (rowS al i) (al 3 (h % 8))) j + landA (rowS al j) (al 3 (h % 8)); rw [land_1 c410, if_neg c498]) ?_
              refine lv_istore (lv' := [(12, .int (sumI (fun i => landA (rowS al i) (al 3 (h % 8))) (j + 1))), (16, .int (dropH (al (10 + j) 2) (al (10 + j) 3) (al 3 (h % 8)))), (15, .int (fallA (al (10 + j) 2) (al 3 (h % 8)))), (14, .int (hourS al (10 + j) 4)), (13, .int (nI j)), (11, .int (ash (hourS al) - ash al)), (9, .int (al 3 (h % 8))), (8, .ref (ad (n0 + 2))), (7, .ref (ad (n0 + 1))), (6, .ref (ad n0)), (5, .int (nI N)), (3, .int (nI tm)), (2, .ref (ad 28)), (1, .ref (ad 0)), (0, .ref b)]) hx hb dL_law_582 hl (by decide) rfl (fun ls hl => ?_)
              refine lv_iinc (v := nI (j + 1)) (lv' := [(13, .int (nI (j + 1))), (12, .int (sumI (fun i => landA (rowS al i) (al 3 (h % 8))) (j + 1))), (16, .int (dropH (al (10 + j) 2) (al (10 + j) 3) (al 3 (h % 8)))), (15, .int (fallA (al (10 + j) 2) (al 3 (h % 8)))), (14, .int (hourS al (10 + j) 4)), (11, .int (ash (hourS al) - ash al)), (9, .int (al 3 (h % 8))), (8, .ref (ad (n0 + 2))), (7, .ref (ad (n0 + 1))), (6, .ref (ad n0)), (5, .int (nI N)), (3, .int (nI tm)), (2, .ref (ad 28)), (1, .ref (ad 0)), (0, .ref b)]) hx hb dL_law_584 hl (k := 4) rfl (nI_1 _) (by decide) rfl (fun ls hl => ?_)
              refine lv_goto (tgt := 358) hx hb dL_law_587 (by decide) ?_
              refine W.widen (k := cells + 2 * (j + 1)) (n := slots + 12 * (j + 1)) (by omega) (by omega) ?_
              exact ih (j + 1) cl11 H locs ls (by omega) hAG11 hTI11 hW (lv_sub hl [0, 1, 5, 6, 7, 8, 9, 10, 11, 12, 13, 14] rfl)
            · refine lv_iconst (v := 2) hx hb dL_law_501 (by decide) ?_
              refine lv_goto (tgt := 506) hx hb dL_law_502 (by decide) ?_
              refine lv_icmp_ne (tgt := 530) hx hb dL_law_506 (by decide) (fun h => absurd (r4.trans (if_pos c498)) h) (fun _ => ?_)
              refine lv_aload_n hx hb dL_law_509 rfl (lv_at hl 13 rfl) ?_
              refine lv_iload hx hb dL_law_510 (lv_at hl 3 rfl) ?_
              refine lv_iconst (v := 1) hx hb dL_law_512 (by decide) ?_
              refine z_cVi (As := [.int (nI j), .int (nI 1)]) (rest := []) (k := 0) S hE hW (cX3_told0_ok l D (n0 + 3 + N) ad cy sa H.size (by omega) cl10 (exS cy ad N B (hourS al) (exH cy a0 n0 N (pfx (f1 al) N) (pfx (f2 al) N) (wsP (fT al) N 0) ex)) N hIc10.1.1 hIc10.1.2.1 hIc10.ab j (by omega) 1 (by omega)) (cwV 2 hts gL_law_X3_told rfl rfl rfl (by decide +kernel) ⟨Nat.le_of_ble_eq_true rfl, Nat.le_of_ble_eq_true rfl⟩) (by omega) cC_0 rfl rfl rfl hl.1 rfl (Nat.le_of_ble_eq_true rfl) dL_law_513 ⟨(Nat.le_trans (m := 600000) (by omega) (Nat.le_of_ble_eq_true rfl)), (Nat.le_trans (m := 600000) (by omega) (Nat.le_of_ble_eq_true rfl))⟩ (fun r _ H locs hp hW => ?_)
              subst hp
              refine z_top2 (y := hourS al (10 + j) 2) ((ag_told hAG10 (by omega) _).trans (fT_1 (by omega))) ?_
              refine lv_iload hx hb dL_law_516 (lv_at hl 0 rfl) ?_
              refine lv_if_ne (tgt := 525) hx hb dL_law_518 (by decide) (fun h => absurd c498 h) (fun _ => ?_)
              refine lv_iconst (v := 0) hx hb dL_law_521 (by decide) ?_
              refine lv_goto (tgt := 527) hx hb dL_law_522 (by decide) ?_
              refine lv_icmp_eq (tgt := 532) hx hb dL_law_527 (by decide) (fun _ => ?_) (fun h => absurd (r2.trans (if_pos c498)) h)
              refine lv_iload hx hb dL_law_532 (lv_at hl 0 rfl) ?_
              refine lv_if_ne (tgt := 547) hx hb dL_law_534 (by decide) (fun h => absurd c498 h) (fun _ => ?_)
              refine lv_aload hx hb dL_law_537 (lv_at hl 8 rfl) ?_
              refine lv_iload hx hb dL_law_539 (lv_at hl 3 rfl) ?_
              refine z_ald S hE hW (by omega) ((sW_x (by omega)).trans exH_a) j rfl (by omega) (by omega) (v := f2 al j) ((pfx_at (by omega))) dL_law_541 ?_
              refine lv_iload hx hb dL_law_542 (lv_at hl 1 rfl) ?_
              refine lv_icmp_ne (tgt := 566) hx hb dL_law_544 (by decide) (fun h => absurd (lf_land hI.1 (by omega) hj c410 c498) h) (fun _ => ?_)
              refine lv_iload hx hb dL_law_547 (lv_at hl 0 rfl) ?_
              refine lv_if_le (tgt := 568) hx hb dL_law_549 (by decide) (fun _ => ?_) (fun h => absurd (by rw [c498]; decide) h)
              refine lv_iload hx hb dL_law_568 (lv_at hl 4 rfl) ?_
              refine lv_iload hx hb dL_law_570 (lv_at hl 0 rfl) ?_
              refine lv_if_ne (tgt := 580) hx hb dL_law_572 (by decide) (fun h => absurd c498 h) (fun _ => ?_)
              refine lv_iload hx hb dL_law_575 (lv_at hl 1 rfl) ?_
              refine lv_goto (tgt := 581) hx hb dL_law_577 (by decide) ?_
              refine lv_iadd hx hb dL_law_581 ?_
              refine z_top2 (y := sumI (fun i => landA (rowS al i) (al 3 (h % 8))) (j + 1)) (by show _ = sumI (fun i => landA (rowS al i) (al 3 (h % 8))) j + landA (rowS al j) (al 3 (h % 8)); rw [land_1 c410, if_pos c498]) ?_
              refine lv_istore (lv' := [(12, .int (sumI (fun i => landA (rowS al i) (al 3 (h % 8))) (j + 1))), (16, .int (dropH (al (10 + j) 2) (al (10 + j) 3) (al 3 (h % 8)))), (15, .int (fallA (al (10 + j) 2) (al 3 (h % 8)))), (14, .int (hourS al (10 + j) 4)), (13, .int (nI j)), (11, .int (ash (hourS al) - ash al)), (9, .int (al 3 (h % 8))), (8, .ref (ad (n0 + 2))), (7, .ref (ad (n0 + 1))), (6, .ref (ad n0)), (5, .int (nI N)), (3, .int (nI tm)), (2, .ref (ad 28)), (1, .ref (ad 0)), (0, .ref b)]) hx hb dL_law_582 hl (by decide) rfl (fun ls hl => ?_)
              refine lv_iinc (v := nI (j + 1)) (lv' := [(13, .int (nI (j + 1))), (12, .int (sumI (fun i => landA (rowS al i) (al 3 (h % 8))) (j + 1))), (16, .int (dropH (al (10 + j) 2) (al (10 + j) 3) (al 3 (h % 8)))), (15, .int (fallA (al (10 + j) 2) (al 3 (h % 8)))), (14, .int (hourS al (10 + j) 4)), (11, .int (ash (hourS al) - ash al)), (9, .int (al 3 (h % 8))), (8, .ref (ad (n0 + 2))), (7, .ref (ad (n0 + 1))), (6, .ref (ad n0)), (5, .int (nI N)), (3, .int (nI tm)), (2, .ref (ad 28)), (1, .ref (ad 0)), (0, .ref b)]) hx hb dL_law_584 hl (k := 4) rfl (nI_1 _) (by decide) rfl (fun ls hl => ?_)
              refine lv_goto (tgt := 358) hx hb dL_law_587 (by decide) ?_
              refine W.widen (k := cells + 2 * (j + 1)) (n := slots + 12 * (j + 1)) (by omega) (by omega) ?_
              exact ih (j + 1) cl10 H locs ls (by omega) hAG10 hTI10 hW (lv_sub hl [0, 1, 5, 6, 7, 8, 9, 10, 11, 12, 13, 14] rfl)
          · refine lv_iload hx hb dL_law_433 (lv_at hl 4 rfl) ?_
            refine lv_iconst (v := 4) hx hb dL_law_435 (by decide) ?_
            refine lv_iconst (v := 2) hx hb dL_law_436 (by decide) ?_
            refine lv_aload hx hb dL_law_437 (lv_at hl 5 rfl) ?_
            refine lv_iload hx hb dL_law_439 (lv_at hl 1 rfl) ?_
            refine z_aldA S hE hW (by omega) ((sW_x (by omega)).trans exH_w) j rfl (by omega) (by omega) (v := .ref (ad (n0 + 3 + j))) ((congrArg va_rf (if_pos hj)).trans (congrArg Value.ref (ha0 (n0 + 3 + j) (by omega) (by omega)).symm)) dL_law_441 ?_
            refine lv_iconst (v := 1) hx hb dL_law_442 (by decide) ?_
            refine z_ald S hE hW (by omega) ((sW_x (by omega)).trans (exH_r hj)) 1 rfl (by decide) (by decide) (v := al (10 + j) 2) ((congrFun (wsP_lt (by omega)) 1).trans ((pfx_at (by decide)).trans (fT_1 (by omega)))) dL_law_443 ?_
            refine lv_imul hx hb dL_law_444 ?_
            refine lv_iadd hx hb dL_law_445 ?_
            refine lv_icmp_le (tgt := 453) hx hb dL_law_446 (by decide) (fun c446 => ?_) (fun c446 => ?_)
            · refine lv_iconst (v := 0) hx hb dL_law_453 (by decide) ?_
              refine lv_isub hx hb dL_law_454 ?_
              refine z_top2 (y := fallA (al (10 + j) 2) (al 3 (h % 8))) (fall_n2 c446) ?_
              refine lv_istore (lv' := [(15, .int (fallA (al (10 + j) 2) (al 3 (h % 8)))), (14, .int (hourS al (10 + j) 4)), (13, .int (nI j)), (12, .int (sumI (fun i => landA (rowS al i) (al 3 (h % 8))) j)), (11, .int (ash (hourS al) - ash al)), (9, .int (al 3 (h % 8))), (8, .ref (ad (n0 + 2))), (7, .ref (ad (n0 + 1))), (6, .ref (ad n0)), (5, .int (nI N)), (3, .int (nI tm)), (2, .ref (ad 28)), (1, .ref (ad 0)), (0, .ref b)]) hx hb dL_law_455 hl (by decide) rfl (fun ls hl => ?_)
              refine lv_iconst (v := 0) hx hb dL_law_457 (by decide) ?_
              refine lv_aload hx hb dL_law_458 (lv_at hl 6 rfl) ?_
              refine lv_iload hx hb dL_law_460 (lv_at hl 2 rfl) ?_
              refine z_aldA S hE hW (by omega) ((sW_x (by omega)).trans exH_w) j rfl (by omega) (by omega) (v := .ref (ad (n0 + 3 + j))) ((congrArg va_rf (if_pos hj)).trans (congrArg Value.ref (ha0 (n0 + 3 + j) (by omega) (by omega)).symm)) dL_law_462 ?_
              refine lv_iconst (v := 2) hx hb dL_law_463 (by decide) ?_
              refine z_ald S hE hW (by omega) ((sW_x (by omega)).trans (exH_r hj)) 2 rfl (by decide) (by decide) (v := al (10 + j) 3) ((congrFun (wsP_lt (by omega)) 2).trans ((pfx_at (by decide)).trans (fT_2 (by omega)))) dL_law_464 ?_
              refine lv_iconst (v := 4) hx hb dL_law_465 (by decide) ?_
              refine lv_isub hx hb dL_law_466 ?_
              refine lv_iload hx hb dL_law_467 (lv_at hl 0 rfl) ?_
              refine lv_iconst (v := 3) hx hb dL_law_469 (by decide) ?_
              refine lv_idiv hx hb dL_law_470 (by decide) ?_
              refine lv_iadd hx hb dL_law_471 ?_
              refine lv_iload hx hb dL_law_472 (lv_at hl 5 rfl) ?_
              refine lv_iconst (v := 2) hx hb dL_law_474 (by decide) ?_
              refine lv_idiv hx hb dL_law_475 (by decide) ?_
              refine lv_isub hx hb dL_law_476 ?_
              refine z_mmax S hl.1 l133 ls_max li_Math lc_max ⟨Nat.le_of_ble_eq_true rfl, Nat.le_of_ble_eq_true rfl, (Nat.le_trans (m := 600000) (by omega) (Nat.le_of_ble_eq_true rfl)), (Nat.le_trans (m := 600000) (by omega) (Nat.le_of_ble_eq_true rfl))⟩ dL_law_477 (v := zmx 0 (((al (10 + j) 3 - 4) + (fallA (al (10 + j) 2) (al 3 (h % 8)) / 3)) - (al 3 (h % 8) / 2))) rfl ?_
              refine z_top2 (y := dropH (al (10 + j) 2) (al (10 + j) 3) (al 3 (h % 8))) (lf_h rfl) ?_
              refine lv_istore (lv' := [(16, .int (dropH (al (10 + j) 2) (al (10 + j) 3) (al 3 (h % 8)))), (15, .int (fallA (al (10 + j) 2) (al 3 (h % 8)))), (14, .int (hourS al (10 + j) 4)), (13, .int (nI j)), (12, .int (sumI (fun i => landA (rowS al i) (al 3 (h % 8))) j)), (11, .int (ash (hourS al) - ash al)), (9, .int (al 3 (h % 8))), (8, .ref (ad (n0 + 2))), (7, .ref (ad (n0 + 1))), (6, .ref (ad n0)), (5, .int (nI N)), (3, .int (nI tm)), (2, .ref (ad 28)), (1, .ref (ad 0)), (0, .ref b)]) hx hb dL_law_480 hl (by decide) rfl (fun ls hl => ?_)
              refine lv_aload_n hx hb dL_law_482 rfl (lv_at hl 13 rfl) ?_
              refine lv_iload hx hb dL_law_483 (lv_at hl 3 rfl) ?_
              refine lv_iconst (v := 2) hx hb dL_law_485 (by decide) ?_
              refine z_cVi (As := [.int (nI j), .int (nI 2)]) (rest := []) (k := 0) S hE hW (cX3_told0_ok l D (n0 + 3 + N) ad cy sa H.size (by omega) cl10 (exS cy ad N B (hourS al) (exH cy a0 n0 N (pfx (f1 al) N) (pfx (f2 al) N) (wsP (fT al) N 0) ex)) N hIc10.1.1 hIc10.1.2.1 hIc10.ab j (by omega) 2 (by omega)) (cwV 2 hts gL_law_X3_told rfl rfl rfl (by decide +kernel) ⟨Nat.le_of_ble_eq_true rfl, Nat.le_of_ble_eq_true rfl⟩) (by omega) cC_0 rfl rfl rfl hl.1 rfl (Nat.le_of_ble_eq_true rfl) dL_law_486 ⟨(Nat.le_trans (m := 600000) (by omega) (Nat.le_of_ble_eq_true rfl)), (Nat.le_trans (m := 600000) (by omega) (Nat.le_of_ble_eq_true rfl))⟩ (fun r _ H locs hp hW => ?_)
              subst hp
              refine z_top2 (y := hourS al (10 + j) 3) ((ag_told hAG10 (by omega) _).trans (fT_2 (by omega))) ?_
              refine z_top2 (y := dropH (al (10 + j) 2) (al (10 + j) 3) (al 3 (h % 8))) r3 ?_
              refine lv_iload hx hb dL_law_489 (lv_at hl 0 rfl) ?_
              refine lv_icmp_ne (tgt := 530) hx hb dL_law_491 (by decide) (fun h => absurd rfl h) (fun _ => ?_)
              refine lv_iload hx hb dL_law_494 (lv_at hl 2 rfl) ?_
              refine lv_iload hx hb dL_law_496 (lv_at hl 0 rfl) ?_
              refine lv_if_ne (tgt := 505) hx hb dL_law_498 (by decide) (fun c498 => ?_) (fun c498 => ?_)
              · refine lv_iconst (v := 1) hx hb dL_law_505 (by decide) ?_
                refine lv_icmp_ne (tgt := 530) hx hb dL_law_506 (by decide) (fun h => absurd (r4.trans (if_neg c498)) h) (fun _ => ?_)
                refine lv_aload_n hx hb dL_law_509 rfl (lv_at hl 13 rfl) ?_
                refine lv_iload hx hb dL_law_510 (lv_at hl 3 rfl) ?_
                refine lv_iconst (v := 1) hx hb dL_law_512 (by decide) ?_
                refine z_cVi (As := [.int (nI j), .int (nI 1)]) (rest := []) (k := 0) S hE hW (cX3_told0_ok l D (n0 + 3 + N) ad cy sa H.size (by omega) cl10 (exS cy ad N B (hourS al) (exH cy a0 n0 N (pfx (f1 al) N) (pfx (f2 al) N) (wsP (fT al) N 0) ex)) N hIc10.1.1 hIc10.1.2.1 hIc10.ab j (by omega) 1 (by omega)) (cwV 2 hts gL_law_X3_told rfl rfl rfl (by decide +kernel) ⟨Nat.le_of_ble_eq_true rfl, Nat.le_of_ble_eq_true rfl⟩) (by omega) cC_0 rfl rfl rfl hl.1 rfl (Nat.le_of_ble_eq_true rfl) dL_law_513 ⟨(Nat.le_trans (m := 600000) (by omega) (Nat.le_of_ble_eq_true rfl)), (Nat.le_trans (m := 600000) (by omega) (Nat.le_of_ble_eq_true rfl))⟩ (fun r _ H locs hp hW => ?_)
                subst hp
                refine z_top2 (y := hourS al (10 + j) 2) ((ag_told hAG10 (by omega) _).trans (fT_1 (by omega))) ?_
                refine lv_iload hx hb dL_law_516 (lv_at hl 0 rfl) ?_
                refine lv_if_ne (tgt := 525) hx hb dL_law_518 (by decide) (fun _ => ?_) (fun h => absurd h c498)
                refine lv_iload hx hb dL_law_525 (lv_at hl 1 rfl) ?_
                refine lv_icmp_eq (tgt := 532) hx hb dL_law_527 (by decide) (fun _ => ?_) (fun h => absurd (r2.trans (if_neg c498)) h)
                refine lv_iload hx hb dL_law_532 (lv_at hl 0 rfl) ?_
                refine lv_if_ne (tgt := 547) hx hb dL_law_534 (by decide) (fun _ => ?_) (fun h => absurd h c498)
                refine lv_iload hx hb dL_law_547 (lv_at hl 0 rfl) ?_
                refine lv_if_le (tgt := 568) hx hb dL_law_549 (by decide) (fun h => absurd h (drop_le hI.1 hj c498)) (fun _ => ?_)
                refine lv_aload_n hx hb dL_law_552 rfl (lv_at hl 13 rfl) ?_
                refine lv_iload hx hb dL_law_553 (lv_at hl 3 rfl) ?_
                refine z_xVi (As := [.int (nI j)]) (rest := []) (k := 0) S hE hW (cX3_arrives_ok l D (n0 + 3 + N) ad cy sa H.size (by omega) cl10 (exS cy ad N B (hourS al) (exH cy a0 n0 N (pfx (f1 al) N) (pfx (f2 al) N) (wsP (fT al) N 0) ex)) (nI j) N hIc10.1.1 hIc10.1.2.1 (h + 1) hIc10.1.2.2.2.2 (by omega) hIc10.ab hfl) (cwV 1 hts gL_law_X3_arrives rfl rfl rfl (by decide +kernel) ⟨Nat.le_of_ble_eq_true rfl, Nat.le_of_ble_eq_true rfl⟩) (by omega) cC_0 rfl rfl rfl hl.1 rfl (Nat.le_of_ble_eq_true rfl) dL_law_555 ⟨(Nat.le_trans (m := 600000) (by omega) (Nat.le_of_ble_eq_true rfl)), (Nat.le_trans (m := 600000) (by omega) (Nat.le_of_ble_eq_true rfl))⟩ (fun E x9 q9 H locs hbad hW hx9 hv9 hc9 => absurd hbad (zbad_0 (k0_arrives hIc10 (by omega)))) (fun r _ H locs hp hW => ?_)
                obtain ⟨-, rfl⟩ := hp
                obtain ⟨cl12, hcl12⟩ : ∃ z, z = u_arrives cl10 (nI j) := ⟨_, rfl⟩
                rw [← hcl12] at hW
                have hAG12 : AG cl12 (hourS al) := by rw [hcl12]; exact (st_arrives hIc10 (by omega)).2.tr hAG10
                have hTI12 : TI cl12 := by rw [hcl12]; exact (st_arrives hIc10 (by omega)).1
                have hIc12 := AG.inv hI1.1 hAG12 hTI12
                refine z_top2 (y := v_arrives (hourS al) (nI j)) (ag_arr hAG10 hIc10 hI1.1 (by omega)) ?_
                refine lv_aload hx hb dL_law_558 (lv_at hl 8 rfl) ?_
                refine lv_iload hx hb dL_law_560 (lv_at hl 3 rfl) ?_
                refine z_ald S hE hW (by omega) ((sW_x (by omega)).trans exH_a) j rfl (by omega) (by omega) (v := f2 al j) ((pfx_at (by omega))) dL_law_562 ?_
                refine lv_icmp_eq (tgt := 568) hx hb dL_law_563 (by decide) (fun _ => ?_) (fun h => absurd (lf_stay hI.1 hI1.1 (by omega) hj c410 c498) h)
                refine lv_iload hx hb dL_law_568 (lv_at hl 4 rfl) ?_
                refine lv_iload hx hb dL_law_570 (lv_at hl 0 rfl) ?_
                refine lv_if_ne (tgt := 580) hx hb dL_law_572 (by decide) (fun _ => ?_) (fun h => absurd h c498)
                refine lv_iconst (v := 0) hx hb dL_law_580 (by decide) ?_
                refine lv_iadd hx hb dL_law_581 ?_
                refine z_top2 (y := sumI (fun i => landA (rowS al i) (al 3 (h % 8))) (j + 1)) (by show _ = sumI (fun i => landA (rowS al i) (al 3 (h % 8))) j + landA (rowS al j) (al 3 (h % 8)); rw [land_1 c410, if_neg c498]) ?_
                refine lv_istore (lv' := [(12, .int (sumI (fun i => landA (rowS al i) (al 3 (h % 8))) (j + 1))), (16, .int (dropH (al (10 + j) 2) (al (10 + j) 3) (al 3 (h % 8)))), (15, .int (fallA (al (10 + j) 2) (al 3 (h % 8)))), (14, .int (hourS al (10 + j) 4)), (13, .int (nI j)), (11, .int (ash (hourS al) - ash al)), (9, .int (al 3 (h % 8))), (8, .ref (ad (n0 + 2))), (7, .ref (ad (n0 + 1))), (6, .ref (ad n0)), (5, .int (nI N)), (3, .int (nI tm)), (2, .ref (ad 28)), (1, .ref (ad 0)), (0, .ref b)]) hx hb dL_law_582 hl (by decide) rfl (fun ls hl => ?_)
                refine lv_iinc (v := nI (j + 1)) (lv' := [(13, .int (nI (j + 1))), (12, .int (sumI (fun i => landA (rowS al i) (al 3 (h % 8))) (j + 1))), (16, .int (dropH (al (10 + j) 2) (al (10 + j) 3) (al 3 (h % 8)))), (15, .int (fallA (al (10 + j) 2) (al 3 (h % 8)))), (14, .int (hourS al (10 + j) 4)), (11, .int (ash (hourS al) - ash al)), (9, .int (al 3 (h % 8))), (8, .ref (ad (n0 + 2))), (7, .ref (ad (n0 + 1))), (6, .ref (ad n0)), (5, .int (nI N)), (3, .int (nI tm)), (2, .ref (ad 28)), (1, .ref (ad 0)), (0, .ref b)]) hx hb dL_law_584 hl (k := 4) rfl (nI_1 _) (by decide) rfl (fun ls hl => ?_)
                refine lv_goto (tgt := 358) hx hb dL_law_587 (by decide) ?_
                refine W.widen (k := cells + 2 * (j + 1)) (n := slots + 12 * (j + 1)) (by omega) (by omega) ?_
                exact ih (j + 1) cl12 H locs ls (by omega) hAG12 hTI12 hW (lv_sub hl [0, 1, 5, 6, 7, 8, 9, 10, 11, 12, 13, 14] rfl)
              · refine lv_iconst (v := 2) hx hb dL_law_501 (by decide) ?_
                refine lv_goto (tgt := 506) hx hb dL_law_502 (by decide) ?_
                refine lv_icmp_ne (tgt := 530) hx hb dL_law_506 (by decide) (fun h => absurd (r4.trans (if_pos c498)) h) (fun _ => ?_)
                refine lv_aload_n hx hb dL_law_509 rfl (lv_at hl 13 rfl) ?_
                refine lv_iload hx hb dL_law_510 (lv_at hl 3 rfl) ?_
                refine lv_iconst (v := 1) hx hb dL_law_512 (by decide) ?_
                refine z_cVi (As := [.int (nI j), .int (nI 1)]) (rest := []) (k := 0) S hE hW (cX3_told0_ok l D (n0 + 3 + N) ad cy sa H.size (by omega) cl10 (exS cy ad N B (hourS al) (exH cy a0 n0 N (pfx (f1 al) N) (pfx (f2 al) N) (wsP (fT al) N 0) ex)) N hIc10.1.1 hIc10.1.2.1 hIc10.ab j (by omega) 1 (by omega)) (cwV 2 hts gL_law_X3_told rfl rfl rfl (by decide +kernel) ⟨Nat.le_of_ble_eq_true rfl, Nat.le_of_ble_eq_true rfl⟩) (by omega) cC_0 rfl rfl rfl hl.1 rfl (Nat.le_of_ble_eq_true rfl) dL_law_513 ⟨(Nat.le_trans (m := 600000) (by omega) (Nat.le_of_ble_eq_true rfl)), (Nat.le_trans (m := 600000) (by omega) (Nat.le_of_ble_eq_true rfl))⟩ (fun r _ H locs hp hW => ?_)
                subst hp
                refine z_top2 (y := hourS al (10 + j) 2) ((ag_told hAG10 (by omega) _).trans (fT_1 (by omega))) ?_
                refine lv_iload hx hb dL_law_516 (lv_at hl 0 rfl) ?_
                refine lv_if_ne (tgt := 525) hx hb dL_law_518 (by decide) (fun h => absurd c498 h) (fun _ => ?_)
                refine lv_iconst (v := 0) hx hb dL_law_521 (by decide) ?_
                refine lv_goto (tgt := 527) hx hb dL_law_522 (by decide) ?_
                refine lv_icmp_eq (tgt := 532) hx hb dL_law_527 (by decide) (fun _ => ?_) (fun h => absurd (r2.trans (if_pos c498)) h)
                refine lv_iload hx hb dL_law_532 (lv_at hl 0 rfl) ?_
                refine lv_if_ne (tgt := 547) hx hb dL_law_534 (by decide) (fun h => absurd c498 h) (fun _ => ?_)
                refine lv_aload hx hb dL_law_537 (lv_at hl 8 rfl) ?_
                refine lv_iload hx hb dL_law_539 (lv_at hl 3 rfl) ?_
                refine z_ald S hE hW (by omega) ((sW_x (by omega)).trans exH_a) j rfl (by omega) (by omega) (v := f2 al j) ((pfx_at (by omega))) dL_law_541 ?_
                refine lv_iload hx hb dL_law_542 (lv_at hl 1 rfl) ?_
                refine lv_icmp_ne (tgt := 566) hx hb dL_law_544 (by decide) (fun h => absurd (lf_land hI.1 (by omega) hj c410 c498) h) (fun _ => ?_)
                refine lv_iload hx hb dL_law_547 (lv_at hl 0 rfl) ?_
                refine lv_if_le (tgt := 568) hx hb dL_law_549 (by decide) (fun _ => ?_) (fun h => absurd (by rw [c498]; decide) h)
                refine lv_iload hx hb dL_law_568 (lv_at hl 4 rfl) ?_
                refine lv_iload hx hb dL_law_570 (lv_at hl 0 rfl) ?_
                refine lv_if_ne (tgt := 580) hx hb dL_law_572 (by decide) (fun h => absurd c498 h) (fun _ => ?_)
                refine lv_iload hx hb dL_law_575 (lv_at hl 1 rfl) ?_
                refine lv_goto (tgt := 581) hx hb dL_law_577 (by decide) ?_
                refine lv_iadd hx hb dL_law_581 ?_
                refine z_top2 (y := sumI (fun i => landA (rowS al i) (al 3 (h % 8))) (j + 1)) (by show _ = sumI (fun i => landA (rowS al i) (al 3 (h % 8))) j + landA (rowS al j) (al 3 (h % 8)); rw [land_1 c410, if_pos c498]) ?_
                refine lv_istore (lv' := [(12, .int (sumI (fun i => landA (rowS al i) (al 3 (h % 8))) (j + 1))), (16, .int (dropH (al (10 + j) 2) (al (10 + j) 3) (al 3 (h % 8)))), (15, .int (fallA (al (10 + j) 2) (al 3 (h % 8)))), (14, .int (hourS al (10 + j) 4)), (13, .int (nI j)), (11, .int (ash (hourS al) - ash al)), (9, .int (al 3 (h % 8))), (8, .ref (ad (n0 + 2))), (7, .ref (ad (n0 + 1))), (6, .ref (ad n0)), (5, .int (nI N)), (3, .int (nI tm)), (2, .ref (ad 28)), (1, .ref (ad 0)), (0, .ref b)]) hx hb dL_law_582 hl (by decide) rfl (fun ls hl => ?_)
                refine lv_iinc (v := nI (j + 1)) (lv' := [(13, .int (nI (j + 1))), (12, .int (sumI (fun i => landA (rowS al i) (al 3 (h % 8))) (j + 1))), (16, .int (dropH (al (10 + j) 2) (al (10 + j) 3) (al 3 (h % 8)))), (15, .int (fallA (al (10 + j) 2) (al 3 (h % 8)))), (14, .int (hourS al (10 + j) 4)), (11, .int (ash (hourS al) - ash al)), (9, .int (al 3 (h % 8))), (8, .ref (ad (n0 + 2))), (7, .ref (ad (n0 + 1))), (6, .ref (ad n0)), (5, .int (nI N)), (3, .int (nI tm)), (2, .ref (ad 28)), (1, .ref (ad 0)), (0, .ref b)]) hx hb dL_law_584 hl (k := 4) rfl (nI_1 _) (by decide) rfl (fun ls hl => ?_)
                refine lv_goto (tgt := 358) hx hb dL_law_587 (by decide) ?_
                refine W.widen (k := cells + 2 * (j + 1)) (n := slots + 12 * (j + 1)) (by omega) (by omega) ?_
                exact ih (j + 1) cl10 H locs ls (by omega) hAG10 hTI10 hW (lv_sub hl [0, 1, 5, 6, 7, 8, 9, 10, 11, 12, 13, 14] rfl)
            · refine lv_iconst (v := 1) hx hb dL_law_449 (by decide) ?_
              refine lv_goto (tgt := 454) hx hb dL_law_450 (by decide) ?_
              refine lv_isub hx hb dL_law_454 ?_
              refine z_top2 (y := fallA (al (10 + j) 2) (al 3 (h % 8))) (fall_y c430 c446) ?_
              refine lv_istore (lv' := [(15, .int (fallA (al (10 + j) 2) (al 3 (h % 8)))), (14, .int (hourS al (10 + j) 4)), (13, .int (nI j)), (12, .int (sumI (fun i => landA (rowS al i) (al 3 (h % 8))) j)), (11, .int (ash (hourS al) - ash al)), (9, .int (al 3 (h % 8))), (8, .ref (ad (n0 + 2))), (7, .ref (ad (n0 + 1))), (6, .ref (ad n0)), (5, .int (nI N)), (3, .int (nI tm)), (2, .ref (ad 28)), (1, .ref (ad 0)), (0, .ref b)]) hx hb dL_law_455 hl (by decide) rfl (fun ls hl => ?_)
              refine lv_iconst (v := 0) hx hb dL_law_457 (by decide) ?_
              refine lv_aload hx hb dL_law_458 (lv_at hl 6 rfl) ?_
              refine lv_iload hx hb dL_law_460 (lv_at hl 2 rfl) ?_
              refine z_aldA S hE hW (by omega) ((sW_x (by omega)).trans exH_w) j rfl (by omega) (by omega) (v := .ref (ad (n0 + 3 + j))) ((congrArg va_rf (if_pos hj)).trans (congrArg Value.ref (ha0 (n0 + 3 + j) (by omega) (by omega)).symm)) dL_law_462 ?_
              refine lv_iconst (v := 2) hx hb dL_law_463 (by decide) ?_
              refine z_ald S hE hW (by omega) ((sW_x (by omega)).trans (exH_r hj)) 2 rfl (by decide) (by decide) (v := al (10 + j) 3) ((congrFun (wsP_lt (by omega)) 2).trans ((pfx_at (by decide)).trans (fT_2 (by omega)))) dL_law_464 ?_
              refine lv_iconst (v := 4) hx hb dL_law_465 (by decide) ?_
              refine lv_isub hx hb dL_law_466 ?_
              refine lv_iload hx hb dL_law_467 (lv_at hl 0 rfl) ?_
              refine lv_iconst (v := 3) hx hb dL_law_469 (by decide) ?_
              refine lv_idiv hx hb dL_law_470 (by decide) ?_
              refine lv_iadd hx hb dL_law_471 ?_
              refine lv_iload hx hb dL_law_472 (lv_at hl 5 rfl) ?_
              refine lv_iconst (v := 2) hx hb dL_law_474 (by decide) ?_
              refine lv_idiv hx hb dL_law_475 (by decide) ?_
              refine lv_isub hx hb dL_law_476 ?_
              refine z_mmax S hl.1 l133 ls_max li_Math lc_max ⟨Nat.le_of_ble_eq_true rfl, Nat.le_of_ble_eq_true rfl, (Nat.le_trans (m := 600000) (by omega) (Nat.le_of_ble_eq_true rfl)), (Nat.le_trans (m := 600000) (by omega) (Nat.le_of_ble_eq_true rfl))⟩ dL_law_477 (v := zmx 0 (((al (10 + j) 3 - 4) + (fallA (al (10 + j) 2) (al 3 (h % 8)) / 3)) - (al 3 (h % 8) / 2))) rfl ?_
              refine z_top2 (y := dropH (al (10 + j) 2) (al (10 + j) 3) (al 3 (h % 8))) (lf_h rfl) ?_
              refine lv_istore (lv' := [(16, .int (dropH (al (10 + j) 2) (al (10 + j) 3) (al 3 (h % 8)))), (15, .int (fallA (al (10 + j) 2) (al 3 (h % 8)))), (14, .int (hourS al (10 + j) 4)), (13, .int (nI j)), (12, .int (sumI (fun i => landA (rowS al i) (al 3 (h % 8))) j)), (11, .int (ash (hourS al) - ash al)), (9, .int (al 3 (h % 8))), (8, .ref (ad (n0 + 2))), (7, .ref (ad (n0 + 1))), (6, .ref (ad n0)), (5, .int (nI N)), (3, .int (nI tm)), (2, .ref (ad 28)), (1, .ref (ad 0)), (0, .ref b)]) hx hb dL_law_480 hl (by decide) rfl (fun ls hl => ?_)
              refine lv_aload_n hx hb dL_law_482 rfl (lv_at hl 13 rfl) ?_
              refine lv_iload hx hb dL_law_483 (lv_at hl 3 rfl) ?_
              refine lv_iconst (v := 2) hx hb dL_law_485 (by decide) ?_
              refine z_cVi (As := [.int (nI j), .int (nI 2)]) (rest := []) (k := 0) S hE hW (cX3_told0_ok l D (n0 + 3 + N) ad cy sa H.size (by omega) cl10 (exS cy ad N B (hourS al) (exH cy a0 n0 N (pfx (f1 al) N) (pfx (f2 al) N) (wsP (fT al) N 0) ex)) N hIc10.1.1 hIc10.1.2.1 hIc10.ab j (by omega) 2 (by omega)) (cwV 2 hts gL_law_X3_told rfl rfl rfl (by decide +kernel) ⟨Nat.le_of_ble_eq_true rfl, Nat.le_of_ble_eq_true rfl⟩) (by omega) cC_0 rfl rfl rfl hl.1 rfl (Nat.le_of_ble_eq_true rfl) dL_law_486 ⟨(Nat.le_trans (m := 600000) (by omega) (Nat.le_of_ble_eq_true rfl)), (Nat.le_trans (m := 600000) (by omega) (Nat.le_of_ble_eq_true rfl))⟩ (fun r _ H locs hp hW => ?_)
              subst hp
              refine z_top2 (y := hourS al (10 + j) 3) ((ag_told hAG10 (by omega) _).trans (fT_2 (by omega))) ?_
              refine z_top2 (y := dropH (al (10 + j) 2) (al (10 + j) 3) (al 3 (h % 8))) r3 ?_
              refine lv_iload hx hb dL_law_489 (lv_at hl 0 rfl) ?_
              refine lv_icmp_ne (tgt := 530) hx hb dL_law_491 (by decide) (fun h => absurd rfl h) (fun _ => ?_)
              refine lv_iload hx hb dL_law_494 (lv_at hl 2 rfl) ?_
              refine lv_iload hx hb dL_law_496 (lv_at hl 0 rfl) ?_
              refine lv_if_ne (tgt := 505) hx hb dL_law_498 (by decide) (fun c498 => ?_) (fun c498 => ?_)
              · refine lv_iconst (v := 1) hx hb dL_law_505 (by decide) ?_
                refine lv_icmp_ne (tgt := 530) hx hb dL_law_506 (by decide) (fun h => absurd (r4.trans (if_neg c498)) h) (fun _ => ?_)
                refine lv_aload_n hx hb dL_law_509 rfl (lv_at hl 13 rfl) ?_
                refine lv_iload hx hb dL_law_510 (lv_at hl 3 rfl) ?_
                refine lv_iconst (v := 1) hx hb dL_law_512 (by decide) ?_
                refine z_cVi (As := [.int (nI j), .int (nI 1)]) (rest := []) (k := 0) S hE hW (cX3_told0_ok l D (n0 + 3 + N) ad cy sa H.size (by omega) cl10 (exS cy ad N B (hourS al) (exH cy a0 n0 N (pfx (f1 al) N) (pfx (f2 al) N) (wsP (fT al) N 0) ex)) N hIc10.1.1 hIc10.1.2.1 hIc10.ab j (by omega) 1 (by omega)) (cwV 2 hts gL_law_X3_told rfl rfl rfl (by decide +kernel) ⟨Nat.le_of_ble_eq_true rfl, Nat.le_of_ble_eq_true rfl⟩) (by omega) cC_0 rfl rfl rfl hl.1 rfl (Nat.le_of_ble_eq_true rfl) dL_law_513 ⟨(Nat.le_trans (m := 600000) (by omega) (Nat.le_of_ble_eq_true rfl)), (Nat.le_trans (m := 600000) (by omega) (Nat.le_of_ble_eq_true rfl))⟩ (fun r _ H locs hp hW => ?_)
                subst hp
                refine z_top2 (y := hourS al (10 + j) 2) ((ag_told hAG10 (by omega) _).trans (fT_1 (by omega))) ?_
                refine lv_iload hx hb dL_law_516 (lv_at hl 0 rfl) ?_
                refine lv_if_ne (tgt := 525) hx hb dL_law_518 (by decide) (fun _ => ?_) (fun h => absurd h c498)
                refine lv_iload hx hb dL_law_525 (lv_at hl 1 rfl) ?_
                refine lv_icmp_eq (tgt := 532) hx hb dL_law_527 (by decide) (fun _ => ?_) (fun h => absurd (r2.trans (if_neg c498)) h)
                refine lv_iload hx hb dL_law_532 (lv_at hl 0 rfl) ?_
                refine lv_if_ne (tgt := 547) hx hb dL_law_534 (by decide) (fun _ => ?_) (fun h => absurd h c498)
                refine lv_iload hx hb dL_law_547 (lv_at hl 0 rfl) ?_
                refine lv_if_le (tgt := 568) hx hb dL_law_549 (by decide) (fun h => absurd h (drop_le hI.1 hj c498)) (fun _ => ?_)
                refine lv_aload_n hx hb dL_law_552 rfl (lv_at hl 13 rfl) ?_
                refine lv_iload hx hb dL_law_553 (lv_at hl 3 rfl) ?_
                refine z_xVi (As := [.int (nI j)]) (rest := []) (k := 0) S hE hW (cX3_arrives_ok l D (n0 + 3 + N) ad cy sa H.size (by omega) cl10 (exS cy ad N B (hourS al) (exH cy a0 n0 N (pfx (f1 al) N) (pfx (f2 al) N) (wsP (fT al) N 0) ex)) (nI j) N hIc10.1.1 hIc10.1.2.1 (h + 1) hIc10.1.2.2.2.2 (by omega) hIc10.ab hfl) (cwV 1 hts gL_law_X3_arrives rfl rfl rfl (by decide +kernel) ⟨Nat.le_of_ble_eq_true rfl, Nat.le_of_ble_eq_true rfl⟩) (by omega) cC_0 rfl rfl rfl hl.1 rfl (Nat.le_of_ble_eq_true rfl) dL_law_555 ⟨(Nat.le_trans (m := 600000) (by omega) (Nat.le_of_ble_eq_true rfl)), (Nat.le_trans (m := 600000) (by omega) (Nat.le_of_ble_eq_true rfl))⟩ (fun E x9 q9 H locs hbad hW hx9 hv9 hc9 => absurd hbad (zbad_0 (k0_arrives hIc10 (by omega)))) (fun r _ H locs hp hW => ?_)
                obtain ⟨-, rfl⟩ := hp
                obtain ⟨cl13, hcl13⟩ : ∃ z, z = u_arrives cl10 (nI j) := ⟨_, rfl⟩
                rw [← hcl13] at hW
                have hAG13 : AG cl13 (hourS al) := by rw [hcl13]; exact (st_arrives hIc10 (by omega)).2.tr hAG10
                have hTI13 : TI cl13 := by rw [hcl13]; exact (st_arrives hIc10 (by omega)).1
                have hIc13 := AG.inv hI1.1 hAG13 hTI13
                refine z_top2 (y := v_arrives (hourS al) (nI j)) (ag_arr hAG10 hIc10 hI1.1 (by omega)) ?_
                refine lv_aload hx hb dL_law_558 (lv_at hl 8 rfl) ?_
                refine lv_iload hx hb dL_law_560 (lv_at hl 3 rfl) ?_
                refine z_ald S hE hW (by omega) ((sW_x (by omega)).trans exH_a) j rfl (by omega) (by omega) (v := f2 al j) ((pfx_at (by omega))) dL_law_562 ?_
                refine lv_icmp_eq (tgt := 568) hx hb dL_law_563 (by decide) (fun _ => ?_) (fun h => absurd (lf_stay hI.1 hI1.1 (by omega) hj c410 c498) h)
                refine lv_iload hx hb dL_law_568 (lv_at hl 4 rfl) ?_
                refine lv_iload hx hb dL_law_570 (lv_at hl 0 rfl) ?_
                refine lv_if_ne (tgt := 580) hx hb dL_law_572 (by decide) (fun _ => ?_) (fun h => absurd h c498)
                refine lv_iconst (v := 0) hx hb dL_law_580 (by decide) ?_
                refine lv_iadd hx hb dL_law_581 ?_
                refine z_top2 (y := sumI (fun i => landA (rowS al i) (al 3 (h % 8))) (j + 1)) (by show _ = sumI (fun i => landA (rowS al i) (al 3 (h % 8))) j + landA (rowS al j) (al 3 (h % 8)); rw [land_1 c410, if_neg c498]) ?_
                refine lv_istore (lv' := [(12, .int (sumI (fun i => landA (rowS al i) (al 3 (h % 8))) (j + 1))), (16, .int (dropH (al (10 + j) 2) (al (10 + j) 3) (al 3 (h % 8)))), (15, .int (fallA (al (10 + j) 2) (al 3 (h % 8)))), (14, .int (hourS al (10 + j) 4)), (13, .int (nI j)), (11, .int (ash (hourS al) - ash al)), (9, .int (al 3 (h % 8))), (8, .ref (ad (n0 + 2))), (7, .ref (ad (n0 + 1))), (6, .ref (ad n0)), (5, .int (nI N)), (3, .int (nI tm)), (2, .ref (ad 28)), (1, .ref (ad 0)), (0, .ref b)]) hx hb dL_law_582 hl (by decide) rfl (fun ls hl => ?_)
                refine lv_iinc (v := nI (j + 1)) (lv' := [(13, .int (nI (j + 1))), (12, .int (sumI (fun i => landA (rowS al i) (al 3 (h % 8))) (j + 1))), (16, .int (dropH (al (10 + j) 2) (al (10 + j) 3) (al 3 (h % 8)))), (15, .int (fallA (al (10 + j) 2) (al 3 (h % 8)))), (14, .int (hourS al (10 + j) 4)), (11, .int (ash (hourS al) - ash al)), (9, .int (al 3 (h % 8))), (8, .ref (ad (n0 + 2))), (7, .ref (ad (n0 + 1))), (6, .ref (ad n0)), (5, .int (nI N)), (3, .int (nI tm)), (2, .ref (ad 28)), (1, .ref (ad 0)), (0, .ref b)]) hx hb dL_law_584 hl (k := 4) rfl (nI_1 _) (by decide) rfl (fun ls hl => ?_)
                refine lv_goto (tgt := 358) hx hb dL_law_587 (by decide) ?_
                refine W.widen (k := cells + 2 * (j + 1)) (n := slots + 12 * (j + 1)) (by omega) (by omega) ?_
                exact ih (j + 1) cl13 H locs ls (by omega) hAG13 hTI13 hW (lv_sub hl [0, 1, 5, 6, 7, 8, 9, 10, 11, 12, 13, 14] rfl)
              · refine lv_iconst (v := 2) hx hb dL_law_501 (by decide) ?_
                refine lv_goto (tgt := 506) hx hb dL_law_502 (by decide) ?_
                refine lv_icmp_ne (tgt := 530) hx hb dL_law_506 (by decide) (fun h => absurd (r4.trans (if_pos c498)) h) (fun _ => ?_)
                refine lv_aload_n hx hb dL_law_509 rfl (lv_at hl 13 rfl) ?_
                refine lv_iload hx hb dL_law_510 (lv_at hl 3 rfl) ?_
                refine lv_iconst (v := 1) hx hb dL_law_512 (by decide) ?_
                refine z_cVi (As := [.int (nI j), .int (nI 1)]) (rest := []) (k := 0) S hE hW (cX3_told0_ok l D (n0 + 3 + N) ad cy sa H.size (by omega) cl10 (exS cy ad N B (hourS al) (exH cy a0 n0 N (pfx (f1 al) N) (pfx (f2 al) N) (wsP (fT al) N 0) ex)) N hIc10.1.1 hIc10.1.2.1 hIc10.ab j (by omega) 1 (by omega)) (cwV 2 hts gL_law_X3_told rfl rfl rfl (by decide +kernel) ⟨Nat.le_of_ble_eq_true rfl, Nat.le_of_ble_eq_true rfl⟩) (by omega) cC_0 rfl rfl rfl hl.1 rfl (Nat.le_of_ble_eq_true rfl) dL_law_513 ⟨(Nat.le_trans (m := 600000) (by omega) (Nat.le_of_ble_eq_true rfl)), (Nat.le_trans (m := 600000) (by omega) (Nat.le_of_ble_eq_true rfl))⟩ (fun r _ H locs hp hW => ?_)
                subst hp
                refine z_top2 (y := hourS al (10 + j) 2) ((ag_told hAG10 (by omega) _).trans (fT_1 (by omega))) ?_
                refine lv_iload hx hb dL_law_516 (lv_at hl 0 rfl) ?_
                refine lv_if_ne (tgt := 525) hx hb dL_law_518 (by decide) (fun h => absurd c498 h) (fun _ => ?_)
                refine lv_iconst (v := 0) hx hb dL_law_521 (by decide) ?_
                refine lv_goto (tgt := 527) hx hb dL_law_522 (by decide) ?_
                refine lv_icmp_eq (tgt := 532) hx hb dL_law_527 (by decide) (fun _ => ?_) (fun h => absurd (r2.trans (if_pos c498)) h)
                refine lv_iload hx hb dL_law_532 (lv_at hl 0 rfl) ?_
                refine lv_if_ne (tgt := 547) hx hb dL_law_534 (by decide) (fun h => absurd c498 h) (fun _ => ?_)
                refine lv_aload hx hb dL_law_537 (lv_at hl 8 rfl) ?_
                refine lv_iload hx hb dL_law_539 (lv_at hl 3 rfl) ?_
                refine z_ald S hE hW (by omega) ((sW_x (by omega)).trans exH_a) j rfl (by omega) (by omega) (v := f2 al j) ((pfx_at (by omega))) dL_law_541 ?_
                refine lv_iload hx hb dL_law_542 (lv_at hl 1 rfl) ?_
                refine lv_icmp_ne (tgt := 566) hx hb dL_law_544 (by decide) (fun h => absurd (lf_land hI.1 (by omega) hj c410 c498) h) (fun _ => ?_)
                refine lv_iload hx hb dL_law_547 (lv_at hl 0 rfl) ?_
                refine lv_if_le (tgt := 568) hx hb dL_law_549 (by decide) (fun _ => ?_) (fun h => absurd (by rw [c498]; decide) h)
                refine lv_iload hx hb dL_law_568 (lv_at hl 4 rfl) ?_
                refine lv_iload hx hb dL_law_570 (lv_at hl 0 rfl) ?_
                refine lv_if_ne (tgt := 580) hx hb dL_law_572 (by decide) (fun h => absurd c498 h) (fun _ => ?_)
                refine lv_iload hx hb dL_law_575 (lv_at hl 1 rfl) ?_
                refine lv_goto (tgt := 581) hx hb dL_law_577 (by decide) ?_
                refine lv_iadd hx hb dL_law_581 ?_
                refine z_top2 (y := sumI (fun i => landA (rowS al i) (al 3 (h % 8))) (j + 1)) (by show _ = sumI (fun i => landA (rowS al i) (al 3 (h % 8))) j + landA (rowS al j) (al 3 (h % 8)); rw [land_1 c410, if_pos c498]) ?_
                refine lv_istore (lv' := [(12, .int (sumI (fun i => landA (rowS al i) (al 3 (h % 8))) (j + 1))), (16, .int (dropH (al (10 + j) 2) (al (10 + j) 3) (al 3 (h % 8)))), (15, .int (fallA (al (10 + j) 2) (al 3 (h % 8)))), (14, .int (hourS al (10 + j) 4)), (13, .int (nI j)), (11, .int (ash (hourS al) - ash al)), (9, .int (al 3 (h % 8))), (8, .ref (ad (n0 + 2))), (7, .ref (ad (n0 + 1))), (6, .ref (ad n0)), (5, .int (nI N)), (3, .int (nI tm)), (2, .ref (ad 28)), (1, .ref (ad 0)), (0, .ref b)]) hx hb dL_law_582 hl (by decide) rfl (fun ls hl => ?_)
                refine lv_iinc (v := nI (j + 1)) (lv' := [(13, .int (nI (j + 1))), (12, .int (sumI (fun i => landA (rowS al i) (al 3 (h % 8))) (j + 1))), (16, .int (dropH (al (10 + j) 2) (al (10 + j) 3) (al 3 (h % 8)))), (15, .int (fallA (al (10 + j) 2) (al 3 (h % 8)))), (14, .int (hourS al (10 + j) 4)), (11, .int (ash (hourS al) - ash al)), (9, .int (al 3 (h % 8))), (8, .ref (ad (n0 + 2))), (7, .ref (ad (n0 + 1))), (6, .ref (ad n0)), (5, .int (nI N)), (3, .int (nI tm)), (2, .ref (ad 28)), (1, .ref (ad 0)), (0, .ref b)]) hx hb dL_law_584 hl (k := 4) rfl (nI_1 _) (by decide) rfl (fun ls hl => ?_)
                refine lv_goto (tgt := 358) hx hb dL_law_587 (by decide) ?_
                refine W.widen (k := cells + 2 * (j + 1)) (n := slots + 12 * (j + 1)) (by omega) (by omega) ?_
                exact ih (j + 1) cl10 H locs ls (by omega) hAG10 hTI10 hW (lv_sub hl [0, 1, 5, 6, 7, 8, 9, 10, 11, 12, 13, 14] rfl)
        · refine lv_goto (tgt := 584) hx hb dL_law_413 (by decide) ?_
          replace hl : lv_has ls 21 [(14, .int (hourS al (10 + j) 4)), (13, .int (nI j)), (12, .int (sumI (fun i => landA (rowS al i) (al 3 (h % 8))) (j + 1))), (11, .int (ash (hourS al) - ash al)), (9, .int (al 3 (h % 8))), (8, .ref (ad (n0 + 2))), (7, .ref (ad (n0 + 1))), (6, .ref (ad n0)), (5, .int (nI N)), (3, .int (nI tm)), (2, .ref (ad 28)), (1, .ref (ad 0)), (0, .ref b)] := by rw [show sumI (fun i => landA (rowS al i) (al 3 (h % 8))) (j + 1) = sumI (fun i => landA (rowS al i) (al 3 (h % 8))) j from by show sumI (fun i => landA (rowS al i) (al 3 (h % 8))) j + landA (rowS al j) (al 3 (h % 8)) = _; rw [land_n c410, Int32.add_zero]]; exact hl
          refine lv_iinc (v := nI (j + 1)) (lv' := [(13, .int (nI (j + 1))), (14, .int (hourS al (10 + j) 4)), (12, .int (sumI (fun i => landA (rowS al i) (al 3 (h % 8))) (j + 1))), (11, .int (ash (hourS al) - ash al)), (9, .int (al 3 (h % 8))), (8, .ref (ad (n0 + 2))), (7, .ref (ad (n0 + 1))), (6, .ref (ad n0)), (5, .int (nI N)), (3, .int (nI tm)), (2, .ref (ad 28)), (1, .ref (ad 0)), (0, .ref b)]) hx hb dL_law_584 hl (k := 1) rfl (nI_1 _) (by decide) rfl (fun ls hl => ?_)
          refine lv_goto (tgt := 358) hx hb dL_law_587 (by decide) ?_
          refine W.widen (k := cells + 2 * (j + 1)) (n := slots + 12 * (j + 1)) (by omega) (by omega) ?_
          exact ih (j + 1) cl10 H locs ls (by omega) hAG10 hTI10 hW (lv_sub hl [0, 2, 3, 4, 5, 6, 7, 8, 9, 10, 11, 12] rfl)
  exact L358 (N) 0 cl _ _ ls (by omega) hAG hTI hW (lv_sub hl [0, 1, 2, 3, 4, 5, 6, 7, 8, 9, 10, 11] rfl)

set_option maxHeartbeats 8000000 in
set_option maxRecDepth 100000 in
theorem lw_S5 {p : Program} (l : Launch) {e : Env} {s : State} {m : MethodId} {args : Array Value} {below : List Frame} {meth : Method} {c : Code} {H : Heap} {locs : List Loc} {cells slots : Nat} {Q : State → Prop} {ls : Array Slot} {D : va_G} {ad a0 cy sa : Nat → Nat} {A : Nat → Prop} {b L N B h n0 tm : Nat} {xs : Nat → Int32} {al : Nat → Nat → Int32} {ex : Nat → va_E} (hfl : l.stackTraces = false) (S : CallFix p m c cL_law 21 s args wsL_law RL) (hE : ZEnv D cy sa A s) (hcb : cells ≤ 100000) (hsb : slots ≤ 200000) (hI : InvT al N B h) (hh3 : h < 2 ^ 20) (hn0 : n0 = 35 + 2 * N + B) {cl : Nat → Nat → Int32} (ha0 : ∀ k, n0 ≤ k → k < n0 + 3 + N → ad k = a0 k) (hTI : TI cl) (hAG : AG cl (hourS al)) (hW : WS D (n0 + 3 + N) ad (sW cy ad N B cl (hourS al) (exH cy a0 n0 N (pfx (f1 al) N) (pfx (f2 al) N) (wsP (fT al) N 0) ex)) A s.heap H locs) (hl : lv_has ls 21 [(3, .int (nI tm)), (2, .ref (ad 28)), (1, .ref (ad 0)), (0, .ref b)]) (kk : ∀ (H : Heap) (locs : List Loc) (ls : Array Slot), WS D (n0 + 3 + N) ad (sW cy ad N B cl (hourS al) (exH cy a0 n0 N (pfx (f1 al) N) (pfx (f2 al) N) (wsP (fT al) N 0) ex)) A s.heap H locs → lv_has ls 21 [(3, .int (nI tm)), (2, .ref (ad 28)), (1, .ref (ad 0)), (0, .ref b)] → W p l e room_1 s m args below meth c H locs (cells + 12) (slots + 72) Q (F0 m 942 ls [])) : W p l e room_1 s m args below meth c H locs cells slots Q (F0 m 599 ls []) := by
  have hx := S.1
  have hb := S.2.1
  have hown := S.2.2.2.1
  have hts := S.2.2.2.2
  have hN := hI.1.1.1
  have hN6 := hI.1.1.2.1
  have hB := hI.1.1.2.2.1
  have hB4 := hI.1.1.2.2.2.1
  have hh := hI.1.1.2.2.2.2
  have hI1 := hI.hour (by omega)
  have hIc := AG.inv hI1.1 hAG hTI
  have f15 := hts (.fieldLink RL 15 "PumiceSledgeLaw$Sim" "boats" "[[I") (by decide +kernel)
  have hi4 := inlX4
  have l141 := hts (.methodLink RL 141 Lib.Math.abs.name) (by decide +kernel)
  have ls_abs := hts (.static Lib.Math.abs.name) (by decide +kernel)
  have li_Math := hts (.initialized "java/lang/Math") (by decide +kernel)
  have lc_abs := hts (.code Lib.Math.abs.name Lib.Math.abs.code 1 (some .int)) (by decide +kernel)
  refine lv_iconst (v := 0) hx hb dL_law_599 (by decide) ?_
  refine lv_istore (lv' := [(13, .int 0), (3, .int (nI tm)), (2, .ref (ad 28)), (1, .ref (ad 0)), (0, .ref b)]) hx hb dL_law_600 hl (by decide) rfl (fun ls hl => ?_)
  have L602 : ∀ (kq j : Nat) (H : Heap) (locs : List Loc) (ls : Array Slot), j + kq = B → WS D (n0 + 3 + N) ad (sW cy ad N B cl (hourS al) (exH cy a0 n0 N (pfx (f1 al) N) (pfx (f2 al) N) (wsP (fT al) N 0) ex)) A s.heap H locs → lv_has ls 21 [(13, .int (nI j)), (3, .int (nI tm)), (2, .ref (ad 28)), (1, .ref (ad 0)), (0, .ref b)] → W p l e room_1 s m args below meth c H locs (cells + 3 * j) (slots + 18 * j) Q (F0 m 602 ls []) := by
    intro kq
    induction kq with
    | zero =>
      intro j H locs ls hjk hW hl
      have hjN : j = B := by omega
      try rw [hjN] at hW
      try rw [hjN] at hl
      refine lv_iload hx hb dL_law_602 (lv_at hl 0 rfl) ?_
      refine lv_aload_n hx hb dL_law_604 rfl (lv_at hl 2 rfl) ?_
      refine z_get (C := RX4) (T := TX4) (N := 9) (ci := 4) S hE hW hi4 rfl (by omega) sW_28 4 (by decide) rfl f15 (v := .ref (ad 34)) rfl dL_law_605 ?_
      refine z_alenG (t0 := 3) S hE hW (by omega) sW_34 rfl (v := nI B) rfl dL_law_608 ?_
      refine lv_icmp_ge (tgt := 942) hx hb dL_law_609 (by decide) (fun _ => ?_) (fun h => absurd (nI_le (Nat.le_refl _) (by omega)) h)
      refine W.widen (k := cells + 12) (n := slots + 72) (by omega) (by omega) ?_
      exact kk H locs ls hW (lv_sub hl [1, 2, 3, 4] rfl)
    | succ kq ih =>
      intro j H locs ls hjk hW hl
      have hj : j < B := by omega
      have hbt := hAG.bt (b := j) (by omega) (hI1.2.1 j (by omega))
      have vb := vb_5 (al := cl) (by omega) hj hbt
      obtain ⟨vo1, vo2, vo3⟩ := vb_ok hj hbt
      refine lv_iload hx hb dL_law_602 (lv_at hl 0 rfl) ?_
      refine lv_aload_n hx hb dL_law_604 rfl (lv_at hl 2 rfl) ?_
      refine z_get (C := RX4) (T := TX4) (N := 9) (ci := 4) S hE hW hi4 rfl (by omega) sW_28 4 (by decide) rfl f15 (v := .ref (ad 34)) rfl dL_law_605 ?_
      refine z_alenG (t0 := 3) S hE hW (by omega) sW_34 rfl (v := nI B) rfl dL_law_608 ?_
      refine lv_icmp_ge (tgt := 942) hx hb dL_law_609 (by decide) (fun h => absurd h (nI_ge hj (by omega))) (fun _ => ?_)
      refine lv_aload_n hx hb dL_law_612 rfl (lv_at hl 3 rfl) ?_
      refine lv_iload hx hb dL_law_613 (lv_at hl 0 rfl) ?_
      refine lv_iconst (v := 1) hx hb dL_law_615 (by decide) ?_
      refine z_cVi (As := [.int (nI j), .int (nI 1)]) (rest := []) (k := 0) S hE hW (cX3_boat0_ok l D (n0 + 3 + N) ad cy sa H.size (by omega) cl (exS cy ad N B (hourS al) (exH cy a0 n0 N (pfx (f1 al) N) (pfx (f2 al) N) (wsP (fT al) N 0) ex)) B hIc.1.2.2.1 hIc.1.2.2.2.1 j (by omega) 1 (by omega)) (cwV 2 hts gL_law_X3_boat rfl rfl rfl (by decide +kernel) ⟨Nat.le_of_ble_eq_true rfl, Nat.le_of_ble_eq_true rfl⟩) (by omega) cC_0 rfl rfl rfl hl.1 rfl (Nat.le_of_ble_eq_true rfl) dL_law_616 ⟨(Nat.le_trans (m := 600000) (by omega) (Nat.le_of_ble_eq_true rfl)), (Nat.le_trans (m := 600000) (by omega) (Nat.le_of_ble_eq_true rfl))⟩ (fun r _ H locs hp hW => ?_)
      subst hp
      refine z_top2 (y := cl (24 + j) 1) (vb_eq (by omega)).2.1 ?_
      refine lv_istore (lv' := [(14, .int (cl (24 + j) 1)), (13, .int (nI j)), (3, .int (nI tm)), (2, .ref (ad 28)), (1, .ref (ad 0)), (0, .ref b)]) hx hb dL_law_619 hl (by decide) rfl (fun ls hl => ?_)
      refine lv_aload_n hx hb dL_law_621 rfl (lv_at hl 4 rfl) ?_
      refine lv_iload hx hb dL_law_622 (lv_at hl 1 rfl) ?_
      refine lv_iconst (v := 2) hx hb dL_law_624 (by decide) ?_
      refine z_cVi (As := [.int (nI j), .int (nI 2)]) (rest := []) (k := 0) S hE hW (cX3_boat0_ok l D (n0 + 3 + N) ad cy sa H.size (by omega) cl (exS cy ad N B (hourS al) (exH cy a0 n0 N (pfx (f1 al) N) (pfx (f2 al) N) (wsP (fT al) N 0) ex)) B hIc.1.2.2.1 hIc.1.2.2.2.1 j (by omega) 2 (by omega)) (cwV 2 hts gL_law_X3_boat rfl rfl rfl (by decide +kernel) ⟨Nat.le_of_ble_eq_true rfl, Nat.le_of_ble_eq_true rfl⟩) (by omega) cC_0 rfl rfl rfl hl.1 rfl (Nat.le_of_ble_eq_true rfl) dL_law_625 ⟨(Nat.le_trans (m := 600000) (by omega) (Nat.le_of_ble_eq_true rfl)), (Nat.le_trans (m := 600000) (by omega) (Nat.le_of_ble_eq_true rfl))⟩ (fun r _ H locs hp hW => ?_)
      subst hp
      refine z_top2 (y := cl (24 + j) 2) (vb_eq (by omega)).2.2.1 ?_
      refine lv_istore (lv' := [(15, .int (cl (24 + j) 2)), (14, .int (cl (24 + j) 1)), (13, .int (nI j)), (3, .int (nI tm)), (2, .ref (ad 28)), (1, .ref (ad 0)), (0, .ref b)]) hx hb dL_law_628 hl (by decide) rfl (fun ls hl => ?_)
      refine lv_iload hx hb dL_law_630 (lv_at hl 1 rfl) ?_
      refine lv_iload hx hb dL_law_632 (lv_at hl 0 rfl) ?_
      refine lv_iadd hx hb dL_law_634 ?_
      refine lv_bipush (v := 50) hx hb dL_law_635 (by decide) ?_
      refine lv_idiv hx hb dL_law_637 (by decide) ?_
      refine lv_iload hx hb dL_law_638 (lv_at hl 1 rfl) ?_
      refine lv_iload hx hb dL_law_640 (lv_at hl 0 rfl) ?_
      refine lv_isub hx hb dL_law_642 ?_
      refine z_mabs S hl.1 l141 ls_abs li_Math lc_abs ⟨Nat.le_of_ble_eq_true rfl, Nat.le_of_ble_eq_true rfl, (Nat.le_trans (m := 600000) (by omega) (Nat.le_of_ble_eq_true rfl)), (Nat.le_trans (m := 600000) (by omega) (Nat.le_of_ble_eq_true rfl))⟩ dL_law_643 (v := zab (cl (24 + j) 1 - cl (24 + j) 2)) rfl ?_
      refine lv_bipush (v := 40) hx hb dL_law_646 (by decide) ?_
      refine lv_idiv hx hb dL_law_648 (by decide) ?_
      refine lv_iadd hx hb dL_law_649 ?_
      refine z_top2 (y := dep (cl (24 + j) 1) (cl (24 + j) 2)) rfl ?_
      refine lv_istore (lv' := [(16, .int (dep (cl (24 + j) 1) (cl (24 + j) 2))), (15, .int (cl (24 + j) 2)), (14, .int (cl (24 + j) 1)), (13, .int (nI j)), (3, .int (nI tm)), (2, .ref (ad 28)), (1, .ref (ad 0)), (0, .ref b)]) hx hb dL_law_650 hl (by decide) rfl (fun ls hl => ?_)
      refine lv_iload hx hb dL_law_652 (lv_at hl 0 rfl) ?_
      refine lv_bipush (v := 20) hx hb dL_law_654 (by decide) ?_
      refine lv_icmp_gt (tgt := 676) hx hb dL_law_656 (by decide) (fun c656 => ?_) (fun c656 => ?_)
      · refine lv_iconst (v := 0) hx hb dL_law_676 (by decide) ?_
        refine lv_istore (lv' := [(17, .int 0), (16, .int (dep (cl (24 + j) 1) (cl (24 + j) 2))), (15, .int (cl (24 + j) 2)), (14, .int (cl (24 + j) 1)), (13, .int (nI j)), (3, .int (nI tm)), (2, .ref (ad 28)), (1, .ref (ad 0)), (0, .ref b)]) hx hb dL_law_677 hl (by decide) rfl (fun ls hl => ?_)
        refine lv_aload_n hx hb dL_law_679 rfl (lv_at hl 7 rfl) ?_
        refine lv_iload hx hb dL_law_680 (lv_at hl 4 rfl) ?_
        refine lv_iconst (v := 3) hx hb dL_law_682 (by decide) ?_
        refine z_cVi (As := [.int (nI j), .int (nI 3)]) (rest := []) (k := 0) S hE hW (cX3_boat0_ok l D (n0 + 3 + N) ad cy sa H.size (by omega) cl (exS cy ad N B (hourS al) (exH cy a0 n0 N (pfx (f1 al) N) (pfx (f2 al) N) (wsP (fT al) N 0) ex)) B hIc.1.2.2.1 hIc.1.2.2.2.1 j (by omega) 3 (by omega)) (cwV 2 hts gL_law_X3_boat rfl rfl rfl (by decide +kernel) ⟨Nat.le_of_ble_eq_true rfl, Nat.le_of_ble_eq_true rfl⟩) (by omega) cC_0 rfl rfl rfl hl.1 rfl (Nat.le_of_ble_eq_true rfl) dL_law_683 ⟨(Nat.le_trans (m := 600000) (by omega) (Nat.le_of_ble_eq_true rfl)), (Nat.le_trans (m := 600000) (by omega) (Nat.le_of_ble_eq_true rfl))⟩ (fun r _ H locs hp hW => ?_)
        subst hp
        refine z_top2 (y := (cl (24 + j) 1 - cl (24 + j) 2)) (vb_eq (by omega)).2.2.2.1 ?_
        refine lv_iload hx hb dL_law_686 (lv_at hl 3 rfl) ?_
        refine lv_iload hx hb dL_law_688 (lv_at hl 2 rfl) ?_
        refine lv_isub hx hb dL_law_690 ?_
        refine lv_icmp_ne (tgt := 777) hx hb dL_law_691 (by decide) (fun h => absurd rfl h) (fun _ => ?_)
        refine lv_aload_n hx hb dL_law_694 rfl (lv_at hl 7 rfl) ?_
        refine lv_iload hx hb dL_law_695 (lv_at hl 4 rfl) ?_
        refine lv_iconst (v := 4) hx hb dL_law_697 (by decide) ?_
        refine z_cVi (As := [.int (nI j), .int (nI 4)]) (rest := []) (k := 0) S hE hW (cX3_boat0_ok l D (n0 + 3 + N) ad cy sa H.size (by omega) cl (exS cy ad N B (hourS al) (exH cy a0 n0 N (pfx (f1 al) N) (pfx (f2 al) N) (wsP (fT al) N 0) ex)) B hIc.1.2.2.1 hIc.1.2.2.2.1 j (by omega) 4 (by omega)) (cwV 2 hts gL_law_X3_boat rfl rfl rfl (by decide +kernel) ⟨Nat.le_of_ble_eq_true rfl, Nat.le_of_ble_eq_true rfl⟩) (by omega) cC_0 rfl rfl rfl hl.1 rfl (Nat.le_of_ble_eq_true rfl) dL_law_698 ⟨(Nat.le_trans (m := 600000) (by omega) (Nat.le_of_ble_eq_true rfl)), (Nat.le_trans (m := 600000) (by omega) (Nat.le_of_ble_eq_true rfl))⟩ (fun r _ H locs hp hW => ?_)
        subst hp
        refine z_top2 (y := dep (cl (24 + j) 1) (cl (24 + j) 2)) (vb_eq (by omega)).2.2.2.2.1 ?_
        refine lv_iload hx hb dL_law_701 (lv_at hl 1 rfl) ?_
        refine lv_icmp_ne (tgt := 777) hx hb dL_law_703 (by decide) (fun h => absurd rfl h) (fun _ => ?_)
        refine lv_aload_n hx hb dL_law_706 rfl (lv_at hl 7 rfl) ?_
        refine lv_iload hx hb dL_law_707 (lv_at hl 4 rfl) ?_
        refine lv_iconst (v := 5) hx hb dL_law_709 (by decide) ?_
        refine z_cVi (As := [.int (nI j), .int (nI 5)]) (rest := []) (k := 0) S hE hW (cX3_boat0_ok l D (n0 + 3 + N) ad cy sa H.size (by omega) cl (exS cy ad N B (hourS al) (exH cy a0 n0 N (pfx (f1 al) N) (pfx (f2 al) N) (wsP (fT al) N 0) ex)) B hIc.1.2.2.1 hIc.1.2.2.2.1 j (by omega) 5 (by omega)) (cwV 2 hts gL_law_X3_boat rfl rfl rfl (by decide +kernel) ⟨Nat.le_of_ble_eq_true rfl, Nat.le_of_ble_eq_true rfl⟩) (by omega) cC_0 rfl rfl rfl hl.1 rfl (Nat.le_of_ble_eq_true rfl) dL_law_710 ⟨(Nat.le_trans (m := 600000) (by omega) (Nat.le_of_ble_eq_true rfl)), (Nat.le_trans (m := 600000) (by omega) (Nat.le_of_ble_eq_true rfl))⟩ (fun r _ H locs hp hW => ?_)
        subst hp
        refine z_top2 (y := v_boat cl (nI j) (nI 5)) rfl ?_
        refine lv_iload hx hb dL_law_713 (lv_at hl 0 rfl) ?_
        refine lv_if_eq (tgt := 722) hx hb dL_law_715 (by decide) (fun _ => ?_) (fun h => absurd (by decide) h)
        refine lv_iconst (v := 0) hx hb dL_law_722 (by decide) ?_
        refine lv_icmp_ne (tgt := 777) hx hb dL_law_723 (by decide) (fun h => absurd (vb.2.1 c656) h) (fun _ => ?_)
        refine lv_aload_n hx hb dL_law_726 rfl (lv_at hl 7 rfl) ?_
        refine lv_iload hx hb dL_law_727 (lv_at hl 4 rfl) ?_
        refine lv_bipush (v := 6) hx hb dL_law_729 (by decide) ?_
        refine z_cVi (As := [.int (nI j), .int (nI 6)]) (rest := []) (k := 0) S hE hW (cX3_boat0_ok l D (n0 + 3 + N) ad cy sa H.size (by omega) cl (exS cy ad N B (hourS al) (exH cy a0 n0 N (pfx (f1 al) N) (pfx (f2 al) N) (wsP (fT al) N 0) ex)) B hIc.1.2.2.1 hIc.1.2.2.2.1 j (by omega) 6 (by omega)) (cwV 2 hts gL_law_X3_boat rfl rfl rfl (by decide +kernel) ⟨Nat.le_of_ble_eq_true rfl, Nat.le_of_ble_eq_true rfl⟩) (by omega) cC_0 rfl rfl rfl hl.1 rfl (Nat.le_of_ble_eq_true rfl) dL_law_731 ⟨(Nat.le_trans (m := 600000) (by omega) (Nat.le_of_ble_eq_true rfl)), (Nat.le_trans (m := 600000) (by omega) (Nat.le_of_ble_eq_true rfl))⟩ (fun r _ H locs hp hW => ?_)
        subst hp
        refine z_top2 (y := ((cl (24 + j) 0 - cl (24 + j) 1) - cl (24 + j) 2)) (vb_eq (by omega)).2.2.2.2.2 ?_
        refine lv_aload_n hx hb dL_law_734 rfl (lv_at hl 7 rfl) ?_
        refine lv_iload hx hb dL_law_735 (lv_at hl 4 rfl) ?_
        refine lv_iconst (v := 0) hx hb dL_law_737 (by decide) ?_
        refine z_cVi (As := [.int (nI j), .int (nI 0)]) (rest := [.int ((cl (24 + j) 0 - cl (24 + j) 1) - cl (24 + j) 2)]) (k := 0) S hE hW (cX3_boat0_ok l D (n0 + 3 + N) ad cy sa H.size (by omega) cl (exS cy ad N B (hourS al) (exH cy a0 n0 N (pfx (f1 al) N) (pfx (f2 al) N) (wsP (fT al) N 0) ex)) B hIc.1.2.2.1 hIc.1.2.2.2.1 j (by omega) 0 (by omega)) (cwV 2 hts gL_law_X3_boat rfl rfl rfl (by decide +kernel) ⟨Nat.le_of_ble_eq_true rfl, Nat.le_of_ble_eq_true rfl⟩) (by omega) cC_0 rfl rfl rfl hl.1 rfl (Nat.le_of_ble_eq_true rfl) dL_law_738 ⟨(Nat.le_trans (m := 600000) (by omega) (Nat.le_of_ble_eq_true rfl)), (Nat.le_trans (m := 600000) (by omega) (Nat.le_of_ble_eq_true rfl))⟩ (fun r _ H locs hp hW => ?_)
        subst hp
        refine z_top2 (y := cl (24 + j) 0) (vb_eq (by omega)).1 ?_
        refine lv_iload hx hb dL_law_741 (lv_at hl 3 rfl) ?_
        refine lv_isub hx hb dL_law_743 ?_
        refine lv_iload hx hb dL_law_744 (lv_at hl 2 rfl) ?_
        refine lv_isub hx hb dL_law_746 ?_
        refine lv_icmp_ne (tgt := 777) hx hb dL_law_747 (by decide) (fun h => absurd rfl h) (fun _ => ?_)
        refine lv_aload_n hx hb dL_law_750 rfl (lv_at hl 7 rfl) ?_
        refine lv_iload hx hb dL_law_751 (lv_at hl 4 rfl) ?_
        refine lv_bipush (v := 6) hx hb dL_law_753 (by decide) ?_
        refine z_cVi (As := [.int (nI j), .int (nI 6)]) (rest := []) (k := 0) S hE hW (cX3_boat0_ok l D (n0 + 3 + N) ad cy sa H.size (by omega) cl (exS cy ad N B (hourS al) (exH cy a0 n0 N (pfx (f1 al) N) (pfx (f2 al) N) (wsP (fT al) N 0) ex)) B hIc.1.2.2.1 hIc.1.2.2.2.1 j (by omega) 6 (by omega)) (cwV 2 hts gL_law_X3_boat rfl rfl rfl (by decide +kernel) ⟨Nat.le_of_ble_eq_true rfl, Nat.le_of_ble_eq_true rfl⟩) (by omega) cC_0 rfl rfl rfl hl.1 rfl (Nat.le_of_ble_eq_true rfl) dL_law_755 ⟨(Nat.le_trans (m := 600000) (by omega) (Nat.le_of_ble_eq_true rfl)), (Nat.le_trans (m := 600000) (by omega) (Nat.le_of_ble_eq_true rfl))⟩ (fun r _ H locs hp hW => ?_)
        subst hp
        refine z_top2 (y := ((cl (24 + j) 0 - cl (24 + j) 1) - cl (24 + j) 2)) (vb_eq (by omega)).2.2.2.2.2 ?_
        refine lv_if_lt (tgt := 777) hx hb dL_law_758 (by decide) (fun h => absurd h vo1) (fun _ => ?_)
        refine lv_iload hx hb dL_law_761 (lv_at hl 3 rfl) ?_
        refine lv_bipush (v := 10) hx hb dL_law_763 (by decide) ?_
        refine lv_irem hx hb dL_law_765 (by decide) ?_
        refine lv_if_ne (tgt := 777) hx hb dL_law_766 (by decide) (fun h => absurd vo2 h) (fun _ => ?_)
        refine lv_iload hx hb dL_law_769 (lv_at hl 2 rfl) ?_
        refine lv_bipush (v := 10) hx hb dL_law_771 (by decide) ?_
        refine lv_irem hx hb dL_law_773 (by decide) ?_
        refine lv_if_eq (tgt := 779) hx hb dL_law_774 (by decide) (fun _ => ?_) (fun h => absurd vo3 h)
        refine lv_iconst (v := 0) hx hb dL_law_779 (by decide) ?_
        refine lv_istore (lv' := [(18, .int 0), (17, .int 0), (16, .int (dep (cl (24 + j) 1) (cl (24 + j) 2))), (15, .int (cl (24 + j) 2)), (14, .int (cl (24 + j) 1)), (13, .int (nI j)), (3, .int (nI tm)), (2, .ref (ad 28)), (1, .ref (ad 0)), (0, .ref b)]) hx hb dL_law_780 hl (by decide) rfl (fun ls hl => ?_)
        have L782 : ∀ (kr q : Nat) (H : Heap) (locs : List Loc) (ls : Array Slot), q + kr = 3 → WS D (n0 + 3 + N) ad (sW cy ad N B cl (hourS al) (exH cy a0 n0 N (pfx (f1 al) N) (pfx (f2 al) N) (wsP (fT al) N 0) ex)) A s.heap H locs → lv_has ls 21 [(18, .int (nI q)), (14, .int (cl (24 + j) 1)), (15, .int (cl (24 + j) 2)), (13, .int (nI j)), (3, .int (nI tm)), (2, .ref (ad 28)), (1, .ref (ad 0)), (0, .ref b)] → W p l e room_1 s m args below meth c H locs (cells + 3 * j + q) (slots + 18 * j + 6 * q) Q (F0 m 782 ls []) := by
          intro kr
          induction kr with
          | zero =>
            intro q H locs ls hjkq hW hl
            have hjNq : q = 3 := by omega
            try rw [hjNq] at hW
            try rw [hjNq] at hl
            refine lv_iload hx hb dL_law_782 (lv_at hl 0 rfl) ?_
            refine lv_iconst (v := 3) hx hb dL_law_784 (by decide) ?_
            refine lv_icmp_ge (tgt := 936) hx hb dL_law_785 (by decide) (fun _ => ?_) (fun h => absurd (by decide) h)
            refine lv_iinc (v := nI (j + 1)) (lv' := [(13, .int (nI (j + 1))), (18, .int (nI 3)), (14, .int (cl (24 + j) 1)), (15, .int (cl (24 + j) 2)), (3, .int (nI tm)), (2, .ref (ad 28)), (1, .ref (ad 0)), (0, .ref b)]) hx hb dL_law_936 hl (k := 3) rfl (nI_1 _) (by decide) rfl (fun ls hl => ?_)
            refine lv_goto (tgt := 602) hx hb dL_law_939 (by decide) ?_
            refine W.widen (k := cells + 3 * (j + 1)) (n := slots + 18 * (j + 1)) (by omega) (by omega) ?_
            exact ih (j + 1) H locs ls (by omega) hW (lv_sub hl [0, 4, 5, 6, 7] rfl)
          | succ kr ihq =>
            intro q H locs ls hjkq hW hl
            have hjq : q < 3 := by omega
            rcases (show q = 0 ∨ q = 1 ∨ q = 2 by omega) with rfl | rfl | rfl
            · refine lv_iload hx hb dL_law_782 (lv_at hl 0 rfl) ?_
              refine lv_iconst (v := 3) hx hb dL_law_784 (by decide) ?_
              refine lv_icmp_ge (tgt := 936) hx hb dL_law_785 (by decide) (fun h => absurd h (by decide)) (fun _ => ?_)
              refine lv_aload_n hx hb dL_law_788 rfl (lv_at hl 6 rfl) ?_
              refine lv_iload hx hb dL_law_789 (lv_at hl 3 rfl) ?_
              refine lv_iload hx hb dL_law_791 (lv_at hl 0 rfl) ?_
              refine z_xVi (As := [.int (nI j), .int (nI 0)]) (rest := []) (k := 0) S hE hW (cX3_advise_ok l D (n0 + 3 + N) ad cy sa H.size (by omega) cl (exS cy ad N B (hourS al) (exH cy a0 n0 N (pfx (f1 al) N) (pfx (f2 al) N) (wsP (fT al) N 0) ex)) (nI j) (nI 0) B hIc.1.2.2.1 hIc.1.2.2.2.1 hfl) (cwV 2 hts gL_law_X3_advise rfl rfl rfl (by decide +kernel) ⟨Nat.le_of_ble_eq_true rfl, Nat.le_of_ble_eq_true rfl⟩) (by omega) cC_0 rfl rfl rfl hl.1 rfl (Nat.le_of_ble_eq_true rfl) dL_law_793 ⟨(Nat.le_trans (m := 600000) (by omega) (Nat.le_of_ble_eq_true rfl)), (Nat.le_trans (m := 600000) (by omega) (Nat.le_of_ble_eq_true rfl))⟩ (fun E x9 q9 H locs hbad hW hx9 hv9 hc9 => absurd hbad (zbad_0 (k0_advise hIc.1.2.2.1 hIc.1.2.2.2.1 hj (by decide)))) (fun r _ H locs hp hW => ?_)
              obtain ⟨-, rfl⟩ := hp
              rcases adv_eq (w := 80) (k := nI 0) (by omega) hj hbt (by decide) (by decide) with ⟨v1, v9⟩ | ⟨v1, v2, v9⟩ | ⟨v1, v2, v9⟩
              · refine z_top2 (y := 0) v9 ?_
                refine lv_istore (lv' := [(19, .int 0), (18, .int (nI 0)), (14, .int (cl (24 + j) 1)), (15, .int (cl (24 + j) 2)), (13, .int (nI j)), (3, .int (nI tm)), (2, .ref (ad 28)), (1, .ref (ad 0)), (0, .ref b)]) hx hb dL_law_796 hl (by decide) rfl (fun ls hl => ?_)
                refine lv_iload hx hb dL_law_798 (lv_at hl 1 rfl) ?_
                refine lv_if_ne (tgt := 808) hx hb dL_law_800 (by decide) (fun h => absurd (by decide) h) (fun _ => ?_)
                refine lv_bipush (v := 80) hx hb dL_law_803 (by decide) ?_
                refine lv_goto (tgt := 821) hx hb dL_law_805 (by decide) ?_
                refine lv_istore (lv' := [(20, .int 80), (19, .int 0), (18, .int (nI 0)), (14, .int (cl (24 + j) 1)), (15, .int (cl (24 + j) 2)), (13, .int (nI j)), (3, .int (nI tm)), (2, .ref (ad 28)), (1, .ref (ad 0)), (0, .ref b)]) hx hb dL_law_821 hl (by decide) rfl (fun ls hl => ?_)
                refine lv_iload hx hb dL_law_823 (lv_at hl 1 rfl) ?_
                refine lv_if_ne (tgt := 832) hx hb dL_law_825 (by decide) (fun h => absurd (by decide) h) (fun _ => ?_)
                refine lv_iconst (v := 1) hx hb dL_law_828 (by decide) ?_
                refine lv_goto (tgt := 833) hx hb dL_law_829 (by decide) ?_
                refine lv_aload_n hx hb dL_law_833 rfl (lv_at hl 8 rfl) ?_
                refine lv_iload hx hb dL_law_834 (lv_at hl 5 rfl) ?_
                refine lv_bipush (v := 6) hx hb dL_law_836 (by decide) ?_
                refine z_cVi (As := [.int (nI j), .int (nI 6)]) (rest := [.int 1]) (k := 0) S hE hW (cX3_boat0_ok l D (n0 + 3 + N) ad cy sa H.size (by omega) cl (exS cy ad N B (hourS al) (exH cy a0 n0 N (pfx (f1 al) N) (pfx (f2 al) N) (wsP (fT al) N 0) ex)) B hIc.1.2.2.1 hIc.1.2.2.2.1 j (by omega) 6 (by omega)) (cwV 2 hts gL_law_X3_boat rfl rfl rfl (by decide +kernel) ⟨Nat.le_of_ble_eq_true rfl, Nat.le_of_ble_eq_true rfl⟩) (by omega) cC_0 rfl rfl rfl hl.1 rfl (Nat.le_of_ble_eq_true rfl) dL_law_838 ⟨(Nat.le_trans (m := 600000) (by omega) (Nat.le_of_ble_eq_true rfl)), (Nat.le_trans (m := 600000) (by omega) (Nat.le_of_ble_eq_true rfl))⟩ (fun r _ H locs hp hW => ?_)
                subst hp
                refine z_top2 (y := ((cl (24 + j) 0 - cl (24 + j) 1) - cl (24 + j) 2)) (vb_eq (by omega)).2.2.2.2.2 ?_
                refine lv_iload hx hb dL_law_841 (lv_at hl 0 rfl) ?_
                refine lv_icmp_ge (tgt := 850) hx hb dL_law_843 (by decide) (fun h => absurd h v1) (fun _ => ?_)
                refine lv_iconst (v := 1) hx hb dL_law_846 (by decide) ?_
                refine lv_goto (tgt := 851) hx hb dL_law_847 (by decide) ?_
                refine lv_icmp_ne (tgt := 928) hx hb dL_law_851 (by decide) (fun h => absurd (by decide) h) (fun _ => ?_)
                refine lv_iload hx hb dL_law_854 (lv_at hl 1 rfl) ?_
                refine lv_iconst (v := 1) hx hb dL_law_856 (by decide) ?_
                refine lv_icmp_ne (tgt := 891) hx hb dL_law_857 (by decide) (fun _ => ?_) (fun h => absurd h (by decide))
                refine lv_iload hx hb dL_law_891 (lv_at hl 1 rfl) ?_
                refine lv_iconst (v := 2) hx hb dL_law_893 (by decide) ?_
                refine lv_icmp_ne (tgt := 930) hx hb dL_law_894 (by decide) (fun _ => ?_) (fun h => absurd h (by decide))
                refine lv_iinc (v := nI (0 + 1)) (lv' := [(18, .int (nI (0 + 1))), (20, .int 80), (19, .int 0), (14, .int (cl (24 + j) 1)), (15, .int (cl (24 + j) 2)), (13, .int (nI j)), (3, .int (nI tm)), (2, .ref (ad 28)), (1, .ref (ad 0)), (0, .ref b)]) hx hb dL_law_930 hl (k := 2) rfl (nI_1 _) (by decide) rfl (fun ls hl => ?_)
                refine lv_goto (tgt := 782) hx hb dL_law_933 (by decide) ?_
                refine W.widen (k := cells + 3 * j + (0 + 1)) (n := slots + 18 * j + 6 * (0 + 1)) (by omega) (by omega) ?_
                exact ihq (0 + 1) H locs ls (by omega) hW (lv_sub hl [0, 3, 4, 5, 6, 7, 8, 9] rfl)
              · refine z_top2 (y := 1) v9 ?_
                refine lv_istore (lv' := [(19, .int 1), (18, .int (nI 0)), (14, .int (cl (24 + j) 1)), (15, .int (cl (24 + j) 2)), (13, .int (nI j)), (3, .int (nI tm)), (2, .ref (ad 28)), (1, .ref (ad 0)), (0, .ref b)]) hx hb dL_law_796 hl (by decide) rfl (fun ls hl => ?_)
                refine lv_iload hx hb dL_law_798 (lv_at hl 1 rfl) ?_
                refine lv_if_ne (tgt := 808) hx hb dL_law_800 (by decide) (fun h => absurd (by decide) h) (fun _ => ?_)
                refine lv_bipush (v := 80) hx hb dL_law_803 (by decide) ?_
                refine lv_goto (tgt := 821) hx hb dL_law_805 (by decide) ?_
                refine lv_istore (lv' := [(20, .int 80), (19, .int 1), (18, .int (nI 0)), (14, .int (cl (24 + j) 1)), (15, .int (cl (24 + j) 2)), (13, .int (nI j)), (3, .int (nI tm)), (2, .ref (ad 28)), (1, .ref (ad 0)), (0, .ref b)]) hx hb dL_law_821 hl (by decide) rfl (fun ls hl => ?_)
                refine lv_iload hx hb dL_law_823 (lv_at hl 1 rfl) ?_
                refine lv_if_ne (tgt := 832) hx hb dL_law_825 (by decide) (fun _ => ?_) (fun h => absurd h (by decide))
                refine lv_iconst (v := 0) hx hb dL_law_832 (by decide) ?_
                refine lv_aload_n hx hb dL_law_833 rfl (lv_at hl 8 rfl) ?_
                refine lv_iload hx hb dL_law_834 (lv_at hl 5 rfl) ?_
                refine lv_bipush (v := 6) hx hb dL_law_836 (by decide) ?_
                refine z_cVi (As := [.int (nI j), .int (nI 6)]) (rest := [.int 0]) (k := 0) S hE hW (cX3_boat0_ok l D (n0 + 3 + N) ad cy sa H.size (by omega) cl (exS cy ad N B (hourS al) (exH cy a0 n0 N (pfx (f1 al) N) (pfx (f2 al) N) (wsP (fT al) N 0) ex)) B hIc.1.2.2.1 hIc.1.2.2.2.1 j (by omega) 6 (by omega)) (cwV 2 hts gL_law_X3_boat rfl rfl rfl (by decide +kernel) ⟨Nat.le_of_ble_eq_true rfl, Nat.le_of_ble_eq_true rfl⟩) (by omega) cC_0 rfl rfl rfl hl.1 rfl (Nat.le_of_ble_eq_true rfl) dL_law_838 ⟨(Nat.le_trans (m := 600000) (by omega) (Nat.le_of_ble_eq_true rfl)), (Nat.le_trans (m := 600000) (by omega) (Nat.le_of_ble_eq_true rfl))⟩ (fun r _ H locs hp hW => ?_)
                subst hp
                refine z_top2 (y := ((cl (24 + j) 0 - cl (24 + j) 1) - cl (24 + j) 2)) (vb_eq (by omega)).2.2.2.2.2 ?_
                refine lv_iload hx hb dL_law_841 (lv_at hl 0 rfl) ?_
                refine lv_icmp_ge (tgt := 850) hx hb dL_law_843 (by decide) (fun _ => ?_) (fun h => absurd v1 h)
                refine lv_iconst (v := 0) hx hb dL_law_850 (by decide) ?_
                refine lv_icmp_ne (tgt := 928) hx hb dL_law_851 (by decide) (fun h => absurd (by decide) h) (fun _ => ?_)
                refine lv_iload hx hb dL_law_854 (lv_at hl 1 rfl) ?_
                refine lv_iconst (v := 1) hx hb dL_law_856 (by decide) ?_
                refine lv_icmp_ne (tgt := 891) hx hb dL_law_857 (by decide) (fun h => absurd (by decide) h) (fun _ => ?_)
                refine lv_iload hx hb dL_law_860 (lv_at hl 3 rfl) ?_
                refine lv_iload hx hb dL_law_862 (lv_at hl 0 rfl) ?_
                refine lv_iadd hx hb dL_law_864 ?_
                refine lv_iload hx hb dL_law_865 (lv_at hl 4 rfl) ?_
                refine lv_isub hx hb dL_law_867 ?_
                refine z_mabs S hl.1 l141 ls_abs li_Math lc_abs ⟨Nat.le_of_ble_eq_true rfl, Nat.le_of_ble_eq_true rfl, (Nat.le_trans (m := 600000) (by omega) (Nat.le_of_ble_eq_true rfl)), (Nat.le_trans (m := 600000) (by omega) (Nat.le_of_ble_eq_true rfl))⟩ dL_law_868 (v := zab ((cl (24 + j) 1 + 80) - cl (24 + j) 2)) rfl ?_
                refine lv_bipush (v := 40) hx hb dL_law_871 (by decide) ?_
                refine lv_idiv hx hb dL_law_873 (by decide) ?_
                refine lv_iload hx hb dL_law_874 (lv_at hl 3 rfl) ?_
                refine lv_iload hx hb dL_law_876 (lv_at hl 0 rfl) ?_
                refine lv_isub hx hb dL_law_878 ?_
                refine lv_iload hx hb dL_law_879 (lv_at hl 4 rfl) ?_
                refine lv_isub hx hb dL_law_881 ?_
                refine z_mabs S hl.1 l141 ls_abs li_Math lc_abs ⟨Nat.le_of_ble_eq_true rfl, Nat.le_of_ble_eq_true rfl, (Nat.le_trans (m := 600000) (by omega) (Nat.le_of_ble_eq_true rfl)), (Nat.le_trans (m := 600000) (by omega) (Nat.le_of_ble_eq_true rfl))⟩ dL_law_882 (v := zab ((cl (24 + j) 1 - 80) - cl (24 + j) 2)) rfl ?_
                refine lv_bipush (v := 40) hx hb dL_law_885 (by decide) ?_
                refine lv_idiv hx hb dL_law_887 (by decide) ?_
                refine lv_icmp_gt (tgt := 928) hx hb dL_law_888 (by decide) (fun h => absurd h v2) (fun _ => ?_)
                refine lv_iload hx hb dL_law_891 (lv_at hl 1 rfl) ?_
                refine lv_iconst (v := 2) hx hb dL_law_893 (by decide) ?_
                refine lv_icmp_ne (tgt := 930) hx hb dL_law_894 (by decide) (fun _ => ?_) (fun h => absurd h (by decide))
                refine lv_iinc (v := nI (0 + 1)) (lv' := [(18, .int (nI (0 + 1))), (20, .int 80), (19, .int 1), (14, .int (cl (24 + j) 1)), (15, .int (cl (24 + j) 2)), (13, .int (nI j)), (3, .int (nI tm)), (2, .ref (ad 28)), (1, .ref (ad 0)), (0, .ref b)]) hx hb dL_law_930 hl (k := 2) rfl (nI_1 _) (by decide) rfl (fun ls hl => ?_)
                refine lv_goto (tgt := 782) hx hb dL_law_933 (by decide) ?_
                refine W.widen (k := cells + 3 * j + (0 + 1)) (n := slots + 18 * j + 6 * (0 + 1)) (by omega) (by omega) ?_
                exact ihq (0 + 1) H locs ls (by omega) hW (lv_sub hl [0, 3, 4, 5, 6, 7, 8, 9] rfl)
              · refine z_top2 (y := 2) v9 ?_
                refine lv_istore (lv' := [(19, .int 2), (18, .int (nI 0)), (14, .int (cl (24 + j) 1)), (15, .int (cl (24 + j) 2)), (13, .int (nI j)), (3, .int (nI tm)), (2, .ref (ad 28)), (1, .ref (ad 0)), (0, .ref b)]) hx hb dL_law_796 hl (by decide) rfl (fun ls hl => ?_)
                refine lv_iload hx hb dL_law_798 (lv_at hl 1 rfl) ?_
                refine lv_if_ne (tgt := 808) hx hb dL_law_800 (by decide) (fun h => absurd (by decide) h) (fun _ => ?_)
                refine lv_bipush (v := 80) hx hb dL_law_803 (by decide) ?_
                refine lv_goto (tgt := 821) hx hb dL_law_805 (by decide) ?_
                refine lv_istore (lv' := [(20, .int 80), (19, .int 2), (18, .int (nI 0)), (14, .int (cl (24 + j) 1)), (15, .int (cl (24 + j) 2)), (13, .int (nI j)), (3, .int (nI tm)), (2, .ref (ad 28)), (1, .ref (ad 0)), (0, .ref b)]) hx hb dL_law_821 hl (by decide) rfl (fun ls hl => ?_)
                refine lv_iload hx hb dL_law_823 (lv_at hl 1 rfl) ?_
                refine lv_if_ne (tgt := 832) hx hb dL_law_825 (by decide) (fun _ => ?_) (fun h => absurd h (by decide))
                refine lv_iconst (v := 0) hx hb dL_law_832 (by decide) ?_
                refine lv_aload_n hx hb dL_law_833 rfl (lv_at hl 8 rfl) ?_
                refine lv_iload hx hb dL_law_834 (lv_at hl 5 rfl) ?_
                refine lv_bipush (v := 6) hx hb dL_law_836 (by decide) ?_
                refine z_cVi (As := [.int (nI j), .int (nI 6)]) (rest := [.int 0]) (k := 0) S hE hW (cX3_boat0_ok l D (n0 + 3 + N) ad cy sa H.size (by omega) cl (exS cy ad N B (hourS al) (exH cy a0 n0 N (pfx (f1 al) N) (pfx (f2 al) N) (wsP (fT al) N 0) ex)) B hIc.1.2.2.1 hIc.1.2.2.2.1 j (by omega) 6 (by omega)) (cwV 2 hts gL_law_X3_boat rfl rfl rfl (by decide +kernel) ⟨Nat.le_of_ble_eq_true rfl, Nat.le_of_ble_eq_true rfl⟩) (by omega) cC_0 rfl rfl rfl hl.1 rfl (Nat.le_of_ble_eq_true rfl) dL_law_838 ⟨(Nat.le_trans (m := 600000) (by omega) (Nat.le_of_ble_eq_true rfl)), (Nat.le_trans (m := 600000) (by omega) (Nat.le_of_ble_eq_true rfl))⟩ (fun r _ H locs hp hW => ?_)
                subst hp
                refine z_top2 (y := ((cl (24 + j) 0 - cl (24 + j) 1) - cl (24 + j) 2)) (vb_eq (by omega)).2.2.2.2.2 ?_
                refine lv_iload hx hb dL_law_841 (lv_at hl 0 rfl) ?_
                refine lv_icmp_ge (tgt := 850) hx hb dL_law_843 (by decide) (fun _ => ?_) (fun h => absurd v1 h)
                refine lv_iconst (v := 0) hx hb dL_law_850 (by decide) ?_
                refine lv_icmp_ne (tgt := 928) hx hb dL_law_851 (by decide) (fun h => absurd (by decide) h) (fun _ => ?_)
                refine lv_iload hx hb dL_law_854 (lv_at hl 1 rfl) ?_
                refine lv_iconst (v := 1) hx hb dL_law_856 (by decide) ?_
                refine lv_icmp_ne (tgt := 891) hx hb dL_law_857 (by decide) (fun _ => ?_) (fun h => absurd h (by decide))
                refine lv_iload hx hb dL_law_891 (lv_at hl 1 rfl) ?_
                refine lv_iconst (v := 2) hx hb dL_law_893 (by decide) ?_
                refine lv_icmp_ne (tgt := 930) hx hb dL_law_894 (by decide) (fun h => absurd (by decide) h) (fun _ => ?_)
                refine lv_iload hx hb dL_law_897 (lv_at hl 3 rfl) ?_
                refine lv_iload hx hb dL_law_899 (lv_at hl 0 rfl) ?_
                refine lv_iadd hx hb dL_law_901 ?_
                refine lv_iload hx hb dL_law_902 (lv_at hl 4 rfl) ?_
                refine lv_isub hx hb dL_law_904 ?_
                refine z_mabs S hl.1 l141 ls_abs li_Math lc_abs ⟨Nat.le_of_ble_eq_true rfl, Nat.le_of_ble_eq_true rfl, (Nat.le_trans (m := 600000) (by omega) (Nat.le_of_ble_eq_true rfl)), (Nat.le_trans (m := 600000) (by omega) (Nat.le_of_ble_eq_true rfl))⟩ dL_law_905 (v := zab ((cl (24 + j) 1 + 80) - cl (24 + j) 2)) rfl ?_
                refine lv_bipush (v := 40) hx hb dL_law_908 (by decide) ?_
                refine lv_idiv hx hb dL_law_910 (by decide) ?_
                refine lv_iload hx hb dL_law_911 (lv_at hl 3 rfl) ?_
                refine lv_iload hx hb dL_law_913 (lv_at hl 0 rfl) ?_
                refine lv_isub hx hb dL_law_915 ?_
                refine lv_iload hx hb dL_law_916 (lv_at hl 4 rfl) ?_
                refine lv_isub hx hb dL_law_918 ?_
                refine z_mabs S hl.1 l141 ls_abs li_Math lc_abs ⟨Nat.le_of_ble_eq_true rfl, Nat.le_of_ble_eq_true rfl, (Nat.le_trans (m := 600000) (by omega) (Nat.le_of_ble_eq_true rfl)), (Nat.le_trans (m := 600000) (by omega) (Nat.le_of_ble_eq_true rfl))⟩ dL_law_919 (v := zab ((cl (24 + j) 1 - 80) - cl (24 + j) 2)) rfl ?_
                refine lv_bipush (v := 40) hx hb dL_law_922 (by decide) ?_
                refine lv_idiv hx hb dL_law_924 (by decide) ?_
                refine lv_icmp_gt (tgt := 930) hx hb dL_law_925 (by decide) (fun _ => ?_) (fun h => absurd v2 h)
                refine lv_iinc (v := nI (0 + 1)) (lv' := [(18, .int (nI (0 + 1))), (20, .int 80), (19, .int 2), (14, .int (cl (24 + j) 1)), (15, .int (cl (24 + j) 2)), (13, .int (nI j)), (3, .int (nI tm)), (2, .ref (ad 28)), (1, .ref (ad 0)), (0, .ref b)]) hx hb dL_law_930 hl (k := 2) rfl (nI_1 _) (by decide) rfl (fun ls hl => ?_)
                refine lv_goto (tgt := 782) hx hb dL_law_933 (by decide) ?_
                refine W.widen (k := cells + 3 * j + (0 + 1)) (n := slots + 18 * j + 6 * (0 + 1)) (by omega) (by omega) ?_
                exact ihq (0 + 1) H locs ls (by omega) hW (lv_sub hl [0, 3, 4, 5, 6, 7, 8, 9] rfl)
            · refine lv_iload hx hb dL_law_782 (lv_at hl 0 rfl) ?_
              refine lv_iconst (v := 3) hx hb dL_law_784 (by decide) ?_
              refine lv_icmp_ge (tgt := 936) hx hb dL_law_785 (by decide) (fun h => absurd h (by decide)) (fun _ => ?_)
              refine lv_aload_n hx hb dL_law_788 rfl (lv_at hl 6 rfl) ?_
              refine lv_iload hx hb dL_law_789 (lv_at hl 3 rfl) ?_
              refine lv_iload hx hb dL_law_791 (lv_at hl 0 rfl) ?_
              refine z_xVi (As := [.int (nI j), .int (nI 1)]) (rest := []) (k := 0) S hE hW (cX3_advise_ok l D (n0 + 3 + N) ad cy sa H.size (by omega) cl (exS cy ad N B (hourS al) (exH cy a0 n0 N (pfx (f1 al) N) (pfx (f2 al) N) (wsP (fT al) N 0) ex)) (nI j) (nI 1) B hIc.1.2.2.1 hIc.1.2.2.2.1 hfl) (cwV 2 hts gL_law_X3_advise rfl rfl rfl (by decide +kernel) ⟨Nat.le_of_ble_eq_true rfl, Nat.le_of_ble_eq_true rfl⟩) (by omega) cC_0 rfl rfl rfl hl.1 rfl (Nat.le_of_ble_eq_true rfl) dL_law_793 ⟨(Nat.le_trans (m := 600000) (by omega) (Nat.le_of_ble_eq_true rfl)), (Nat.le_trans (m := 600000) (by omega) (Nat.le_of_ble_eq_true rfl))⟩ (fun E x9 q9 H locs hbad hW hx9 hv9 hc9 => absurd hbad (zbad_0 (k0_advise hIc.1.2.2.1 hIc.1.2.2.2.1 hj (by decide)))) (fun r _ H locs hp hW => ?_)
              obtain ⟨-, rfl⟩ := hp
              rcases adv_eq (w := 50) (k := nI 1) (by omega) hj hbt (by decide) (by decide) with ⟨v1, v9⟩ | ⟨v1, v2, v9⟩ | ⟨v1, v2, v9⟩
              · refine z_top2 (y := 0) v9 ?_
                refine lv_istore (lv' := [(19, .int 0), (18, .int (nI 1)), (14, .int (cl (24 + j) 1)), (15, .int (cl (24 + j) 2)), (13, .int (nI j)), (3, .int (nI tm)), (2, .ref (ad 28)), (1, .ref (ad 0)), (0, .ref b)]) hx hb dL_law_796 hl (by decide) rfl (fun ls hl => ?_)
                refine lv_iload hx hb dL_law_798 (lv_at hl 1 rfl) ?_
                refine lv_if_ne (tgt := 808) hx hb dL_law_800 (by decide) (fun _ => ?_) (fun h => absurd h (by decide))
                refine lv_iload hx hb dL_law_808 (lv_at hl 1 rfl) ?_
                refine lv_iconst (v := 1) hx hb dL_law_810 (by decide) ?_
                refine lv_icmp_ne (tgt := 819) hx hb dL_law_811 (by decide) (fun h => absurd (by decide) h) (fun _ => ?_)
                refine lv_bipush (v := 50) hx hb dL_law_814 (by decide) ?_
                refine lv_goto (tgt := 821) hx hb dL_law_816 (by decide) ?_
                refine lv_istore (lv' := [(20, .int 50), (19, .int 0), (18, .int (nI 1)), (14, .int (cl (24 + j) 1)), (15, .int (cl (24 + j) 2)), (13, .int (nI j)), (3, .int (nI tm)), (2, .ref (ad 28)), (1, .ref (ad 0)), (0, .ref b)]) hx hb dL_law_821 hl (by decide) rfl (fun ls hl => ?_)
                refine lv_iload hx hb dL_law_823 (lv_at hl 1 rfl) ?_
                refine lv_if_ne (tgt := 832) hx hb dL_law_825 (by decide) (fun h => absurd (by decide) h) (fun _ => ?_)
                refine lv_iconst (v := 1) hx hb dL_law_828 (by decide) ?_
                refine lv_goto (tgt := 833) hx hb dL_law_829 (by decide) ?_
                refine lv_aload_n hx hb dL_law_833 rfl (lv_at hl 8 rfl) ?_
                refine lv_iload hx hb dL_law_834 (lv_at hl 5 rfl) ?_
                refine lv_bipush (v := 6) hx hb dL_law_836 (by decide) ?_
                refine z_cVi (As := [.int (nI j), .int (nI 6)]) (rest := [.int 1]) (k := 0) S hE hW (cX3_boat0_ok l D (n0 + 3 + N) ad cy sa H.size (by omega) cl (exS cy ad N B (hourS al) (exH cy a0 n0 N (pfx (f1 al) N) (pfx (f2 al) N) (wsP (fT al) N 0) ex)) B hIc.1.2.2.1 hIc.1.2.2.2.1 j (by omega) 6 (by omega)) (cwV 2 hts gL_law_X3_boat rfl rfl rfl (by decide +kernel) ⟨Nat.le_of_ble_eq_true rfl, Nat.le_of_ble_eq_true rfl⟩) (by omega) cC_0 rfl rfl rfl hl.1 rfl (Nat.le_of_ble_eq_true rfl) dL_law_838 ⟨(Nat.le_trans (m := 600000) (by omega) (Nat.le_of_ble_eq_true rfl)), (Nat.le_trans (m := 600000) (by omega) (Nat.le_of_ble_eq_true rfl))⟩ (fun r _ H locs hp hW => ?_)
                subst hp
                refine z_top2 (y := ((cl (24 + j) 0 - cl (24 + j) 1) - cl (24 + j) 2)) (vb_eq (by omega)).2.2.2.2.2 ?_
                refine lv_iload hx hb dL_law_841 (lv_at hl 0 rfl) ?_
                refine lv_icmp_ge (tgt := 850) hx hb dL_law_843 (by decide) (fun h => absurd h v1) (fun _ => ?_)
                refine lv_iconst (v := 1) hx hb dL_law_846 (by decide) ?_
                refine lv_goto (tgt := 851) hx hb dL_law_847 (by decide) ?_
                refine lv_icmp_ne (tgt := 928) hx hb dL_law_851 (by decide) (fun h => absurd (by decide) h) (fun _ => ?_)
                refine lv_iload hx hb dL_law_854 (lv_at hl 1 rfl) ?_
                refine lv_iconst (v := 1) hx hb dL_law_856 (by decide) ?_
                refine lv_icmp_ne (tgt := 891) hx hb dL_law_857 (by decide) (fun _ => ?_) (fun h => absurd h (by decide))
                refine lv_iload hx hb dL_law_891 (lv_at hl 1 rfl) ?_
                refine lv_iconst (v := 2) hx hb dL_law_893 (by decide) ?_
                refine lv_icmp_ne (tgt := 930) hx hb dL_law_894 (by decide) (fun _ => ?_) (fun h => absurd h (by decide))
                refine lv_iinc (v := nI (1 + 1)) (lv' := [(18, .int (nI (1 + 1))), (20, .int 50), (19, .int 0), (14, .int (cl (24 + j) 1)), (15, .int (cl (24 + j) 2)), (13, .int (nI j)), (3, .int (nI tm)), (2, .ref (ad 28)), (1, .ref (ad 0)), (0, .ref b)]) hx hb dL_law_930 hl (k := 2) rfl (nI_1 _) (by decide) rfl (fun ls hl => ?_)
                refine lv_goto (tgt := 782) hx hb dL_law_933 (by decide) ?_
                refine W.widen (k := cells + 3 * j + (1 + 1)) (n := slots + 18 * j + 6 * (1 + 1)) (by omega) (by omega) ?_
                exact ihq (1 + 1) H locs ls (by omega) hW (lv_sub hl [0, 3, 4, 5, 6, 7, 8, 9] rfl)
              · refine z_top2 (y := 1) v9 ?_
                refine lv_istore (lv' := [(19, .int 1), (18, .int (nI 1)), (14, .int (cl (24 + j) 1)), (15, .int (cl (24 + j) 2)), (13, .int (nI j)), (3, .int (nI tm)), (2, .ref (ad 28)), (1, .ref (ad 0)), (0, .ref b)]) hx hb dL_law_796 hl (by decide) rfl (fun ls hl => ?_)
                refine lv_iload hx hb dL_law_798 (lv_at hl 1 rfl) ?_
                refine lv_if_ne (tgt := 808) hx hb dL_law_800 (by decide) (fun _ => ?_) (fun h => absurd h (by decide))
                refine lv_iload hx hb dL_law_808 (lv_at hl 1 rfl) ?_
                refine lv_iconst (v := 1) hx hb dL_law_810 (by decide) ?_
                refine lv_icmp_ne (tgt := 819) hx hb dL_law_811 (by decide) (fun h => absurd (by decide) h) (fun _ => ?_)
                refine lv_bipush (v := 50) hx hb dL_law_814 (by decide) ?_
                refine lv_goto (tgt := 821) hx hb dL_law_816 (by decide) ?_
                refine lv_istore (lv' := [(20, .int 50), (19, .int 1), (18, .int (nI 1)), (14, .int (cl (24 + j) 1)), (15, .int (cl (24 + j) 2)), (13, .int (nI j)), (3, .int (nI tm)), (2, .ref (ad 28)), (1, .ref (ad 0)), (0, .ref b)]) hx hb dL_law_821 hl (by decide) rfl (fun ls hl => ?_)
                refine lv_iload hx hb dL_law_823 (lv_at hl 1 rfl) ?_
                refine lv_if_ne (tgt := 832) hx hb dL_law_825 (by decide) (fun _ => ?_) (fun h => absurd h (by decide))
                refine lv_iconst (v := 0) hx hb dL_law_832 (by decide) ?_
                refine lv_aload_n hx hb dL_law_833 rfl (lv_at hl 8 rfl) ?_
                refine lv_iload hx hb dL_law_834 (lv_at hl 5 rfl) ?_
                refine lv_bipush (v := 6) hx hb dL_law_836 (by decide) ?_
                refine z_cVi (As := [.int (nI j), .int (nI 6)]) (rest := [.int 0]) (k := 0) S hE hW (cX3_boat0_ok l D (n0 + 3 + N) ad cy sa H.size (by omega) cl (exS cy ad N B (hourS al) (exH cy a0 n0 N (pfx (f1 al) N) (pfx (f2 al) N) (wsP (fT al) N 0) ex)) B hIc.1.2.2.1 hIc.1.2.2.2.1 j (by omega) 6 (by omega)) (cwV 2 hts gL_law_X3_boat rfl rfl rfl (by decide +kernel) ⟨Nat.le_of_ble_eq_true rfl, Nat.le_of_ble_eq_true rfl⟩) (by omega) cC_0 rfl rfl rfl hl.1 rfl (Nat.le_of_ble_eq_true rfl) dL_law_838 ⟨(Nat.le_trans (m := 600000) (by omega) (Nat.le_of_ble_eq_true rfl)), (Nat.le_trans (m := 600000) (by omega) (Nat.le_of_ble_eq_true rfl))⟩ (fun r _ H locs hp hW => ?_)
                subst hp
                refine z_top2 (y := ((cl (24 + j) 0 - cl (24 + j) 1) - cl (24 + j) 2)) (vb_eq (by omega)).2.2.2.2.2 ?_
                refine lv_iload hx hb dL_law_841 (lv_at hl 0 rfl) ?_
                refine lv_icmp_ge (tgt := 850) hx hb dL_law_843 (by decide) (fun _ => ?_) (fun h => absurd v1 h)
                refine lv_iconst (v := 0) hx hb dL_law_850 (by decide) ?_
                refine lv_icmp_ne (tgt := 928) hx hb dL_law_851 (by decide) (fun h => absurd (by decide) h) (fun _ => ?_)
                refine lv_iload hx hb dL_law_854 (lv_at hl 1 rfl) ?_
                refine lv_iconst (v := 1) hx hb dL_law_856 (by decide) ?_
                refine lv_icmp_ne (tgt := 891) hx hb dL_law_857 (by decide) (fun h => absurd (by decide) h) (fun _ => ?_)
                refine lv_iload hx hb dL_law_860 (lv_at hl 3 rfl) ?_
                refine lv_iload hx hb dL_law_862 (lv_at hl 0 rfl) ?_
                refine lv_iadd hx hb dL_law_864 ?_
                refine lv_iload hx hb dL_law_865 (lv_at hl 4 rfl) ?_
                refine lv_isub hx hb dL_law_867 ?_
                refine z_mabs S hl.1 l141 ls_abs li_Math lc_abs ⟨Nat.le_of_ble_eq_true rfl, Nat.le_of_ble_eq_true rfl, (Nat.le_trans (m := 600000) (by omega) (Nat.le_of_ble_eq_true rfl)), (Nat.le_trans (m := 600000) (by omega) (Nat.le_of_ble_eq_true rfl))⟩ dL_law_868 (v := zab ((cl (24 + j) 1 + 50) - cl (24 + j) 2)) rfl ?_
                refine lv_bipush (v := 40) hx hb dL_law_871 (by decide) ?_
                refine lv_idiv hx hb dL_law_873 (by decide) ?_
                refine lv_iload hx hb dL_law_874 (lv_at hl 3 rfl) ?_
                refine lv_iload hx hb dL_law_876 (lv_at hl 0 rfl) ?_
                refine lv_isub hx hb dL_law_878 ?_
                refine lv_iload hx hb dL_law_879 (lv_at hl 4 rfl) ?_
                refine lv_isub hx hb dL_law_881 ?_
                refine z_mabs S hl.1 l141 ls_abs li_Math lc_abs ⟨Nat.le_of_ble_eq_true rfl, Nat.le_of_ble_eq_true rfl, (Nat.le_trans (m := 600000) (by omega) (Nat.le_of_ble_eq_true rfl)), (Nat.le_trans (m := 600000) (by omega) (Nat.le_of_ble_eq_true rfl))⟩ dL_law_882 (v := zab ((cl (24 + j) 1 - 50) - cl (24 + j) 2)) rfl ?_
                refine lv_bipush (v := 40) hx hb dL_law_885 (by decide) ?_
                refine lv_idiv hx hb dL_law_887 (by decide) ?_
                refine lv_icmp_gt (tgt := 928) hx hb dL_law_888 (by decide) (fun h => absurd h v2) (fun _ => ?_)
                refine lv_iload hx hb dL_law_891 (lv_at hl 1 rfl) ?_
                refine lv_iconst (v := 2) hx hb dL_law_893 (by decide) ?_
                refine lv_icmp_ne (tgt := 930) hx hb dL_law_894 (by decide) (fun _ => ?_) (fun h => absurd h (by decide))
                refine lv_iinc (v := nI (1 + 1)) (lv' := [(18, .int (nI (1 + 1))), (20, .int 50), (19, .int 1), (14, .int (cl (24 + j) 1)), (15, .int (cl (24 + j) 2)), (13, .int (nI j)), (3, .int (nI tm)), (2, .ref (ad 28)), (1, .ref (ad 0)), (0, .ref b)]) hx hb dL_law_930 hl (k := 2) rfl (nI_1 _) (by decide) rfl (fun ls hl => ?_)
                refine lv_goto (tgt := 782) hx hb dL_law_933 (by decide) ?_
                refine W.widen (k := cells + 3 * j + (1 + 1)) (n := slots + 18 * j + 6 * (1 + 1)) (by omega) (by omega) ?_
                exact ihq (1 + 1) H locs ls (by omega) hW (lv_sub hl [0, 3, 4, 5, 6, 7, 8, 9] rfl)
              · refine z_top2 (y := 2) v9 ?_
                refine lv_istore (lv' := [(19, .int 2), (18, .int (nI 1)), (14, .int (cl (24 + j) 1)), (15, .int (cl (24 + j) 2)), (13, .int (nI j)), (3, .int (nI tm)), (2, .ref (ad 28)), (1, .ref (ad 0)), (0, .ref b)]) hx hb dL_law_796 hl (by decide) rfl (fun ls hl => ?_)
                refine lv_iload hx hb dL_law_798 (lv_at hl 1 rfl) ?_
                refine lv_if_ne (tgt := 808) hx hb dL_law_800 (by decide) (fun _ => ?_) (fun h => absurd h (by decide))
                refine lv_iload hx hb dL_law_808 (lv_at hl 1 rfl) ?_
                refine lv_iconst (v := 1) hx hb dL_law_810 (by decide) ?_
                refine lv_icmp_ne (tgt := 819) hx hb dL_law_811 (by decide) (fun h => absurd (by decide) h) (fun _ => ?_)
                refine lv_bipush (v := 50) hx hb dL_law_814 (by decide) ?_
                refine lv_goto (tgt := 821) hx hb dL_law_816 (by decide) ?_
                refine lv_istore (lv' := [(20, .int 50), (19, .int 2), (18, .int (nI 1)), (14, .int (cl (24 + j) 1)), (15, .int (cl (24 + j) 2)), (13, .int (nI j)), (3, .int (nI tm)), (2, .ref (ad 28)), (1, .ref (ad 0)), (0, .ref b)]) hx hb dL_law_821 hl (by decide) rfl (fun ls hl => ?_)
                refine lv_iload hx hb dL_law_823 (lv_at hl 1 rfl) ?_
                refine lv_if_ne (tgt := 832) hx hb dL_law_825 (by decide) (fun _ => ?_) (fun h => absurd h (by decide))
                refine lv_iconst (v := 0) hx hb dL_law_832 (by decide) ?_
                refine lv_aload_n hx hb dL_law_833 rfl (lv_at hl 8 rfl) ?_
                refine lv_iload hx hb dL_law_834 (lv_at hl 5 rfl) ?_
                refine lv_bipush (v := 6) hx hb dL_law_836 (by decide) ?_
                refine z_cVi (As := [.int (nI j), .int (nI 6)]) (rest := [.int 0]) (k := 0) S hE hW (cX3_boat0_ok l D (n0 + 3 + N) ad cy sa H.size (by omega) cl (exS cy ad N B (hourS al) (exH cy a0 n0 N (pfx (f1 al) N) (pfx (f2 al) N) (wsP (fT al) N 0) ex)) B hIc.1.2.2.1 hIc.1.2.2.2.1 j (by omega) 6 (by omega)) (cwV 2 hts gL_law_X3_boat rfl rfl rfl (by decide +kernel) ⟨Nat.le_of_ble_eq_true rfl, Nat.le_of_ble_eq_true rfl⟩) (by omega) cC_0 rfl rfl rfl hl.1 rfl (Nat.le_of_ble_eq_true rfl) dL_law_838 ⟨(Nat.le_trans (m := 600000) (by omega) (Nat.le_of_ble_eq_true rfl)), (Nat.le_trans (m := 600000) (by omega) (Nat.le_of_ble_eq_true rfl))⟩ (fun r _ H locs hp hW => ?_)
                subst hp
                refine z_top2 (y := ((cl (24 + j) 0 - cl (24 + j) 1) - cl (24 + j) 2)) (vb_eq (by omega)).2.2.2.2.2 ?_
                refine lv_iload hx hb dL_law_841 (lv_at hl 0 rfl) ?_
                refine lv_icmp_ge (tgt := 850) hx hb dL_law_843 (by decide) (fun _ => ?_) (fun h => absurd v1 h)
                refine lv_iconst (v := 0) hx hb dL_law_850 (by decide) ?_
                refine lv_icmp_ne (tgt := 928) hx hb dL_law_851 (by decide) (fun h => absurd (by decide) h) (fun _ => ?_)
                refine lv_iload hx hb dL_law_854 (lv_at hl 1 rfl) ?_
                refine lv_iconst (v := 1) hx hb dL_law_856 (by decide) ?_
                refine lv_icmp_ne (tgt := 891) hx hb dL_law_857 (by decide) (fun _ => ?_) (fun h => absurd h (by decide))
                refine lv_iload hx hb dL_law_891 (lv_at hl 1 rfl) ?_
                refine lv_iconst (v := 2) hx hb dL_law_893 (by decide) ?_
                refine lv_icmp_ne (tgt := 930) hx hb dL_law_894 (by decide) (fun h => absurd (by decide) h) (fun _ => ?_)
                refine lv_iload hx hb dL_law_897 (lv_at hl 3 rfl) ?_
                refine lv_iload hx hb dL_law_899 (lv_at hl 0 rfl) ?_
                refine lv_iadd hx hb dL_law_901 ?_
                refine lv_iload hx hb dL_law_902 (lv_at hl 4 rfl) ?_
                refine lv_isub hx hb dL_law_904 ?_
                refine z_mabs S hl.1 l141 ls_abs li_Math lc_abs ⟨Nat.le_of_ble_eq_true rfl, Nat.le_of_ble_eq_true rfl, (Nat.le_trans (m := 600000) (by omega) (Nat.le_of_ble_eq_true rfl)), (Nat.le_trans (m := 600000) (by omega) (Nat.le_of_ble_eq_true rfl))⟩ dL_law_905 (v := zab ((cl (24 + j) 1 + 50) - cl (24 + j) 2)) rfl ?_
                refine lv_bipush (v := 40) hx hb dL_law_908 (by decide) ?_
                refine lv_idiv hx hb dL_law_910 (by decide) ?_
                refine lv_iload hx hb dL_law_911 (lv_at hl 3 rfl) ?_
                refine lv_iload hx hb dL_law_913 (lv_at hl 0 rfl) ?_
                refine lv_isub hx hb dL_law_915 ?_
                refine lv_iload hx hb dL_law_916 (lv_at hl 4 rfl) ?_
                refine lv_isub hx hb dL_law_918 ?_
                refine z_mabs S hl.1 l141 ls_abs li_Math lc_abs ⟨Nat.le_of_ble_eq_true rfl, Nat.le_of_ble_eq_true rfl, (Nat.le_trans (m := 600000) (by omega) (Nat.le_of_ble_eq_true rfl)), (Nat.le_trans (m := 600000) (by omega) (Nat.le_of_ble_eq_true rfl))⟩ dL_law_919 (v := zab ((cl (24 + j) 1 - 50) - cl (24 + j) 2)) rfl ?_
                refine lv_bipush (v := 40) hx hb dL_law_922 (by decide) ?_
                refine lv_idiv hx hb dL_law_924 (by decide) ?_
                refine lv_icmp_gt (tgt := 930) hx hb dL_law_925 (by decide) (fun _ => ?_) (fun h => absurd v2 h)
                refine lv_iinc (v := nI (1 + 1)) (lv' := [(18, .int (nI (1 + 1))), (20, .int 50), (19, .int 2), (14, .int (cl (24 + j) 1)), (15, .int (cl (24 + j) 2)), (13, .int (nI j)), (3, .int (nI tm)), (2, .ref (ad 28)), (1, .ref (ad 0)), (0, .ref b)]) hx hb dL_law_930 hl (k := 2) rfl (nI_1 _) (by decide) rfl (fun ls hl => ?_)
                refine lv_goto (tgt := 782) hx hb dL_law_933 (by decide) ?_
                refine W.widen (k := cells + 3 * j + (1 + 1)) (n := slots + 18 * j + 6 * (1 + 1)) (by omega) (by omega) ?_
                exact ihq (1 + 1) H locs ls (by omega) hW (lv_sub hl [0, 3, 4, 5, 6, 7, 8, 9] rfl)
            · refine lv_iload hx hb dL_law_782 (lv_at hl 0 rfl) ?_
              refine lv_iconst (v := 3) hx hb dL_law_784 (by decide) ?_
              refine lv_icmp_ge (tgt := 936) hx hb dL_law_785 (by decide) (fun h => absurd h (by decide)) (fun _ => ?_)
              refine lv_aload_n hx hb dL_law_788 rfl (lv_at hl 6 rfl) ?_
              refine lv_iload hx hb dL_law_789 (lv_at hl 3 rfl) ?_
              refine lv_iload hx hb dL_law_791 (lv_at hl 0 rfl) ?_
              refine z_xVi (As := [.int (nI j), .int (nI 2)]) (rest := []) (k := 0) S hE hW (cX3_advise_ok l D (n0 + 3 + N) ad cy sa H.size (by omega) cl (exS cy ad N B (hourS al) (exH cy a0 n0 N (pfx (f1 al) N) (pfx (f2 al) N) (wsP (fT al) N 0) ex)) (nI j) (nI 2) B hIc.1.2.2.1 hIc.1.2.2.2.1 hfl) (cwV 2 hts gL_law_X3_advise rfl rfl rfl (by decide +kernel) ⟨Nat.le_of_ble_eq_true rfl, Nat.le_of_ble_eq_true rfl⟩) (by omega) cC_0 rfl rfl rfl hl.1 rfl (Nat.le_of_ble_eq_true rfl) dL_law_793 ⟨(Nat.le_trans (m := 600000) (by omega) (Nat.le_of_ble_eq_true rfl)), (Nat.le_trans (m := 600000) (by omega) (Nat.le_of_ble_eq_true rfl))⟩ (fun E x9 q9 H locs hbad hW hx9 hv9 hc9 => absurd hbad (zbad_0 (k0_advise hIc.1.2.2.1 hIc.1.2.2.2.1 hj (by decide)))) (fun r _ H locs hp hW => ?_)
              obtain ⟨-, rfl⟩ := hp
              rcases adv_eq (w := 20) (k := nI 2) (by omega) hj hbt (by decide) (by decide) with ⟨v1, v9⟩ | ⟨v1, v2, v9⟩ | ⟨v1, v2, v9⟩
              · refine z_top2 (y := 0) v9 ?_
                refine lv_istore (lv' := [(19, .int 0), (18, .int (nI 2)), (14, .int (cl (24 + j) 1)), (15, .int (cl (24 + j) 2)), (13, .int (nI j)), (3, .int (nI tm)), (2, .ref (ad 28)), (1, .ref (ad 0)), (0, .ref b)]) hx hb dL_law_796 hl (by decide) rfl (fun ls hl => ?_)
                refine lv_iload hx hb dL_law_798 (lv_at hl 1 rfl) ?_
                refine lv_if_ne (tgt := 808) hx hb dL_law_800 (by decide) (fun _ => ?_) (fun h => absurd h (by decide))
                refine lv_iload hx hb dL_law_808 (lv_at hl 1 rfl) ?_
                refine lv_iconst (v := 1) hx hb dL_law_810 (by decide) ?_
                refine lv_icmp_ne (tgt := 819) hx hb dL_law_811 (by decide) (fun _ => ?_) (fun h => absurd h (by decide))
                refine lv_bipush (v := 20) hx hb dL_law_819 (by decide) ?_
                refine lv_istore (lv' := [(20, .int 20), (19, .int 0), (18, .int (nI 2)), (14, .int (cl (24 + j) 1)), (15, .int (cl (24 + j) 2)), (13, .int (nI j)), (3, .int (nI tm)), (2, .ref (ad 28)), (1, .ref (ad 0)), (0, .ref b)]) hx hb dL_law_821 hl (by decide) rfl (fun ls hl => ?_)
                refine lv_iload hx hb dL_law_823 (lv_at hl 1 rfl) ?_
                refine lv_if_ne (tgt := 832) hx hb dL_law_825 (by decide) (fun h => absurd (by decide) h) (fun _ => ?_)
                refine lv_iconst (v := 1) hx hb dL_law_828 (by decide) ?_
                refine lv_goto (tgt := 833) hx hb dL_law_829 (by decide) ?_
                refine lv_aload_n hx hb dL_law_833 rfl (lv_at hl 8 rfl) ?_
                refine lv_iload hx hb dL_law_834 (lv_at hl 5 rfl) ?_
                refine lv_bipush (v := 6) hx hb dL_law_836 (by decide) ?_
                refine z_cVi (As := [.int (nI j), .int (nI 6)]) (rest := [.int 1]) (k := 0) S hE hW (cX3_boat0_ok l D (n0 + 3 + N) ad cy sa H.size (by omega) cl (exS cy ad N B (hourS al) (exH cy a0 n0 N (pfx (f1 al) N) (pfx (f2 al) N) (wsP (fT al) N 0) ex)) B hIc.1.2.2.1 hIc.1.2.2.2.1 j (by omega) 6 (by omega)) (cwV 2 hts gL_law_X3_boat rfl rfl rfl (by decide +kernel) ⟨Nat.le_of_ble_eq_true rfl, Nat.le_of_ble_eq_true rfl⟩) (by omega) cC_0 rfl rfl rfl hl.1 rfl (Nat.le_of_ble_eq_true rfl) dL_law_838 ⟨(Nat.le_trans (m := 600000) (by omega) (Nat.le_of_ble_eq_true rfl)), (Nat.le_trans (m := 600000) (by omega) (Nat.le_of_ble_eq_true rfl))⟩ (fun r _ H locs hp hW => ?_)
                subst hp
                refine z_top2 (y := ((cl (24 + j) 0 - cl (24 + j) 1) - cl (24 + j) 2)) (vb_eq (by omega)).2.2.2.2.2 ?_
                refine lv_iload hx hb dL_law_841 (lv_at hl 0 rfl) ?_
                refine lv_icmp_ge (tgt := 850) hx hb dL_law_843 (by decide) (fun h => absurd h v1) (fun _ => ?_)
                refine lv_iconst (v := 1) hx hb dL_law_846 (by decide) ?_
                refine lv_goto (tgt := 851) hx hb dL_law_847 (by decide) ?_
                refine lv_icmp_ne (tgt := 928) hx hb dL_law_851 (by decide) (fun h => absurd (by decide) h) (fun _ => ?_)
                refine lv_iload hx hb dL_law_854 (lv_at hl 1 rfl) ?_
                refine lv_iconst (v := 1) hx hb dL_law_856 (by decide) ?_
                refine lv_icmp_ne (tgt := 891) hx hb dL_law_857 (by decide) (fun _ => ?_) (fun h => absurd h (by decide))
                refine lv_iload hx hb dL_law_891 (lv_at hl 1 rfl) ?_
                refine lv_iconst (v := 2) hx hb dL_law_893 (by decide) ?_
                refine lv_icmp_ne (tgt := 930) hx hb dL_law_894 (by decide) (fun _ => ?_) (fun h => absurd h (by decide))
                refine lv_iinc (v := nI (2 + 1)) (lv' := [(18, .int (nI (2 + 1))), (20, .int 20), (19, .int 0), (14, .int (cl (24 + j) 1)), (15, .int (cl (24 + j) 2)), (13, .int (nI j)), (3, .int (nI tm)), (2, .ref (ad 28)), (1, .ref (ad 0)), (0, .ref b)]) hx hb dL_law_930 hl (k := 2) rfl (nI_1 _) (by decide) rfl (fun ls hl => ?_)
                refine lv_goto (tgt := 782) hx hb dL_law_933 (by decide) ?_
                refine W.widen (k := cells + 3 * j + (2 + 1)) (n := slots + 18 * j + 6 * (2 + 1)) (by omega) (by omega) ?_
                exact ihq (2 + 1) H locs ls (by omega) hW (lv_sub hl [0, 3, 4, 5, 6, 7, 8, 9] rfl)
              · refine z_top2 (y := 1) v9 ?_
                refine lv_istore (lv' := [(19, .int 1), (18, .int (nI 2)), (14, .int (cl (24 + j) 1)), (15, .int (cl (24 + j) 2)), (13, .int (nI j)), (3, .int (nI tm)), (2, .ref (ad 28)), (1, .ref (ad 0)), (0, .ref b)]) hx hb dL_law_796 hl (by decide) rfl (fun ls hl => ?_)
                refine lv_iload hx hb dL_law_798 (lv_at hl 1 rfl) ?_
                refine lv_if_ne (tgt := 808) hx hb dL_law_800 (by decide) (fun _ => ?_) (fun h => absurd h (by decide))
                refine lv_iload hx hb dL_law_808 (lv_at hl 1 rfl) ?_
                refine lv_iconst (v := 1) hx hb dL_law_810 (by decide) ?_
                refine lv_icmp_ne (tgt := 819) hx hb dL_law_811 (by decide) (fun _ => ?_) (fun h => absurd h (by decide))
                refine lv_bipush (v := 20) hx hb dL_law_819 (by decide) ?_
                refine lv_istore (lv' := [(20, .int 20), (19, .int 1), (18, .int (nI 2)), (14, .int (cl (24 + j) 1)), (15, .int (cl (24 + j) 2)), (13, .int (nI j)), (3, .int (nI tm)), (2, .ref (ad 28)), (1, .ref (ad 0)), (0, .ref b)]) hx hb dL_law_821 hl (by decide) rfl (fun ls hl => ?_)
                refine lv_iload hx hb dL_law_823 (lv_at hl 1 rfl) ?_
                refine lv_if_ne (tgt := 832) hx hb dL_law_825 (by decide) (fun _ => ?_) (fun h => absurd h (by decide))
                refine lv_iconst (v := 0) hx hb dL_law_832 (by decide) ?_
                refine lv_aload_n hx hb dL_law_833 rfl (lv_at hl 8 rfl) ?_
                refine lv_iload hx hb dL_law_834 (lv_at hl 5 rfl) ?_
                refine lv_bipush (v := 6) hx hb dL_law_836 (by decide) ?_
                refine z_cVi (As := [.int (nI j), .int (nI 6)]) (rest := [.int 0]) (k := 0) S hE hW (cX3_boat0_ok l D (n0 + 3 + N) ad cy sa H.size (by omega) cl (exS cy ad N B (hourS al) (exH cy a0 n0 N (pfx (f1 al) N) (pfx (f2 al) N) (wsP (fT al) N 0) ex)) B hIc.1.2.2.1 hIc.1.2.2.2.1 j (by omega) 6 (by omega)) (cwV 2 hts gL_law_X3_boat rfl rfl rfl (by decide +kernel) ⟨Nat.le_of_ble_eq_true rfl, Nat.le_of_ble_eq_true rfl⟩) (by omega) cC_0 rfl rfl rfl hl.1 rfl (Nat.le_of_ble_eq_true rfl) dL_law_838 ⟨(Nat.le_trans (m := 600000) (by omega) (Nat.le_of_ble_eq_true rfl)), (Nat.le_trans (m := 600000) (by omega) (Nat.le_of_ble_eq_true rfl))⟩ (fun r _ H locs hp hW => ?_)
                subst hp
                refine z_top2 (y := ((cl (24 + j) 0 - cl (24 + j) 1) - cl (24 + j) 2)) (vb_eq (by omega)).2.2.2.2.2 ?_
                refine lv_iload hx hb dL_law_841 (lv_at hl 0 rfl) ?_
                refine lv_icmp_ge (tgt := 850) hx hb dL_law_843 (by decide) (fun _ => ?_) (fun h => absurd v1 h)
                refine lv_iconst (v := 0) hx hb dL_law_850 (by decide) ?_
                refine lv_icmp_ne (tgt := 928) hx hb dL_law_851 (by decide) (fun h => absurd (by decide) h) (fun _ => ?_)
                refine lv_iload hx hb dL_law_854 (lv_at hl 1 rfl) ?_
                refine lv_iconst (v := 1) hx hb dL_law_856 (by decide) ?_
                refine lv_icmp_ne (tgt := 891) hx hb dL_law_857 (by decide) (fun h => absurd (by decide) h) (fun _ => ?_)
                refine lv_iload hx hb dL_law_860 (lv_at hl 3 rfl) ?_
                refine lv_iload hx hb dL_law_862 (lv_at hl 0 rfl) ?_
                refine lv_iadd hx hb dL_law_864 ?_
                refine lv_iload hx hb dL_law_865 (lv_at hl 4 rfl) ?_
                refine lv_isub hx hb dL_law_867 ?_
                refine z_mabs S hl.1 l141 ls_abs li_Math lc_abs ⟨Nat.le_of_ble_eq_true rfl, Nat.le_of_ble_eq_true rfl, (Nat.le_trans (m := 600000) (by omega) (Nat.le_of_ble_eq_true rfl)), (Nat.le_trans (m := 600000) (by omega) (Nat.le_of_ble_eq_true rfl))⟩ dL_law_868 (v := zab ((cl (24 + j) 1 + 20) - cl (24 + j) 2)) rfl ?_
                refine lv_bipush (v := 40) hx hb dL_law_871 (by decide) ?_
                refine lv_idiv hx hb dL_law_873 (by decide) ?_
                refine lv_iload hx hb dL_law_874 (lv_at hl 3 rfl) ?_
                refine lv_iload hx hb dL_law_876 (lv_at hl 0 rfl) ?_
                refine lv_isub hx hb dL_law_878 ?_
                refine lv_iload hx hb dL_law_879 (lv_at hl 4 rfl) ?_
                refine lv_isub hx hb dL_law_881 ?_
                refine z_mabs S hl.1 l141 ls_abs li_Math lc_abs ⟨Nat.le_of_ble_eq_true rfl, Nat.le_of_ble_eq_true rfl, (Nat.le_trans (m := 600000) (by omega) (Nat.le_of_ble_eq_true rfl)), (Nat.le_trans (m := 600000) (by omega) (Nat.le_of_ble_eq_true rfl))⟩ dL_law_882 (v := zab ((cl (24 + j) 1 - 20) - cl (24 + j) 2)) rfl ?_
                refine lv_bipush (v := 40) hx hb dL_law_885 (by decide) ?_
                refine lv_idiv hx hb dL_law_887 (by decide) ?_
                refine lv_icmp_gt (tgt := 928) hx hb dL_law_888 (by decide) (fun h => absurd h v2) (fun _ => ?_)
                refine lv_iload hx hb dL_law_891 (lv_at hl 1 rfl) ?_
                refine lv_iconst (v := 2) hx hb dL_law_893 (by decide) ?_
                refine lv_icmp_ne (tgt := 930) hx hb dL_law_894 (by decide) (fun _ => ?_) (fun h => absurd h (by decide))
                refine lv_iinc (v := nI (2 + 1)) (lv' := [(18, .int (nI (2 + 1))), (20, .int 20), (19, .int 1), (14, .int (cl (24 + j) 1)), (15, .int (cl (24 + j) 2)), (13, .int (nI j)), (3, .int (nI tm)), (2, .ref (ad 28)), (1, .ref (ad 0)), (0, .ref b)]) hx hb dL_law_930 hl (k := 2) rfl (nI_1 _) (by decide) rfl (fun ls hl => ?_)
                refine lv_goto (tgt := 782) hx hb dL_law_933 (by decide) ?_
                refine W.widen (k := cells + 3 * j + (2 + 1)) (n := slots + 18 * j + 6 * (2 + 1)) (by omega) (by omega) ?_
                exact ihq (2 + 1) H locs ls (by omega) hW (lv_sub hl [0, 3, 4, 5, 6, 7, 8, 9] rfl)
              · refine z_top2 (y := 2) v9 ?_
                refine lv_istore (lv' := [(19, .int 2), (18, .int (nI 2)), (14, .int (cl (24 + j) 1)), (15, .int (cl (24 + j) 2)), (13, .int (nI j)), (3, .int (nI tm)), (2, .ref (ad 28)), (1, .ref (ad 0)), (0, .ref b)]) hx hb dL_law_796 hl (by decide) rfl (fun ls hl => ?_)
                refine lv_iload hx hb dL_law_798 (lv_at hl 1 rfl) ?_
                refine lv_if_ne (tgt := 808) hx hb dL_law_800 (by decide) (fun _ => ?_) (fun h => absurd h (by decide))
                refine lv_iload hx hb dL_law_808 (lv_at hl 1 rfl) ?_
                refine lv_iconst (v := 1) hx hb dL_law_810 (by decide) ?_
                refine lv_icmp_ne (tgt := 819) hx hb dL_law_811 (by decide) (fun _ => ?_) (fun h => absurd h (by decide))
                refine lv_bipush (v := 20) hx hb dL_law_819 (by decide) ?_
                refine lv_istore (lv' := [(20, .int 20), (19, .int 2), (18, .int (nI 2)), (14, .int (cl (24 + j) 1)), (15, .int (cl (24 + j) 2)), (13, .int (nI j)), (3, .int (nI tm)), (2, .ref (ad 28)), (1, .ref (ad 0)), (0, .ref b)]) hx hb dL_law_821 hl (by decide) rfl (fun ls hl => ?_)
                refine lv_iload hx hb dL_law_823 (lv_at hl 1 rfl) ?_
                refine lv_if_ne (tgt := 832) hx hb dL_law_825 (by decide) (fun _ => ?_) (fun h => absurd h (by decide))
                refine lv_iconst (v := 0) hx hb dL_law_832 (by decide) ?_
                refine lv_aload_n hx hb dL_law_833 rfl (lv_at hl 8 rfl) ?_
                refine lv_iload hx hb dL_law_834 (lv_at hl 5 rfl) ?_
                refine lv_bipush (v := 6) hx hb dL_law_836 (by decide) ?_
                refine z_cVi (As := [.int (nI j), .int (nI 6)]) (rest := [.int 0]) (k := 0) S hE hW (cX3_boat0_ok l D (n0 + 3 + N) ad cy sa H.size (by omega) cl (exS cy ad N B (hourS al) (exH cy a0 n0 N (pfx (f1 al) N) (pfx (f2 al) N) (wsP (fT al) N 0) ex)) B hIc.1.2.2.1 hIc.1.2.2.2.1 j (by omega) 6 (by omega)) (cwV 2 hts gL_law_X3_boat rfl rfl rfl (by decide +kernel) ⟨Nat.le_of_ble_eq_true rfl, Nat.le_of_ble_eq_true rfl⟩) (by omega) cC_0 rfl rfl rfl hl.1 rfl (Nat.le_of_ble_eq_true rfl) dL_law_838 ⟨(Nat.le_trans (m := 600000) (by omega) (Nat.le_of_ble_eq_true rfl)), (Nat.le_trans (m := 600000) (by omega) (Nat.le_of_ble_eq_true rfl))⟩ (fun r _ H locs hp hW => ?_)
                subst hp
                refine z_top2 (y := ((cl (24 + j) 0 - cl (24 + j) 1) - cl (24 + j) 2)) (vb_eq (by omega)).2.2.2.2.2 ?_
                refine lv_iload hx hb dL_law_841 (lv_at hl 0 rfl) ?_
                refine lv_icmp_ge (tgt := 850) hx hb dL_law_843 (by decide) (fun _ => ?_) (fun h => absurd v1 h)
                refine lv_iconst (v := 0) hx hb dL_law_850 (by decide) ?_
                refine lv_icmp_ne (tgt := 928) hx hb dL_law_851 (by decide) (fun h => absurd (by decide) h) (fun _ => ?_)
                refine lv_iload hx hb dL_law_854 (lv_at hl 1 rfl) ?_
                refine lv_iconst (v := 1) hx hb dL_law_856 (by decide) ?_
                refine lv_icmp_ne (tgt := 891) hx hb dL_law_857 (by decide) (fun _ => ?_) (fun h => absurd h (by decide))
                refine lv_iload hx hb dL_law_891 (lv_at hl 1 rfl) ?_
                refine lv_iconst (v := 2) hx hb dL_law_893 (by decide) ?_
                refine lv_icmp_ne (tgt := 930) hx hb dL_law_894 (by decide) (fun h => absurd (by decide) h) (fun _ => ?_)
                refine lv_iload hx hb dL_law_897 (lv_at hl 3 rfl) ?_
                refine lv_iload hx hb dL_law_899 (lv_at hl 0 rfl) ?_
                refine lv_iadd hx hb dL_law_901 ?_
                refine lv_iload hx hb dL_law_902 (lv_at hl 4 rfl) ?_
                refine lv_isub hx hb dL_law_904 ?_
                refine z_mabs S hl.1 l141 ls_abs li_Math lc_abs ⟨Nat.le_of_ble_eq_true rfl, Nat.le_of_ble_eq_true rfl, (Nat.le_trans (m := 600000) (by omega) (Nat.le_of_ble_eq_true rfl)), (Nat.le_trans (m := 600000) (by omega) (Nat.le_of_ble_eq_true rfl))⟩ dL_law_905 (v := zab ((cl (24 + j) 1 + 20) - cl (24 + j) 2)) rfl ?_
                refine lv_bipush (v := 40) hx hb dL_law_908 (by decide) ?_
                refine lv_idiv hx hb dL_law_910 (by decide) ?_
                refine lv_iload hx hb dL_law_911 (lv_at hl 3 rfl) ?_
                refine lv_iload hx hb dL_law_913 (lv_at hl 0 rfl) ?_
                refine lv_isub hx hb dL_law_915 ?_
                refine lv_iload hx hb dL_law_916 (lv_at hl 4 rfl) ?_
                refine lv_isub hx hb dL_law_918 ?_
                refine z_mabs S hl.1 l141 ls_abs li_Math lc_abs ⟨Nat.le_of_ble_eq_true rfl, Nat.le_of_ble_eq_true rfl, (Nat.le_trans (m := 600000) (by omega) (Nat.le_of_ble_eq_true rfl)), (Nat.le_trans (m := 600000) (by omega) (Nat.le_of_ble_eq_true rfl))⟩ dL_law_919 (v := zab ((cl (24 + j) 1 - 20) - cl (24 + j) 2)) rfl ?_
                refine lv_bipush (v := 40) hx hb dL_law_922 (by decide) ?_
                refine lv_idiv hx hb dL_law_924 (by decide) ?_
                refine lv_icmp_gt (tgt := 930) hx hb dL_law_925 (by decide) (fun _ => ?_) (fun h => absurd v2 h)
                refine lv_iinc (v := nI (2 + 1)) (lv' := [(18, .int (nI (2 + 1))), (20, .int 20), (19, .int 2), (14, .int (cl (24 + j) 1)), (15, .int (cl (24 + j) 2)), (13, .int (nI j)), (3, .int (nI tm)), (2, .ref (ad 28)), (1, .ref (ad 0)), (0, .ref b)]) hx hb dL_law_930 hl (k := 2) rfl (nI_1 _) (by decide) rfl (fun ls hl => ?_)
                refine lv_goto (tgt := 782) hx hb dL_law_933 (by decide) ?_
                refine W.widen (k := cells + 3 * j + (2 + 1)) (n := slots + 18 * j + 6 * (2 + 1)) (by omega) (by omega) ?_
                exact ihq (2 + 1) H locs ls (by omega) hW (lv_sub hl [0, 3, 4, 5, 6, 7, 8, 9] rfl)
        exact L782 (3) 0 _ _ ls (by omega) hW (lv_sub hl [0, 4, 3, 5, 6, 7, 8, 9] rfl)
      · refine lv_iload hx hb dL_law_659 (lv_at hl 2 rfl) ?_
        refine lv_iload hx hb dL_law_661 (lv_at hl 1 rfl) ?_
        refine lv_isub hx hb dL_law_663 ?_
        refine z_mabs S hl.1 l141 ls_abs li_Math lc_abs ⟨Nat.le_of_ble_eq_true rfl, Nat.le_of_ble_eq_true rfl, (Nat.le_trans (m := 600000) (by omega) (Nat.le_of_ble_eq_true rfl)), (Nat.le_trans (m := 600000) (by omega) (Nat.le_of_ble_eq_true rfl))⟩ dL_law_664 (v := zab (cl (24 + j) 1 - cl (24 + j) 2)) rfl ?_
        refine lv_bipush (v := 100) hx hb dL_law_667 (by decide) ?_
        refine lv_icmp_gt (tgt := 676) hx hb dL_law_669 (by decide) (fun c669 => ?_) (fun c669 => ?_)
        · refine lv_iconst (v := 0) hx hb dL_law_676 (by decide) ?_
          refine lv_istore (lv' := [(17, .int 0), (16, .int (dep (cl (24 + j) 1) (cl (24 + j) 2))), (15, .int (cl (24 + j) 2)), (14, .int (cl (24 + j) 1)), (13, .int (nI j)), (3, .int (nI tm)), (2, .ref (ad 28)), (1, .ref (ad 0)), (0, .ref b)]) hx hb dL_law_677 hl (by decide) rfl (fun ls hl => ?_)
          refine lv_aload_n hx hb dL_law_679 rfl (lv_at hl 7 rfl) ?_
          refine lv_iload hx hb dL_law_680 (lv_at hl 4 rfl) ?_
          refine lv_iconst (v := 3) hx hb dL_law_682 (by decide) ?_
          refine z_cVi (As := [.int (nI j), .int (nI 3)]) (rest := []) (k := 0) S hE hW (cX3_boat0_ok l D (n0 + 3 + N) ad cy sa H.size (by omega) cl (exS cy ad N B (hourS al) (exH cy a0 n0 N (pfx (f1 al) N) (pfx (f2 al) N) (wsP (fT al) N 0) ex)) B hIc.1.2.2.1 hIc.1.2.2.2.1 j (by omega) 3 (by omega)) (cwV 2 hts gL_law_X3_boat rfl rfl rfl (by decide +kernel) ⟨Nat.le_of_ble_eq_true rfl, Nat.le_of_ble_eq_true rfl⟩) (by omega) cC_0 rfl rfl rfl hl.1 rfl (Nat.le_of_ble_eq_true rfl) dL_law_683 ⟨(Nat.le_trans (m := 600000) (by omega) (Nat.le_of_ble_eq_true rfl)), (Nat.le_trans (m := 600000) (by omega) (Nat.le_of_ble_eq_true rfl))⟩ (fun r _ H locs hp hW => ?_)
          subst hp
          refine z_top2 (y := (cl (24 + j) 1 - cl (24 + j) 2)) (vb_eq (by omega)).2.2.2.1 ?_
          refine lv_iload hx hb dL_law_686 (lv_at hl 3 rfl) ?_
          refine lv_iload hx hb dL_law_688 (lv_at hl 2 rfl) ?_
          refine lv_isub hx hb dL_law_690 ?_
          refine lv_icmp_ne (tgt := 777) hx hb dL_law_691 (by decide) (fun h => absurd rfl h) (fun _ => ?_)
          refine lv_aload_n hx hb dL_law_694 rfl (lv_at hl 7 rfl) ?_
          refine lv_iload hx hb dL_law_695 (lv_at hl 4 rfl) ?_
          refine lv_iconst (v := 4) hx hb dL_law_697 (by decide) ?_
          refine z_cVi (As := [.int (nI j), .int (nI 4)]) (rest := []) (k := 0) S hE hW (cX3_boat0_ok l D (n0 + 3 + N) ad cy sa H.size (by omega) cl (exS cy ad N B (hourS al) (exH cy a0 n0 N (pfx (f1 al) N) (pfx (f2 al) N) (wsP (fT al) N 0) ex)) B hIc.1.2.2.1 hIc.1.2.2.2.1 j (by omega) 4 (by omega)) (cwV 2 hts gL_law_X3_boat rfl rfl rfl (by decide +kernel) ⟨Nat.le_of_ble_eq_true rfl, Nat.le_of_ble_eq_true rfl⟩) (by omega) cC_0 rfl rfl rfl hl.1 rfl (Nat.le_of_ble_eq_true rfl) dL_law_698 ⟨(Nat.le_trans (m := 600000) (by omega) (Nat.le_of_ble_eq_true rfl)), (Nat.le_trans (m := 600000) (by omega) (Nat.le_of_ble_eq_true rfl))⟩ (fun r _ H locs hp hW => ?_)
          subst hp
          refine z_top2 (y := dep (cl (24 + j) 1) (cl (24 + j) 2)) (vb_eq (by omega)).2.2.2.2.1 ?_
          refine lv_iload hx hb dL_law_701 (lv_at hl 1 rfl) ?_
          refine lv_icmp_ne (tgt := 777) hx hb dL_law_703 (by decide) (fun h => absurd rfl h) (fun _ => ?_)
          refine lv_aload_n hx hb dL_law_706 rfl (lv_at hl 7 rfl) ?_
          refine lv_iload hx hb dL_law_707 (lv_at hl 4 rfl) ?_
          refine lv_iconst (v := 5) hx hb dL_law_709 (by decide) ?_
          refine z_cVi (As := [.int (nI j), .int (nI 5)]) (rest := []) (k := 0) S hE hW (cX3_boat0_ok l D (n0 + 3 + N) ad cy sa H.size (by omega) cl (exS cy ad N B (hourS al) (exH cy a0 n0 N (pfx (f1 al) N) (pfx (f2 al) N) (wsP (fT al) N 0) ex)) B hIc.1.2.2.1 hIc.1.2.2.2.1 j (by omega) 5 (by omega)) (cwV 2 hts gL_law_X3_boat rfl rfl rfl (by decide +kernel) ⟨Nat.le_of_ble_eq_true rfl, Nat.le_of_ble_eq_true rfl⟩) (by omega) cC_0 rfl rfl rfl hl.1 rfl (Nat.le_of_ble_eq_true rfl) dL_law_710 ⟨(Nat.le_trans (m := 600000) (by omega) (Nat.le_of_ble_eq_true rfl)), (Nat.le_trans (m := 600000) (by omega) (Nat.le_of_ble_eq_true rfl))⟩ (fun r _ H locs hp hW => ?_)
          subst hp
          refine z_top2 (y := v_boat cl (nI j) (nI 5)) rfl ?_
          refine lv_iload hx hb dL_law_713 (lv_at hl 0 rfl) ?_
          refine lv_if_eq (tgt := 722) hx hb dL_law_715 (by decide) (fun _ => ?_) (fun h => absurd (by decide) h)
          refine lv_iconst (v := 0) hx hb dL_law_722 (by decide) ?_
          refine lv_icmp_ne (tgt := 777) hx hb dL_law_723 (by decide) (fun h => absurd (vb.2.2 c669) h) (fun _ => ?_)
          refine lv_aload_n hx hb dL_law_726 rfl (lv_at hl 7 rfl) ?_
          refine lv_iload hx hb dL_law_727 (lv_at hl 4 rfl) ?_
          refine lv_bipush (v := 6) hx hb dL_law_729 (by decide) ?_
          refine z_cVi (As := [.int (nI j), .int (nI 6)]) (rest := []) (k := 0) S hE hW (cX3_boat0_ok l D (n0 + 3 + N) ad cy sa H.size (by omega) cl (exS cy ad N B (hourS al) (exH cy a0 n0 N (pfx (f1 al) N) (pfx (f2 al) N) (wsP (fT al) N 0) ex)) B hIc.1.2.2.1 hIc.1.2.2.2.1 j (by omega) 6 (by omega)) (cwV 2 hts gL_law_X3_boat rfl rfl rfl (by decide +kernel) ⟨Nat.le_of_ble_eq_true rfl, Nat.le_of_ble_eq_true rfl⟩) (by omega) cC_0 rfl rfl rfl hl.1 rfl (Nat.le_of_ble_eq_true rfl) dL_law_731 ⟨(Nat.le_trans (m := 600000) (by omega) (Nat.le_of_ble_eq_true rfl)), (Nat.le_trans (m := 600000) (by omega) (Nat.le_of_ble_eq_true rfl))⟩ (fun r _ H locs hp hW => ?_)
          subst hp
          refine z_top2 (y := ((cl (24 + j) 0 - cl (24 + j) 1) - cl (24 + j) 2)) (vb_eq (by omega)).2.2.2.2.2 ?_
          refine lv_aload_n hx hb dL_law_734 rfl (lv_at hl 7 rfl) ?_
          refine lv_iload hx hb dL_law_735 (lv_at hl 4 rfl) ?_
          refine lv_iconst (v := 0) hx hb dL_law_737 (by decide) ?_
          refine z_cVi (As := [.int (nI j), .int (nI 0)]) (rest := [.int ((cl (24 + j) 0 - cl (24 + j) 1) - cl (24 + j) 2)]) (k := 0) S hE hW (cX3_boat0_ok l D (n0 + 3 + N) ad cy sa H.size (by omega) cl (exS cy ad N B (hourS al) (exH cy a0 n0 N (pfx (f1 al) N) (pfx (f2 al) N) (wsP (fT al) N 0) ex)) B hIc.1.2.2.1 hIc.1.2.2.2.1 j (by omega) 0 (by omega)) (cwV 2 hts gL_law_X3_boat rfl rfl rfl (by decide +kernel) ⟨Nat.le_of_ble_eq_true rfl, Nat.le_of_ble_eq_true rfl⟩) (by omega) cC_0 rfl rfl rfl hl.1 rfl (Nat.le_of_ble_eq_true rfl) dL_law_738 ⟨(Nat.le_trans (m := 600000) (by omega) (Nat.le_of_ble_eq_true rfl)), (Nat.le_trans (m := 600000) (by omega) (Nat.le_of_ble_eq_true rfl))⟩ (fun r _ H locs hp hW => ?_)
          subst hp
          refine z_top2 (y := cl (24 + j) 0) (vb_eq (by omega)).1 ?_
          refine lv_iload hx hb dL_law_741 (lv_at hl 3 rfl) ?_
          refine lv_isub hx hb dL_law_743 ?_
          refine lv_iload hx hb dL_law_744 (lv_at hl 2 rfl) ?_
          refine lv_isub hx hb dL_law_746 ?_
          refine lv_icmp_ne (tgt := 777) hx hb dL_law_747 (by decide) (fun h => absurd rfl h) (fun _ => ?_)
          refine lv_aload_n hx hb dL_law_750 rfl (lv_at hl 7 rfl) ?_
          refine lv_iload hx hb dL_law_751 (lv_at hl 4 rfl) ?_
          refine lv_bipush (v := 6) hx hb dL_law_753 (by decide) ?_
          refine z_cVi (As := [.int (nI j), .int (nI 6)]) (rest := []) (k := 0) S hE hW (cX3_boat0_ok l D (n0 + 3 + N) ad cy sa H.size (by omega) cl (exS cy ad N B (hourS al) (exH cy a0 n0 N (pfx (f1 al) N) (pfx (f2 al) N) (wsP (fT al) N 0) ex)) B hIc.1.2.2.1 hIc.1.2.2.2.1 j (by omega) 6 (by omega)) (cwV 2 hts gL_law_X3_boat rfl rfl rfl (by decide +kernel) ⟨Nat.le_of_ble_eq_true rfl, Nat.le_of_ble_eq_true rfl⟩) (by omega) cC_0 rfl rfl rfl hl.1 rfl (Nat.le_of_ble_eq_true rfl) dL_law_755 ⟨(Nat.le_trans (m := 600000) (by omega) (Nat.le_of_ble_eq_true rfl)), (Nat.le_trans (m := 600000) (by omega) (Nat.le_of_ble_eq_true rfl))⟩ (fun r _ H locs hp hW => ?_)
          subst hp
          refine z_top2 (y := ((cl (24 + j) 0 - cl (24 + j) 1) - cl (24 + j) 2)) (vb_eq (by omega)).2.2.2.2.2 ?_
          refine lv_if_lt (tgt := 777) hx hb dL_law_758 (by decide) (fun h => absurd h vo1) (fun _ => ?_)
          refine lv_iload hx hb dL_law_761 (lv_at hl 3 rfl) ?_
          refine lv_bipush (v := 10) hx hb dL_law_763 (by decide) ?_
          refine lv_irem hx hb dL_law_765 (by decide) ?_
          refine lv_if_ne (tgt := 777) hx hb dL_law_766 (by decide) (fun h => absurd vo2 h) (fun _ => ?_)
          refine lv_iload hx hb dL_law_769 (lv_at hl 2 rfl) ?_
          refine lv_bipush (v := 10) hx hb dL_law_771 (by decide) ?_
          refine lv_irem hx hb dL_law_773 (by decide) ?_
          refine lv_if_eq (tgt := 779) hx hb dL_law_774 (by decide) (fun _ => ?_) (fun h => absurd vo3 h)
          refine lv_iconst (v := 0) hx hb dL_law_779 (by decide) ?_
          refine lv_istore (lv' := [(18, .int 0), (17, .int 0), (16, .int (dep (cl (24 + j) 1) (cl (24 + j) 2))), (15, .int (cl (24 + j) 2)), (14, .int (cl (24 + j) 1)), (13, .int (nI j)), (3, .int (nI tm)), (2, .ref (ad 28)), (1, .ref (ad 0)), (0, .ref b)]) hx hb dL_law_780 hl (by decide) rfl (fun ls hl => ?_)
          have L782 : ∀ (kr q : Nat) (H : Heap) (locs : List Loc) (ls : Array Slot), q + kr = 3 → WS D (n0 + 3 + N) ad (sW cy ad N B cl (hourS al) (exH cy a0 n0 N (pfx (f1 al) N) (pfx (f2 al) N) (wsP (fT al) N 0) ex)) A s.heap H locs → lv_has ls 21 [(18, .int (nI q)), (14, .int (cl (24 + j) 1)), (15, .int (cl (24 + j) 2)), (13, .int (nI j)), (3, .int (nI tm)), (2, .ref (ad 28)), (1, .ref (ad 0)), (0, .ref b)] → W p l e room_1 s m args below meth c H locs (cells + 3 * j + q) (slots + 18 * j + 6 * q) Q (F0 m 782 ls []) := by
            intro kr
            induction kr with
            | zero =>
              intro q H locs ls hjkq hW hl
              have hjNq : q = 3 := by omega
              try rw [hjNq] at hW
              try rw [hjNq] at hl
              refine lv_iload hx hb dL_law_782 (lv_at hl 0 rfl) ?_
              refine lv_iconst (v := 3) hx hb dL_law_784 (by decide) ?_
              refine lv_icmp_ge (tgt := 936) hx hb dL_law_785 (by decide) (fun _ => ?_) (fun h => absurd (by decide) h)
              refine lv_iinc (v := nI (j + 1)) (lv' := [(13, .int (nI (j + 1))), (18, .int (nI 3)), (14, .int (cl (24 + j) 1)), (15, .int (cl (24 + j) 2)), (3, .int (nI tm)), (2, .ref (ad 28)), (1, .ref (ad 0)), (0, .ref b)]) hx hb dL_law_936 hl (k := 3) rfl (nI_1 _) (by decide) rfl (fun ls hl => ?_)
              refine lv_goto (tgt := 602) hx hb dL_law_939 (by decide) ?_
              refine W.widen (k := cells + 3 * (j + 1)) (n := slots + 18 * (j + 1)) (by omega) (by omega) ?_
              exact ih (j + 1) H locs ls (by omega) hW (lv_sub hl [0, 4, 5, 6, 7] rfl)
            | succ kr ihq =>
              intro q H locs ls hjkq hW hl
              have hjq : q < 3 := by omega
              rcases (show q = 0 ∨ q = 1 ∨ q = 2 by omega) with rfl | rfl | rfl
              · refine lv_iload hx hb dL_law_782 (lv_at hl 0 rfl) ?_
                refine lv_iconst (v := 3) hx hb dL_law_784 (by decide) ?_
                refine lv_icmp_ge (tgt := 936) hx hb dL_law_785 (by decide) (fun h => absurd h (by decide)) (fun _ => ?_)
                refine lv_aload_n hx hb dL_law_788 rfl (lv_at hl 6 rfl) ?_
                refine lv_iload hx hb dL_law_789 (lv_at hl 3 rfl) ?_
                refine lv_iload hx hb dL_law_791 (lv_at hl 0 rfl) ?_
                refine z_xVi (As := [.int (nI j), .int (nI 0)]) (rest := []) (k := 0) S hE hW (cX3_advise_ok l D (n0 + 3 + N) ad cy sa H.size (by omega) cl (exS cy ad N B (hourS al) (exH cy a0 n0 N (pfx (f1 al) N) (pfx (f2 al) N) (wsP (fT al) N 0) ex)) (nI j) (nI 0) B hIc.1.2.2.1 hIc.1.2.2.2.1 hfl) (cwV 2 hts gL_law_X3_advise rfl rfl rfl (by decide +kernel) ⟨Nat.le_of_ble_eq_true rfl, Nat.le_of_ble_eq_true rfl⟩) (by omega) cC_0 rfl rfl rfl hl.1 rfl (Nat.le_of_ble_eq_true rfl) dL_law_793 ⟨(Nat.le_trans (m := 600000) (by omega) (Nat.le_of_ble_eq_true rfl)), (Nat.le_trans (m := 600000) (by omega) (Nat.le_of_ble_eq_true rfl))⟩ (fun E x9 q9 H locs hbad hW hx9 hv9 hc9 => absurd hbad (zbad_0 (k0_advise hIc.1.2.2.1 hIc.1.2.2.2.1 hj (by decide)))) (fun r _ H locs hp hW => ?_)
                obtain ⟨-, rfl⟩ := hp
                rcases adv_eq (w := 80) (k := nI 0) (by omega) hj hbt (by decide) (by decide) with ⟨v1, v9⟩ | ⟨v1, v2, v9⟩ | ⟨v1, v2, v9⟩
                · refine z_top2 (y := 0) v9 ?_
                  refine lv_istore (lv' := [(19, .int 0), (18, .int (nI 0)), (14, .int (cl (24 + j) 1)), (15, .int (cl (24 + j) 2)), (13, .int (nI j)), (3, .int (nI tm)), (2, .ref (ad 28)), (1, .ref (ad 0)), (0, .ref b)]) hx hb dL_law_796 hl (by decide) rfl (fun ls hl => ?_)
                  refine lv_iload hx hb dL_law_798 (lv_at hl 1 rfl) ?_
                  refine lv_if_ne (tgt := 808) hx hb dL_law_800 (by decide) (fun h => absurd (by decide) h) (fun _ => ?_)
                  refine lv_bipush (v := 80) hx hb dL_law_803 (by decide) ?_
                  refine lv_goto (tgt := 821) hx hb dL_law_805 (by decide) ?_
                  refine lv_istore (lv' := [(20, .int 80), (19, .int 0), (18, .int (nI 0)), (14, .int (cl (24 + j) 1)), (15, .int (cl (24 + j) 2)), (13, .int (nI j)), (3, .int (nI tm)), (2, .ref (ad 28)), (1, .ref (ad 0)), (0, .ref b)]) hx hb dL_law_821 hl (by decide) rfl (fun ls hl => ?_)
                  refine lv_iload hx hb dL_law_823 (lv_at hl 1 rfl) ?_
                  refine lv_if_ne (tgt := 832) hx hb dL_law_825 (by decide) (fun h => absurd (by decide) h) (fun _ => ?_)
                  refine lv_iconst (v := 1) hx hb dL_law_828 (by decide) ?_
                  refine lv_goto (tgt := 833) hx hb dL_law_829 (by decide) ?_
                  refine lv_aload_n hx hb dL_law_833 rfl (lv_at hl 8 rfl) ?_
                  refine lv_iload hx hb dL_law_834 (lv_at hl 5 rfl) ?_
                  refine lv_bipush (v := 6) hx hb dL_law_836 (by decide) ?_
                  refine z_cVi (As := [.int (nI j), .int (nI 6)]) (rest := [.int 1]) (k := 0) S hE hW (cX3_boat0_ok l D (n0 + 3 + N) ad cy sa H.size (by omega) cl (exS cy ad N B (hourS al) (exH cy a0 n0 N (pfx (f1 al) N) (pfx (f2 al) N) (wsP (fT al) N 0) ex)) B hIc.1.2.2.1 hIc.1.2.2.2.1 j (by omega) 6 (by omega)) (cwV 2 hts gL_law_X3_boat rfl rfl rfl (by decide +kernel) ⟨Nat.le_of_ble_eq_true rfl, Nat.le_of_ble_eq_true rfl⟩) (by omega) cC_0 rfl rfl rfl hl.1 rfl (Nat.le_of_ble_eq_true rfl) dL_law_838 ⟨(Nat.le_trans (m := 600000) (by omega) (Nat.le_of_ble_eq_true rfl)), (Nat.le_trans (m := 600000) (by omega) (Nat.le_of_ble_eq_true rfl))⟩ (fun r _ H locs hp hW => ?_)
                  subst hp
                  refine z_top2 (y := ((cl (24 + j) 0 - cl (24 + j) 1) - cl (24 + j) 2)) (vb_eq (by omega)).2.2.2.2.2 ?_
                  refine lv_iload hx hb dL_law_841 (lv_at hl 0 rfl) ?_
                  refine lv_icmp_ge (tgt := 850) hx hb dL_law_843 (by decide) (fun h => absurd h v1) (fun _ => ?_)
                  refine lv_iconst (v := 1) hx hb dL_law_846 (by decide) ?_
                  refine lv_goto (tgt := 851) hx hb dL_law_847 (by decide) ?_
                  refine lv_icmp_ne (tgt := 928) hx hb dL_law_851 (by decide) (fun h => absurd (by decide) h) (fun _ => ?_)
                  refine lv_iload hx hb dL_law_854 (lv_at hl 1 rfl) ?_
                  refine lv_iconst (v := 1) hx hb dL_law_856 (by decide) ?_
                  refine lv_icmp_ne (tgt := 891) hx hb dL_law_857 (by decide) (fun _ => ?_) (fun h => absurd h (by decide))
                  refine lv_iload hx hb dL_law_891 (lv_at hl 1 rfl) ?_
                  refine lv_iconst (v := 2) hx hb dL_law_893 (by decide) ?_
                  refine lv_icmp_ne (tgt := 930) hx hb dL_law_894 (by decide) (fun _ => ?_) (fun h => absurd h (by decide))
                  refine lv_iinc (v := nI (0 + 1)) (lv' := [(18, .int (nI (0 + 1))), (20, .int 80), (19, .int 0), (14, .int (cl (24 + j) 1)), (15, .int (cl (24 + j) 2)), (13, .int (nI j)), (3, .int (nI tm)), (2, .ref (ad 28)), (1, .ref (ad 0)), (0, .ref b)]) hx hb dL_law_930 hl (k := 2) rfl (nI_1 _) (by decide) rfl (fun ls hl => ?_)
                  refine lv_goto (tgt := 782) hx hb dL_law_933 (by decide) ?_
                  refine W.widen (k := cells + 3 * j + (0 + 1)) (n := slots + 18 * j + 6 * (0 + 1)) (by omega) (by omega) ?_
                  exact ihq (0 + 1) H locs ls (by omega) hW (lv_sub hl [0, 3, 4, 5, 6, 7, 8, 9] rfl)
                · refine z_top2 (y := 1) v9 ?_
                  refine lv_istore (lv' := [(19, .int 1), (18, .int (nI 0)), (14, .int (cl (24 + j) 1)), (15, .int (cl (24 + j) 2)), (13, .int (nI j)), (3, .int (nI tm)), (2, .ref (ad 28)), (1, .ref (ad 0)), (0, .ref b)]) hx hb dL_law_796 hl (by decide) rfl (fun ls hl => ?_)
                  refine lv_iload hx hb dL_law_798 (lv_at hl 1 rfl) ?_
                  refine lv_if_ne (tgt := 808) hx hb dL_law_800 (by decide) (fun h => absurd (by decide) h) (fun _ => ?_)
                  refine lv_bipush (v := 80) hx hb dL_law_803 (by decide) ?_
                  refine lv_goto (tgt := 821) hx hb dL_law_805 (by decide) ?_
                  refine lv_istore (lv' := [(20, .int 80), (19, .int 1), (18, .int (nI 0)), (14, .int (cl (24 + j) 1)), (15, .int (cl (24 + j) 2)), (13, .int (nI j)), (3, .int (nI tm)), (2, .ref (ad 28)), (1, .ref (ad 0)), (0, .ref b)]) hx hb dL_law_821 hl (by decide) rfl (fun ls hl => ?_)
                  refine lv_iload hx hb dL_law_823 (lv_at hl 1 rfl) ?_
                  refine lv_if_ne (tgt := 832) hx hb dL_law_825 (by decide) (fun _ => ?_) (fun h => absurd h (by decide))
                  refine lv_iconst (v := 0) hx hb dL_law_832 (by decide) ?_
                  refine lv_aload_n hx hb dL_law_833 rfl (lv_at hl 8 rfl) ?_
                  refine lv_iload hx hb dL_law_834 (lv_at hl 5 rfl) ?_
                  refine lv_bipush (v := 6) hx hb dL_law_836 (by decide) ?_
                  refine z_cVi (As := [.int (nI j), .int (nI 6)]) (rest := [.int 0]) (k := 0) S hE hW (cX3_boat0_ok l D (n0 + 3 + N) ad cy sa H.size (by omega) cl (exS cy ad N B (hourS al) (exH cy a0 n0 N (pfx (f1 al) N) (pfx (f2 al) N) (wsP (fT al) N 0) ex)) B hIc.1.2.2.1 hIc.1.2.2.2.1 j (by omega) 6 (by omega)) (cwV 2 hts gL_law_X3_boat rfl rfl rfl (by decide +kernel) ⟨Nat.le_of_ble_eq_true rfl, Nat.le_of_ble_eq_true rfl⟩) (by omega) cC_0 rfl rfl rfl hl.1 rfl (Nat.le_of_ble_eq_true rfl) dL_law_838 ⟨(Nat.le_trans (m := 600000) (by omega) (Nat.le_of_ble_eq_true rfl)), (Nat.le_trans (m := 600000) (by omega) (Nat.le_of_ble_eq_true rfl))⟩ (fun r _ H locs hp hW => ?_)
                  subst hp
                  refine z_top2 (y := ((cl (24 + j) 0 - cl (24 + j) 1) - cl (24 + j) 2)) (vb_eq (by omega)).2.2.2.2.2 ?_
                  refine lv_iload hx hb dL_law_841 (lv_at hl 0 rfl) ?_
                  refine lv_icmp_ge (tgt := 850) hx hb dL_law_843 (by decide) (fun _ => ?_) (fun h => absurd v1 h)
                  refine lv_iconst (v := 0) hx hb dL_law_850 (by decide) ?_
                  refine lv_icmp_ne (tgt := 928) hx hb dL_law_851 (by decide) (fun h => absurd (by decide) h) (fun _ => ?_)
                  refine lv_iload hx hb dL_law_854 (lv_at hl 1 rfl) ?_
                  refine lv_iconst (v := 1) hx hb dL_law_856 (by decide) ?_
                  refine lv_icmp_ne (tgt := 891) hx hb dL_law_857 (by decide) (fun h => absurd (by decide) h) (fun _ => ?_)
                  refine lv_iload hx hb dL_law_860 (lv_at hl 3 rfl) ?_
                  refine lv_iload hx hb dL_law_862 (lv_at hl 0 rfl) ?_
                  refine lv_iadd hx hb dL_law_864 ?_
                  refine lv_iload hx hb dL_law_865 (lv_at hl 4 rfl) ?_
                  refine lv_isub hx hb dL_law_867 ?_
                  refine z_mabs S hl.1 l141 ls_abs li_Math lc_abs ⟨Nat.le_of_ble_eq_true rfl, Nat.le_of_ble_eq_true rfl, (Nat.le_trans (m := 600000) (by omega) (Nat.le_of_ble_eq_true rfl)), (Nat.le_trans (m := 600000) (by omega) (Nat.le_of_ble_eq_true rfl))⟩ dL_law_868 (v := zab ((cl (24 + j) 1 + 80) - cl (24 + j) 2)) rfl ?_
                  refine lv_bipush (v := 40) hx hb dL_law_871 (by decide) ?_
                  refine lv_idiv hx hb dL_law_873 (by decide) ?_
                  refine lv_iload hx hb dL_law_874 (lv_at hl 3 rfl) ?_
                  refine lv_iload hx hb dL_law_876 (lv_at hl 0 rfl) ?_
                  refine lv_isub hx hb dL_law_878 ?_
                  refine lv_iload hx hb dL_law_879 (lv_at hl 4 rfl) ?_
                  refine lv_isub hx hb dL_law_881 ?_
                  refine z_mabs S hl.1 l141 ls_abs li_Math lc_abs ⟨Nat.le_of_ble_eq_true rfl, Nat.le_of_ble_eq_true rfl, (Nat.le_trans (m := 600000) (by omega) (Nat.le_of_ble_eq_true rfl)), (Nat.le_trans (m := 600000) (by omega) (Nat.le_of_ble_eq_true rfl))⟩ dL_law_882 (v := zab ((cl (24 + j) 1 - 80) - cl (24 + j) 2)) rfl ?_
                  refine lv_bipush (v := 40) hx hb dL_law_885 (by decide) ?_
                  refine lv_idiv hx hb dL_law_887 (by decide) ?_
                  refine lv_icmp_gt (tgt := 928) hx hb dL_law_888 (by decide) (fun h => absurd h v2) (fun _ => ?_)
                  refine lv_iload hx hb dL_law_891 (lv_at hl 1 rfl) ?_
                  refine lv_iconst (v := 2) hx hb dL_law_893 (by decide) ?_
                  refine lv_icmp_ne (tgt := 930) hx hb dL_law_894 (by decide) (fun _ => ?_) (fun h => absurd h (by decide))
                  refine lv_iinc (v := nI (0 + 1)) (lv' := [(18, .int (nI (0 + 1))), (20, .int 80), (19, .int 1), (14, .int (cl (24 + j) 1)), (15, .int (cl (24 + j) 2)), (13, .int (nI j)), (3, .int (nI tm)), (2, .ref (ad 28)), (1, .ref (ad 0)), (0, .ref b)]) hx hb dL_law_930 hl (k := 2) rfl (nI_1 _) (by decide) rfl (fun ls hl => ?_)
                  refine lv_goto (tgt := 782) hx hb dL_law_933 (by decide) ?_
                  refine W.widen (k := cells + 3 * j + (0 + 1)) (n := slots + 18 * j + 6 * (0 + 1)) (by omega) (by omega) ?_
                  exact ihq (0 + 1) H locs ls (by omega) hW (lv_sub hl [0, 3, 4, 5, 6, 7, 8, 9] rfl)
                · refine z_top2 (y := 2) v9 ?_
                  refine lv_istore (lv' := [(19, .int 2), (18, .int (nI 0)), (14, .int (cl (24 + j) 1)), (15, .int (cl (24 + j) 2)), (13, .int (nI j)), (3, .int (nI tm)), (2, .ref (ad 28)), (1, .ref (ad 0)), (0, .ref b)]) hx hb dL_law_796 hl (by decide) rfl (fun ls hl => ?_)
                  refine lv_iload hx hb dL_law_798 (lv_at hl 1 rfl) ?_
                  refine lv_if_ne (tgt := 808) hx hb dL_law_800 (by decide) (fun h => absurd (by decide) h) (fun _ => ?_)
                  refine lv_bipush (v := 80) hx hb dL_law_803 (by decide) ?_
                  refine lv_goto (tgt := 821) hx hb dL_law_805 (by decide) ?_
                  refine lv_istore (lv' := [(20, .int 80), (19, .int 2), (18, .int (nI 0)), (14, .int (cl (24 + j) 1)), (15, .int (cl (24 + j) 2)), (13, .int (nI j)), (3, .int (nI tm)), (2, .ref (ad 28)), (1, .ref (ad 0)), (0, .ref b)]) hx hb dL_law_821 hl (by decide) rfl (fun ls hl => ?_)
                  refine lv_iload hx hb dL_law_823 (lv_at hl 1 rfl) ?_
                  refine lv_if_ne (tgt := 832) hx hb dL_law_825 (by decide) (fun _ => ?_) (fun h => absurd h (by decide))
                  refine lv_iconst (v := 0) hx hb dL_law_832 (by decide) ?_
                  refine lv_aload_n hx hb dL_law_833 rfl (lv_at hl 8 rfl) ?_
                  refine lv_iload hx hb dL_law_834 (lv_at hl 5 rfl) ?_
                  refine lv_bipush (v := 6) hx hb dL_law_836 (by decide) ?_
                  refine z_cVi (As := [.int (nI j), .int (nI 6)]) (rest := [.int 0]) (k := 0) S hE hW (cX3_boat0_ok l D (n0 + 3 + N) ad cy sa H.size (by omega) cl (exS cy ad N B (hourS al) (exH cy a0 n0 N (pfx (f1 al) N) (pfx (f2 al) N) (wsP (fT al) N 0) ex)) B hIc.1.2.2.1 hIc.1.2.2.2.1 j (by omega) 6 (by omega)) (cwV 2 hts gL_law_X3_boat rfl rfl rfl (by decide +kernel) ⟨Nat.le_of_ble_eq_true rfl, Nat.le_of_ble_eq_true rfl⟩) (by omega) cC_0 rfl rfl rfl hl.1 rfl (Nat.le_of_ble_eq_true rfl) dL_law_838 ⟨(Nat.le_trans (m := 600000) (by omega) (Nat.le_of_ble_eq_true rfl)), (Nat.le_trans (m := 600000) (by omega) (Nat.le_of_ble_eq_true rfl))⟩ (fun r _ H locs hp hW => ?_)
                  subst hp
                  refine z_top2 (y := ((cl (24 + j) 0 - cl (24 + j) 1) - cl (24 + j) 2)) (vb_eq (by omega)).2.2.2.2.2 ?_
                  refine lv_iload hx hb dL_law_841 (lv_at hl 0 rfl) ?_
                  refine lv_icmp_ge (tgt := 850) hx hb dL_law_843 (by decide) (fun _ => ?_) (fun h => absurd v1 h)
                  refine lv_iconst (v := 0) hx hb dL_law_850 (by decide) ?_
                  refine lv_icmp_ne (tgt := 928) hx hb dL_law_851 (by decide) (fun h => absurd (by decide) h) (fun _ => ?_)
                  refine lv_iload hx hb dL_law_854 (lv_at hl 1 rfl) ?_
                  refine lv_iconst (v := 1) hx hb dL_law_856 (by decide) ?_
                  refine lv_icmp_ne (tgt := 891) hx hb dL_law_857 (by decide) (fun _ => ?_) (fun h => absurd h (by decide))
                  refine lv_iload hx hb dL_law_891 (lv_at hl 1 rfl) ?_
                  refine lv_iconst (v := 2) hx hb dL_law_893 (by decide) ?_
                  refine lv_icmp_ne (tgt := 930) hx hb dL_law_894 (by decide) (fun h => absurd (by decide) h) (fun _ => ?_)
                  refine lv_iload hx hb dL_law_897 (lv_at hl 3 rfl) ?_
                  refine lv_iload hx hb dL_law_899 (lv_at hl 0 rfl) ?_
                  refine lv_iadd hx hb dL_law_901 ?_
                  refine lv_iload hx hb dL_law_902 (lv_at hl 4 rfl) ?_
                  refine lv_isub hx hb dL_law_904 ?_
                  refine z_mabs S hl.1 l141 ls_abs li_Math lc_abs ⟨Nat.le_of_ble_eq_true rfl, Nat.le_of_ble_eq_true rfl, (Nat.le_trans (m := 600000) (by omega) (Nat.le_of_ble_eq_true rfl)), (Nat.le_trans (m := 600000) (by omega) (Nat.le_of_ble_eq_true rfl))⟩ dL_law_905 (v := zab ((cl (24 + j) 1 + 80) - cl (24 + j) 2)) rfl ?_
                  refine lv_bipush (v := 40) hx hb dL_law_908 (by decide) ?_
                  refine lv_idiv hx hb dL_law_910 (by decide) ?_
                  refine lv_iload hx hb dL_law_911 (lv_at hl 3 rfl) ?_
                  refine lv_iload hx hb dL_law_913 (lv_at hl 0 rfl) ?_
                  refine lv_isub hx hb dL_law_915 ?_
                  refine lv_iload hx hb dL_law_916 (lv_at hl 4 rfl) ?_
                  refine lv_isub hx hb dL_law_918 ?_
                  refine z_mabs S hl.1 l141 ls_abs li_Math lc_abs ⟨Nat.le_of_ble_eq_true rfl, Nat.le_of_ble_eq_true rfl, (Nat.le_trans (m := 600000) (by omega) (Nat.le_of_ble_eq_true rfl)), (Nat.le_trans (m := 600000) (by omega) (Nat.le_of_ble_eq_true rfl))⟩ dL_law_919 (v := zab ((cl (24 + j) 1 - 80) - cl (24 + j) 2)) rfl ?_
                  refine lv_bipush (v := 40) hx hb dL_law_922 (by decide) ?_
                  refine lv_idiv hx hb dL_law_924 (by decide) ?_
                  refine lv_icmp_gt (tgt := 930) hx hb dL_law_925 (by decide) (fun _ => ?_) (fun h => absurd v2 h)
                  refine lv_iinc (v := nI (0 + 1)) (lv' := [(18, .int (nI (0 + 1))), (20, .int 80), (19, .int 2), (14, .int (cl (24 + j) 1)), (15, .int (cl (24 + j) 2)), (13, .int (nI j)), (3, .int (nI tm)), (2, .ref (ad 28)), (1, .ref (ad 0)), (0, .ref b)]) hx hb dL_law_930 hl (k := 2) rfl (nI_1 _) (by decide) rfl (fun ls hl => ?_)
                  refine lv_goto (tgt := 782) hx hb dL_law_933 (by decide) ?_
                  refine W.widen (k := cells + 3 * j + (0 + 1)) (n := slots + 18 * j + 6 * (0 + 1)) (by omega) (by omega) ?_
                  exact ihq (0 + 1) H locs ls (by omega) hW (lv_sub hl [0, 3, 4, 5, 6, 7, 8, 9] rfl)
              · refine lv_iload hx hb dL_law_782 (lv_at hl 0 rfl) ?_
                refine lv_iconst (v := 3) hx hb dL_law_784 (by decide) ?_
                refine lv_icmp_ge (tgt := 936) hx hb dL_law_785 (by decide) (fun h => absurd h (by decide)) (fun _ => ?_)
                refine lv_aload_n hx hb dL_law_788 rfl (lv_at hl 6 rfl) ?_
                refine lv_iload hx hb dL_law_789 (lv_at hl 3 rfl) ?_
                refine lv_iload hx hb dL_law_791 (lv_at hl 0 rfl) ?_
                refine z_xVi (As := [.int (nI j), .int (nI 1)]) (rest := []) (k := 0) S hE hW (cX3_advise_ok l D (n0 + 3 + N) ad cy sa H.size (by omega) cl (exS cy ad N B (hourS al) (exH cy a0 n0 N (pfx (f1 al) N) (pfx (f2 al) N) (wsP (fT al) N 0) ex)) (nI j) (nI 1) B hIc.1.2.2.1 hIc.1.2.2.2.1 hfl) (cwV 2 hts gL_law_X3_advise rfl rfl rfl (by decide +kernel) ⟨Nat.le_of_ble_eq_true rfl, Nat.le_of_ble_eq_true rfl⟩) (by omega) cC_0 rfl rfl rfl hl.1 rfl (Nat.le_of_ble_eq_true rfl) dL_law_793 ⟨(Nat.le_trans (m := 600000) (by omega) (Nat.le_of_ble_eq_true rfl)), (Nat.le_trans (m := 600000) (by omega) (Nat.le_of_ble_eq_true rfl))⟩ (fun E x9 q9 H locs hbad hW hx9 hv9 hc9 => absurd hbad (zbad_0 (k0_advise hIc.1.2.2.1 hIc.1.2.2.2.1 hj (by decide)))) (fun r _ H locs hp hW => ?_)
                obtain ⟨-, rfl⟩ := hp
                rcases adv_eq (w := 50) (k := nI 1) (by omega) hj hbt (by decide) (by decide) with ⟨v1, v9⟩ | ⟨v1, v2, v9⟩ | ⟨v1, v2, v9⟩
                · refine z_top2 (y := 0) v9 ?_
                  refine lv_istore (lv' := [(19, .int 0), (18, .int (nI 1)), (14, .int (cl (24 + j) 1)), (15, .int (cl (24 + j) 2)), (13, .int (nI j)), (3, .int (nI tm)), (2, .ref (ad 28)), (1, .ref (ad 0)), (0, .ref b)]) hx hb dL_law_796 hl (by decide) rfl (fun ls hl => ?_)
                  refine lv_iload hx hb dL_law_798 (lv_at hl 1 rfl) ?_
                  refine lv_if_ne (tgt := 808) hx hb dL_law_800 (by decide) (fun _ => ?_) (fun h => absurd h (by decide))
                  refine lv_iload hx hb dL_law_808 (lv_at hl 1 rfl) ?_
                  refine lv_iconst (v := 1) hx hb dL_law_810 (by decide) ?_
                  refine lv_icmp_ne (tgt := 819) hx hb dL_law_811 (by decide) (fun h => absurd (by decide) h) (fun _ => ?_)
                  refine lv_bipush (v := 50) hx hb dL_law_814 (by decide) ?_
                  refine lv_goto (tgt := 821) hx hb dL_law_816 (by decide) ?_
                  refine lv_istore (lv' := [(20, .int 50), (19, .int 0), (18, .int (nI 1)), (14, .int (cl (24 + j) 1)), (15, .int (cl (24 + j) 2)), (13, .int (nI j)), (3, .int (nI tm)), (2, .ref (ad 28)), (1, .ref (ad 0)), (0, .ref b)]) hx hb dL_law_821 hl (by decide) rfl (fun ls hl => ?_)
                  refine lv_iload hx hb dL_law_823 (lv_at hl 1 rfl) ?_
                  refine lv_if_ne (tgt := 832) hx hb dL_law_825 (by decide) (fun h => absurd (by decide) h) (fun _ => ?_)
                  refine lv_iconst (v := 1) hx hb dL_law_828 (by decide) ?_
                  refine lv_goto (tgt := 833) hx hb dL_law_829 (by decide) ?_
                  refine lv_aload_n hx hb dL_law_833 rfl (lv_at hl 8 rfl) ?_
                  refine lv_iload hx hb dL_law_834 (lv_at hl 5 rfl) ?_
                  refine lv_bipush (v := 6) hx hb dL_law_836 (by decide) ?_
                  refine z_cVi (As := [.int (nI j), .int (nI 6)]) (rest := [.int 1]) (k := 0) S hE hW (cX3_boat0_ok l D (n0 + 3 + N) ad cy sa H.size (by omega) cl (exS cy ad N B (hourS al) (exH cy a0 n0 N (pfx (f1 al) N) (pfx (f2 al) N) (wsP (fT al) N 0) ex)) B hIc.1.2.2.1 hIc.1.2.2.2.1 j (by omega) 6 (by omega)) (cwV 2 hts gL_law_X3_boat rfl rfl rfl (by decide +kernel) ⟨Nat.le_of_ble_eq_true rfl, Nat.le_of_ble_eq_true rfl⟩) (by omega) cC_0 rfl rfl rfl hl.1 rfl (Nat.le_of_ble_eq_true rfl) dL_law_838 ⟨(Nat.le_trans (m := 600000) (by omega) (Nat.le_of_ble_eq_true rfl)), (Nat.le_trans (m := 600000) (by omega) (Nat.le_of_ble_eq_true rfl))⟩ (fun r _ H locs hp hW => ?_)
                  subst hp
                  refine z_top2 (y := ((cl (24 + j) 0 - cl (24 + j) 1) - cl (24 + j) 2)) (vb_eq (by omega)).2.2.2.2.2 ?_
                  refine lv_iload hx hb dL_law_841 (lv_at hl 0 rfl) ?_
                  refine lv_icmp_ge (tgt := 850) hx hb dL_law_843 (by decide) (fun h => absurd h v1) (fun _ => ?_)
                  refine lv_iconst (v := 1) hx hb dL_law_846 (by decide) ?_
                  refine lv_goto (tgt := 851) hx hb dL_law_847 (by decide) ?_
                  refine lv_icmp_ne (tgt := 928) hx hb dL_law_851 (by decide) (fun h => absurd (by decide) h) (fun _ => ?_)
                  refine lv_iload hx hb dL_law_854 (lv_at hl 1 rfl) ?_
                  refine lv_iconst (v := 1) hx hb dL_law_856 (by decide) ?_
                  refine lv_icmp_ne (tgt := 891) hx hb dL_law_857 (by decide) (fun _ => ?_) (fun h => absurd h (by decide))
                  refine lv_iload hx hb dL_law_891 (lv_at hl 1 rfl) ?_
                  refine lv_iconst (v := 2) hx hb dL_law_893 (by decide) ?_
                  refine lv_icmp_ne (tgt := 930) hx hb dL_law_894 (by decide) (fun _ => ?_) (fun h => absurd h (by decide))
                  refine lv_iinc (v := nI (1 + 1)) (lv' := [(18, .int (nI (1 + 1))), (20, .int 50), (19, .int 0), (14, .int (cl (24 + j) 1)), (15, .int (cl (24 + j) 2)), (13, .int (nI j)), (3, .int (nI tm)), (2, .ref (ad 28)), (1, .ref (ad 0)), (0, .ref b)]) hx hb dL_law_930 hl (k := 2) rfl (nI_1 _) (by decide) rfl (fun ls hl => ?_)
                  refine lv_goto (tgt := 782) hx hb dL_law_933 (by decide) ?_
                  refine W.widen (k := cells + 3 * j + (1 + 1)) (n := slots + 18 * j + 6 * (1 + 1)) (by omega) (by omega) ?_
                  exact ihq (1 + 1) H locs ls (by omega) hW (lv_sub hl [0, 3, 4, 5, 6, 7, 8, 9] rfl)
                · refine z_top2 (y := 1) v9 ?_
                  refine lv_istore (lv' := [(19, .int 1), (18, .int (nI 1)), (14, .int (cl (24 + j) 1)), (15, .int (cl (24 + j) 2)), (13, .int (nI j)), (3, .int (nI tm)), (2, .ref (ad 28)), (1, .ref (ad 0)), (0, .ref b)]) hx hb dL_law_796 hl (by decide) rfl (fun ls hl => ?_)
                  refine lv_iload hx hb dL_law_798 (lv_at hl 1 rfl) ?_
                  refine lv_if_ne (tgt := 808) hx hb dL_law_800 (by decide) (fun _ => ?_) (fun h => absurd h (by decide))
                  refine lv_iload hx hb dL_law_808 (lv_at hl 1 rfl) ?_
                  refine lv_iconst (v := 1) hx hb dL_law_810 (by decide) ?_
                  refine lv_icmp_ne (tgt := 819) hx hb dL_law_811 (by decide) (fun h => absurd (by decide) h) (fun _ => ?_)
                  refine lv_bipush (v := 50) hx hb dL_law_814 (by decide) ?_
                  refine lv_goto (tgt := 821) hx hb dL_law_816 (by decide) ?_
                  refine lv_istore (lv' := [(20, .int 50), (19, .int 1), (18, .int (nI 1)), (14, .int (cl (24 + j) 1)), (15, .int (cl (24 + j) 2)), (13, .int (nI j)), (3, .int (nI tm)), (2, .ref (ad 28)), (1, .ref (ad 0)), (0, .ref b)]) hx hb dL_law_821 hl (by decide) rfl (fun ls hl => ?_)
                  refine lv_iload hx hb dL_law_823 (lv_at hl 1 rfl) ?_
                  refine lv_if_ne (tgt := 832) hx hb dL_law_825 (by decide) (fun _ => ?_) (fun h => absurd h (by decide))
                  refine lv_iconst (v := 0) hx hb dL_law_832 (by decide) ?_
                  refine lv_aload_n hx hb dL_law_833 rfl (lv_at hl 8 rfl) ?_
                  refine lv_iload hx hb dL_law_834 (lv_at hl 5 rfl) ?_
                  refine lv_bipush (v := 6) hx hb dL_law_836 (by decide) ?_
                  refine z_cVi (As := [.int (nI j), .int (nI 6)]) (rest := [.int 0]) (k := 0) S hE hW (cX3_boat0_ok l D (n0 + 3 + N) ad cy sa H.size (by omega) cl (exS cy ad N B (hourS al) (exH cy a0 n0 N (pfx (f1 al) N) (pfx (f2 al) N) (wsP (fT al) N 0) ex)) B hIc.1.2.2.1 hIc.1.2.2.2.1 j (by omega) 6 (by omega)) (cwV 2 hts gL_law_X3_boat rfl rfl rfl (by decide +kernel) ⟨Nat.le_of_ble_eq_true rfl, Nat.le_of_ble_eq_true rfl⟩) (by omega) cC_0 rfl rfl rfl hl.1 rfl (Nat.le_of_ble_eq_true rfl) dL_law_838 ⟨(Nat.le_trans (m := 600000) (by omega) (Nat.le_of_ble_eq_true rfl)), (Nat.le_trans (m := 600000) (by omega) (Nat.le_of_ble_eq_true rfl))⟩ (fun r _ H locs hp hW => ?_)
                  subst hp
                  refine z_top2 (y := ((cl (24 + j) 0 - cl (24 + j) 1) - cl (24 + j) 2)) (vb_eq (by omega)).2.2.2.2.2 ?_
                  refine lv_iload hx hb dL_law_841 (lv_at hl 0 rfl) ?_
                  refine lv_icmp_ge (tgt := 850) hx hb dL_law_843 (by decide) (fun _ => ?_) (fun h => absurd v1 h)
                  refine lv_iconst (v := 0) hx hb dL_law_850 (by decide) ?_
                  refine lv_icmp_ne (tgt := 928) hx hb dL_law_851 (by decide) (fun h => absurd (by decide) h) (fun _ => ?_)
                  refine lv_iload hx hb dL_law_854 (lv_at hl 1 rfl) ?_
                  refine lv_iconst (v := 1) hx hb dL_law_856 (by decide) ?_
                  refine lv_icmp_ne (tgt := 891) hx hb dL_law_857 (by decide) (fun h => absurd (by decide) h) (fun _ => ?_)
                  refine lv_iload hx hb dL_law_860 (lv_at hl 3 rfl) ?_
                  refine lv_iload hx hb dL_law_862 (lv_at hl 0 rfl) ?_
                  refine lv_iadd hx hb dL_law_864 ?_
                  refine lv_iload hx hb dL_law_865 (lv_at hl 4 rfl) ?_
                  refine lv_isub hx hb dL_law_867 ?_
                  refine z_mabs S hl.1 l141 ls_abs li_Math lc_abs ⟨Nat.le_of_ble_eq_true rfl, Nat.le_of_ble_eq_true rfl, (Nat.le_trans (m := 600000) (by omega) (Nat.le_of_ble_eq_true rfl)), (Nat.le_trans (m := 600000) (by omega) (Nat.le_of_ble_eq_true rfl))⟩ dL_law_868 (v := zab ((cl (24 + j) 1 + 50) - cl (24 + j) 2)) rfl ?_
                  refine lv_bipush (v := 40) hx hb dL_law_871 (by decide) ?_
                  refine lv_idiv hx hb dL_law_873 (by decide) ?_
                  refine lv_iload hx hb dL_law_874 (lv_at hl 3 rfl) ?_
                  refine lv_iload hx hb dL_law_876 (lv_at hl 0 rfl) ?_
                  refine lv_isub hx hb dL_law_878 ?_
                  refine lv_iload hx hb dL_law_879 (lv_at hl 4 rfl) ?_
                  refine lv_isub hx hb dL_law_881 ?_
                  refine z_mabs S hl.1 l141 ls_abs li_Math lc_abs ⟨Nat.le_of_ble_eq_true rfl, Nat.le_of_ble_eq_true rfl, (Nat.le_trans (m := 600000) (by omega) (Nat.le_of_ble_eq_true rfl)), (Nat.le_trans (m := 600000) (by omega) (Nat.le_of_ble_eq_true rfl))⟩ dL_law_882 (v := zab ((cl (24 + j) 1 - 50) - cl (24 + j) 2)) rfl ?_
                  refine lv_bipush (v := 40) hx hb dL_law_885 (by decide) ?_
                  refine lv_idiv hx hb dL_law_887 (by decide) ?_
                  refine lv_icmp_gt (tgt := 928) hx hb dL_law_888 (by decide) (fun h => absurd h v2) (fun _ => ?_)
                  refine lv_iload hx hb dL_law_891 (lv_at hl 1 rfl) ?_
                  refine lv_iconst (v := 2) hx hb dL_law_893 (by decide) ?_
                  refine lv_icmp_ne (tgt := 930) hx hb dL_law_894 (by decide) (fun _ => ?_) (fun h => absurd h (by decide))
                  refine lv_iinc (v := nI (1 + 1)) (lv' := [(18, .int (nI (1 + 1))), (20, .int 50), (19, .int 1), (14, .int (cl (24 + j) 1)), (15, .int (cl (24 + j) 2)), (13, .int (nI j)), (3, .int (nI tm)), (2, .ref (ad 28)), (1, .ref (ad 0)), (0, .ref b)]) hx hb dL_law_930 hl (k := 2) rfl (nI_1 _) (by decide) rfl (fun ls hl => ?_)
                  refine lv_goto (tgt := 782) hx hb dL_law_933 (by decide) ?_
                  refine W.widen (k := cells + 3 * j + (1 + 1)) (n := slots + 18 * j + 6 * (1 + 1)) (by omega) (by omega) ?_
                  exact ihq (1 + 1) H locs ls (by omega) hW (lv_sub hl [0, 3, 4, 5, 6, 7, 8, 9] rfl)
                · refine z_top2 (y := 2) v9 ?_
                  refine lv_istore (lv' := [(19, .int 2), (18, .int (nI 1)), (14, .int (cl (24 + j) 1)), (15, .int (cl (24 + j) 2)), (13, .int (nI j)), (3, .int (nI tm)), (2, .ref (ad 28)), (1, .ref (ad 0)), (0, .ref b)]) hx hb dL_law_796 hl (by decide) rfl (fun ls hl => ?_)
                  refine lv_iload hx hb dL_law_798 (lv_at hl 1 rfl) ?_
                  refine lv_if_ne (tgt := 808) hx hb dL_law_800 (by decide) (fun _ => ?_) (fun h => absurd h (by decide))
                  refine lv_iload hx hb dL_law_808 (lv_at hl 1 rfl) ?_
                  refine lv_iconst (v := 1) hx hb dL_law_810 (by decide) ?_
                  refine lv_icmp_ne (tgt := 819) hx hb dL_law_811 (by decide) (fun h => absurd (by decide) h) (fun _ => ?_)
                  refine lv_bipush (v := 50) hx hb dL_law_814 (by decide) ?_
                  refine lv_goto (tgt := 821) hx hb dL_law_816 (by decide) ?_
                  refine lv_istore (lv' := [(20, .int 50), (19, .int 2), (18, .int (nI 1)), (14, .int (cl (24 + j) 1)), (15, .int (cl (24 + j) 2)), (13, .int (nI j)), (3, .int (nI tm)), (2, .ref (ad 28)), (1, .ref (ad 0)), (0, .ref b)]) hx hb dL_law_821 hl (by decide) rfl (fun ls hl => ?_)
                  refine lv_iload hx hb dL_law_823 (lv_at hl 1 rfl) ?_
                  refine lv_if_ne (tgt := 832) hx hb dL_law_825 (by decide) (fun _ => ?_) (fun h => absurd h (by decide))
                  refine lv_iconst (v := 0) hx hb dL_law_832 (by decide) ?_
                  refine lv_aload_n hx hb dL_law_833 rfl (lv_at hl 8 rfl) ?_
                  refine lv_iload hx hb dL_law_834 (lv_at hl 5 rfl) ?_
                  refine lv_bipush (v := 6) hx hb dL_law_836 (by decide) ?_
                  refine z_cVi (As := [.int (nI j), .int (nI 6)]) (rest := [.int 0]) (k := 0) S hE hW (cX3_boat0_ok l D (n0 + 3 + N) ad cy sa H.size (by omega) cl (exS cy ad N B (hourS al) (exH cy a0 n0 N (pfx (f1 al) N) (pfx (f2 al) N) (wsP (fT al) N 0) ex)) B hIc.1.2.2.1 hIc.1.2.2.2.1 j (by omega) 6 (by omega)) (cwV 2 hts gL_law_X3_boat rfl rfl rfl (by decide +kernel) ⟨Nat.le_of_ble_eq_true rfl, Nat.le_of_ble_eq_true rfl⟩) (by omega) cC_0 rfl rfl rfl hl.1 rfl (Nat.le_of_ble_eq_true rfl) dL_law_838 ⟨(Nat.le_trans (m := 600000) (by omega) (Nat.le_of_ble_eq_true rfl)), (Nat.le_trans (m := 600000) (by omega) (Nat.le_of_ble_eq_true rfl))⟩ (fun r _ H locs hp hW => ?_)
                  subst hp
                  refine z_top2 (y := ((cl (24 + j) 0 - cl (24 + j) 1) - cl (24 + j) 2)) (vb_eq (by omega)).2.2.2.2.2 ?_
                  refine lv_iload hx hb dL_law_841 (lv_at hl 0 rfl) ?_
                  refine lv_icmp_ge (tgt := 850) hx hb dL_law_843 (by decide) (fun _ => ?_) (fun h => absurd v1 h)
                  refine lv_iconst (v := 0) hx hb dL_law_850 (by decide) ?_
                  refine lv_icmp_ne (tgt := 928) hx hb dL_law_851 (by decide) (fun h => absurd (by decide) h) (fun _ => ?_)
                  refine lv_iload hx hb dL_law_854 (lv_at hl 1 rfl) ?_
                  refine lv_iconst (v := 1) hx hb dL_law_856 (by decide) ?_
                  refine lv_icmp_ne (tgt := 891) hx hb dL_law_857 (by decide) (fun _ => ?_) (fun h => absurd h (by decide))
                  refine lv_iload hx hb dL_law_891 (lv_at hl 1 rfl) ?_
                  refine lv_iconst (v := 2) hx hb dL_law_893 (by decide) ?_
                  refine lv_icmp_ne (tgt := 930) hx hb dL_law_894 (by decide) (fun h => absurd (by decide) h) (fun _ => ?_)
                  refine lv_iload hx hb dL_law_897 (lv_at hl 3 rfl) ?_
                  refine lv_iload hx hb dL_law_899 (lv_at hl 0 rfl) ?_
                  refine lv_iadd hx hb dL_law_901 ?_
                  refine lv_iload hx hb dL_law_902 (lv_at hl 4 rfl) ?_
                  refine lv_isub hx hb dL_law_904 ?_
                  refine z_mabs S hl.1 l141 ls_abs li_Math lc_abs ⟨Nat.le_of_ble_eq_true rfl, Nat.le_of_ble_eq_true rfl, (Nat.le_trans (m := 600000) (by omega) (Nat.le_of_ble_eq_true rfl)), (Nat.le_trans (m := 600000) (by omega) (Nat.le_of_ble_eq_true rfl))⟩ dL_law_905 (v := zab ((cl (24 + j) 1 + 50) - cl (24 + j) 2)) rfl ?_
                  refine lv_bipush (v := 40) hx hb dL_law_908 (by decide) ?_
                  refine lv_idiv hx hb dL_law_910 (by decide) ?_
                  refine lv_iload hx hb dL_law_911 (lv_at hl 3 rfl) ?_
                  refine lv_iload hx hb dL_law_913 (lv_at hl 0 rfl) ?_
                  refine lv_isub hx hb dL_law_915 ?_
                  refine lv_iload hx hb dL_law_916 (lv_at hl 4 rfl) ?_
                  refine lv_isub hx hb dL_law_918 ?_
                  refine z_mabs S hl.1 l141 ls_abs li_Math lc_abs ⟨Nat.le_of_ble_eq_true rfl, Nat.le_of_ble_eq_true rfl, (Nat.le_trans (m := 600000) (by omega) (Nat.le_of_ble_eq_true rfl)), (Nat.le_trans (m := 600000) (by omega) (Nat.le_of_ble_eq_true rfl))⟩ dL_law_919 (v := zab ((cl (24 + j) 1 - 50) - cl (24 + j) 2)) rfl ?_
                  refine lv_bipush (v := 40) hx hb dL_law_922 (by decide) ?_
                  refine lv_idiv hx hb dL_law_924 (by decide) ?_
                  refine lv_icmp_gt (tgt := 930) hx hb dL_law_925 (by decide) (fun _ => ?_) (fun h => absurd v2 h)
                  refine lv_iinc (v := nI (1 + 1)) (lv' := [(18, .int (nI (1 + 1))), (20, .int 50), (19, .int 2), (14, .int (cl (24 + j) 1)), (15, .int (cl (24 + j) 2)), (13, .int (nI j)), (3, .int (nI tm)), (2, .ref (ad 28)), (1, .ref (ad 0)), (0, .ref b)]) hx hb dL_law_930 hl (k := 2) rfl (nI_1 _) (by decide) rfl (fun ls hl => ?_)
                  refine lv_goto (tgt := 782) hx hb dL_law_933 (by decide) ?_
                  refine W.widen (k := cells + 3 * j + (1 + 1)) (n := slots + 18 * j + 6 * (1 + 1)) (by omega) (by omega) ?_
                  exact ihq (1 + 1) H locs ls (by omega) hW (lv_sub hl [0, 3, 4, 5, 6, 7, 8, 9] rfl)
              · refine lv_iload hx hb dL_law_782 (lv_at hl 0 rfl) ?_
                refine lv_iconst (v := 3) hx hb dL_law_784 (by decide) ?_
                refine lv_icmp_ge (tgt := 936) hx hb dL_law_785 (by decide) (fun h => absurd h (by decide)) (fun _ => ?_)
                refine lv_aload_n hx hb dL_law_788 rfl (lv_at hl 6 rfl) ?_
                refine lv_iload hx hb dL_law_789 (lv_at hl 3 rfl) ?_
                refine lv_iload hx hb dL_law_791 (lv_at hl 0 rfl) ?_
                refine z_xVi (As := [.int (nI j), .int (nI 2)]) (rest := []) (k := 0) S hE hW (cX3_advise_ok l D (n0 + 3 + N) ad cy sa H.size (by omega) cl (exS cy ad N B (hourS al) (exH cy a0 n0 N (pfx (f1 al) N) (pfx (f2 al) N) (wsP (fT al) N 0) ex)) (nI j) (nI 2) B hIc.1.2.2.1 hIc.1.2.2.2.1 hfl) (cwV 2 hts gL_law_X3_advise rfl rfl rfl (by decide +kernel) ⟨Nat.le_of_ble_eq_true rfl, Nat.le_of_ble_eq_true rfl⟩) (by omega) cC_0 rfl rfl rfl hl.1 rfl (Nat.le_of_ble_eq_true rfl) dL_law_793 ⟨(Nat.le_trans (m := 600000) (by omega) (Nat.le_of_ble_eq_true rfl)), (Nat.le_trans (m := 600000) (by omega) (Nat.le_of_ble_eq_true rfl))⟩ (fun E x9 q9 H locs hbad hW hx9 hv9 hc9 => absurd hbad (zbad_0 (k0_advise hIc.1.2.2.1 hIc.1.2.2.2.1 hj (by decide)))) (fun r _ H locs hp hW => ?_)
                obtain ⟨-, rfl⟩ := hp
                rcases adv_eq (w := 20) (k := nI 2) (by omega) hj hbt (by decide) (by decide) with ⟨v1, v9⟩ | ⟨v1, v2, v9⟩ | ⟨v1, v2, v9⟩
                · refine z_top2 (y := 0) v9 ?_
                  refine lv_istore (lv' := [(19, .int 0), (18, .int (nI 2)), (14, .int (cl (24 + j) 1)), (15, .int (cl (24 + j) 2)), (13, .int (nI j)), (3, .int (nI tm)), (2, .ref (ad 28)), (1, .ref (ad 0)), (0, .ref b)]) hx hb dL_law_796 hl (by decide) rfl (fun ls hl => ?_)
                  refine lv_iload hx hb dL_law_798 (lv_at hl 1 rfl) ?_
                  refine lv_if_ne (tgt := 808) hx hb dL_law_800 (by decide) (fun _ => ?_) (fun h => absurd h (by decide))
                  refine lv_iload hx hb dL_law_808 (lv_at hl 1 rfl) ?_
                  refine lv_iconst (v := 1) hx hb dL_law_810 (by decide) ?_
                  refine lv_icmp_ne (tgt := 819) hx hb dL_law_811 (by decide) (fun _ => ?_) (fun h => absurd h (by decide))
                  refine lv_bipush (v := 20) hx hb dL_law_819 (by decide) ?_
                  refine lv_istore (lv' := [(20, .int 20), (19, .int 0), (18, .int (nI 2)), (14, .int (cl (24 + j) 1)), (15, .int (cl (24 + j) 2)), (13, .int (nI j)), (3, .int (nI tm)), (2, .ref (ad 28)), (1, .ref (ad 0)), (0, .ref b)]) hx hb dL_law_821 hl (by decide) rfl (fun ls hl => ?_)
                  refine lv_iload hx hb dL_law_823 (lv_at hl 1 rfl) ?_
                  refine lv_if_ne (tgt := 832) hx hb dL_law_825 (by decide) (fun h => absurd (by decide) h) (fun _ => ?_)
                  refine lv_iconst (v := 1) hx hb dL_law_828 (by decide) ?_
                  refine lv_goto (tgt := 833) hx hb dL_law_829 (by decide) ?_
                  refine lv_aload_n hx hb dL_law_833 rfl (lv_at hl 8 rfl) ?_
                  refine lv_iload hx hb dL_law_834 (lv_at hl 5 rfl) ?_
                  refine lv_bipush (v := 6) hx hb dL_law_836 (by decide) ?_
                  refine z_cVi (As := [.int (nI j), .int (nI 6)]) (rest := [.int 1]) (k := 0) S hE hW (cX3_boat0_ok l D (n0 + 3 + N) ad cy sa H.size (by omega) cl (exS cy ad N B (hourS al) (exH cy a0 n0 N (pfx (f1 al) N) (pfx (f2 al) N) (wsP (fT al) N 0) ex)) B hIc.1.2.2.1 hIc.1.2.2.2.1 j (by omega) 6 (by omega)) (cwV 2 hts gL_law_X3_boat rfl rfl rfl (by decide +kernel) ⟨Nat.le_of_ble_eq_true rfl, Nat.le_of_ble_eq_true rfl⟩) (by omega) cC_0 rfl rfl rfl hl.1 rfl (Nat.le_of_ble_eq_true rfl) dL_law_838 ⟨(Nat.le_trans (m := 600000) (by omega) (Nat.le_of_ble_eq_true rfl)), (Nat.le_trans (m := 600000) (by omega) (Nat.le_of_ble_eq_true rfl))⟩ (fun r _ H locs hp hW => ?_)
                  subst hp
                  refine z_top2 (y := ((cl (24 + j) 0 - cl (24 + j) 1) - cl (24 + j) 2)) (vb_eq (by omega)).2.2.2.2.2 ?_
                  refine lv_iload hx hb dL_law_841 (lv_at hl 0 rfl) ?_
                  refine lv_icmp_ge (tgt := 850) hx hb dL_law_843 (by decide) (fun h => absurd h v1) (fun _ => ?_)
                  refine lv_iconst (v := 1) hx hb dL_law_846 (by decide) ?_
                  refine lv_goto (tgt := 851) hx hb dL_law_847 (by decide) ?_
                  refine lv_icmp_ne (tgt := 928) hx hb dL_law_851 (by decide) (fun h => absurd (by decide) h) (fun _ => ?_)
                  refine lv_iload hx hb dL_law_854 (lv_at hl 1 rfl) ?_
                  refine lv_iconst (v := 1) hx hb dL_law_856 (by decide) ?_
                  refine lv_icmp_ne (tgt := 891) hx hb dL_law_857 (by decide) (fun _ => ?_) (fun h => absurd h (by decide))
                  refine lv_iload hx hb dL_law_891 (lv_at hl 1 rfl) ?_
                  refine lv_iconst (v := 2) hx hb dL_law_893 (by decide) ?_
                  refine lv_icmp_ne (tgt := 930) hx hb dL_law_894 (by decide) (fun _ => ?_) (fun h => absurd h (by decide))
                  refine lv_iinc (v := nI (2 + 1)) (lv' := [(18, .int (nI (2 + 1))), (20, .int 20), (19, .int 0), (14, .int (cl (24 + j) 1)), (15, .int (cl (24 + j) 2)), (13, .int (nI j)), (3, .int (nI tm)), (2, .ref (ad 28)), (1, .ref (ad 0)), (0, .ref b)]) hx hb dL_law_930 hl (k := 2) rfl (nI_1 _) (by decide) rfl (fun ls hl => ?_)
                  refine lv_goto (tgt := 782) hx hb dL_law_933 (by decide) ?_
                  refine W.widen (k := cells + 3 * j + (2 + 1)) (n := slots + 18 * j + 6 * (2 + 1)) (by omega) (by omega) ?_
                  exact ihq (2 + 1) H locs ls (by omega) hW (lv_sub hl [0, 3, 4, 5, 6, 7, 8, 9] rfl)
                · refine z_top2 (y := 1) v9 ?_
                  refine lv_istore (lv' := [(19, .int 1), (18, .int (nI 2)), (14, .int (cl (24 + j) 1)), (15, .int (cl (24 + j) 2)), (13, .int (nI j)), (3, .int (nI tm)), (2, .ref (ad 28)), (1, .ref (ad 0)), (0, .ref b)]) hx hb dL_law_796 hl (by decide) rfl (fun ls hl => ?_)
                  refine lv_iload hx hb dL_law_798 (lv_at hl 1 rfl) ?_
                  refine lv_if_ne (tgt := 808) hx hb dL_law_800 (by decide) (fun _ => ?_) (fun h => absurd h (by decide))
                  refine lv_iload hx hb dL_law_808 (lv_at hl 1 rfl) ?_
                  refine lv_iconst (v := 1) hx hb dL_law_810 (by decide) ?_
                  refine lv_icmp_ne (tgt := 819) hx hb dL_law_811 (by decide) (fun _ => ?_) (fun h => absurd h (by decide))
                  refine lv_bipush (v := 20) hx hb dL_law_819 (by decide) ?_
                  refine lv_istore (lv' := [(20, .int 20), (19, .int 1), (18, .int (nI 2)), (14, .int (cl (24 + j) 1)), (15, .int (cl (24 + j) 2)), (13, .int (nI j)), (3, .int (nI tm)), (2, .ref (ad 28)), (1, .ref (ad 0)), (0, .ref b)]) hx hb dL_law_821 hl (by decide) rfl (fun ls hl => ?_)
                  refine lv_iload hx hb dL_law_823 (lv_at hl 1 rfl) ?_
                  refine lv_if_ne (tgt := 832) hx hb dL_law_825 (by decide) (fun _ => ?_) (fun h => absurd h (by decide))
                  refine lv_iconst (v := 0) hx hb dL_law_832 (by decide) ?_
                  refine lv_aload_n hx hb dL_law_833 rfl (lv_at hl 8 rfl) ?_
                  refine lv_iload hx hb dL_law_834 (lv_at hl 5 rfl) ?_
                  refine lv_bipush (v := 6) hx hb dL_law_836 (by decide) ?_
                  refine z_cVi (As := [.int (nI j), .int (nI 6)]) (rest := [.int 0]) (k := 0) S hE hW (cX3_boat0_ok l D (n0 + 3 + N) ad cy sa H.size (by omega) cl (exS cy ad N B (hourS al) (exH cy a0 n0 N (pfx (f1 al) N) (pfx (f2 al) N) (wsP (fT al) N 0) ex)) B hIc.1.2.2.1 hIc.1.2.2.2.1 j (by omega) 6 (by omega)) (cwV 2 hts gL_law_X3_boat rfl rfl rfl (by decide +kernel) ⟨Nat.le_of_ble_eq_true rfl, Nat.le_of_ble_eq_true rfl⟩) (by omega) cC_0 rfl rfl rfl hl.1 rfl (Nat.le_of_ble_eq_true rfl) dL_law_838 ⟨(Nat.le_trans (m := 600000) (by omega) (Nat.le_of_ble_eq_true rfl)), (Nat.le_trans (m := 600000) (by omega) (Nat.le_of_ble_eq_true rfl))⟩ (fun r _ H locs hp hW => ?_)
                  subst hp
                  refine z_top2 (y := ((cl (24 + j) 0 - cl (24 + j) 1) - cl (24 + j) 2)) (vb_eq (by omega)).2.2.2.2.2 ?_
                  refine lv_iload hx hb dL_law_841 (lv_at hl 0 rfl) ?_
                  refine lv_icmp_ge (tgt := 850) hx hb dL_law_843 (by decide) (fun _ => ?_) (fun h => absurd v1 h)
                  refine lv_iconst (v := 0) hx hb dL_law_850 (by decide) ?_
                  refine lv_icmp_ne (tgt := 928) hx hb dL_law_851 (by decide) (fun h => absurd (by decide) h) (fun _ => ?_)
                  refine lv_iload hx hb dL_law_854 (lv_at hl 1 rfl) ?_
                  refine lv_iconst (v := 1) hx hb dL_law_856 (by decide) ?_
                  refine lv_icmp_ne (tgt := 891) hx hb dL_law_857 (by decide) (fun h => absurd (by decide) h) (fun _ => ?_)
                  refine lv_iload hx hb dL_law_860 (lv_at hl 3 rfl) ?_
                  refine lv_iload hx hb dL_law_862 (lv_at hl 0 rfl) ?_
                  refine lv_iadd hx hb dL_law_864 ?_
                  refine lv_iload hx hb dL_law_865 (lv_at hl 4 rfl) ?_
                  refine lv_isub hx hb dL_law_867 ?_
                  refine z_mabs S hl.1 l141 ls_abs li_Math lc_abs ⟨Nat.le_of_ble_eq_true rfl, Nat.le_of_ble_eq_true rfl, (Nat.le_trans (m := 600000) (by omega) (Nat.le_of_ble_eq_true rfl)), (Nat.le_trans (m := 600000) (by omega) (Nat.le_of_ble_eq_true rfl))⟩ dL_law_868 (v := zab ((cl (24 + j) 1 + 20) - cl (24 + j) 2)) rfl ?_
                  refine lv_bipush (v := 40) hx hb dL_law_871 (by decide) ?_
                  refine lv_idiv hx hb dL_law_873 (by decide) ?_
                  refine lv_iload hx hb dL_law_874 (lv_at hl 3 rfl) ?_
                  refine lv_iload hx hb dL_law_876 (lv_at hl 0 rfl) ?_
                  refine lv_isub hx hb dL_law_878 ?_
                  refine lv_iload hx hb dL_law_879 (lv_at hl 4 rfl) ?_
                  refine lv_isub hx hb dL_law_881 ?_
                  refine z_mabs S hl.1 l141 ls_abs li_Math lc_abs ⟨Nat.le_of_ble_eq_true rfl, Nat.le_of_ble_eq_true rfl, (Nat.le_trans (m := 600000) (by omega) (Nat.le_of_ble_eq_true rfl)), (Nat.le_trans (m := 600000) (by omega) (Nat.le_of_ble_eq_true rfl))⟩ dL_law_882 (v := zab ((cl (24 + j) 1 - 20) - cl (24 + j) 2)) rfl ?_
                  refine lv_bipush (v := 40) hx hb dL_law_885 (by decide) ?_
                  refine lv_idiv hx hb dL_law_887 (by decide) ?_
                  refine lv_icmp_gt (tgt := 928) hx hb dL_law_888 (by decide) (fun h => absurd h v2) (fun _ => ?_)
                  refine lv_iload hx hb dL_law_891 (lv_at hl 1 rfl) ?_
                  refine lv_iconst (v := 2) hx hb dL_law_893 (by decide) ?_
                  refine lv_icmp_ne (tgt := 930) hx hb dL_law_894 (by decide) (fun _ => ?_) (fun h => absurd h (by decide))
                  refine lv_iinc (v := nI (2 + 1)) (lv' := [(18, .int (nI (2 + 1))), (20, .int 20), (19, .int 1), (14, .int (cl (24 + j) 1)), (15, .int (cl (24 + j) 2)), (13, .int (nI j)), (3, .int (nI tm)), (2, .ref (ad 28)), (1, .ref (ad 0)), (0, .ref b)]) hx hb dL_law_930 hl (k := 2) rfl (nI_1 _) (by decide) rfl (fun ls hl => ?_)
                  refine lv_goto (tgt := 782) hx hb dL_law_933 (by decide) ?_
                  refine W.widen (k := cells + 3 * j + (2 + 1)) (n := slots + 18 * j + 6 * (2 + 1)) (by omega) (by omega) ?_
                  exact ihq (2 + 1) H locs ls (by omega) hW (lv_sub hl [0, 3, 4, 5, 6, 7, 8, 9] rfl)
                · refine z_top2 (y := 2) v9 ?_
                  refine lv_istore (lv' := [(19, .int 2), (18, .int (nI 2)), (14, .int (cl (24 + j) 1)), (15, .int (cl (24 + j) 2)), (13, .int (nI j)), (3, .int (nI tm)), (2, .ref (ad 28)), (1, .ref (ad 0)), (0, .ref b)]) hx hb dL_law_796 hl (by decide) rfl (fun ls hl => ?_)
                  refine lv_iload hx hb dL_law_798 (lv_at hl 1 rfl) ?_
                  refine lv_if_ne (tgt := 808) hx hb dL_law_800 (by decide) (fun _ => ?_) (fun h => absurd h (by decide))
                  refine lv_iload hx hb dL_law_808 (lv_at hl 1 rfl) ?_
                  refine lv_iconst (v := 1) hx hb dL_law_810 (by decide) ?_
                  refine lv_icmp_ne (tgt := 819) hx hb dL_law_811 (by decide) (fun _ => ?_) (fun h => absurd h (by decide))
                  refine lv_bipush (v := 20) hx hb dL_law_819 (by decide) ?_
                  refine lv_istore (lv' := [(20, .int 20), (19, .int 2), (18, .int (nI 2)), (14, .int (cl (24 + j) 1)), (15, .int (cl (24 + j) 2)), (13, .int (nI j)), (3, .int (nI tm)), (2, .ref (ad 28)), (1, .ref (ad 0)), (0, .ref b)]) hx hb dL_law_821 hl (by decide) rfl (fun ls hl => ?_)
                  refine lv_iload hx hb dL_law_823 (lv_at hl 1 rfl) ?_
                  refine lv_if_ne (tgt := 832) hx hb dL_law_825 (by decide) (fun _ => ?_) (fun h => absurd h (by decide))
                  refine lv_iconst (v := 0) hx hb dL_law_832 (by decide) ?_
                  refine lv_aload_n hx hb dL_law_833 rfl (lv_at hl 8 rfl) ?_
                  refine lv_iload hx hb dL_law_834 (lv_at hl 5 rfl) ?_
                  refine lv_bipush (v := 6) hx hb dL_law_836 (by decide) ?_
                  refine z_cVi (As := [.int (nI j), .int (nI 6)]) (rest := [.int 0]) (k := 0) S hE hW (cX3_boat0_ok l D (n0 + 3 + N) ad cy sa H.size (by omega) cl (exS cy ad N B (hourS al) (exH cy a0 n0 N (pfx (f1 al) N) (pfx (f2 al) N) (wsP (fT al) N 0) ex)) B hIc.1.2.2.1 hIc.1.2.2.2.1 j (by omega) 6 (by omega)) (cwV 2 hts gL_law_X3_boat rfl rfl rfl (by decide +kernel) ⟨Nat.le_of_ble_eq_true rfl, Nat.le_of_ble_eq_true rfl⟩) (by omega) cC_0 rfl rfl rfl hl.1 rfl (Nat.le_of_ble_eq_true rfl) dL_law_838 ⟨(Nat.le_trans (m := 600000) (by omega) (Nat.le_of_ble_eq_true rfl)), (Nat.le_trans (m := 600000) (by omega) (Nat.le_of_ble_eq_true rfl))⟩ (fun r _ H locs hp hW => ?_)
                  subst hp
                  refine z_top2 (y := ((cl (24 + j) 0 - cl (24 + j) 1) - cl (24 + j) 2)) (vb_eq (by omega)).2.2.2.2.2 ?_
                  refine lv_iload hx hb dL_law_841 (lv_at hl 0 rfl) ?_
                  refine lv_icmp_ge (tgt := 850) hx hb dL_law_843 (by decide) (fun _ => ?_) (fun h => absurd v1 h)
                  refine lv_iconst (v := 0) hx hb dL_law_850 (by decide) ?_
                  refine lv_icmp_ne (tgt := 928) hx hb dL_law_851 (by decide) (fun h => absurd (by decide) h) (fun _ => ?_)
                  refine lv_iload hx hb dL_law_854 (lv_at hl 1 rfl) ?_
                  refine lv_iconst (v := 1) hx hb dL_law_856 (by decide) ?_
                  refine lv_icmp_ne (tgt := 891) hx hb dL_law_857 (by decide) (fun _ => ?_) (fun h => absurd h (by decide))
                  refine lv_iload hx hb dL_law_891 (lv_at hl 1 rfl) ?_
                  refine lv_iconst (v := 2) hx hb dL_law_893 (by decide) ?_
                  refine lv_icmp_ne (tgt := 930) hx hb dL_law_894 (by decide) (fun h => absurd (by decide) h) (fun _ => ?_)
                  refine lv_iload hx hb dL_law_897 (lv_at hl 3 rfl) ?_
                  refine lv_iload hx hb dL_law_899 (lv_at hl 0 rfl) ?_
                  refine lv_iadd hx hb dL_law_901 ?_
                  refine lv_iload hx hb dL_law_902 (lv_at hl 4 rfl) ?_
                  refine lv_isub hx hb dL_law_904 ?_
                  refine z_mabs S hl.1 l141 ls_abs li_Math lc_abs ⟨Nat.le_of_ble_eq_true rfl, Nat.le_of_ble_eq_true rfl, (Nat.le_trans (m := 600000) (by omega) (Nat.le_of_ble_eq_true rfl)), (Nat.le_trans (m := 600000) (by omega) (Nat.le_of_ble_eq_true rfl))⟩ dL_law_905 (v := zab ((cl (24 + j) 1 + 20) - cl (24 + j) 2)) rfl ?_
                  refine lv_bipush (v := 40) hx hb dL_law_908 (by decide) ?_
                  refine lv_idiv hx hb dL_law_910 (by decide) ?_
                  refine lv_iload hx hb dL_law_911 (lv_at hl 3 rfl) ?_
                  refine lv_iload hx hb dL_law_913 (lv_at hl 0 rfl) ?_
                  refine lv_isub hx hb dL_law_915 ?_
                  refine lv_iload hx hb dL_law_916 (lv_at hl 4 rfl) ?_
                  refine lv_isub hx hb dL_law_918 ?_
                  refine z_mabs S hl.1 l141 ls_abs li_Math lc_abs ⟨Nat.le_of_ble_eq_true rfl, Nat.le_of_ble_eq_true rfl, (Nat.le_trans (m := 600000) (by omega) (Nat.le_of_ble_eq_true rfl)), (Nat.le_trans (m := 600000) (by omega) (Nat.le_of_ble_eq_true rfl))⟩ dL_law_919 (v := zab ((cl (24 + j) 1 - 20) - cl (24 + j) 2)) rfl ?_
                  refine lv_bipush (v := 40) hx hb dL_law_922 (by decide) ?_
                  refine lv_idiv hx hb dL_law_924 (by decide) ?_
                  refine lv_icmp_gt (tgt := 930) hx hb dL_law_925 (by decide) (fun _ => ?_) (fun h => absurd v2 h)
                  refine lv_iinc (v := nI (2 + 1)) (lv' := [(18, .int (nI (2 + 1))), (20, .int 20), (19, .int 2), (14, .int (cl (24 + j) 1)), (15, .int (cl (24 + j) 2)), (13, .int (nI j)), (3, .int (nI tm)), (2, .ref (ad 28)), (1, .ref (ad 0)), (0, .ref b)]) hx hb dL_law_930 hl (k := 2) rfl (nI_1 _) (by decide) rfl (fun ls hl => ?_)
                  refine lv_goto (tgt := 782) hx hb dL_law_933 (by decide) ?_
                  refine W.widen (k := cells + 3 * j + (2 + 1)) (n := slots + 18 * j + 6 * (2 + 1)) (by omega) (by omega) ?_
                  exact ihq (2 + 1) H locs ls (by omega) hW (lv_sub hl [0, 3, 4, 5, 6, 7, 8, 9] rfl)
          exact L782 (3) 0 _ _ ls (by omega) hW (lv_sub hl [0, 4, 3, 5, 6, 7, 8, 9] rfl)
        · refine lv_iconst (v := 1) hx hb dL_law_672 (by decide) ?_
          refine lv_goto (tgt := 677) hx hb dL_law_673 (by decide) ?_
          refine lv_istore (lv' := [(17, .int 1), (16, .int (dep (cl (24 + j) 1) (cl (24 + j) 2))), (15, .int (cl (24 + j) 2)), (14, .int (cl (24 + j) 1)), (13, .int (nI j)), (3, .int (nI tm)), (2, .ref (ad 28)), (1, .ref (ad 0)), (0, .ref b)]) hx hb dL_law_677 hl (by decide) rfl (fun ls hl => ?_)
          refine lv_aload_n hx hb dL_law_679 rfl (lv_at hl 7 rfl) ?_
          refine lv_iload hx hb dL_law_680 (lv_at hl 4 rfl) ?_
          refine lv_iconst (v := 3) hx hb dL_law_682 (by decide) ?_
          refine z_cVi (As := [.int (nI j), .int (nI 3)]) (rest := []) (k := 0) S hE hW (cX3_boat0_ok l D (n0 + 3 + N) ad cy sa H.size (by omega) cl (exS cy ad N B (hourS al) (exH cy a0 n0 N (pfx (f1 al) N) (pfx (f2 al) N) (wsP (fT al) N 0) ex)) B hIc.1.2.2.1 hIc.1.2.2.2.1 j (by omega) 3 (by omega)) (cwV 2 hts gL_law_X3_boat rfl rfl rfl (by decide +kernel) ⟨Nat.le_of_ble_eq_true rfl, Nat.le_of_ble_eq_true rfl⟩) (by omega) cC_0 rfl rfl rfl hl.1 rfl (Nat.le_of_ble_eq_true rfl) dL_law_683 ⟨(Nat.le_trans (m := 600000) (by omega) (Nat.le_of_ble_eq_true rfl)), (Nat.le_trans (m := 600000) (by omega) (Nat.le_of_ble_eq_true rfl))⟩ (fun r _ H locs hp hW => ?_)
          subst hp
          refine z_top2 (y := (cl (24 + j) 1 - cl (24 + j) 2)) (vb_eq (by omega)).2.2.2.1 ?_
          refine lv_iload hx hb dL_law_686 (lv_at hl 3 rfl) ?_
          refine lv_iload hx hb dL_law_688 (lv_at hl 2 rfl) ?_
          refine lv_isub hx hb dL_law_690 ?_
          refine lv_icmp_ne (tgt := 777) hx hb dL_law_691 (by decide) (fun h => absurd rfl h) (fun _ => ?_)
          refine lv_aload_n hx hb dL_law_694 rfl (lv_at hl 7 rfl) ?_
          refine lv_iload hx hb dL_law_695 (lv_at hl 4 rfl) ?_
          refine lv_iconst (v := 4) hx hb dL_law_697 (by decide) ?_
          refine z_cVi (As := [.int (nI j), .int (nI 4)]) (rest := []) (k := 0) S hE hW (cX3_boat0_ok l D (n0 + 3 + N) ad cy sa H.size (by omega) cl (exS cy ad N B (hourS al) (exH cy a0 n0 N (pfx (f1 al) N) (pfx (f2 al) N) (wsP (fT al) N 0) ex)) B hIc.1.2.2.1 hIc.1.2.2.2.1 j (by omega) 4 (by omega)) (cwV 2 hts gL_law_X3_boat rfl rfl rfl (by decide +kernel) ⟨Nat.le_of_ble_eq_true rfl, Nat.le_of_ble_eq_true rfl⟩) (by omega) cC_0 rfl rfl rfl hl.1 rfl (Nat.le_of_ble_eq_true rfl) dL_law_698 ⟨(Nat.le_trans (m := 600000) (by omega) (Nat.le_of_ble_eq_true rfl)), (Nat.le_trans (m := 600000) (by omega) (Nat.le_of_ble_eq_true rfl))⟩ (fun r _ H locs hp hW => ?_)
          subst hp
          refine z_top2 (y := dep (cl (24 + j) 1) (cl (24 + j) 2)) (vb_eq (by omega)).2.2.2.2.1 ?_
          refine lv_iload hx hb dL_law_701 (lv_at hl 1 rfl) ?_
          refine lv_icmp_ne (tgt := 777) hx hb dL_law_703 (by decide) (fun h => absurd rfl h) (fun _ => ?_)
          refine lv_aload_n hx hb dL_law_706 rfl (lv_at hl 7 rfl) ?_
          refine lv_iload hx hb dL_law_707 (lv_at hl 4 rfl) ?_
          refine lv_iconst (v := 5) hx hb dL_law_709 (by decide) ?_
          refine z_cVi (As := [.int (nI j), .int (nI 5)]) (rest := []) (k := 0) S hE hW (cX3_boat0_ok l D (n0 + 3 + N) ad cy sa H.size (by omega) cl (exS cy ad N B (hourS al) (exH cy a0 n0 N (pfx (f1 al) N) (pfx (f2 al) N) (wsP (fT al) N 0) ex)) B hIc.1.2.2.1 hIc.1.2.2.2.1 j (by omega) 5 (by omega)) (cwV 2 hts gL_law_X3_boat rfl rfl rfl (by decide +kernel) ⟨Nat.le_of_ble_eq_true rfl, Nat.le_of_ble_eq_true rfl⟩) (by omega) cC_0 rfl rfl rfl hl.1 rfl (Nat.le_of_ble_eq_true rfl) dL_law_710 ⟨(Nat.le_trans (m := 600000) (by omega) (Nat.le_of_ble_eq_true rfl)), (Nat.le_trans (m := 600000) (by omega) (Nat.le_of_ble_eq_true rfl))⟩ (fun r _ H locs hp hW => ?_)
          subst hp
          refine z_top2 (y := v_boat cl (nI j) (nI 5)) rfl ?_
          refine lv_iload hx hb dL_law_713 (lv_at hl 0 rfl) ?_
          refine lv_if_eq (tgt := 722) hx hb dL_law_715 (by decide) (fun h => absurd h (by decide)) (fun _ => ?_)
          refine lv_iconst (v := 1) hx hb dL_law_718 (by decide) ?_
          refine lv_goto (tgt := 723) hx hb dL_law_719 (by decide) ?_
          refine lv_icmp_ne (tgt := 777) hx hb dL_law_723 (by decide) (fun h => absurd (vb.1 c656 c669) h) (fun _ => ?_)
          refine lv_aload_n hx hb dL_law_726 rfl (lv_at hl 7 rfl) ?_
          refine lv_iload hx hb dL_law_727 (lv_at hl 4 rfl) ?_
          refine lv_bipush (v := 6) hx hb dL_law_729 (by decide) ?_
          refine z_cVi (As := [.int (nI j), .int (nI 6)]) (rest := []) (k := 0) S hE hW (cX3_boat0_ok l D (n0 + 3 + N) ad cy sa H.size (by omega) cl (exS cy ad N B (hourS al) (exH cy a0 n0 N (pfx (f1 al) N) (pfx (f2 al) N) (wsP (fT al) N 0) ex)) B hIc.1.2.2.1 hIc.1.2.2.2.1 j (by omega) 6 (by omega)) (cwV 2 hts gL_law_X3_boat rfl rfl rfl (by decide +kernel) ⟨Nat.le_of_ble_eq_true rfl, Nat.le_of_ble_eq_true rfl⟩) (by omega) cC_0 rfl rfl rfl hl.1 rfl (Nat.le_of_ble_eq_true rfl) dL_law_731 ⟨(Nat.le_trans (m := 600000) (by omega) (Nat.le_of_ble_eq_true rfl)), (Nat.le_trans (m := 600000) (by omega) (Nat.le_of_ble_eq_true rfl))⟩ (fun r _ H locs hp hW => ?_)
          subst hp
          refine z_top2 (y := ((cl (24 + j) 0 - cl (24 + j) 1) - cl (24 + j) 2)) (vb_eq (by omega)).2.2.2.2.2 ?_
          refine lv_aload_n hx hb dL_law_734 rfl (lv_at hl 7 rfl) ?_
          refine lv_iload hx hb dL_law_735 (lv_at hl 4 rfl) ?_
          refine lv_iconst (v := 0) hx hb dL_law_737 (by decide) ?_
          refine z_cVi (As := [.int (nI j), .int (nI 0)]) (rest := [.int ((cl (24 + j) 0 - cl (24 + j) 1) - cl (24 + j) 2)]) (k := 0) S hE hW (cX3_boat0_ok l D (n0 + 3 + N) ad cy sa H.size (by omega) cl (exS cy ad N B (hourS al) (exH cy a0 n0 N (pfx (f1 al) N) (pfx (f2 al) N) (wsP (fT al) N 0) ex)) B hIc.1.2.2.1 hIc.1.2.2.2.1 j (by omega) 0 (by omega)) (cwV 2 hts gL_law_X3_boat rfl rfl rfl (by decide +kernel) ⟨Nat.le_of_ble_eq_true rfl, Nat.le_of_ble_eq_true rfl⟩) (by omega) cC_0 rfl rfl rfl hl.1 rfl (Nat.le_of_ble_eq_true rfl) dL_law_738 ⟨(Nat.le_trans (m := 600000) (by omega) (Nat.le_of_ble_eq_true rfl)), (Nat.le_trans (m := 600000) (by omega) (Nat.le_of_ble_eq_true rfl))⟩ (fun r _ H locs hp hW => ?_)
          subst hp
          refine z_top2 (y := cl (24 + j) 0) (vb_eq (by omega)).1 ?_
          refine lv_iload hx hb dL_law_741 (lv_at hl 3 rfl) ?_
          refine lv_isub hx hb dL_law_743 ?_
          refine lv_iload hx hb dL_law_744 (lv_at hl 2 rfl) ?_
          refine lv_isub hx hb dL_law_746 ?_
          refine lv_icmp_ne (tgt := 777) hx hb dL_law_747 (by decide) (fun h => absurd rfl h) (fun _ => ?_)
          refine lv_aload_n hx hb dL_law_750 rfl (lv_at hl 7 rfl) ?_
          refine lv_iload hx hb dL_law_751 (lv_at hl 4 rfl) ?_
          refine lv_bipush (v := 6) hx hb dL_law_753 (by decide) ?_
          refine z_cVi (As := [.int (nI j), .int (nI 6)]) (rest := []) (k := 0) S hE hW (cX3_boat0_ok l D (n0 + 3 + N) ad cy sa H.size (by omega) cl (exS cy ad N B (hourS al) (exH cy a0 n0 N (pfx (f1 al) N) (pfx (f2 al) N) (wsP (fT al) N 0) ex)) B hIc.1.2.2.1 hIc.1.2.2.2.1 j (by omega) 6 (by omega)) (cwV 2 hts gL_law_X3_boat rfl rfl rfl (by decide +kernel) ⟨Nat.le_of_ble_eq_true rfl, Nat.le_of_ble_eq_true rfl⟩) (by omega) cC_0 rfl rfl rfl hl.1 rfl (Nat.le_of_ble_eq_true rfl) dL_law_755 ⟨(Nat.le_trans (m := 600000) (by omega) (Nat.le_of_ble_eq_true rfl)), (Nat.le_trans (m := 600000) (by omega) (Nat.le_of_ble_eq_true rfl))⟩ (fun r _ H locs hp hW => ?_)
          subst hp
          refine z_top2 (y := ((cl (24 + j) 0 - cl (24 + j) 1) - cl (24 + j) 2)) (vb_eq (by omega)).2.2.2.2.2 ?_
          refine lv_if_lt (tgt := 777) hx hb dL_law_758 (by decide) (fun h => absurd h vo1) (fun _ => ?_)
          refine lv_iload hx hb dL_law_761 (lv_at hl 3 rfl) ?_
          refine lv_bipush (v := 10) hx hb dL_law_763 (by decide) ?_
          refine lv_irem hx hb dL_law_765 (by decide) ?_
          refine lv_if_ne (tgt := 777) hx hb dL_law_766 (by decide) (fun h => absurd vo2 h) (fun _ => ?_)
          refine lv_iload hx hb dL_law_769 (lv_at hl 2 rfl) ?_
          refine lv_bipush (v := 10) hx hb dL_law_771 (by decide) ?_
          refine lv_irem hx hb dL_law_773 (by decide) ?_
          refine lv_if_eq (tgt := 779) hx hb dL_law_774 (by decide) (fun _ => ?_) (fun h => absurd vo3 h)
          refine lv_iconst (v := 0) hx hb dL_law_779 (by decide) ?_
          refine lv_istore (lv' := [(18, .int 0), (17, .int 1), (16, .int (dep (cl (24 + j) 1) (cl (24 + j) 2))), (15, .int (cl (24 + j) 2)), (14, .int (cl (24 + j) 1)), (13, .int (nI j)), (3, .int (nI tm)), (2, .ref (ad 28)), (1, .ref (ad 0)), (0, .ref b)]) hx hb dL_law_780 hl (by decide) rfl (fun ls hl => ?_)
          have L782 : ∀ (kr q : Nat) (H : Heap) (locs : List Loc) (ls : Array Slot), q + kr = 3 → WS D (n0 + 3 + N) ad (sW cy ad N B cl (hourS al) (exH cy a0 n0 N (pfx (f1 al) N) (pfx (f2 al) N) (wsP (fT al) N 0) ex)) A s.heap H locs → lv_has ls 21 [(18, .int (nI q)), (14, .int (cl (24 + j) 1)), (15, .int (cl (24 + j) 2)), (13, .int (nI j)), (3, .int (nI tm)), (2, .ref (ad 28)), (1, .ref (ad 0)), (0, .ref b)] → W p l e room_1 s m args below meth c H locs (cells + 3 * j + q) (slots + 18 * j + 6 * q) Q (F0 m 782 ls []) := by
            intro kr
            induction kr with
            | zero =>
              intro q H locs ls hjkq hW hl
              have hjNq : q = 3 := by omega
              try rw [hjNq] at hW
              try rw [hjNq] at hl
              refine lv_iload hx hb dL_law_782 (lv_at hl 0 rfl) ?_
              refine lv_iconst (v := 3) hx hb dL_law_784 (by decide) ?_
              refine lv_icmp_ge (tgt := 936) hx hb dL_law_785 (by decide) (fun _ => ?_) (fun h => absurd (by decide) h)
              refine lv_iinc (v := nI (j + 1)) (lv' := [(13, .int (nI (j + 1))), (18, .int (nI 3)), (14, .int (cl (24 + j) 1)), (15, .int (cl (24 + j) 2)), (3, .int (nI tm)), (2, .ref (ad 28)), (1, .ref (ad 0)), (0, .ref b)]) hx hb dL_law_936 hl (k := 3) rfl (nI_1 _) (by decide) rfl (fun ls hl => ?_)
              refine lv_goto (tgt := 602) hx hb dL_law_939 (by decide) ?_
              refine W.widen (k := cells + 3 * (j + 1)) (n := slots + 18 * (j + 1)) (by omega) (by omega) ?_
              exact ih (j + 1) H locs ls (by omega) hW (lv_sub hl [0, 4, 5, 6, 7] rfl)
            | succ kr ihq =>
              intro q H locs ls hjkq hW hl
              have hjq : q < 3 := by omega
              rcases (show q = 0 ∨ q = 1 ∨ q = 2 by omega) with rfl | rfl | rfl
              · refine lv_iload hx hb dL_law_782 (lv_at hl 0 rfl) ?_
                refine lv_iconst (v := 3) hx hb dL_law_784 (by decide) ?_
                refine lv_icmp_ge (tgt := 936) hx hb dL_law_785 (by decide) (fun h => absurd h (by decide)) (fun _ => ?_)
                refine lv_aload_n hx hb dL_law_788 rfl (lv_at hl 6 rfl) ?_
                refine lv_iload hx hb dL_law_789 (lv_at hl 3 rfl) ?_
                refine lv_iload hx hb dL_law_791 (lv_at hl 0 rfl) ?_
                refine z_xVi (As := [.int (nI j), .int (nI 0)]) (rest := []) (k := 0) S hE hW (cX3_advise_ok l D (n0 + 3 + N) ad cy sa H.size (by omega) cl (exS cy ad N B (hourS al) (exH cy a0 n0 N (pfx (f1 al) N) (pfx (f2 al) N) (wsP (fT al) N 0) ex)) (nI j) (nI 0) B hIc.1.2.2.1 hIc.1.2.2.2.1 hfl) (cwV 2 hts gL_law_X3_advise rfl rfl rfl (by decide +kernel) ⟨Nat.le_of_ble_eq_true rfl, Nat.le_of_ble_eq_true rfl⟩) (by omega) cC_0 rfl rfl rfl hl.1 rfl (Nat.le_of_ble_eq_true rfl) dL_law_793 ⟨(Nat.le_trans (m := 600000) (by omega) (Nat.le_of_ble_eq_true rfl)), (Nat.le_trans (m := 600000) (by omega) (Nat.le_of_ble_eq_true rfl))⟩ (fun E x9 q9 H locs hbad hW hx9 hv9 hc9 => absurd hbad (zbad_0 (k0_advise hIc.1.2.2.1 hIc.1.2.2.2.1 hj (by decide)))) (fun r _ H locs hp hW => ?_)
                obtain ⟨-, rfl⟩ := hp
                rcases adv_eq (w := 80) (k := nI 0) (by omega) hj hbt (by decide) (by decide) with ⟨v1, v9⟩ | ⟨v1, v2, v9⟩ | ⟨v1, v2, v9⟩
                · refine z_top2 (y := 0) v9 ?_
                  refine lv_istore (lv' := [(19, .int 0), (18, .int (nI 0)), (14, .int (cl (24 + j) 1)), (15, .int (cl (24 + j) 2)), (13, .int (nI j)), (3, .int (nI tm)), (2, .ref (ad 28)), (1, .ref (ad 0)), (0, .ref b)]) hx hb dL_law_796 hl (by decide) rfl (fun ls hl => ?_)
                  refine lv_iload hx hb dL_law_798 (lv_at hl 1 rfl) ?_
                  refine lv_if_ne (tgt := 808) hx hb dL_law_800 (by decide) (fun h => absurd (by decide) h) (fun _ => ?_)
                  refine lv_bipush (v := 80) hx hb dL_law_803 (by decide) ?_
                  refine lv_goto (tgt := 821) hx hb dL_law_805 (by decide) ?_
                  refine lv_istore (lv' := [(20, .int 80), (19, .int 0), (18, .int (nI 0)), (14, .int (cl (24 + j) 1)), (15, .int (cl (24 + j) 2)), (13, .int (nI j)), (3, .int (nI tm)), (2, .ref (ad 28)), (1, .ref (ad 0)), (0, .ref b)]) hx hb dL_law_821 hl (by decide) rfl (fun ls hl => ?_)
                  refine lv_iload hx hb dL_law_823 (lv_at hl 1 rfl) ?_
                  refine lv_if_ne (tgt := 832) hx hb dL_law_825 (by decide) (fun h => absurd (by decide) h) (fun _ => ?_)
                  refine lv_iconst (v := 1) hx hb dL_law_828 (by decide) ?_
                  refine lv_goto (tgt := 833) hx hb dL_law_829 (by decide) ?_
                  refine lv_aload_n hx hb dL_law_833 rfl (lv_at hl 8 rfl) ?_
                  refine lv_iload hx hb dL_law_834 (lv_at hl 5 rfl) ?_
                  refine lv_bipush (v := 6) hx hb dL_law_836 (by decide) ?_
                  refine z_cVi (As := [.int (nI j), .int (nI 6)]) (rest := [.int 1]) (k := 0) S hE hW (cX3_boat0_ok l D (n0 + 3 + N) ad cy sa H.size (by omega) cl (exS cy ad N B (hourS al) (exH cy a0 n0 N (pfx (f1 al) N) (pfx (f2 al) N) (wsP (fT al) N 0) ex)) B hIc.1.2.2.1 hIc.1.2.2.2.1 j (by omega) 6 (by omega)) (cwV 2 hts gL_law_X3_boat rfl rfl rfl (by decide +kernel) ⟨Nat.le_of_ble_eq_true rfl, Nat.le_of_ble_eq_true rfl⟩) (by omega) cC_0 rfl rfl rfl hl.1 rfl (Nat.le_of_ble_eq_true rfl) dL_law_838 ⟨(Nat.le_trans (m := 600000) (by omega) (Nat.le_of_ble_eq_true rfl)), (Nat.le_trans (m := 600000) (by omega) (Nat.le_of_ble_eq_true rfl))⟩ (fun r _ H locs hp hW => ?_)
                  subst hp
                  refine z_top2 (y := ((cl (24 + j) 0 - cl (24 + j) 1) - cl (24 + j) 2)) (vb_eq (by omega)).2.2.2.2.2 ?_
                  refine lv_iload hx hb dL_law_841 (lv_at hl 0 rfl) ?_
                  refine lv_icmp_ge (tgt := 850) hx hb dL_law_843 (by decide) (fun h => absurd h v1) (fun _ => ?_)
                  refine lv_iconst (v := 1) hx hb dL_law_846 (by decide) ?_
                  refine lv_goto (tgt := 851) hx hb dL_law_847 (by decide) ?_
                  refine lv_icmp_ne (tgt := 928) hx hb dL_law_851 (by decide) (fun h => absurd (by decide) h) (fun _ => ?_)
                  refine lv_iload hx hb dL_law_854 (lv_at hl 1 rfl) ?_
                  refine lv_iconst (v := 1) hx hb dL_law_856 (by decide) ?_
                  refine lv_icmp_ne (tgt := 891) hx hb dL_law_857 (by decide) (fun _ => ?_) (fun h => absurd h (by decide))
                  refine lv_iload hx hb dL_law_891 (lv_at hl 1 rfl) ?_
                  refine lv_iconst (v := 2) hx hb dL_law_893 (by decide) ?_
                  refine lv_icmp_ne (tgt := 930) hx hb dL_law_894 (by decide) (fun _ => ?_) (fun h => absurd h (by decide))
                  refine lv_iinc (v := nI (0 + 1)) (lv' := [(18, .int (nI (0 + 1))), (20, .int 80), (19, .int 0), (14, .int (cl (24 + j) 1)), (15, .int (cl (24 + j) 2)), (13, .int (nI j)), (3, .int (nI tm)), (2, .ref (ad 28)), (1, .ref (ad 0)), (0, .ref b)]) hx hb dL_law_930 hl (k := 2) rfl (nI_1 _) (by decide) rfl (fun ls hl => ?_)
                  refine lv_goto (tgt := 782) hx hb dL_law_933 (by decide) ?_
                  refine W.widen (k := cells + 3 * j + (0 + 1)) (n := slots + 18 * j + 6 * (0 + 1)) (by omega) (by omega) ?_
                  exact ihq (0 + 1) H locs ls (by omega) hW (lv_sub hl [0, 3, 4, 5, 6, 7, 8, 9] rfl)
                · refine z_top2 (y := 1) v9 ?_
                  refine lv_istore (lv' := [(19, .int 1), (18, .int (nI 0)), (14, .int (cl (24 + j) 1)), (15, .int (cl (24 + j) 2)), (13, .int (nI j)), (3, .int (nI tm)), (2, .ref (ad 28)), (1, .ref (ad 0)), (0, .ref b)]) hx hb dL_law_796 hl (by decide) rfl (fun ls hl => ?_)
                  refine lv_iload hx hb dL_law_798 (lv_at hl 1 rfl) ?_
                  refine lv_if_ne (tgt := 808) hx hb dL_law_800 (by decide) (fun h => absurd (by decide) h) (fun _ => ?_)
                  refine lv_bipush (v := 80) hx hb dL_law_803 (by decide) ?_
                  refine lv_goto (tgt := 821) hx hb dL_law_805 (by decide) ?_
                  refine lv_istore (lv' := [(20, .int 80), (19, .int 1), (18, .int (nI 0)), (14, .int (cl (24 + j) 1)), (15, .int (cl (24 + j) 2)), (13, .int (nI j)), (3, .int (nI tm)), (2, .ref (ad 28)), (1, .ref (ad 0)), (0, .ref b)]) hx hb dL_law_821 hl (by decide) rfl (fun ls hl => ?_)
                  refine lv_iload hx hb dL_law_823 (lv_at hl 1 rfl) ?_
                  refine lv_if_ne (tgt := 832) hx hb dL_law_825 (by decide) (fun _ => ?_) (fun h => absurd h (by decide))
                  refine lv_iconst (v := 0) hx hb dL_law_832 (by decide) ?_
                  refine lv_aload_n hx hb dL_law_833 rfl (lv_at hl 8 rfl) ?_
                  refine lv_iload hx hb dL_law_834 (lv_at hl 5 rfl) ?_
                  refine lv_bipush (v := 6) hx hb dL_law_836 (by decide) ?_
                  refine z_cVi (As := [.int (nI j), .int (nI 6)]) (rest := [.int 0]) (k := 0) S hE hW (cX3_boat0_ok l D (n0 + 3 + N) ad cy sa H.size (by omega) cl (exS cy ad N B (hourS al) (exH cy a0 n0 N (pfx (f1 al) N) (pfx (f2 al) N) (wsP (fT al) N 0) ex)) B hIc.1.2.2.1 hIc.1.2.2.2.1 j (by omega) 6 (by omega)) (cwV 2 hts gL_law_X3_boat rfl rfl rfl (by decide +kernel) ⟨Nat.le_of_ble_eq_true rfl, Nat.le_of_ble_eq_true rfl⟩) (by omega) cC_0 rfl rfl rfl hl.1 rfl (Nat.le_of_ble_eq_true rfl) dL_law_838 ⟨(Nat.le_trans (m := 600000) (by omega) (Nat.le_of_ble_eq_true rfl)), (Nat.le_trans (m := 600000) (by omega) (Nat.le_of_ble_eq_true rfl))⟩ (fun r _ H locs hp hW => ?_)
                  subst hp
                  refine z_top2 (y := ((cl (24 + j) 0 - cl (24 + j) 1) - cl (24 + j) 2)) (vb_eq (by omega)).2.2.2.2.2 ?_
                  refine lv_iload hx hb dL_law_841 (lv_at hl 0 rfl) ?_
                  refine lv_icmp_ge (tgt := 850) hx hb dL_law_843 (by decide) (fun _ => ?_) (fun h => absurd v1 h)
                  refine lv_iconst (v := 0) hx hb dL_law_850 (by decide) ?_
                  refine lv_icmp_ne (tgt := 928) hx hb dL_law_851 (by decide) (fun h => absurd (by decide) h) (fun _ => ?_)
                  refine lv_iload hx hb dL_law_854 (lv_at hl 1 rfl) ?_
                  refine lv_iconst (v := 1) hx hb dL_law_856 (by decide) ?_
                  refine lv_icmp_ne (tgt := 891) hx hb dL_law_857 (by decide) (fun h => absurd (by decide) h) (fun _ => ?_)
                  refine lv_iload hx hb dL_law_860 (lv_at hl 3 rfl) ?_
                  refine lv_iload hx hb dL_law_862 (lv_at hl 0 rfl) ?_
                  refine lv_iadd hx hb dL_law_864 ?_
                  refine lv_iload hx hb dL_law_865 (lv_at hl 4 rfl) ?_
                  refine lv_isub hx hb dL_law_867 ?_
                  refine z_mabs S hl.1 l141 ls_abs li_Math lc_abs ⟨Nat.le_of_ble_eq_true rfl, Nat.le_of_ble_eq_true rfl, (Nat.le_trans (m := 600000) (by omega) (Nat.le_of_ble_eq_true rfl)), (Nat.le_trans (m := 600000) (by omega) (Nat.le_of_ble_eq_true rfl))⟩ dL_law_868 (v := zab ((cl (24 + j) 1 + 80) - cl (24 + j) 2)) rfl ?_
                  refine lv_bipush (v := 40) hx hb dL_law_871 (by decide) ?_
                  refine lv_idiv hx hb dL_law_873 (by decide) ?_
                  refine lv_iload hx hb dL_law_874 (lv_at hl 3 rfl) ?_
                  refine lv_iload hx hb dL_law_876 (lv_at hl 0 rfl) ?_
                  refine lv_isub hx hb dL_law_878 ?_
                  refine lv_iload hx hb dL_law_879 (lv_at hl 4 rfl) ?_
                  refine lv_isub hx hb dL_law_881 ?_
                  refine z_mabs S hl.1 l141 ls_abs li_Math lc_abs ⟨Nat.le_of_ble_eq_true rfl, Nat.le_of_ble_eq_true rfl, (Nat.le_trans (m := 600000) (by omega) (Nat.le_of_ble_eq_true rfl)), (Nat.le_trans (m := 600000) (by omega) (Nat.le_of_ble_eq_true rfl))⟩ dL_law_882 (v := zab ((cl (24 + j) 1 - 80) - cl (24 + j) 2)) rfl ?_
                  refine lv_bipush (v := 40) hx hb dL_law_885 (by decide) ?_
                  refine lv_idiv hx hb dL_law_887 (by decide) ?_
                  refine lv_icmp_gt (tgt := 928) hx hb dL_law_888 (by decide) (fun h => absurd h v2) (fun _ => ?_)
                  refine lv_iload hx hb dL_law_891 (lv_at hl 1 rfl) ?_
                  refine lv_iconst (v := 2) hx hb dL_law_893 (by decide) ?_
                  refine lv_icmp_ne (tgt := 930) hx hb dL_law_894 (by decide) (fun _ => ?_) (fun h => absurd h (by decide))
                  refine lv_iinc (v := nI (0 + 1)) (lv' := [(18, .int (nI (0 + 1))), (20, .int 80), (19, .int 1), (14, .int (cl (24 + j) 1)), (15, .int (cl (24 + j) 2)), (13, .int (nI j)), (3, .int (nI tm)), (2, .ref (ad 28)), (1, .ref (ad 0)), (0, .ref b)]) hx hb dL_law_930 hl (k := 2) rfl (nI_1 _) (by decide) rfl (fun ls hl => ?_)
                  refine lv_goto (tgt := 782) hx hb dL_law_933 (by decide) ?_
                  refine W.widen (k := cells + 3 * j + (0 + 1)) (n := slots + 18 * j + 6 * (0 + 1)) (by omega) (by omega) ?_
                  exact ihq (0 + 1) H locs ls (by omega) hW (lv_sub hl [0, 3, 4, 5, 6, 7, 8, 9] rfl)
                · refine z_top2 (y := 2) v9 ?_
                  refine lv_istore (lv' := [(19, .int 2), (18, .int (nI 0)), (14, .int (cl (24 + j) 1)), (15, .int (cl (24 + j) 2)), (13, .int (nI j)), (3, .int (nI tm)), (2, .ref (ad 28)), (1, .ref (ad 0)), (0, .ref b)]) hx hb dL_law_796 hl (by decide) rfl (fun ls hl => ?_)
                  refine lv_iload hx hb dL_law_798 (lv_at hl 1 rfl) ?_
                  refine lv_if_ne (tgt := 808) hx hb dL_law_800 (by decide) (fun h => absurd (by decide) h) (fun _ => ?_)
                  refine lv_bipush (v := 80) hx hb dL_law_803 (by decide) ?_
                  refine lv_goto (tgt := 821) hx hb dL_law_805 (by decide) ?_
                  refine lv_istore (lv' := [(20, .int 80), (19, .int 2), (18, .int (nI 0)), (14, .int (cl (24 + j) 1)), (15, .int (cl (24 + j) 2)), (13, .int (nI j)), (3, .int (nI tm)), (2, .ref (ad 28)), (1, .ref (ad 0)), (0, .ref b)]) hx hb dL_law_821 hl (by decide) rfl (fun ls hl => ?_)
                  refine lv_iload hx hb dL_law_823 (lv_at hl 1 rfl) ?_
                  refine lv_if_ne (tgt := 832) hx hb dL_law_825 (by decide) (fun _ => ?_) (fun h => absurd h (by decide))
                  refine lv_iconst (v := 0) hx hb dL_law_832 (by decide) ?_
                  refine lv_aload_n hx hb dL_law_833 rfl (lv_at hl 8 rfl) ?_
                  refine lv_iload hx hb dL_law_834 (lv_at hl 5 rfl) ?_
                  refine lv_bipush (v := 6) hx hb dL_law_836 (by decide) ?_
                  refine z_cVi (As := [.int (nI j), .int (nI 6)]) (rest := [.int 0]) (k := 0) S hE hW (cX3_boat0_ok l D (n0 + 3 + N) ad cy sa H.size (by omega) cl (exS cy ad N B (hourS al) (exH cy a0 n0 N (pfx (f1 al) N) (pfx (f2 al) N) (wsP (fT al) N 0) ex)) B hIc.1.2.2.1 hIc.1.2.2.2.1 j (by omega) 6 (by omega)) (cwV 2 hts gL_law_X3_boat rfl rfl rfl (by decide +kernel) ⟨Nat.le_of_ble_eq_true rfl, Nat.le_of_ble_eq_true rfl⟩) (by omega) cC_0 rfl rfl rfl hl.1 rfl (Nat.le_of_ble_eq_true rfl) dL_law_838 ⟨(Nat.le_trans (m := 600000) (by omega) (Nat.le_of_ble_eq_true rfl)), (Nat.le_trans (m := 600000) (by omega) (Nat.le_of_ble_eq_true rfl))⟩ (fun r _ H locs hp hW => ?_)
                  subst hp
                  refine z_top2 (y := ((cl (24 + j) 0 - cl (24 + j) 1) - cl (24 + j) 2)) (vb_eq (by omega)).2.2.2.2.2 ?_
                  refine lv_iload hx hb dL_law_841 (lv_at hl 0 rfl) ?_
                  refine lv_icmp_ge (tgt := 850) hx hb dL_law_843 (by decide) (fun _ => ?_) (fun h => absurd v1 h)
                  refine lv_iconst (v := 0) hx hb dL_law_850 (by decide) ?_
                  refine lv_icmp_ne (tgt := 928) hx hb dL_law_851 (by decide) (fun h => absurd (by decide) h) (fun _ => ?_)
                  refine lv_iload hx hb dL_law_854 (lv_at hl 1 rfl) ?_
                  refine lv_iconst (v := 1) hx hb dL_law_856 (by decide) ?_
                  refine lv_icmp_ne (tgt := 891) hx hb dL_law_857 (by decide) (fun _ => ?_) (fun h => absurd h (by decide))
                  refine lv_iload hx hb dL_law_891 (lv_at hl 1 rfl) ?_
                  refine lv_iconst (v := 2) hx hb dL_law_893 (by decide) ?_
                  refine lv_icmp_ne (tgt := 930) hx hb dL_law_894 (by decide) (fun h => absurd (by decide) h) (fun _ => ?_)
                  refine lv_iload hx hb dL_law_897 (lv_at hl 3 rfl) ?_
                  refine lv_iload hx hb dL_law_899 (lv_at hl 0 rfl) ?_
                  refine lv_iadd hx hb dL_law_901 ?_
                  refine lv_iload hx hb dL_law_902 (lv_at hl 4 rfl) ?_
                  refine lv_isub hx hb dL_law_904 ?_
                  refine z_mabs S hl.1 l141 ls_abs li_Math lc_abs ⟨Nat.le_of_ble_eq_true rfl, Nat.le_of_ble_eq_true rfl, (Nat.le_trans (m := 600000) (by omega) (Nat.le_of_ble_eq_true rfl)), (Nat.le_trans (m := 600000) (by omega) (Nat.le_of_ble_eq_true rfl))⟩ dL_law_905 (v := zab ((cl (24 + j) 1 + 80) - cl (24 + j) 2)) rfl ?_
                  refine lv_bipush (v := 40) hx hb dL_law_908 (by decide) ?_
                  refine lv_idiv hx hb dL_law_910 (by decide) ?_
                  refine lv_iload hx hb dL_law_911 (lv_at hl 3 rfl) ?_
                  refine lv_iload hx hb dL_law_913 (lv_at hl 0 rfl) ?_
                  refine lv_isub hx hb dL_law_915 ?_
                  refine lv_iload hx hb dL_law_916 (lv_at hl 4 rfl) ?_
                  refine lv_isub hx hb dL_law_918 ?_
                  refine z_mabs S hl.1 l141 ls_abs li_Math lc_abs ⟨Nat.le_of_ble_eq_true rfl, Nat.le_of_ble_eq_true rfl, (Nat.le_trans (m := 600000) (by omega) (Nat.le_of_ble_eq_true rfl)), (Nat.le_trans (m := 600000) (by omega) (Nat.le_of_ble_eq_true rfl))⟩ dL_law_919 (v := zab ((cl (24 + j) 1 - 80) - cl (24 + j) 2)) rfl ?_
                  refine lv_bipush (v := 40) hx hb dL_law_922 (by decide) ?_
                  refine lv_idiv hx hb dL_law_924 (by decide) ?_
                  refine lv_icmp_gt (tgt := 930) hx hb dL_law_925 (by decide) (fun _ => ?_) (fun h => absurd v2 h)
                  refine lv_iinc (v := nI (0 + 1)) (lv' := [(18, .int (nI (0 + 1))), (20, .int 80), (19, .int 2), (14, .int (cl (24 + j) 1)), (15, .int (cl (24 + j) 2)), (13, .int (nI j)), (3, .int (nI tm)), (2, .ref (ad 28)), (1, .ref (ad 0)), (0, .ref b)]) hx hb dL_law_930 hl (k := 2) rfl (nI_1 _) (by decide) rfl (fun ls hl => ?_)
                  refine lv_goto (tgt := 782) hx hb dL_law_933 (by decide) ?_
                  refine W.widen (k := cells + 3 * j + (0 + 1)) (n := slots + 18 * j + 6 * (0 + 1)) (by omega) (by omega) ?_
                  exact ihq (0 + 1) H locs ls (by omega) hW (lv_sub hl [0, 3, 4, 5, 6, 7, 8, 9] rfl)
              · refine lv_iload hx hb dL_law_782 (lv_at hl 0 rfl) ?_
                refine lv_iconst (v := 3) hx hb dL_law_784 (by decide) ?_
                refine lv_icmp_ge (tgt := 936) hx hb dL_law_785 (by decide) (fun h => absurd h (by decide)) (fun _ => ?_)
                refine lv_aload_n hx hb dL_law_788 rfl (lv_at hl 6 rfl) ?_
                refine lv_iload hx hb dL_law_789 (lv_at hl 3 rfl) ?_
                refine lv_iload hx hb dL_law_791 (lv_at hl 0 rfl) ?_
                refine z_xVi (As := [.int (nI j), .int (nI 1)]) (rest := []) (k := 0) S hE hW (cX3_advise_ok l D (n0 + 3 + N) ad cy sa H.size (by omega) cl (exS cy ad N B (hourS al) (exH cy a0 n0 N (pfx (f1 al) N) (pfx (f2 al) N) (wsP (fT al) N 0) ex)) (nI j) (nI 1) B hIc.1.2.2.1 hIc.1.2.2.2.1 hfl) (cwV 2 hts gL_law_X3_advise rfl rfl rfl (by decide +kernel) ⟨Nat.le_of_ble_eq_true rfl, Nat.le_of_ble_eq_true rfl⟩) (by omega) cC_0 rfl rfl rfl hl.1 rfl (Nat.le_of_ble_eq_true rfl) dL_law_793 ⟨(Nat.le_trans (m := 600000) (by omega) (Nat.le_of_ble_eq_true rfl)), (Nat.le_trans (m := 600000) (by omega) (Nat.le_of_ble_eq_true rfl))⟩ (fun E x9 q9 H locs hbad hW hx9 hv9 hc9 => absurd hbad (zbad_0 (k0_advise hIc.1.2.2.1 hIc.1.2.2.2.1 hj (by decide)))) (fun r _ H locs hp hW => ?_)
                obtain ⟨-, rfl⟩ := hp
                rcases adv_eq (w := 50) (k := nI 1) (by omega) hj hbt (by decide) (by decide) with ⟨v1, v9⟩ | ⟨v1, v2, v9⟩ | ⟨v1, v2, v9⟩
                · refine z_top2 (y := 0) v9 ?_
                  refine lv_istore (lv' := [(19, .int 0), (18, .int (nI 1)), (14, .int (cl (24 + j) 1)), (15, .int (cl (24 + j) 2)), (13, .int (nI j)), (3, .int (nI tm)), (2, .ref (ad 28)), (1, .ref (ad 0)), (0, .ref b)]) hx hb dL_law_796 hl (by decide) rfl (fun ls hl => ?_)
                  refine lv_iload hx hb dL_law_798 (lv_at hl 1 rfl) ?_
                  refine lv_if_ne (tgt := 808) hx hb dL_law_800 (by decide) (fun _ => ?_) (fun h => absurd h (by decide))
                  refine lv_iload hx hb dL_law_808 (lv_at hl 1 rfl) ?_
                  refine lv_iconst (v := 1) hx hb dL_law_810 (by decide) ?_
                  refine lv_icmp_ne (tgt := 819) hx hb dL_law_811 (by decide) (fun h => absurd (by decide) h) (fun _ => ?_)
                  refine lv_bipush (v := 50) hx hb dL_law_814 (by decide) ?_
                  refine lv_goto (tgt := 821) hx hb dL_law_816 (by decide) ?_
                  refine lv_istore (lv' := [(20, .int 50), (19, .int 0), (18, .int (nI 1)), (14, .int (cl (24 + j) 1)), (15, .int (cl (24 + j) 2)), (13, .int (nI j)), (3, .int (nI tm)), (2, .ref (ad 28)), (1, .ref (ad 0)), (0, .ref b)]) hx hb dL_law_821 hl (by decide) rfl (fun ls hl => ?_)
                  refine lv_iload hx hb dL_law_823 (lv_at hl 1 rfl) ?_
                  refine lv_if_ne (tgt := 832) hx hb dL_law_825 (by decide) (fun h => absurd (by decide) h) (fun _ => ?_)
                  refine lv_iconst (v := 1) hx hb dL_law_828 (by decide) ?_
                  refine lv_goto (tgt := 833) hx hb dL_law_829 (by decide) ?_
                  refine lv_aload_n hx hb dL_law_833 rfl (lv_at hl 8 rfl) ?_
                  refine lv_iload hx hb dL_law_834 (lv_at hl 5 rfl) ?_
                  refine lv_bipush (v := 6) hx hb dL_law_836 (by decide) ?_
                  refine z_cVi (As := [.int (nI j), .int (nI 6)]) (rest := [.int 1]) (k := 0) S hE hW (cX3_boat0_ok l D (n0 + 3 + N) ad cy sa H.size (by omega) cl (exS cy ad N B (hourS al) (exH cy a0 n0 N (pfx (f1 al) N) (pfx (f2 al) N) (wsP (fT al) N 0) ex)) B hIc.1.2.2.1 hIc.1.2.2.2.1 j (by omega) 6 (by omega)) (cwV 2 hts gL_law_X3_boat rfl rfl rfl (by decide +kernel) ⟨Nat.le_of_ble_eq_true rfl, Nat.le_of_ble_eq_true rfl⟩) (by omega) cC_0 rfl rfl rfl hl.1 rfl (Nat.le_of_ble_eq_true rfl) dL_law_838 ⟨(Nat.le_trans (m := 600000) (by omega) (Nat.le_of_ble_eq_true rfl)), (Nat.le_trans (m := 600000) (by omega) (Nat.le_of_ble_eq_true rfl))⟩ (fun r _ H locs hp hW => ?_)
                  subst hp
                  refine z_top2 (y := ((cl (24 + j) 0 - cl (24 + j) 1) - cl (24 + j) 2)) (vb_eq (by omega)).2.2.2.2.2 ?_
                  refine lv_iload hx hb dL_law_841 (lv_at hl 0 rfl) ?_
                  refine lv_icmp_ge (tgt := 850) hx hb dL_law_843 (by decide) (fun h => absurd h v1) (fun _ => ?_)
                  refine lv_iconst (v := 1) hx hb dL_law_846 (by decide) ?_
                  refine lv_goto (tgt := 851) hx hb dL_law_847 (by decide) ?_
                  refine lv_icmp_ne (tgt := 928) hx hb dL_law_851 (by decide) (fun h => absurd (by decide) h) (fun _ => ?_)
                  refine lv_iload hx hb dL_law_854 (lv_at hl 1 rfl) ?_
                  refine lv_iconst (v := 1) hx hb dL_law_856 (by decide) ?_
                  refine lv_icmp_ne (tgt := 891) hx hb dL_law_857 (by decide) (fun _ => ?_) (fun h => absurd h (by decide))
                  refine lv_iload hx hb dL_law_891 (lv_at hl 1 rfl) ?_
                  refine lv_iconst (v := 2) hx hb dL_law_893 (by decide) ?_
                  refine lv_icmp_ne (tgt := 930) hx hb dL_law_894 (by decide) (fun _ => ?_) (fun h => absurd h (by decide))
                  refine lv_iinc (v := nI (1 + 1)) (lv' := [(18, .int (nI (1 + 1))), (20, .int 50), (19, .int 0), (14, .int (cl (24 + j) 1)), (15, .int (cl (24 + j) 2)), (13, .int (nI j)), (3, .int (nI tm)), (2, .ref (ad 28)), (1, .ref (ad 0)), (0, .ref b)]) hx hb dL_law_930 hl (k := 2) rfl (nI_1 _) (by decide) rfl (fun ls hl => ?_)
                  refine lv_goto (tgt := 782) hx hb dL_law_933 (by decide) ?_
                  refine W.widen (k := cells + 3 * j + (1 + 1)) (n := slots + 18 * j + 6 * (1 + 1)) (by omega) (by omega) ?_
                  exact ihq (1 + 1) H locs ls (by omega) hW (lv_sub hl [0, 3, 4, 5, 6, 7, 8, 9] rfl)
                · refine z_top2 (y := 1) v9 ?_
                  refine lv_istore (lv' := [(19, .int 1), (18, .int (nI 1)), (14, .int (cl (24 + j) 1)), (15, .int (cl (24 + j) 2)), (13, .int (nI j)), (3, .int (nI tm)), (2, .ref (ad 28)), (1, .ref (ad 0)), (0, .ref b)]) hx hb dL_law_796 hl (by decide) rfl (fun ls hl => ?_)
                  refine lv_iload hx hb dL_law_798 (lv_at hl 1 rfl) ?_
                  refine lv_if_ne (tgt := 808) hx hb dL_law_800 (by decide) (fun _ => ?_) (fun h => absurd h (by decide))
                  refine lv_iload hx hb dL_law_808 (lv_at hl 1 rfl) ?_
                  refine lv_iconst (v := 1) hx hb dL_law_810 (by decide) ?_
                  refine lv_icmp_ne (tgt := 819) hx hb dL_law_811 (by decide) (fun h => absurd (by decide) h) (fun _ => ?_)
                  refine lv_bipush (v := 50) hx hb dL_law_814 (by decide) ?_
                  refine lv_goto (tgt := 821) hx hb dL_law_816 (by decide) ?_
                  refine lv_istore (lv' := [(20, .int 50), (19, .int 1), (18, .int (nI 1)), (14, .int (cl (24 + j) 1)), (15, .int (cl (24 + j) 2)), (13, .int (nI j)), (3, .int (nI tm)), (2, .ref (ad 28)), (1, .ref (ad 0)), (0, .ref b)]) hx hb dL_law_821 hl (by decide) rfl (fun ls hl => ?_)
                  refine lv_iload hx hb dL_law_823 (lv_at hl 1 rfl) ?_
                  refine lv_if_ne (tgt := 832) hx hb dL_law_825 (by decide) (fun _ => ?_) (fun h => absurd h (by decide))
                  refine lv_iconst (v := 0) hx hb dL_law_832 (by decide) ?_
                  refine lv_aload_n hx hb dL_law_833 rfl (lv_at hl 8 rfl) ?_
                  refine lv_iload hx hb dL_law_834 (lv_at hl 5 rfl) ?_
                  refine lv_bipush (v := 6) hx hb dL_law_836 (by decide) ?_
                  refine z_cVi (As := [.int (nI j), .int (nI 6)]) (rest := [.int 0]) (k := 0) S hE hW (cX3_boat0_ok l D (n0 + 3 + N) ad cy sa H.size (by omega) cl (exS cy ad N B (hourS al) (exH cy a0 n0 N (pfx (f1 al) N) (pfx (f2 al) N) (wsP (fT al) N 0) ex)) B hIc.1.2.2.1 hIc.1.2.2.2.1 j (by omega) 6 (by omega)) (cwV 2 hts gL_law_X3_boat rfl rfl rfl (by decide +kernel) ⟨Nat.le_of_ble_eq_true rfl, Nat.le_of_ble_eq_true rfl⟩) (by omega) cC_0 rfl rfl rfl hl.1 rfl (Nat.le_of_ble_eq_true rfl) dL_law_838 ⟨(Nat.le_trans (m := 600000) (by omega) (Nat.le_of_ble_eq_true rfl)), (Nat.le_trans (m := 600000) (by omega) (Nat.le_of_ble_eq_true rfl))⟩ (fun r _ H locs hp hW => ?_)
                  subst hp
                  refine z_top2 (y := ((cl (24 + j) 0 - cl (24 + j) 1) - cl (24 + j) 2)) (vb_eq (by omega)).2.2.2.2.2 ?_
                  refine lv_iload hx hb dL_law_841 (lv_at hl 0 rfl) ?_
                  refine lv_icmp_ge (tgt := 850) hx hb dL_law_843 (by decide) (fun _ => ?_) (fun h => absurd v1 h)
                  refine lv_iconst (v := 0) hx hb dL_law_850 (by decide) ?_
                  refine lv_icmp_ne (tgt := 928) hx hb dL_law_851 (by decide) (fun h => absurd (by decide) h) (fun _ => ?_)
                  refine lv_iload hx hb dL_law_854 (lv_at hl 1 rfl) ?_
                  refine lv_iconst (v := 1) hx hb dL_law_856 (by decide) ?_
                  refine lv_icmp_ne (tgt := 891) hx hb dL_law_857 (by decide) (fun h => absurd (by decide) h) (fun _ => ?_)
                  refine lv_iload hx hb dL_law_860 (lv_at hl 3 rfl) ?_
                  refine lv_iload hx hb dL_law_862 (lv_at hl 0 rfl) ?_
                  refine lv_iadd hx hb dL_law_864 ?_
                  refine lv_iload hx hb dL_law_865 (lv_at hl 4 rfl) ?_
                  refine lv_isub hx hb dL_law_867 ?_
                  refine z_mabs S hl.1 l141 ls_abs li_Math lc_abs ⟨Nat.le_of_ble_eq_true rfl, Nat.le_of_ble_eq_true rfl, (Nat.le_trans (m := 600000) (by omega) (Nat.le_of_ble_eq_true rfl)), (Nat.le_trans (m := 600000) (by omega) (Nat.le_of_ble_eq_true rfl))⟩ dL_law_868 (v := zab ((cl (24 + j) 1 + 50) - cl (24 + j) 2)) rfl ?_
                  refine lv_bipush (v := 40) hx hb dL_law_871 (by decide) ?_
                  refine lv_idiv hx hb dL_law_873 (by decide) ?_
                  refine lv_iload hx hb dL_law_874 (lv_at hl 3 rfl) ?_
                  refine lv_iload hx hb dL_law_876 (lv_at hl 0 rfl) ?_
                  refine lv_isub hx hb dL_law_878 ?_
                  refine lv_iload hx hb dL_law_879 (lv_at hl 4 rfl) ?_
                  refine lv_isub hx hb dL_law_881 ?_
                  refine z_mabs S hl.1 l141 ls_abs li_Math lc_abs ⟨Nat.le_of_ble_eq_true rfl, Nat.le_of_ble_eq_true rfl, (Nat.le_trans (m := 600000) (by omega) (Nat.le_of_ble_eq_true rfl)), (Nat.le_trans (m := 600000) (by omega) (Nat.le_of_ble_eq_true rfl))⟩ dL_law_882 (v := zab ((cl (24 + j) 1 - 50) - cl (24 + j) 2)) rfl ?_
                  refine lv_bipush (v := 40) hx hb dL_law_885 (by decide) ?_
                  refine lv_idiv hx hb dL_law_887 (by decide) ?_
                  refine lv_icmp_gt (tgt := 928) hx hb dL_law_888 (by decide) (fun h => absurd h v2) (fun _ => ?_)
                  refine lv_iload hx hb dL_law_891 (lv_at hl 1 rfl) ?_
                  refine lv_iconst (v := 2) hx hb dL_law_893 (by decide) ?_
                  refine lv_icmp_ne (tgt := 930) hx hb dL_law_894 (by decide) (fun _ => ?_) (fun h => absurd h (by decide))
                  refine lv_iinc (v := nI (1 + 1)) (lv' := [(18, .int (nI (1 + 1))), (20, .int 50), (19, .int 1), (14, .int (cl (24 + j) 1)), (15, .int (cl (24 + j) 2)), (13, .int (nI j)), (3, .int (nI tm)), (2, .ref (ad 28)), (1, .ref (ad 0)), (0, .ref b)]) hx hb dL_law_930 hl (k := 2) rfl (nI_1 _) (by decide) rfl (fun ls hl => ?_)
                  refine lv_goto (tgt := 782) hx hb dL_law_933 (by decide) ?_
                  refine W.widen (k := cells + 3 * j + (1 + 1)) (n := slots + 18 * j + 6 * (1 + 1)) (by omega) (by omega) ?_
                  exact ihq (1 + 1) H locs ls (by omega) hW (lv_sub hl [0, 3, 4, 5, 6, 7, 8, 9] rfl)
                · refine z_top2 (y := 2) v9 ?_
                  refine lv_istore (lv' := [(19, .int 2), (18, .int (nI 1)), (14, .int (cl (24 + j) 1)), (15, .int (cl (24 + j) 2)), (13, .int (nI j)), (3, .int (nI tm)), (2, .ref (ad 28)), (1, .ref (ad 0)), (0, .ref b)]) hx hb dL_law_796 hl (by decide) rfl (fun ls hl => ?_)
                  refine lv_iload hx hb dL_law_798 (lv_at hl 1 rfl) ?_
                  refine lv_if_ne (tgt := 808) hx hb dL_law_800 (by decide) (fun _ => ?_) (fun h => absurd h (by decide))
                  refine lv_iload hx hb dL_law_808 (lv_at hl 1 rfl) ?_
                  refine lv_iconst (v := 1) hx hb dL_law_810 (by decide) ?_
                  refine lv_icmp_ne (tgt := 819) hx hb dL_law_811 (by decide) (fun h => absurd (by decide) h) (fun _ => ?_)
                  refine lv_bipush (v := 50) hx hb dL_law_814 (by decide) ?_
                  refine lv_goto (tgt := 821) hx hb dL_law_816 (by decide) ?_
                  refine lv_istore (lv' := [(20, .int 50), (19, .int 2), (18, .int (nI 1)), (14, .int (cl (24 + j) 1)), (15, .int (cl (24 + j) 2)), (13, .int (nI j)), (3, .int (nI tm)), (2, .ref (ad 28)), (1, .ref (ad 0)), (0, .ref b)]) hx hb dL_law_821 hl (by decide) rfl (fun ls hl => ?_)
                  refine lv_iload hx hb dL_law_823 (lv_at hl 1 rfl) ?_
                  refine lv_if_ne (tgt := 832) hx hb dL_law_825 (by decide) (fun _ => ?_) (fun h => absurd h (by decide))
                  refine lv_iconst (v := 0) hx hb dL_law_832 (by decide) ?_
                  refine lv_aload_n hx hb dL_law_833 rfl (lv_at hl 8 rfl) ?_
                  refine lv_iload hx hb dL_law_834 (lv_at hl 5 rfl) ?_
                  refine lv_bipush (v := 6) hx hb dL_law_836 (by decide) ?_
                  refine z_cVi (As := [.int (nI j), .int (nI 6)]) (rest := [.int 0]) (k := 0) S hE hW (cX3_boat0_ok l D (n0 + 3 + N) ad cy sa H.size (by omega) cl (exS cy ad N B (hourS al) (exH cy a0 n0 N (pfx (f1 al) N) (pfx (f2 al) N) (wsP (fT al) N 0) ex)) B hIc.1.2.2.1 hIc.1.2.2.2.1 j (by omega) 6 (by omega)) (cwV 2 hts gL_law_X3_boat rfl rfl rfl (by decide +kernel) ⟨Nat.le_of_ble_eq_true rfl, Nat.le_of_ble_eq_true rfl⟩) (by omega) cC_0 rfl rfl rfl hl.1 rfl (Nat.le_of_ble_eq_true rfl) dL_law_838 ⟨(Nat.le_trans (m := 600000) (by omega) (Nat.le_of_ble_eq_true rfl)), (Nat.le_trans (m := 600000) (by omega) (Nat.le_of_ble_eq_true rfl))⟩ (fun r _ H locs hp hW => ?_)
                  subst hp
                  refine z_top2 (y := ((cl (24 + j) 0 - cl (24 + j) 1) - cl (24 + j) 2)) (vb_eq (by omega)).2.2.2.2.2 ?_
                  refine lv_iload hx hb dL_law_841 (lv_at hl 0 rfl) ?_
                  refine lv_icmp_ge (tgt := 850) hx hb dL_law_843 (by decide) (fun _ => ?_) (fun h => absurd v1 h)
                  refine lv_iconst (v := 0) hx hb dL_law_850 (by decide) ?_
                  refine lv_icmp_ne (tgt := 928) hx hb dL_law_851 (by decide) (fun h => absurd (by decide) h) (fun _ => ?_)
                  refine lv_iload hx hb dL_law_854 (lv_at hl 1 rfl) ?_
                  refine lv_iconst (v := 1) hx hb dL_law_856 (by decide) ?_
                  refine lv_icmp_ne (tgt := 891) hx hb dL_law_857 (by decide) (fun _ => ?_) (fun h => absurd h (by decide))
                  refine lv_iload hx hb dL_law_891 (lv_at hl 1 rfl) ?_
                  refine lv_iconst (v := 2) hx hb dL_law_893 (by decide) ?_
                  refine lv_icmp_ne (tgt := 930) hx hb dL_law_894 (by decide) (fun h => absurd (by decide) h) (fun _ => ?_)
                  refine lv_iload hx hb dL_law_897 (lv_at hl 3 rfl) ?_
                  refine lv_iload hx hb dL_law_899 (lv_at hl 0 rfl) ?_
                  refine lv_iadd hx hb dL_law_901 ?_
                  refine lv_iload hx hb dL_law_902 (lv_at hl 4 rfl) ?_
                  refine lv_isub hx hb dL_law_904 ?_
                  refine z_mabs S hl.1 l141 ls_abs li_Math lc_abs ⟨Nat.le_of_ble_eq_true rfl, Nat.le_of_ble_eq_true rfl, (Nat.le_trans (m := 600000) (by omega) (Nat.le_of_ble_eq_true rfl)), (Nat.le_trans (m := 600000) (by omega) (Nat.le_of_ble_eq_true rfl))⟩ dL_law_905 (v := zab ((cl (24 + j) 1 + 50) - cl (24 + j) 2)) rfl ?_
                  refine lv_bipush (v := 40) hx hb dL_law_908 (by decide) ?_
                  refine lv_idiv hx hb dL_law_910 (by decide) ?_
                  refine lv_iload hx hb dL_law_911 (lv_at hl 3 rfl) ?_
                  refine lv_iload hx hb dL_law_913 (lv_at hl 0 rfl) ?_
                  refine lv_isub hx hb dL_law_915 ?_
                  refine lv_iload hx hb dL_law_916 (lv_at hl 4 rfl) ?_
                  refine lv_isub hx hb dL_law_918 ?_
                  refine z_mabs S hl.1 l141 ls_abs li_Math lc_abs ⟨Nat.le_of_ble_eq_true rfl, Nat.le_of_ble_eq_true rfl, (Nat.le_trans (m := 600000) (by omega) (Nat.le_of_ble_eq_true rfl)), (Nat.le_trans (m := 600000) (by omega) (Nat.le_of_ble_eq_true rfl))⟩ dL_law_919 (v := zab ((cl (24 + j) 1 - 50) - cl (24 + j) 2)) rfl ?_
                  refine lv_bipush (v := 40) hx hb dL_law_922 (by decide) ?_
                  refine lv_idiv hx hb dL_law_924 (by decide) ?_
                  refine lv_icmp_gt (tgt := 930) hx hb dL_law_925 (by decide) (fun _ => ?_) (fun h => absurd v2 h)
                  refine lv_iinc (v := nI (1 + 1)) (lv' := [(18, .int (nI (1 + 1))), (20, .int 50), (19, .int 2), (14, .int (cl (24 + j) 1)), (15, .int (cl (24 + j) 2)), (13, .int (nI j)), (3, .int (nI tm)), (2, .ref (ad 28)), (1, .ref (ad 0)), (0, .ref b)]) hx hb dL_law_930 hl (k := 2) rfl (nI_1 _) (by decide) rfl (fun ls hl => ?_)
                  refine lv_goto (tgt := 782) hx hb dL_law_933 (by decide) ?_
                  refine W.widen (k := cells + 3 * j + (1 + 1)) (n := slots + 18 * j + 6 * (1 + 1)) (by omega) (by omega) ?_
                  exact ihq (1 + 1) H locs ls (by omega) hW (lv_sub hl [0, 3, 4, 5, 6, 7, 8, 9] rfl)
              · refine lv_iload hx hb dL_law_782 (lv_at hl 0 rfl) ?_
                refine lv_iconst (v := 3) hx hb dL_law_784 (by decide) ?_
                refine lv_icmp_ge (tgt := 936) hx hb dL_law_785 (by decide) (fun h => absurd h (by decide)) (fun _ => ?_)
                refine lv_aload_n hx hb dL_law_788 rfl (lv_at hl 6 rfl) ?_
                refine lv_iload hx hb dL_law_789 (lv_at hl 3 rfl) ?_
                refine lv_iload hx hb dL_law_791 (lv_at hl 0 rfl) ?_
                refine z_xVi (As := [.int (nI j), .int (nI 2)]) (rest := []) (k := 0) S hE hW (cX3_advise_ok l D (n0 + 3 + N) ad cy sa H.size (by omega) cl (exS cy ad N B (hourS al) (exH cy a0 n0 N (pfx (f1 al) N) (pfx (f2 al) N) (wsP (fT al) N 0) ex)) (nI j) (nI 2) B hIc.1.2.2.1 hIc.1.2.2.2.1 hfl) (cwV 2 hts gL_law_X3_advise rfl rfl rfl (by decide +kernel) ⟨Nat.le_of_ble_eq_true rfl, Nat.le_of_ble_eq_true rfl⟩) (by omega) cC_0 rfl rfl rfl hl.1 rfl (Nat.le_of_ble_eq_true rfl) dL_law_793 ⟨(Nat.le_trans (m := 600000) (by omega) (Nat.le_of_ble_eq_true rfl)), (Nat.le_trans (m := 600000) (by omega) (Nat.le_of_ble_eq_true rfl))⟩ (fun E x9 q9 H locs hbad hW hx9 hv9 hc9 => absurd hbad (zbad_0 (k0_advise hIc.1.2.2.1 hIc.1.2.2.2.1 hj (by decide)))) (fun r _ H locs hp hW => ?_)
                obtain ⟨-, rfl⟩ := hp
                rcases adv_eq (w := 20) (k := nI 2) (by omega) hj hbt (by decide) (by decide) with ⟨v1, v9⟩ | ⟨v1, v2, v9⟩ | ⟨v1, v2, v9⟩
                · refine z_top2 (y := 0) v9 ?_
                  refine lv_istore (lv' := [(19, .int 0), (18, .int (nI 2)), (14, .int (cl (24 + j) 1)), (15, .int (cl (24 + j) 2)), (13, .int (nI j)), (3, .int (nI tm)), (2, .ref (ad 28)), (1, .ref (ad 0)), (0, .ref b)]) hx hb dL_law_796 hl (by decide) rfl (fun ls hl => ?_)
                  refine lv_iload hx hb dL_law_798 (lv_at hl 1 rfl) ?_
                  refine lv_if_ne (tgt := 808) hx hb dL_law_800 (by decide) (fun _ => ?_) (fun h => absurd h (by decide))
                  refine lv_iload hx hb dL_law_808 (lv_at hl 1 rfl) ?_
                  refine lv_iconst (v := 1) hx hb dL_law_810 (by decide) ?_
                  refine lv_icmp_ne (tgt := 819) hx hb dL_law_811 (by decide) (fun _ => ?_) (fun h => absurd h (by decide))
                  refine lv_bipush (v := 20) hx hb dL_law_819 (by decide) ?_
                  refine lv_istore (lv' := [(20, .int 20), (19, .int 0), (18, .int (nI 2)), (14, .int (cl (24 + j) 1)), (15, .int (cl (24 + j) 2)), (13, .int (nI j)), (3, .int (nI tm)), (2, .ref (ad 28)), (1, .ref (ad 0)), (0, .ref b)]) hx hb dL_law_821 hl (by decide) rfl (fun ls hl => ?_)
                  refine lv_iload hx hb dL_law_823 (lv_at hl 1 rfl) ?_
                  refine lv_if_ne (tgt := 832) hx hb dL_law_825 (by decide) (fun h => absurd (by decide) h) (fun _ => ?_)
                  refine lv_iconst (v := 1) hx hb dL_law_828 (by decide) ?_
                  refine lv_goto (tgt := 833) hx hb dL_law_829 (by decide) ?_
                  refine lv_aload_n hx hb dL_law_833 rfl (lv_at hl 8 rfl) ?_
                  refine lv_iload hx hb dL_law_834 (lv_at hl 5 rfl) ?_
                  refine lv_bipush (v := 6) hx hb dL_law_836 (by decide) ?_
                  refine z_cVi (As := [.int (nI j), .int (nI 6)]) (rest := [.int 1]) (k := 0) S hE hW (cX3_boat0_ok l D (n0 + 3 + N) ad cy sa H.size (by omega) cl (exS cy ad N B (hourS al) (exH cy a0 n0 N (pfx (f1 al) N) (pfx (f2 al) N) (wsP (fT al) N 0) ex)) B hIc.1.2.2.1 hIc.1.2.2.2.1 j (by omega) 6 (by omega)) (cwV 2 hts gL_law_X3_boat rfl rfl rfl (by decide +kernel) ⟨Nat.le_of_ble_eq_true rfl, Nat.le_of_ble_eq_true rfl⟩) (by omega) cC_0 rfl rfl rfl hl.1 rfl (Nat.le_of_ble_eq_true rfl) dL_law_838 ⟨(Nat.le_trans (m := 600000) (by omega) (Nat.le_of_ble_eq_true rfl)), (Nat.le_trans (m := 600000) (by omega) (Nat.le_of_ble_eq_true rfl))⟩ (fun r _ H locs hp hW => ?_)
                  subst hp
                  refine z_top2 (y := ((cl (24 + j) 0 - cl (24 + j) 1) - cl (24 + j) 2)) (vb_eq (by omega)).2.2.2.2.2 ?_
                  refine lv_iload hx hb dL_law_841 (lv_at hl 0 rfl) ?_
                  refine lv_icmp_ge (tgt := 850) hx hb dL_law_843 (by decide) (fun h => absurd h v1) (fun _ => ?_)
                  refine lv_iconst (v := 1) hx hb dL_law_846 (by decide) ?_
                  refine lv_goto (tgt := 851) hx hb dL_law_847 (by decide) ?_
                  refine lv_icmp_ne (tgt := 928) hx hb dL_law_851 (by decide) (fun h => absurd (by decide) h) (fun _ => ?_)
                  refine lv_iload hx hb dL_law_854 (lv_at hl 1 rfl) ?_
                  refine lv_iconst (v := 1) hx hb dL_law_856 (by decide) ?_
                  refine lv_icmp_ne (tgt := 891) hx hb dL_law_857 (by decide) (fun _ => ?_) (fun h => absurd h (by decide))
                  refine lv_iload hx hb dL_law_891 (lv_at hl 1 rfl) ?_
                  refine lv_iconst (v := 2) hx hb dL_law_893 (by decide) ?_
                  refine lv_icmp_ne (tgt := 930) hx hb dL_law_894 (by decide) (fun _ => ?_) (fun h => absurd h (by decide))
                  refine lv_iinc (v := nI (2 + 1)) (lv' := [(18, .int (nI (2 + 1))), (20, .int 20), (19, .int 0), (14, .int (cl (24 + j) 1)), (15, .int (cl (24 + j) 2)), (13, .int (nI j)), (3, .int (nI tm)), (2, .ref (ad 28)), (1, .ref (ad 0)), (0, .ref b)]) hx hb dL_law_930 hl (k := 2) rfl (nI_1 _) (by decide) rfl (fun ls hl => ?_)
                  refine lv_goto (tgt := 782) hx hb dL_law_933 (by decide) ?_
                  refine W.widen (k := cells + 3 * j + (2 + 1)) (n := slots + 18 * j + 6 * (2 + 1)) (by omega) (by omega) ?_
                  exact ihq (2 + 1) H locs ls (by omega) hW (lv_sub hl [0, 3, 4, 5, 6, 7, 8, 9] rfl)
                · refine z_top2 (y := 1) v9 ?_
                  refine lv_istore (lv' := [(19, .int 1), (18, .int (nI 2)), (14, .int (cl (24 + j) 1)), (15, .int (cl (24 + j) 2)), (13, .int (nI j)), (3, .int (nI tm)), (2, .ref (ad 28)), (1, .ref (ad 0)), (0, .ref b)]) hx hb dL_law_796 hl (by decide) rfl (fun ls hl => ?_)
                  refine lv_iload hx hb dL_law_798 (lv_at hl 1 rfl) ?_
                  refine lv_if_ne (tgt := 808) hx hb dL_law_800 (by decide) (fun _ => ?_) (fun h => absurd h (by decide))
                  refine lv_iload hx hb dL_law_808 (lv_at hl 1 rfl) ?_
                  refine lv_iconst (v := 1) hx hb dL_law_810 (by decide) ?_
                  refine lv_icmp_ne (tgt := 819) hx hb dL_law_811 (by decide) (fun _ => ?_) (fun h => absurd h (by decide))
                  refine lv_bipush (v := 20) hx hb dL_law_819 (by decide) ?_
                  refine lv_istore (lv' := [(20, .int 20), (19, .int 1), (18, .int (nI 2)), (14, .int (cl (24 + j) 1)), (15, .int (cl (24 + j) 2)), (13, .int (nI j)), (3, .int (nI tm)), (2, .ref (ad 28)), (1, .ref (ad 0)), (0, .ref b)]) hx hb dL_law_821 hl (by decide) rfl (fun ls hl => ?_)
                  refine lv_iload hx hb dL_law_823 (lv_at hl 1 rfl) ?_
                  refine lv_if_ne (tgt := 832) hx hb dL_law_825 (by decide) (fun _ => ?_) (fun h => absurd h (by decide))
                  refine lv_iconst (v := 0) hx hb dL_law_832 (by decide) ?_
                  refine lv_aload_n hx hb dL_law_833 rfl (lv_at hl 8 rfl) ?_
                  refine lv_iload hx hb dL_law_834 (lv_at hl 5 rfl) ?_
                  refine lv_bipush (v := 6) hx hb dL_law_836 (by decide) ?_
                  refine z_cVi (As := [.int (nI j), .int (nI 6)]) (rest := [.int 0]) (k := 0) S hE hW (cX3_boat0_ok l D (n0 + 3 + N) ad cy sa H.size (by omega) cl (exS cy ad N B (hourS al) (exH cy a0 n0 N (pfx (f1 al) N) (pfx (f2 al) N) (wsP (fT al) N 0) ex)) B hIc.1.2.2.1 hIc.1.2.2.2.1 j (by omega) 6 (by omega)) (cwV 2 hts gL_law_X3_boat rfl rfl rfl (by decide +kernel) ⟨Nat.le_of_ble_eq_true rfl, Nat.le_of_ble_eq_true rfl⟩) (by omega) cC_0 rfl rfl rfl hl.1 rfl (Nat.le_of_ble_eq_true rfl) dL_law_838 ⟨(Nat.le_trans (m := 600000) (by omega) (Nat.le_of_ble_eq_true rfl)), (Nat.le_trans (m := 600000) (by omega) (Nat.le_of_ble_eq_true rfl))⟩ (fun r _ H locs hp hW => ?_)
                  subst hp
                  refine z_top2 (y := ((cl (24 + j) 0 - cl (24 + j) 1) - cl (24 + j) 2)) (vb_eq (by omega)).2.2.2.2.2 ?_
                  refine lv_iload hx hb dL_law_841 (lv_at hl 0 rfl) ?_
                  refine lv_icmp_ge (tgt := 850) hx hb dL_law_843 (by decide) (fun _ => ?_) (fun h => absurd v1 h)
                  refine lv_iconst (v := 0) hx hb dL_law_850 (by decide) ?_
                  refine lv_icmp_ne (tgt := 928) hx hb dL_law_851 (by decide) (fun h => absurd (by decide) h) (fun _ => ?_)
                  refine lv_iload hx hb dL_law_854 (lv_at hl 1 rfl) ?_
                  refine lv_iconst (v := 1) hx hb dL_law_856 (by decide) ?_
                  refine lv_icmp_ne (tgt := 891) hx hb dL_law_857 (by decide) (fun h => absurd (by decide) h) (fun _ => ?_)
                  refine lv_iload hx hb dL_law_860 (lv_at hl 3 rfl) ?_
                  refine lv_iload hx hb dL_law_862 (lv_at hl 0 rfl) ?_
                  refine lv_iadd hx hb dL_law_864 ?_
                  refine lv_iload hx hb dL_law_865 (lv_at hl 4 rfl) ?_
                  refine lv_isub hx hb dL_law_867 ?_
                  refine z_mabs S hl.1 l141 ls_abs li_Math lc_abs ⟨Nat.le_of_ble_eq_true rfl, Nat.le_of_ble_eq_true rfl, (Nat.le_trans (m := 600000) (by omega) (Nat.le_of_ble_eq_true rfl)), (Nat.le_trans (m := 600000) (by omega) (Nat.le_of_ble_eq_true rfl))⟩ dL_law_868 (v := zab ((cl (24 + j) 1 + 20) - cl (24 + j) 2)) rfl ?_
                  refine lv_bipush (v := 40) hx hb dL_law_871 (by decide) ?_
                  refine lv_idiv hx hb dL_law_873 (by decide) ?_
                  refine lv_iload hx hb dL_law_874 (lv_at hl 3 rfl) ?_
                  refine lv_iload hx hb dL_law_876 (lv_at hl 0 rfl) ?_
                  refine lv_isub hx hb dL_law_878 ?_
                  refine lv_iload hx hb dL_law_879 (lv_at hl 4 rfl) ?_
                  refine lv_isub hx hb dL_law_881 ?_
                  refine z_mabs S hl.1 l141 ls_abs li_Math lc_abs ⟨Nat.le_of_ble_eq_true rfl, Nat.le_of_ble_eq_true rfl, (Nat.le_trans (m := 600000) (by omega) (Nat.le_of_ble_eq_true rfl)), (Nat.le_trans (m := 600000) (by omega) (Nat.le_of_ble_eq_true rfl))⟩ dL_law_882 (v := zab ((cl (24 + j) 1 - 20) - cl (24 + j) 2)) rfl ?_
                  refine lv_bipush (v := 40) hx hb dL_law_885 (by decide) ?_
                  refine lv_idiv hx hb dL_law_887 (by decide) ?_
                  refine lv_icmp_gt (tgt := 928) hx hb dL_law_888 (by decide) (fun h => absurd h v2) (fun _ => ?_)
                  refine lv_iload hx hb dL_law_891 (lv_at hl 1 rfl) ?_
                  refine lv_iconst (v := 2) hx hb dL_law_893 (by decide) ?_
                  refine lv_icmp_ne (tgt := 930) hx hb dL_law_894 (by decide) (fun _ => ?_) (fun h => absurd h (by decide))
                  refine lv_iinc (v := nI (2 + 1)) (lv' := [(18, .int (nI (2 + 1))), (20, .int 20), (19, .int 1), (14, .int (cl (24 + j) 1)), (15, .int (cl (24 + j) 2)), (13, .int (nI j)), (3, .int (nI tm)), (2, .ref (ad 28)), (1, .ref (ad 0)), (0, .ref b)]) hx hb dL_law_930 hl (k := 2) rfl (nI_1 _) (by decide) rfl (fun ls hl => ?_)
                  refine lv_goto (tgt := 782) hx hb dL_law_933 (by decide) ?_
                  refine W.widen (k := cells + 3 * j + (2 + 1)) (n := slots + 18 * j + 6 * (2 + 1)) (by omega) (by omega) ?_
                  exact ihq (2 + 1) H locs ls (by omega) hW (lv_sub hl [0, 3, 4, 5, 6, 7, 8, 9] rfl)
                · refine z_top2 (y := 2) v9 ?_
                  refine lv_istore (lv' := [(19, .int 2), (18, .int (nI 2)), (14, .int (cl (24 + j) 1)), (15, .int (cl (24 + j) 2)), (13, .int (nI j)), (3, .int (nI tm)), (2, .ref (ad 28)), (1, .ref (ad 0)), (0, .ref b)]) hx hb dL_law_796 hl (by decide) rfl (fun ls hl => ?_)
                  refine lv_iload hx hb dL_law_798 (lv_at hl 1 rfl) ?_
                  refine lv_if_ne (tgt := 808) hx hb dL_law_800 (by decide) (fun _ => ?_) (fun h => absurd h (by decide))
                  refine lv_iload hx hb dL_law_808 (lv_at hl 1 rfl) ?_
                  refine lv_iconst (v := 1) hx hb dL_law_810 (by decide) ?_
                  refine lv_icmp_ne (tgt := 819) hx hb dL_law_811 (by decide) (fun _ => ?_) (fun h => absurd h (by decide))
                  refine lv_bipush (v := 20) hx hb dL_law_819 (by decide) ?_
                  refine lv_istore (lv' := [(20, .int 20), (19, .int 2), (18, .int (nI 2)), (14, .int (cl (24 + j) 1)), (15, .int (cl (24 + j) 2)), (13, .int (nI j)), (3, .int (nI tm)), (2, .ref (ad 28)), (1, .ref (ad 0)), (0, .ref b)]) hx hb dL_law_821 hl (by decide) rfl (fun ls hl => ?_)
                  refine lv_iload hx hb dL_law_823 (lv_at hl 1 rfl) ?_
                  refine lv_if_ne (tgt := 832) hx hb dL_law_825 (by decide) (fun _ => ?_) (fun h => absurd h (by decide))
                  refine lv_iconst (v := 0) hx hb dL_law_832 (by decide) ?_
                  refine lv_aload_n hx hb dL_law_833 rfl (lv_at hl 8 rfl) ?_
                  refine lv_iload hx hb dL_law_834 (lv_at hl 5 rfl) ?_
                  refine lv_bipush (v := 6) hx hb dL_law_836 (by decide) ?_
                  refine z_cVi (As := [.int (nI j), .int (nI 6)]) (rest := [.int 0]) (k := 0) S hE hW (cX3_boat0_ok l D (n0 + 3 + N) ad cy sa H.size (by omega) cl (exS cy ad N B (hourS al) (exH cy a0 n0 N (pfx (f1 al) N) (pfx (f2 al) N) (wsP (fT al) N 0) ex)) B hIc.1.2.2.1 hIc.1.2.2.2.1 j (by omega) 6 (by omega)) (cwV 2 hts gL_law_X3_boat rfl rfl rfl (by decide +kernel) ⟨Nat.le_of_ble_eq_true rfl, Nat.le_of_ble_eq_true rfl⟩) (by omega) cC_0 rfl rfl rfl hl.1 rfl (Nat.le_of_ble_eq_true rfl) dL_law_838 ⟨(Nat.le_trans (m := 600000) (by omega) (Nat.le_of_ble_eq_true rfl)), (Nat.le_trans (m := 600000) (by omega) (Nat.le_of_ble_eq_true rfl))⟩ (fun r _ H locs hp hW => ?_)
                  subst hp
                  refine z_top2 (y := ((cl (24 + j) 0 - cl (24 + j) 1) - cl (24 + j) 2)) (vb_eq (by omega)).2.2.2.2.2 ?_
                  refine lv_iload hx hb dL_law_841 (lv_at hl 0 rfl) ?_
                  refine lv_icmp_ge (tgt := 850) hx hb dL_law_843 (by decide) (fun _ => ?_) (fun h => absurd v1 h)
                  refine lv_iconst (v := 0) hx hb dL_law_850 (by decide) ?_
                  refine lv_icmp_ne (tgt := 928) hx hb dL_law_851 (by decide) (fun h => absurd (by decide) h) (fun _ => ?_)
                  refine lv_iload hx hb dL_law_854 (lv_at hl 1 rfl) ?_
                  refine lv_iconst (v := 1) hx hb dL_law_856 (by decide) ?_
                  refine lv_icmp_ne (tgt := 891) hx hb dL_law_857 (by decide) (fun _ => ?_) (fun h => absurd h (by decide))
                  refine lv_iload hx hb dL_law_891 (lv_at hl 1 rfl) ?_
                  refine lv_iconst (v := 2) hx hb dL_law_893 (by decide) ?_
                  refine lv_icmp_ne (tgt := 930) hx hb dL_law_894 (by decide) (fun h => absurd (by decide) h) (fun _ => ?_)
                  refine lv_iload hx hb dL_law_897 (lv_at hl 3 rfl) ?_
                  refine lv_iload hx hb dL_law_899 (lv_at hl 0 rfl) ?_
                  refine lv_iadd hx hb dL_law_901 ?_
                  refine lv_iload hx hb dL_law_902 (lv_at hl 4 rfl) ?_
                  refine lv_isub hx hb dL_law_904 ?_
                  refine z_mabs S hl.1 l141 ls_abs li_Math lc_abs ⟨Nat.le_of_ble_eq_true rfl, Nat.le_of_ble_eq_true rfl, (Nat.le_trans (m := 600000) (by omega) (Nat.le_of_ble_eq_true rfl)), (Nat.le_trans (m := 600000) (by omega) (Nat.le_of_ble_eq_true rfl))⟩ dL_law_905 (v := zab ((cl (24 + j) 1 + 20) - cl (24 + j) 2)) rfl ?_
                  refine lv_bipush (v := 40) hx hb dL_law_908 (by decide) ?_
                  refine lv_idiv hx hb dL_law_910 (by decide) ?_
                  refine lv_iload hx hb dL_law_911 (lv_at hl 3 rfl) ?_
                  refine lv_iload hx hb dL_law_913 (lv_at hl 0 rfl) ?_
                  refine lv_isub hx hb dL_law_915 ?_
                  refine lv_iload hx hb dL_law_916 (lv_at hl 4 rfl) ?_
                  refine lv_isub hx hb dL_law_918 ?_
                  refine z_mabs S hl.1 l141 ls_abs li_Math lc_abs ⟨Nat.le_of_ble_eq_true rfl, Nat.le_of_ble_eq_true rfl, (Nat.le_trans (m := 600000) (by omega) (Nat.le_of_ble_eq_true rfl)), (Nat.le_trans (m := 600000) (by omega) (Nat.le_of_ble_eq_true rfl))⟩ dL_law_919 (v := zab ((cl (24 + j) 1 - 20) - cl (24 + j) 2)) rfl ?_
                  refine lv_bipush (v := 40) hx hb dL_law_922 (by decide) ?_
                  refine lv_idiv hx hb dL_law_924 (by decide) ?_
                  refine lv_icmp_gt (tgt := 930) hx hb dL_law_925 (by decide) (fun _ => ?_) (fun h => absurd v2 h)
                  refine lv_iinc (v := nI (2 + 1)) (lv' := [(18, .int (nI (2 + 1))), (20, .int 20), (19, .int 2), (14, .int (cl (24 + j) 1)), (15, .int (cl (24 + j) 2)), (13, .int (nI j)), (3, .int (nI tm)), (2, .ref (ad 28)), (1, .ref (ad 0)), (0, .ref b)]) hx hb dL_law_930 hl (k := 2) rfl (nI_1 _) (by decide) rfl (fun ls hl => ?_)
                  refine lv_goto (tgt := 782) hx hb dL_law_933 (by decide) ?_
                  refine W.widen (k := cells + 3 * j + (2 + 1)) (n := slots + 18 * j + 6 * (2 + 1)) (by omega) (by omega) ?_
                  exact ihq (2 + 1) H locs ls (by omega) hW (lv_sub hl [0, 3, 4, 5, 6, 7, 8, 9] rfl)
          exact L782 (3) 0 _ _ ls (by omega) hW (lv_sub hl [0, 4, 3, 5, 6, 7, 8, 9] rfl)
  exact L602 (B) 0 _ _ ls (by omega) hW (lv_sub hl [0, 1, 2, 3, 4] rfl)
