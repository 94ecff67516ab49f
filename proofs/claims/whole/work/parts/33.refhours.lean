/-! the reference: hours -/
/-- the first j of them, one behind the other -/
def opN (F : Nat → (Nat → Nat → Int32) → Nat → Nat → Int32) (al : Nat → Nat → Int32) : Nat → Nat → Nat → Int32
  | 0 => al
  | j + 1 => F j (opN F al j)
def opA (g : Int32) (i : Nat) (al : Nat → Nat → Int32) : Nat → Nat → Int32 := if al (10 + i) 4 = 1 then slideS al i 0 g else al
def opB (i : Nat) (al : Nat → Nat → Int32) : Nat → Nat → Int32 := if al (10 + i) 4 = 2 then climbS al i else al
def opC (i : Nat) (al : Nat → Nat → Int32) : Nat → Nat → Int32 := if al (10 + i) 4 = 1 ∧ al (10 + i) 3 = 0 then zup (unloadS al i 0) (10 + i) 4 2 else al
/-- what is done touches the cells W alone, and looks at them alone -/
def LocW (F : (Nat → Nat → Int32) → Nat → Nat → Int32) (W : Nat → Prop) : Prop := (∀ al k, ¬ W k → F al k = al k) ∧ ∀ al be : Nat → Nat → Int32, (∀ k, W k → al k = be k) → ∀ k, W k → F al k = F be k
theorem LocW.comm {F G : (Nat → Nat → Int32) → Nat → Nat → Int32} {W V : Nat → Prop} (hF : LocW F W) (hG : LocW G V) (hd : ∀ k, W k → ¬ V k) (al : Nat → Nat → Int32) : F (G al) = G (F al) := by
  funext k
  by_cases w : W k
  · rw [hF.2 (G al) al (fun q hq => hG.1 al q (hd q hq)) k w, hG.1 (F al) k (hd k w)]
  · rw [hF.1 (G al) k w]
    by_cases v : V k
    · exact (hG.2 (F al) al (fun q hq => hF.1 al q (fun z => hd q z hq)) k v).symm
    · rw [hG.1 al k v, hG.1 (F al) k v, hF.1 al k w]
theorem opA_o {g : Int32} {i k : Nat} {al : Nat → Nat → Int32} (h1 : k ≠ 10 + i) (h2 : k ≠ 6) : opA g i al k = al k := by
  unfold opA
  split
  · exact slideS_o h1 h2
  · rfl
theorem opB_o {i k : Nat} {al : Nat → Nat → Int32} (h1 : k ≠ 10 + i) : opB i al k = al k := by
  unfold opB
  split
  · exact climbS_o h1
  · rfl
theorem opC_o {i k : Nat} {al : Nat → Nat → Int32} (h1 : k ≠ 10 + i) (h2 : k ≠ 8) : opC i al k = al k := by
  unfold opC
  split
  · rw [zup_o h1]
    exact unloadS_o h1 h2
  · rfl
theorem opN_o {F : Nat → (Nat → Nat → Int32) → Nat → Nat → Int32} {k : Nat} {al : Nat → Nat → Int32} : ∀ j, (∀ i x, i < j → F i x k = x k) → opN F al j k = al k
  | 0, _ => rfl
  | j + 1, h => by
    show F j (opN F al j) k = al k
    rw [h j _ (Nat.lt_succ_self j), opN_o j (fun i x hi => h i x (Nat.lt_succ_of_lt hi))]
theorem opN_inv {F : Nat → (Nat → Nat → Int32) → Nat → Nat → Int32} {P : (Nat → Nat → Int32) → Prop} {al : Nat → Nat → Int32} (h0 : P al) : ∀ j, (∀ i x, i < j → P x → P (F i x)) → P (opN F al j)
  | 0, _ => h0
  | j + 1, h => h j _ (Nat.lt_succ_self j) (opN_inv h0 j (fun i x hi => h i x (Nat.lt_succ_of_lt hi)))
theorem slideS_l {al be : Nat → Nat → Int32} {i : Nat} {g : Int32} (h1 : al (10 + i) = be (10 + i)) (h2 : al (6 + 0) = be (6 + 0)) {k : Nat} (hk : al k = be k) : slideS al i 0 g k = slideS be i 0 g k := by
  unfold slideS
  rw [h1, h2]
  split
  · funext f
    simp only [z_ap]
    rw [hk]
  · funext f
    simp only [z_ap]
    rw [hk]
theorem climbS_l {al be : Nat → Nat → Int32} {i : Nat} (h1 : al (10 + i) = be (10 + i)) {k : Nat} (hk : al k = be k) : climbS al i k = climbS be i k := by
  unfold climbS
  rw [h1]
  split
  · funext f
    simp only [z_ap]
    rw [hk]
  · funext f
    simp only [z_ap]
    rw [hk]
theorem unlS_l {al be : Nat → Nat → Int32} {i : Nat} (h1 : al (17 + i) = be (17 + i)) (h2 : al (8 + 0) = be (8 + 0)) : ∀ (m k : Nat), al k = be k → unlS al i 0 m k = unlS be i 0 m k
  | 0, _, hk => hk
  | m + 1, k, hk => by
    show zup (unlS al i 0 m) (8 + 0) (knN (al (17 + i) m)) (unlS al i 0 m (8 + 0) (knN (al (17 + i) m)) + 1) k = zup (unlS be i 0 m) (8 + 0) (knN (be (17 + i) m)) (unlS be i 0 m (8 + 0) (knN (be (17 + i) m)) + 1) k
    rw [h1]
    funext f
    simp only [z_ap]
    rw [unlS_l h1 h2 m k hk, unlS_l h1 h2 m (8 + 0) h2]
theorem unloadS_l {al be : Nat → Nat → Int32} {i : Nat} (h1 : al (10 + i) = be (10 + i)) (h2 : al (17 + i) = be (17 + i)) (h3 : al (8 + 0) = be (8 + 0)) {k : Nat} (hk : al k = be k) : unloadS al i 0 k = unloadS be i 0 k := by
  unfold unloadS
  rw [h1]
  funext f
  simp only [z_ap]
  rw [unlS_l h2 h3 _ k hk]
theorem locA {g : Int32} {i : Nat} : LocW (opA g i) (fun k => k = 10 + i ∨ k = 6) := by
  refine ⟨fun al k h => opA_o (fun q => h (Or.inl q)) (fun q => h (Or.inr q)), fun al be h k hk => ?_⟩
  unfold opA
  rw [h (10 + i) (Or.inl rfl)]
  split
  · exact slideS_l (h _ (Or.inl rfl)) (h _ (Or.inr rfl)) (h k hk)
  · exact h k hk
theorem locB {i : Nat} : LocW (opB i) (fun k => k = 10 + i) := by
  refine ⟨fun al k h => opB_o h, fun al be h k hk => ?_⟩
  unfold opB
  rw [h (10 + i) rfl]
  split
  · exact climbS_l (h _ rfl) (h k hk)
  · exact h k hk
theorem locC {i : Nat} : LocW (opC i) (fun k => k = 10 + i ∨ k = 17 + i ∨ k = 8) := by
  refine ⟨fun al k h => opC_o (fun q => h (Or.inl q)) (fun q => h (Or.inr (Or.inr q))), fun al be h k hk => ?_⟩
  unfold opC
  rw [h (10 + i) (Or.inl rfl)]
  split
  · funext f
    simp only [z_ap]
    rw [unloadS_l (h _ (Or.inl rfl)) (h _ (Or.inr (Or.inl rfl))) (h _ (Or.inr (Or.inr rfl))) (h k hk)]
  · exact h k hk
theorem opN_comm {F : Nat → (Nat → Nat → Int32) → Nat → Nat → Int32} {G : (Nat → Nat → Int32) → Nat → Nat → Int32} (al : Nat → Nat → Int32) : ∀ j, (∀ i x, i < j → F i (G x) = G (F i x)) → opN F (G al) j = G (opN F al j)
  | 0, _ => rfl
  | j + 1, h => by
    show F j (opN F (G al) j) = G (F j (opN F al j))
    rw [opN_comm al j (fun i x hi => h i x (Nat.lt_succ_of_lt hi)), h j _ (Nat.lt_succ_self j)]
theorem opABC {g : Int32} {i : Nat} (al : Nat → Nat → Int32) : opC i (opB i (opA g i al)) = travelS al i 0 g := by
  unfold travelS
  by_cases h1 : al (10 + i) 4 = 1
  · have eA : opA g i al = slideS al i 0 g := if_pos h1
    have e4 : slideS al i 0 g (10 + i) 4 = 1 := (slideS_4 (by decide)).trans h1
    have eB : opB i (slideS al i 0 g) = slideS al i 0 g := if_neg (by rw [e4]; decide)
    rw [eA, eB, if_pos h1]
    unfold opC comeDownS
    rw [e4]
    by_cases h0 : slideS al i 0 g (10 + i) 3 = 0
    · rw [if_pos ⟨rfl, h0⟩, if_pos h0]
    · rw [if_neg (fun q => h0 q.2), if_neg h0]
  · have eA : opA g i al = al := if_neg h1
    rw [eA, if_neg h1]
    by_cases h2 : al (10 + i) 4 = 2
    · have eB : opB i al = climbS al i := if_pos h2
      rw [eB, if_pos h2]
      refine if_neg (fun q => ?_)
      have q1 := q.1
      unfold climbS at q1
      split at q1
      · rw [zup_k, up_s] at q1
        exact absurd q1 (by decide)
      · rw [zup_k, up_n (by decide), h2] at q1
        exact absurd q1 (by decide)
    · have eB : opB i al = al := if_neg h2
      rw [eB, if_neg h2]
      exact if_neg (fun q => h1 q.1)
theorem opN_tr {al : Nat → Nat → Int32} {g : Int32} : ∀ N, N ≤ 6 → opN opC (opN opB (opN (opA g) al N) N) N = travN al 0 g N
  | 0, _ => rfl
  | N + 1, hN => by
    show opC N (opN opC (opB N (opN opB (opA g N (opN (opA g) al N)) N)) N) = travelS (travN al 0 g N) N 0 g
    rw [opN_comm (F := opB) (G := opA g N) (opN (opA g) al N) N (fun i x hi => LocW.comm locB locA (fun k hk => by omega) x)]
    rw [opN_comm (F := opC) (G := opB N) _ N (fun i x hi => LocW.comm locC locB (fun k hk => by omega) x)]
    rw [opN_comm (F := opC) (G := opA g N) _ N (fun i x hi => LocW.comm locC locA (fun k hk => by omega) x)]
    rw [opN_tr N (by omega)]
    exact opABC _
theorem abA {g : Int32} {i : Nat} {al : Nat → Nat → Int32} (h : abOK al) : abOK (opA g i al) := by
  intro q hq
  by_cases e : q = i
  · subst e
    obtain ⟨a, ha, ha8⟩ := h q hq
    unfold opA
    split
    · obtain ⟨b, hb, hb2⟩ := slideS_ab (g := g) (sh := 0) (by decide) ha ha8
      exact ⟨b, hb2, by omega⟩
    · exact ⟨a, ha, ha8⟩
  · rw [opA_o (by omega) (by omega)]
    exact h q hq
theorem abB {i : Nat} {al : Nat → Nat → Int32} (h : abOK al) : abOK (opB i al) := by
  intro q hq
  by_cases e : q = i
  · subst e
    obtain ⟨a, ha, ha8⟩ := h q hq
    refine ⟨a, ?_, ha8⟩
    unfold opB
    split
    · unfold climbS
      split
      · rw [zup_k, up_n (by decide), zup_k, up_n (by decide), ha]
      · rw [zup_k, up_n (by decide), ha]
    · exact ha
  · rw [opB_o (by omega)]
    exact h q hq
theorem ab2 {g : Int32} {N : Nat} {al : Nat → Nat → Int32} (h : abOK al) : abOK (opN opB (opN (opA g) al N) N) := opN_inv (opN_inv h N (fun _ _ _ q => abA q)) N (fun _ _ _ q => abB q)
set_option maxHeartbeats 4000000 in
set_option maxRecDepth 100000 in
theorem cX4_hourOn_ok (l : Launch) (D : va_G) (n : Nat) (ad cy sa : Nat → Nat) (sz : Nat) (hn : 35 ≤ n) (al : Nat → Nat → Int32) (th : Int32) (ex : Nat → va_E) (N : Nat) (hN : al 0 4 = nI N) (hN6 : N ≤ 6) (h : Nat) (hh : al 0 8 = nI h) (hh3 : h < 2 ^ 30) (hab : abOK al) : Met l yX4_hourOn wsX4_hourOn ({ frames := 2, cells := 0, slots := 0, locals := 81 }) (PW D n ad cy sa sz (cM cy ad (enc al th) ex) [.ref (ad 28)]) (QDv D n ad sz (cM cy ad (enc (hourS al) th) ex)) 0 0 (Acc n ad sz) := by
  refine zs_met (cc := cX4_hourOn) (maxL := 2) (ret := none) (own := RX4) (by decide) rfl rfl (Nat.le_of_ble_eq_true rfl) ?_
  intro p e s m args below meth c ls S hE hW hr hlk hsz hav hl
  subst hsz
  have hx := S.1
  have hb := S.2.1
  have hown := S.2.2.2.1
  have hts := S.2.2.2.2
  have hl : lv_has ls 2 [(0, .ref (ad 28))] := hl
  have f32 := hts (.fieldLink RX4 32 "PumiceSledgeModel" "sledges" "I") (by decide +kernel)
  have hi4 : ∀ w ∈ wsX40, w ∈ wsX4_hourOn := by decide +kernel
  have f25 := hts (.fieldLink RX4 25 "PumiceSledgeModel" "numbers" "[I") (by decide +kernel)
  refine lv_iconst (v := 0) hx hb dX4_hourOn_0 (by decide) ?_
  refine lv_istore_n (lv' := [(1, .int 0), (0, .ref (ad 28))]) hx hb dX4_hourOn_1 rfl hl (by decide) rfl (fun ls hl => ?_)
  have L2 : ∀ (kq j : Nat) (H : Heap) (locs : List Loc) (ls : Array Slot), j + kq = N → WS D n ad (cM cy ad (enc (opN (opA (al 3 (h % 8))) al j) th) ex) (Acc n ad s.heap.size) s.heap H locs → lv_has ls 2 [(0, .ref (ad 28)), (1, .int (nI j))] → W p l e { frames := 2, cells := 0, slots := 0, locals := 81 } s m args below meth c H locs 0 0 (MQ below (QDv D n ad s.heap.size (cM cy ad (enc (hourS al) th) ex)) args s 0 0 (Acc n ad s.heap.size)) (F0 m 2 ls []) := by
    intro kq
    induction kq with
    | zero =>
      intro j H locs ls hjk hW hl
      have hjN : j = N := by omega
      try rw [hjN] at hW
      try rw [hjN] at hl
      refine lv_iload_n hx hb dX4_hourOn_2 rfl (lv_at hl 1 rfl) ?_
      refine lv_aload_n hx hb dX4_hourOn_3 rfl (lv_at hl 0 rfl) ?_
      refine z_get (C := RX4) (T := TX4) (N := 9) (ci := 4) S hE hW hi4 rfl (Nat.lt_of_lt_of_le (by decide) hn) cM_0 1 (by decide) rfl f32 (v := .int (nI N)) (congrArg (fun z => some (Value.int z)) ((r_n).trans ((congrFun (opN_o N (fun i x hi => opA_o (by omega) (by omega))) 4).trans hN))) dX4_hourOn_4 ?_
      refine lv_icmp_ge (tgt := 31) hx hb dX4_hourOn_7 (by decide) (fun _ => ?_) (fun h => absurd (nI_le (Nat.le_refl N) (by omega)) h)
      refine lv_iconst (v := 0) hx hb dX4_hourOn_31 (by decide) ?_
      refine lv_istore_n (lv' := [(1, .int 0), (0, .ref (ad 28))]) hx hb dX4_hourOn_32 rfl hl (by decide) rfl (fun ls hl => ?_)
      have L33 : ∀ (kq j : Nat) (H : Heap) (locs : List Loc) (ls : Array Slot), j + kq = N → WS D n ad (cM cy ad (enc (opN opB (opN (opA (al 3 (h % 8))) al N) j) th) ex) (Acc n ad s.heap.size) s.heap H locs → lv_has ls 2 [(0, .ref (ad 28)), (1, .int (nI j))] → W p l e { frames := 2, cells := 0, slots := 0, locals := 81 } s m args below meth c H locs 0 0 (MQ below (QDv D n ad s.heap.size (cM cy ad (enc (hourS al) th) ex)) args s 0 0 (Acc n ad s.heap.size)) (F0 m 33 ls []) := by
        intro kq
        induction kq with
        | zero =>
          intro j H locs ls hjk hW hl
          have hjN : j = N := by omega
          try rw [hjN] at hW
          try rw [hjN] at hl
          refine lv_iload_n hx hb dX4_hourOn_33 rfl (lv_at hl 1 rfl) ?_
          refine lv_aload_n hx hb dX4_hourOn_34 rfl (lv_at hl 0 rfl) ?_
          refine z_get (C := RX4) (T := TX4) (N := 9) (ci := 4) S hE hW hi4 rfl (Nat.lt_of_lt_of_le (by decide) hn) cM_0 1 (by decide) rfl f32 (v := .int (nI N)) (congrArg (fun z => some (Value.int z)) ((r_n).trans (((congrFun (opN_o N (fun i x hi => opB_o (by omega))) 4).trans (congrFun (opN_o N (fun i x hi => opA_o (by omega) (by omega))) 4)).trans hN))) dX4_hourOn_35 ?_
          refine lv_icmp_ge (tgt := 62) hx hb dX4_hourOn_38 (by decide) (fun _ => ?_) (fun h => absurd (nI_le (Nat.le_refl N) (by omega)) h)
          refine lv_iconst (v := 0) hx hb dX4_hourOn_62 (by decide) ?_
          refine lv_istore_n (lv' := [(1, .int 0), (0, .ref (ad 28))]) hx hb dX4_hourOn_63 rfl hl (by decide) rfl (fun ls hl => ?_)
          have L64 : ∀ (kq j : Nat) (H : Heap) (locs : List Loc) (ls : Array Slot), j + kq = N → WS D n ad (cM cy ad (enc (opN opC (opN opB (opN (opA (al 3 (h % 8))) al N) N) j) th) ex) (Acc n ad s.heap.size) s.heap H locs → lv_has ls 2 [(0, .ref (ad 28)), (1, .int (nI j))] → W p l e { frames := 2, cells := 0, slots := 0, locals := 81 } s m args below meth c H locs 0 0 (MQ below (QDv D n ad s.heap.size (cM cy ad (enc (hourS al) th) ex)) args s 0 0 (Acc n ad s.heap.size)) (F0 m 64 ls []) := by
            intro kq
            induction kq with
            | zero =>
              intro j H locs ls hjk hW hl
              have hjN : j = N := by omega
              try rw [hjN] at hW
              try rw [hjN] at hl
              refine lv_iload_n hx hb dX4_hourOn_64 rfl (lv_at hl 1 rfl) ?_
              refine lv_aload_n hx hb dX4_hourOn_65 rfl (lv_at hl 0 rfl) ?_
              refine z_get (C := RX4) (T := TX4) (N := 9) (ci := 4) S hE hW hi4 rfl (Nat.lt_of_lt_of_le (by decide) hn) cM_0 1 (by decide) rfl f32 (v := .int (nI N)) (congrArg (fun z => some (Value.int z)) ((r_n).trans ((((congrFun (opN_o N (fun i x hi => opC_o (by omega) (by omega))) 4).trans (congrFun (opN_o N (fun i x hi => opB_o (by omega))) 4)).trans (congrFun (opN_o N (fun i x hi => opA_o (by omega) (by omega))) 4)).trans hN))) dX4_hourOn_66 ?_
              refine lv_icmp_ge (tgt := 102) hx hb dX4_hourOn_69 (by decide) (fun _ => ?_) (fun h => absurd (nI_le (Nat.le_refl N) (by omega)) h)
              refine lv_aload_n hx hb dX4_hourOn_102 rfl (lv_at hl 0 rfl) ?_
              refine z_get (C := RX4) (T := TX4) (N := 9) (ci := 4) S hE hW hi4 rfl (Nat.lt_of_lt_of_le (by decide) hn) cM_0 8 (by decide) rfl f25 (v := .ref (ad 34)) rfl dX4_hourOn_103 ?_
              refine lv_iconst (v := 0) hx hb dX4_hourOn_106 (by decide) ?_
              refine lv_dup2_11 hx hb dX4_hourOn_107 rfl rfl ?_
              refine z_ald S hE hW (Nat.lt_of_lt_of_le (by decide) hn) cM_6 0 rfl (by decide) (by decide) (v := al 0 8) ((r_m0).trans (((congrFun (opN_o N (fun i x hi => opC_o (by omega) (by omega))) 8).trans (congrFun (opN_o N (fun i x hi => opB_o (by omega))) 8)).trans (congrFun (opN_o N (fun i x hi => opA_o (by omega) (by omega))) 8))) dX4_hourOn_108 ?_
              refine lv_iconst (v := 1) hx hb dX4_hourOn_109 (by decide) ?_
              refine lv_iadd hx hb dX4_hourOn_110 ?_
              refine z_ast (ce' := cM cy ad (zup (enc (opN opC (opN opB (opN (opA (al 3 (h % 8))) al N) N) N) th) 6 0 (al 0 8 + 1)) ex) S hE hW (Nat.lt_of_lt_of_le (by decide) hn) cM_6 0 rfl (by decide) (by decide) pM_6 (fun j h => cM_o h) dX4_hourOn_111 (fun H locs hW => ?_)
              rw [e_m0] at hW
              exact ze_v S hW hr hlk () (congrArg (fun z => cM cy ad z ex) (congrArg (fun z => enc z th) (by unfold hourS; rw [hh, ix_nI (show h < 2 ^ 31 by omega), hN, ix_nI (show N < 2 ^ 31 by omega), opN_tr N hN6]))) trivial (Nat.le_of_ble_eq_true rfl) (Nat.le_of_ble_eq_true rfl) dX4_hourOn_112
            | succ kq ih =>
              intro j H locs ls hjk hW hl
              have hj : j < N := by omega
              obtain ⟨a, ha, ha8⟩ := ab2 (g := (al 3 (h % 8))) (N := N) hab j (by omega)
              have ha9 : (opN opC (opN opB (opN (opA (al 3 (h % 8))) al N) N) j) (10 + j) 2 = nI a := (congrFun (opN_o j (fun i x hi => opC_o (by omega) (by omega))) 2).trans ha
              refine lv_iload_n hx hb dX4_hourOn_64 rfl (lv_at hl 1 rfl) ?_
              refine lv_aload_n hx hb dX4_hourOn_65 rfl (lv_at hl 0 rfl) ?_
              refine z_get (C := RX4) (T := TX4) (N := 9) (ci := 4) S hE hW hi4 rfl (Nat.lt_of_lt_of_le (by decide) hn) cM_0 1 (by decide) rfl f32 (v := .int (nI N)) (congrArg (fun z => some (Value.int z)) ((r_n).trans ((((congrFun (opN_o j (fun i x hi => opC_o (by omega) (by omega))) 4).trans (congrFun (opN_o N (fun i x hi => opB_o (by omega))) 4)).trans (congrFun (opN_o N (fun i x hi => opA_o (by omega) (by omega))) 4)).trans hN))) dX4_hourOn_66 ?_
              refine lv_icmp_ge (tgt := 102) hx hb dX4_hourOn_69 (by decide) (fun h => absurd h (nI_ge hj (by omega))) (fun _ => ?_)
              refine lv_aload_n hx hb dX4_hourOn_72 rfl (lv_at hl 0 rfl) ?_
              refine lv_iload_n hx hb dX4_hourOn_73 rfl (lv_at hl 1 rfl) ?_
              refine lv_iconst (v := 3) hx hb dX4_hourOn_74 (by decide) ?_
              refine z_cVi (As := [.int (nI j), .int 3]) (rest := []) (k := 28) S hE hW (cX4_sl_ok l D n ad cy sa H.size hn (enc (opN opC (opN opB (opN (opA (al 3 (h % 8))) al N) N) j) th) ex j (by omega) 3 (by omega)) (cwV 2 hts gX4_hourOn_X4_sl rfl rfl rfl (by decide +kernel) ⟨Nat.le_of_ble_eq_true rfl, Nat.le_of_ble_eq_true rfl⟩) (Nat.lt_of_lt_of_le (by decide) hn) cM_0 rfl rfl rfl hl.1 rfl (Nat.le_of_ble_eq_true rfl) dX4_hourOn_75 ⟨Nat.le_of_ble_eq_true rfl, Nat.le_of_ble_eq_true rfl⟩ (fun r _ H locs hp hW => ?_)
              subst hp
              refine z_top2 (y := (opN opC (opN opB (opN (opA (al 3 (h % 8))) al N) N) j) (10 + j) 4) (r_s3 (by omega)) ?_
              refine lv_iconst (v := 1) hx hb dX4_hourOn_78 (by decide) ?_
              refine lv_icmp_ne (tgt := 96) hx hb dX4_hourOn_79 (by decide) (fun c79 => ?_) (fun c79 => ?_)
              · replace hW := hW.to (congrArg (fun z => cM cy ad (enc z th) ex) (show opN opC (opN opB (opN (opA (al 3 (h % 8))) al N) N) j = opN opC (opN opB (opN (opA (al 3 (h % 8))) al N) N) (j + 1) from (if_neg (fun q => c79 q.1)).symm))
                refine lv_iinc (v := nI (j + 1)) (lv' := [(1, .int (nI (j + 1))), (0, .ref (ad 28))]) hx hb dX4_hourOn_96 hl (k := 1) rfl (nI_1 _) (by decide) rfl (fun ls hl => ?_)
                refine lv_goto (tgt := 64) hx hb dX4_hourOn_99 (by decide) ?_
                exact ih (j + 1) H locs ls (by omega) hW (lv_sub hl [1, 0] rfl)
              · refine lv_aload_n hx hb dX4_hourOn_82 rfl (lv_at hl 0 rfl) ?_
                refine lv_iload_n hx hb dX4_hourOn_83 rfl (lv_at hl 1 rfl) ?_
                refine lv_iconst (v := 2) hx hb dX4_hourOn_84 (by decide) ?_
                refine z_cVi (As := [.int (nI j), .int 2]) (rest := []) (k := 28) S hE hW (cX4_sl_ok l D n ad cy sa H.size hn (enc (opN opC (opN opB (opN (opA (al 3 (h % 8))) al N) N) j) th) ex j (by omega) 2 (by omega)) (cwV 2 hts gX4_hourOn_X4_sl rfl rfl rfl (by decide +kernel) ⟨Nat.le_of_ble_eq_true rfl, Nat.le_of_ble_eq_true rfl⟩) (Nat.lt_of_lt_of_le (by decide) hn) cM_0 rfl rfl rfl hl.1 rfl (Nat.le_of_ble_eq_true rfl) dX4_hourOn_85 ⟨Nat.le_of_ble_eq_true rfl, Nat.le_of_ble_eq_true rfl⟩ (fun r _ H locs hp hW => ?_)
                subst hp
                refine z_top2 (y := (opN opC (opN opB (opN (opA (al 3 (h % 8))) al N) N) j) (10 + j) 3) (r_s2 (by omega) (z_inN ((((congrFun (opN_o j (fun i x hi => opC_o (by omega) (by omega))) 4).trans (congrFun (opN_o N (fun i x hi => opB_o (by omega))) 4)).trans (congrFun (opN_o N (fun i x hi => opA_o (by omega) (by omega))) 4)).trans hN) (by omega) (by omega))) ?_
                refine lv_if_ne (tgt := 96) hx hb dX4_hourOn_88 (by decide) (fun c88 => ?_) (fun c88 => ?_)
                · replace hW := hW.to (congrArg (fun z => cM cy ad (enc z th) ex) (show opN opC (opN opB (opN (opA (al 3 (h % 8))) al N) N) j = opN opC (opN opB (opN (opA (al 3 (h % 8))) al N) N) (j + 1) from (if_neg (fun q => c88 q.2)).symm))
                  refine lv_iinc (v := nI (j + 1)) (lv' := [(1, .int (nI (j + 1))), (0, .ref (ad 28))]) hx hb dX4_hourOn_96 hl (k := 1) rfl (nI_1 _) (by decide) rfl (fun ls hl => ?_)
                  refine lv_goto (tgt := 64) hx hb dX4_hourOn_99 (by decide) ?_
                  exact ih (j + 1) H locs ls (by omega) hW (lv_sub hl [1, 0] rfl)
                · refine lv_aload_n hx hb dX4_hourOn_91 rfl (lv_at hl 0 rfl) ?_
                  refine lv_iload_n hx hb dX4_hourOn_92 rfl (lv_at hl 1 rfl) ?_
                  refine z_cVv (As := [.int (nI j)]) (rest := []) (k := 28) S hE hW (cX4_unload_ok l D n ad cy sa H.size hn (opN opC (opN opB (opN (opA (al 3 (h % 8))) al N) N) j) th ex N ((((congrFun (opN_o j (fun i x hi => opC_o (by omega) (by omega))) 4).trans (congrFun (opN_o N (fun i x hi => opB_o (by omega))) 4)).trans (congrFun (opN_o N (fun i x hi => opA_o (by omega) (by omega))) 4)).trans hN) hN6 j (by omega) a ha9 ha8) (cwV 1 hts gX4_hourOn_X4_unload rfl rfl rfl (by decide +kernel) ⟨Nat.le_of_ble_eq_true rfl, Nat.le_of_ble_eq_true rfl⟩) (Nat.lt_of_lt_of_le (by decide) hn) cM_0 rfl rfl rfl hl.1 rfl (Nat.le_of_ble_eq_true rfl) dX4_hourOn_93 ⟨Nat.le_of_ble_eq_true rfl, Nat.le_of_ble_eq_true rfl⟩ (fun _ H locs _ hW => ?_)
                  replace hW := hW.to (congrArg (fun z => cM cy ad (enc z th) ex) (show zup (unloadS (opN opC (opN opB (opN (opA (al 3 (h % 8))) al N) N) j) j 0) (10 + j) 4 2 = opN opC (opN opB (opN (opA (al 3 (h % 8))) al N) N) (j + 1) from (if_pos ⟨c79, c88⟩).symm))
                  refine lv_iinc (v := nI (j + 1)) (lv' := [(1, .int (nI (j + 1))), (0, .ref (ad 28))]) hx hb dX4_hourOn_96 hl (k := 1) rfl (nI_1 _) (by decide) rfl (fun ls hl => ?_)
                  refine lv_goto (tgt := 64) hx hb dX4_hourOn_99 (by decide) ?_
                  exact ih (j + 1) H locs ls (by omega) hW (lv_sub hl [1, 0] rfl)
          exact L64 (N) 0 _ _ ls (by omega) hW (lv_sub hl [1, 0] rfl)
        | succ kq ih =>
          intro j H locs ls hjk hW hl
          have hj : j < N := by omega
          refine lv_iload_n hx hb dX4_hourOn_33 rfl (lv_at hl 1 rfl) ?_
          refine lv_aload_n hx hb dX4_hourOn_34 rfl (lv_at hl 0 rfl) ?_
          refine z_get (C := RX4) (T := TX4) (N := 9) (ci := 4) S hE hW hi4 rfl (Nat.lt_of_lt_of_le (by decide) hn) cM_0 1 (by decide) rfl f32 (v := .int (nI N)) (congrArg (fun z => some (Value.int z)) ((r_n).trans (((congrFun (opN_o j (fun i x hi => opB_o (by omega))) 4).trans (congrFun (opN_o N (fun i x hi => opA_o (by omega) (by omega))) 4)).trans hN))) dX4_hourOn_35 ?_
          refine lv_icmp_ge (tgt := 62) hx hb dX4_hourOn_38 (by decide) (fun h => absurd h (nI_ge hj (by omega))) (fun _ => ?_)
          refine lv_aload_n hx hb dX4_hourOn_41 rfl (lv_at hl 0 rfl) ?_
          refine lv_iload_n hx hb dX4_hourOn_42 rfl (lv_at hl 1 rfl) ?_
          refine lv_iconst (v := 3) hx hb dX4_hourOn_43 (by decide) ?_
          refine z_cVi (As := [.int (nI j), .int 3]) (rest := []) (k := 28) S hE hW (cX4_sl_ok l D n ad cy sa H.size hn (enc (opN opB (opN (opA (al 3 (h % 8))) al N) j) th) ex j (by omega) 3 (by omega)) (cwV 2 hts gX4_hourOn_X4_sl rfl rfl rfl (by decide +kernel) ⟨Nat.le_of_ble_eq_true rfl, Nat.le_of_ble_eq_true rfl⟩) (Nat.lt_of_lt_of_le (by decide) hn) cM_0 rfl rfl rfl hl.1 rfl (Nat.le_of_ble_eq_true rfl) dX4_hourOn_44 ⟨Nat.le_of_ble_eq_true rfl, Nat.le_of_ble_eq_true rfl⟩ (fun r _ H locs hp hW => ?_)
          subst hp
          refine z_top2 (y := (opN opB (opN (opA (al 3 (h % 8))) al N) j) (10 + j) 4) (r_s3 (by omega)) ?_
          refine lv_iconst (v := 2) hx hb dX4_hourOn_47 (by decide) ?_
          refine lv_icmp_ne (tgt := 56) hx hb dX4_hourOn_48 (by decide) (fun c48 => ?_) (fun c48 => ?_)
          · replace hW := hW.to (congrArg (fun z => cM cy ad (enc z th) ex) (show opN opB (opN (opA (al 3 (h % 8))) al N) j = opN opB (opN (opA (al 3 (h % 8))) al N) (j + 1) from (if_neg c48).symm))
            refine lv_iinc (v := nI (j + 1)) (lv' := [(1, .int (nI (j + 1))), (0, .ref (ad 28))]) hx hb dX4_hourOn_56 hl (k := 1) rfl (nI_1 _) (by decide) rfl (fun ls hl => ?_)
            refine lv_goto (tgt := 33) hx hb dX4_hourOn_59 (by decide) ?_
            exact ih (j + 1) H locs ls (by omega) hW (lv_sub hl [1, 0] rfl)
          · refine lv_aload_n hx hb dX4_hourOn_51 rfl (lv_at hl 0 rfl) ?_
            refine lv_iload_n hx hb dX4_hourOn_52 rfl (lv_at hl 1 rfl) ?_
            refine z_cVv (As := [.int (nI j)]) (rest := []) (k := 28) S hE hW (cX4_climb_ok l D n ad cy sa H.size hn (opN opB (opN (opA (al 3 (h % 8))) al N) j) th ex N (((congrFun (opN_o j (fun i x hi => opB_o (by omega))) 4).trans (congrFun (opN_o N (fun i x hi => opA_o (by omega) (by omega))) 4)).trans hN) hN6 j (by omega)) (cwV 1 hts gX4_hourOn_X4_climb rfl rfl rfl (by decide +kernel) ⟨Nat.le_of_ble_eq_true rfl, Nat.le_of_ble_eq_true rfl⟩) (Nat.lt_of_lt_of_le (by decide) hn) cM_0 rfl rfl rfl hl.1 rfl (Nat.le_of_ble_eq_true rfl) dX4_hourOn_53 ⟨Nat.le_of_ble_eq_true rfl, Nat.le_of_ble_eq_true rfl⟩ (fun _ H locs _ hW => ?_)
            replace hW := hW.to (congrArg (fun z => cM cy ad (enc z th) ex) (show climbS (opN opB (opN (opA (al 3 (h % 8))) al N) j) j = opN opB (opN (opA (al 3 (h % 8))) al N) (j + 1) from (if_pos c48).symm))
            refine lv_iinc (v := nI (j + 1)) (lv' := [(1, .int (nI (j + 1))), (0, .ref (ad 28))]) hx hb dX4_hourOn_56 hl (k := 1) rfl (nI_1 _) (by decide) rfl (fun ls hl => ?_)
            refine lv_goto (tgt := 33) hx hb dX4_hourOn_59 (by decide) ?_
            exact ih (j + 1) H locs ls (by omega) hW (lv_sub hl [1, 0] rfl)
      exact L33 (N) 0 _ _ ls (by omega) hW (lv_sub hl [1, 0] rfl)
    | succ kq ih =>
      intro j H locs ls hjk hW hl
      have hj : j < N := by omega
      refine lv_iload_n hx hb dX4_hourOn_2 rfl (lv_at hl 1 rfl) ?_
      refine lv_aload_n hx hb dX4_hourOn_3 rfl (lv_at hl 0 rfl) ?_
      refine z_get (C := RX4) (T := TX4) (N := 9) (ci := 4) S hE hW hi4 rfl (Nat.lt_of_lt_of_le (by decide) hn) cM_0 1 (by decide) rfl f32 (v := .int (nI N)) (congrArg (fun z => some (Value.int z)) ((r_n).trans ((congrFun (opN_o j (fun i x hi => opA_o (by omega) (by omega))) 4).trans hN))) dX4_hourOn_4 ?_
      refine lv_icmp_ge (tgt := 31) hx hb dX4_hourOn_7 (by decide) (fun h => absurd h (nI_ge hj (by omega))) (fun _ => ?_)
      refine lv_aload_n hx hb dX4_hourOn_10 rfl (lv_at hl 0 rfl) ?_
      refine lv_iload_n hx hb dX4_hourOn_11 rfl (lv_at hl 1 rfl) ?_
      refine lv_iconst (v := 3) hx hb dX4_hourOn_12 (by decide) ?_
      refine z_cVi (As := [.int (nI j), .int 3]) (rest := []) (k := 28) S hE hW (cX4_sl_ok l D n ad cy sa H.size hn (enc (opN (opA (al 3 (h % 8))) al j) th) ex j (by omega) 3 (by omega)) (cwV 2 hts gX4_hourOn_X4_sl rfl rfl rfl (by decide +kernel) ⟨Nat.le_of_ble_eq_true rfl, Nat.le_of_ble_eq_true rfl⟩) (Nat.lt_of_lt_of_le (by decide) hn) cM_0 rfl rfl rfl hl.1 rfl (Nat.le_of_ble_eq_true rfl) dX4_hourOn_13 ⟨Nat.le_of_ble_eq_true rfl, Nat.le_of_ble_eq_true rfl⟩ (fun r _ H locs hp hW => ?_)
      subst hp
      refine z_top2 (y := (opN (opA (al 3 (h % 8))) al j) (10 + j) 4) (r_s3 (by omega)) ?_
      refine lv_iconst (v := 1) hx hb dX4_hourOn_16 (by decide) ?_
      refine lv_icmp_ne (tgt := 25) hx hb dX4_hourOn_17 (by decide) (fun c17 => ?_) (fun c17 => ?_)
      · replace hW := hW.to (congrArg (fun z => cM cy ad (enc z th) ex) (show opN (opA (al 3 (h % 8))) al j = opN (opA (al 3 (h % 8))) al (j + 1) from (if_neg c17).symm))
        refine lv_iinc (v := nI (j + 1)) (lv' := [(1, .int (nI (j + 1))), (0, .ref (ad 28))]) hx hb dX4_hourOn_25 hl (k := 1) rfl (nI_1 _) (by decide) rfl (fun ls hl => ?_)
        refine lv_goto (tgt := 2) hx hb dX4_hourOn_28 (by decide) ?_
        exact ih (j + 1) H locs ls (by omega) hW (lv_sub hl [1, 0] rfl)
      · refine lv_aload_n hx hb dX4_hourOn_20 rfl (lv_at hl 0 rfl) ?_
        refine lv_iload_n hx hb dX4_hourOn_21 rfl (lv_at hl 1 rfl) ?_
        refine z_cVv (As := [.int (nI j)]) (rest := []) (k := 28) S hE hW (cX4_slide_ok l D n ad cy sa H.size hn (opN (opA (al 3 (h % 8))) al j) th ex N ((congrFun (opN_o j (fun i x hi => opA_o (by omega) (by omega))) 4).trans hN) hN6 j (by omega) h ((congrFun (opN_o j (fun i x hi => opA_o (by omega) (by omega))) 8).trans hh) (by omega)) (cwV 1 hts gX4_hourOn_X4_slide rfl rfl rfl (by decide +kernel) ⟨Nat.le_of_ble_eq_true rfl, Nat.le_of_ble_eq_true rfl⟩) (Nat.lt_of_lt_of_le (by decide) hn) cM_0 rfl rfl rfl hl.1 rfl (Nat.le_of_ble_eq_true rfl) dX4_hourOn_22 ⟨Nat.le_of_ble_eq_true rfl, Nat.le_of_ble_eq_true rfl⟩ (fun _ H locs _ hW => ?_)
        replace hW := hW.to (congrArg (fun z => cM cy ad (enc z th) ex) (show slideS (opN (opA (al 3 (h % 8))) al j) j 0 ((opN (opA (al 3 (h % 8))) al j) 3 (h % 8)) = opN (opA (al 3 (h % 8))) al (j + 1) from by rw [show (opN (opA (al 3 (h % 8))) al j) 3 = al 3 from opN_o j (fun i x hi => opA_o (by omega) (by omega))]; exact (if_pos c17).symm))
        refine lv_iinc (v := nI (j + 1)) (lv' := [(1, .int (nI (j + 1))), (0, .ref (ad 28))]) hx hb dX4_hourOn_25 hl (k := 1) rfl (nI_1 _) (by decide) rfl (fun ls hl => ?_)
        refine lv_goto (tgt := 2) hx hb dX4_hourOn_28 (by decide) ?_
        exact ih (j + 1) H locs ls (by omega) hW (lv_sub hl [1, 0] rfl)
  exact L2 (N) 0 _ _ ls (by omega) hW (lv_sub hl [1, 0] rfl)
set_option maxHeartbeats 4000000 in
set_option maxRecDepth 100000 in
theorem cX4_hoursOn_ok (l : Launch) (D : va_G) (n : Nat) (ad cy sa : Nat → Nat) (sz : Nat) (hn : 35 ≤ n) (al : Nat → Nat → Int32) (th : Int32) (ex : Nat → va_E) (T : Nat) (hT : T ≤ 60) (N : Nat) (hN : al 0 4 = nI N) (hN6 : N ≤ 6) (h : Nat) (hh : al 0 8 = nI h) (hh3 : h < 2 ^ 29) (hab : abOK al) : Met l yX4_hoursOn wsX4_hoursOn ({ frames := 3, cells := 0, slots := 0, locals := 102 }) (PW D n ad cy sa sz (cM cy ad (enc al th) ex) [.ref (ad 28), .int (nI T)]) (QDi D n ad sz (ash (hourN al T) - ash al) (cM cy ad (enc (hourN al T) th) ex)) 0 0 (Acc n ad sz) := by
  refine zs_met (cc := cX4_hoursOn) (maxL := 4) (ret := (some .int)) (own := RX4) (by decide) rfl rfl (Nat.le_of_ble_eq_true rfl) ?_
  intro p e s m args below meth c ls S hE hW hr hlk hsz hav hl
  subst hsz
  have hx := S.1
  have hb := S.2.1
  have hown := S.2.2.2.1
  have hts := S.2.2.2.2
  have hl : lv_has ls 4 [(0, .ref (ad 28)), (1, .int (nI T))] := hl
  refine lv_aload_n hx hb dX4_hoursOn_0 rfl (lv_at hl 0 rfl) ?_
  refine z_cVi (As := []) (rest := []) (k := 28) S hE hW (cX4_ashore_ok l D n ad cy sa s.heap.size hn al th ex ) (cwV 0 hts gX4_hoursOn_X4_ashore rfl rfl rfl (by decide +kernel) ⟨Nat.le_of_ble_eq_true rfl, Nat.le_of_ble_eq_true rfl⟩) (Nat.lt_of_lt_of_le (by decide) hn) cM_0 rfl rfl rfl hl.1 rfl (Nat.le_of_ble_eq_true rfl) dX4_hoursOn_1 ⟨Nat.le_of_ble_eq_true rfl, Nat.le_of_ble_eq_true rfl⟩ (fun r _ H locs hp hW => ?_)
  subst hp
  refine lv_istore_n (lv' := [(2, .int ((al (8 + 0) 0 + al (8 + 0) 1) + al (8 + 0) 2)), (0, .ref (ad 28)), (1, .int (nI T))]) hx hb dX4_hoursOn_4 rfl hl (by decide) rfl (fun ls hl => ?_)
  refine lv_iconst (v := 0) hx hb dX4_hoursOn_5 (by decide) ?_
  refine lv_istore_n (lv' := [(3, .int 0), (2, .int ((al (8 + 0) 0 + al (8 + 0) 1) + al (8 + 0) 2)), (0, .ref (ad 28)), (1, .int (nI T))]) hx hb dX4_hoursOn_6 rfl hl (by decide) rfl (fun ls hl => ?_)
  have L7 : ∀ (kq j : Nat) (H : Heap) (locs : List Loc) (ls : Array Slot), j + kq = T → WS D n ad (cM cy ad (enc (hourN al j) th) ex) (Acc n ad s.heap.size) s.heap H locs → lv_has ls 4 [(0, .ref (ad 28)), (1, .int (nI T)), (2, .int ((al (8 + 0) 0 + al (8 + 0) 1) + al (8 + 0) 2)), (3, .int (nI j))] → W p l e { frames := 3, cells := 0, slots := 0, locals := 102 } s m args below meth c H locs 0 0 (MQ below (QDi D n ad s.heap.size (ash (hourN al T) - ash al) (cM cy ad (enc (hourN al T) th) ex)) args s 0 0 (Acc n ad s.heap.size)) (F0 m 7 ls []) := by
    intro kq
    induction kq with
    | zero =>
      intro j H locs ls hjk hW hl
      have hjN : j = T := by omega
      try rw [hjN] at hW
      try rw [hjN] at hl
      refine lv_iload_n hx hb dX4_hoursOn_7 rfl (lv_at hl 3 rfl) ?_
      refine lv_iload_n hx hb dX4_hoursOn_8 rfl (lv_at hl 1 rfl) ?_
      refine lv_icmp_ge (tgt := 22) hx hb dX4_hoursOn_9 (by decide) (fun _ => ?_) (fun h => absurd (nI_le (Nat.le_refl T) (by omega)) h)
      refine lv_aload_n hx hb dX4_hoursOn_22 rfl (lv_at hl 0 rfl) ?_
      refine z_cVi (As := []) (rest := []) (k := 28) S hE hW (cX4_ashore_ok l D n ad cy sa H.size hn (hourN al T) th ex ) (cwV 0 hts gX4_hoursOn_X4_ashore rfl rfl rfl (by decide +kernel) ⟨Nat.le_of_ble_eq_true rfl, Nat.le_of_ble_eq_true rfl⟩) (Nat.lt_of_lt_of_le (by decide) hn) cM_0 rfl rfl rfl hl.1 rfl (Nat.le_of_ble_eq_true rfl) dX4_hoursOn_23 ⟨Nat.le_of_ble_eq_true rfl, Nat.le_of_ble_eq_true rfl⟩ (fun r _ H locs hp hW => ?_)
      subst hp
      refine lv_iload_n hx hb dX4_hoursOn_26 rfl (lv_at hl 2 rfl) ?_
      refine lv_isub hx hb dX4_hoursOn_27 ?_
      exact ze_i S hW hr hlk () rfl (rfl) (Nat.le_of_ble_eq_true rfl) (Nat.le_of_ble_eq_true rfl) dX4_hoursOn_28
    | succ kq ih =>
      intro j H locs ls hjk hW hl
      have hj : j < T := by omega
      obtain ⟨i1, i2, i3⟩ := hourN_inv hN hN6 hh hab j
      refine lv_iload_n hx hb dX4_hoursOn_7 rfl (lv_at hl 3 rfl) ?_
      refine lv_iload_n hx hb dX4_hoursOn_8 rfl (lv_at hl 1 rfl) ?_
      refine lv_icmp_ge (tgt := 22) hx hb dX4_hoursOn_9 (by decide) (fun h => absurd h (nI_ge hj (by omega))) (fun _ => ?_)
      refine lv_aload_n hx hb dX4_hoursOn_12 rfl (lv_at hl 0 rfl) ?_
      refine z_cVv (As := []) (rest := []) (k := 28) S hE hW (cX4_hourOn_ok l D n ad cy sa H.size hn (hourN al j) th ex N i1 hN6 (h + j) i2 (by omega) i3) (cwV 0 hts gX4_hoursOn_X4_hourOn rfl rfl rfl (by decide +kernel) ⟨Nat.le_of_ble_eq_true rfl, Nat.le_of_ble_eq_true rfl⟩) (Nat.lt_of_lt_of_le (by decide) hn) cM_0 rfl rfl rfl hl.1 rfl (Nat.le_of_ble_eq_true rfl) dX4_hoursOn_13 ⟨Nat.le_of_ble_eq_true rfl, Nat.le_of_ble_eq_true rfl⟩ (fun _ H locs _ hW => ?_)
      refine lv_iinc (v := nI (j + 1)) (lv' := [(3, .int (nI (j + 1))), (0, .ref (ad 28)), (1, .int (nI T)), (2, .int ((al (8 + 0) 0 + al (8 + 0) 1) + al (8 + 0) 2))]) hx hb dX4_hoursOn_16 hl (k := 3) rfl (nI_1 _) (by decide) rfl (fun ls hl => ?_)
      refine lv_goto (tgt := 7) hx hb dX4_hoursOn_19 (by decide) ?_
      exact ih (j + 1) H locs ls (by omega) hW (lv_sub hl [1, 2, 3, 0] rfl)
  exact L7 (T) 0 _ _ ls (by omega) hW (lv_sub hl [2, 3, 1, 0] rfl)
set_option maxHeartbeats 4000000 in
set_option maxRecDepth 100000 in
theorem cX4_pass_ok (l : Launch) (D : va_G) (n : Nat) (ad cy sa : Nat → Nat) (sz : Nat) (hn : 35 ≤ n) (al : Nat → Nat → Int32) (th : Int32) (ex : Nat → va_E) (x : Int32) (N : Nat) (hN : al 0 4 = nI N) (hN6 : N ≤ 6) (h : Nat) (hh : al 0 8 = nI h) (hh3 : h < 2 ^ 29) (hab : abOK al) : Met l yX4_pass wsX4_pass ({ frames := 4, cells := 0, slots := 0, locals := 125 }) (PW D n ad cy sa sz (cM cy ad (enc al th) ex) [.ref (ad 28), .int x]) (QDi D n ad sz (if k_pass al x = 0 then v_pass al x else 0) (cM cy ad (enc (if k_pass al x = 0 then u_pass al x else al) (nI (k_pass al x))) ex)) 0 0 (Acc n ad sz) := by
  refine zs_met (cc := cX4_pass) (maxL := 2) (ret := (some .int)) (own := RX4) (by decide) rfl rfl (Nat.le_of_ble_eq_true rfl) ?_
  intro p e s m args below meth c ls S hE hW hr hlk hsz hav hl
  subst hsz
  have hx := S.1
  have hb := S.2.1
  have hown := S.2.2.2.1
  have hts := S.2.2.2.2
  have hl : lv_has ls 2 [(0, .ref (ad 28)), (1, .int x)] := hl
  have f28 := hts (.fieldLink RX4 28 "PumiceSledgeModel" "thrown" "I") (by decide +kernel)
  have hi4 : ∀ w ∈ wsX40, w ∈ wsX4_pass := by decide +kernel
  refine lv_aload_n hx hb dX4_pass_0 rfl (lv_at hl 0 rfl) ?_
  refine lv_iconst (v := 0) hx hb dX4_pass_1 (by decide) ?_
  refine z_put (ce' := cM cy ad (zup (enc al th) 0 0 0) ex) (C := RX4) (T := TX4) (N := 9) (ci := 4) S hE hW hi4 tyX4 tyX4_ok nmX4 rfl (Nat.lt_of_lt_of_le (by decide) hn) cM_0 0 (by decide) rfl f28 rfl rfl (Nat.le_of_ble_eq_true rfl) (pM_0 (by decide)) (fun j h => cM_o h) dX4_pass_2 (fun H locs hW => ?_)
  rw [e_th] at hW
  refine lv_iload_n hx hb dX4_pass_5 rfl (lv_at hl 1 rfl) ?_
  refine lv_iconst (v := 1) hx hb dX4_pass_6 (by decide) ?_
  refine lv_bipush (v := 60) hx hb dX4_pass_7 (by decide) ?_
  refine z_pS (As := [.int x, .int 1, .int 60]) (rest := []) S hE hW (cX4_isIn_ok l x 1 60) (va_cwS 3 hts gX4_pass_X4_isIn rfl rfl rfl (by decide +kernel) ⟨Nat.le_of_ble_eq_true rfl, Nat.le_of_ble_eq_true rfl⟩) rfl hl.1 rfl (Nat.le_of_ble_eq_true rfl) dX4_pass_9 ⟨Nat.le_of_ble_eq_true rfl, Nat.le_of_ble_eq_true rfl⟩ (fun H locs hW => ?_)
  refine lv_if_eq (tgt := 23) hx hb dX4_pass_12 (by decide) (fun c12 => ?_) (fun c12 => ?_)
  · have c12 := zb_f c12
    refine lv_aload_n hx hb dX4_pass_23 rfl (lv_at hl 0 rfl) ?_
    refine lv_iconst (v := 1) hx hb dX4_pass_24 (by decide) ?_
    refine z_cVi (As := [.int 1]) (rest := []) (k := 28) S hE hW (cX4_fail_ok l D n ad cy sa H.size hn al 0 ex 1) (cwV 1 hts gX4_pass_X4_fail rfl rfl rfl (by decide +kernel) ⟨Nat.le_of_ble_eq_true rfl, Nat.le_of_ble_eq_true rfl⟩) (Nat.lt_of_lt_of_le (by decide) hn) cM_0 rfl rfl rfl hl.1 rfl (Nat.le_of_ble_eq_true rfl) dX4_pass_25 ⟨Nat.le_of_ble_eq_true rfl, Nat.le_of_ble_eq_true rfl⟩ (fun r _ H locs hp hW => ?_)
    subst hp
    have hk9 : k_pass al x = 1 := by unfold k_pass; rw [if_pos c12]
    exact ze_i S hW hr hlk () (congrArg (fun z => cM cy ad z ex) (by rw [hk9, if_neg (by decide)] <;> rfl)) (by rw [hk9, if_neg (by decide)]) (Nat.le_of_ble_eq_true rfl) (Nat.le_of_ble_eq_true rfl) dX4_pass_28
  · have c12 := zb_t c12
    obtain ⟨T, hT1, hT60, rfl⟩ := zIn_ex1 1 60 rfl rfl (by decide) (by decide) c12
    refine lv_aload_n hx hb dX4_pass_15 rfl (lv_at hl 0 rfl) ?_
    refine lv_iload_n hx hb dX4_pass_16 rfl (lv_at hl 1 rfl) ?_
    refine z_cVi (As := [.int (nI T)]) (rest := []) (k := 28) S hE hW (cX4_hoursOn_ok l D n ad cy sa H.size hn al 0 ex T (by omega) N hN hN6 h hh hh3 hab) (cwV 1 hts gX4_pass_X4_hoursOn rfl rfl rfl (by decide +kernel) ⟨Nat.le_of_ble_eq_true rfl, Nat.le_of_ble_eq_true rfl⟩) (Nat.lt_of_lt_of_le (by decide) hn) cM_0 rfl rfl rfl hl.1 rfl (Nat.le_of_ble_eq_true rfl) dX4_pass_17 ⟨Nat.le_of_ble_eq_true rfl, Nat.le_of_ble_eq_true rfl⟩ (fun r _ H locs hp hW => ?_)
    subst hp
    refine lv_goto (tgt := 28) hx hb dX4_pass_20 (by decide) ?_
    have hk9 : k_pass al (nI T) = 0 := by unfold k_pass; rw [if_neg (fun h => h c12)]
    exact ze_i S hW hr hlk () (congrArg (fun z => cM cy ad z ex) (by rw [hk9, if_pos rfl]; exact congrArg (fun z => enc z 0) (by unfold u_pass; rw [ix_nI (show T < 2 ^ 31 by omega)]))) (by rw [hk9, if_pos rfl] <;> exact (by unfold v_pass u_pass; rw [ix_nI (show T < 2 ^ 31 by omega)])) (Nat.le_of_ble_eq_true rfl) (Nat.le_of_ble_eq_true rfl) dX4_pass_28
