/-! A sledge of the law's keeps some sacks: a new row of them. -/
def kpW (f : Nat → Int32) (a : Nat) (v : Int32) : Nat → Nat → Int32
  | 0 => fun _ => 0
  | j + 1 => upd (kpW f a v j) j (if j < a then f j else v)
def kpF (f : Nat → Int32) (a k : Nat) (v : Int32) : Nat → Int32 := if k ≤ a then f else upd f a v
theorem kpW_y {f : Nat → Int32} {a j : Nat} {v : Int32} (h : j < a) : upd (kpW f a v j) j (f j) = kpW f a v (j + 1) := by
  show _ = upd (kpW f a v j) j (if j < a then f j else v)
  rw [if_pos h]
theorem kpW_n {f : Nat → Int32} {a j : Nat} {v : Int32} (h : ¬ j < a) : upd (kpW f a v j) j v = kpW f a v (j + 1) := by
  show _ = upd (kpW f a v j) j (if j < a then f j else v)
  rw [if_neg h]
theorem kpW_at {f : Nat → Int32} {a : Nat} {v : Int32} {q : Nat} : ∀ k, q < k → kpW f a v k q = if q < a then f q else v
  | 0, h => absurd h (Nat.not_lt_zero _)
  | k + 1, h => by
    show upd (kpW f a v k) k (if k < a then f k else v) q = _
    by_cases e : q = k
    · subst e
      exact up_s
    · rw [up_n e, kpW_at k (by omega)]
theorem kpW_F {f : Nat → Int32} {a k q : Nat} {v : Int32} (hk : k ≤ a + 1) (hq : q < k) : kpW f a v k q = kpF f a k v q := by
  rw [kpW_at k hq]
  unfold kpF
  by_cases h : k ≤ a
  · rw [if_pos h, if_pos (by omega)]
  · rw [if_neg h]
    by_cases e : q = a
    · subst e
      rw [if_neg (by omega), up_s]
    · rw [if_pos (by omega), up_n e]
abbrev QGv {St : Type} (D : va_G) (n : Nat) (ad : Nat → Nat) (sz : Nat) (post : St → Prop) (f : St → va_W) : Array Value → State → Outcome → State → Prop := va_Qv post (fun u t => va_P D vwCl (f u) t.heap ∧ va_D (Acc n ad sz) (f u)) (Acc n ad sz)
abbrev QGi {St : Type} (D : va_G) (n : Nat) (ad : Nat → Nat) (sz : Nat) (post : Int32 → St → Prop) (f : St → va_W) : Array Value → State → Outcome → State → Prop := va_Qi post (fun u t => va_P D vwCl (f u) t.heap ∧ va_D (Acc n ad sz) (f u)) (Acc n ad sz)
section KG
variable {p : Program} {l : Launch} {e : Env} {R : Room} {s : State} {m : MethodId} {args : Array Value} {below : List Frame} {meth : Method} {c : Code} {H : Heap} {locs : List Loc} {cells slots : Nat} {Q : State → Prop}
variable {cc : ByteArray} {nL : Nat} {Ts : List Cond} {own : String} {pc : Nat} {ls : Array Slot} {rest st0 : List Value} {D : va_G} {n n' : Nat} {ad ad' cy sa : Nat → Nat} {ce ce' : Nat → va_E} {A : Nat → Prop}
theorem zg_v {St : Type} {post : St → Prop} {f : St → va_W} {mc ms : Nat} (S : CallFix p m c cc nL s args Ts own) (hW : WS D n' ad' ce' (Acc n ad s.heap.size) s.heap H locs) (hr : meth.sig.returnType = none) (hlk : meth.locks = false) (u : St) (he : wL n' ad' ce' = f u) (hp : post u) (h1 : cells ≤ mc) (h2 : slots ≤ ms) (hdg : decode cc pc = .ok (.return_, 1)) :
    W p l e R s m args below meth c H locs cells slots (MQ below (QGv D n ad s.heap.size post f) args s mc ms (Acc n ad s.heap.size)) (F0 m pc ls []) := by
  refine W.widen h1 h2 ?_
  exact W.vret S.1 S.2.1 hr (fun t ht _ => ⟨⟨u, rfl, hp, by show va_P D vwCl (f u) t.heap ∧ _; rw [ht, ← he]; exact ⟨hW.1, hW.2.1⟩⟩, hW.2.2.F ht⟩) hW.2.2.2.2 hdg hlk
theorem zg_i {St : Type} {post : Int32 → St → Prop} {f : St → va_W} {mc ms : Nat} {v : Int32} (S : CallFix p m c cc nL s args Ts own) (hW : WS D n' ad' ce' (Acc n ad s.heap.size) s.heap H locs) (hr : meth.sig.returnType = some .int) (hlk : meth.locks = false) (u : St) (he : wL n' ad' ce' = f u) (hp : post v u) (h1 : cells ≤ mc) (h2 : slots ≤ ms) (hdg : decode cc pc = .ok (.ireturn, 1)) :
    W p l e R s m args below meth c H locs cells slots (MQ below (QGi D n ad s.heap.size post f) args s mc ms (Acc n ad s.heap.size)) (F0 m pc ls [.int v]) := by
  refine W.widen h1 h2 ?_
  exact W.iret S.1 S.2.1 hr (fun t ht _ => ⟨⟨v, u, rfl, hp, by show va_P D vwCl (f u) t.heap ∧ _; rw [ht, ← he]; exact ⟨hW.1, hW.2.1⟩⟩, hW.2.2.F ht⟩) hW.2.2.2.2 hdg hlk
theorem zg_z {St : Type} {post : Int32 → St → Prop} {f : St → va_W} {mc ms : Nat} {v : Int32} (S : CallFix p m c cc nL s args Ts own) (hW : WS D n' ad' ce' (Acc n ad s.heap.size) s.heap H locs) (hr : meth.sig.returnType = some .boolean) (hlk : meth.locks = false) (u : St) (he : wL n' ad' ce' = f u) (hb : v = 0 ∨ v = 1) (hp : post v u) (h1 : cells ≤ mc) (h2 : slots ≤ ms) (hdg : decode cc pc = .ok (.ireturn, 1)) :
    W p l e R s m args below meth c H locs cells slots (MQ below (QGi D n ad s.heap.size post f) args s mc ms (Acc n ad s.heap.size)) (F0 m pc ls [.int v]) := by
  refine W.widen h1 h2 ?_
  exact W.zret S.1 S.2.1 hr (by rcases hb with rfl | rfl <;> decide) (fun t ht _ => ⟨⟨v, u, rfl, hp, by show va_P D vwCl (f u) t.heap ∧ _; rw [ht, ← he]; exact ⟨hW.1, hW.2.1⟩⟩, hW.2.2.F ht⟩) hW.2.2.2.2 hdg hlk
variable {y : MethodName} {bytes : ByteArray} {maxL mc ms N index : Nat} {ret : Option FieldType} {ws : List Cond} {rm : Room} {C host : String} {As : List Value} {k ci : Nat} {fs : List Value} {q : vw_C}
theorem z_gVv {St : Type} {post : St → Prop} {f : St → va_W} (S : CallFix p m c cc nL s args Ts own) (hE : ZEnv D cy sa A s) (hW : WS D n ad ce A s.heap H locs) (hM : Met l y ws rm (PW D n ad cy sa H.size ce (.ref (ad k) :: As)) (QGv D n ad H.size post f) mc ms (Acc n ad H.size)) (cw : CallW R s args own C index y bytes maxL ret ws rm mc ms N) (hk : k < n) (he : ce k = .inr (ci, fs)) (hc : vwCl[ci]? = some q) (hq : q.1 = C) (hn : As.length = N) (hz : ls.size = nL) (hst : st0 = As.reverse ++ .ref (ad k) :: rest) (hr : (rest.map fun v => v.category).sum ≤ 8) (hdg : decode cc pc = .ok (.invokevirtual index, 3)) (hf : cells + mc ≤ R.cells ∧ slots + ms ≤ R.slots)
    (kk : ∀ (u : St) (H1 : Heap) (locs1 : List Loc), post u → yLS D (f u) A s.heap H1 locs1 → W p l e R s m args below meth c H1 locs1 (cells + mc) (slots + ms) Q (F0 m (pc + 3) ls rest)) : W p l e R s m args below meth c H locs cells slots Q (F0 m pc ls st0) :=
  va_callv (va_runV (As := As) (rest := rest) S hM cw ⟨PW_blind, by rw [← hq]; exact z_recv hE hW hk he hc, PW_at hE hW⟩ rfl hn hz hst (lv_room hr) hdg hf) hW.2.2 (fun q _ h => hW.acc hE.2 q h) (hW.acc hE.2) (fun u t H1 locs1 ht hvm hp hB hz1 hk1 hS1 => kk u H1 locs1 hp ⟨by rw [← ht]; exact hB.1, hB.2.weaken (fun _ _ _ h => hW.acc hE.2 _ h), hS1⟩)
theorem z_gVi {St : Type} {post : Int32 → St → Prop} {f : St → va_W} (S : CallFix p m c cc nL s args Ts own) (hE : ZEnv D cy sa A s) (hW : WS D n ad ce A s.heap H locs) (hM : Met l y ws rm (PW D n ad cy sa H.size ce (.ref (ad k) :: As)) (QGi D n ad H.size post f) mc ms (Acc n ad H.size)) (cw : CallW R s args own C index y bytes maxL ret ws rm mc ms N) (hk : k < n) (he : ce k = .inr (ci, fs)) (hc : vwCl[ci]? = some q) (hq : q.1 = C) (hn : As.length = N) (hz : ls.size = nL) (hst : st0 = As.reverse ++ .ref (ad k) :: rest) (hr : (rest.map fun v => v.category).sum ≤ 8) (hdg : decode cc pc = .ok (.invokevirtual index, 3)) (hf : cells + mc ≤ R.cells ∧ slots + ms ≤ R.slots)
    (kk : ∀ (r : Int32) (u : St) (H1 : Heap) (locs1 : List Loc), post r u → yLS D (f u) A s.heap H1 locs1 → W p l e R s m args below meth c H1 locs1 (cells + mc) (slots + ms) Q (F0 m (pc + 3) ls (.int r :: rest))) : W p l e R s m args below meth c H locs cells slots Q (F0 m pc ls st0) :=
  va_calli (va_runV (As := As) (rest := rest) S hM cw ⟨PW_blind, by rw [← hq]; exact z_recv hE hW hk he hc, PW_at hE hW⟩ rfl hn hz hst (lv_room hr) hdg hf) hW.2.2 (fun q _ h => hW.acc hE.2 q h) (hW.acc hE.2) (fun r u t H1 locs1 ht hvm hp hB hz1 hk1 hS1 => kk r u H1 locs1 hp ⟨by rw [← ht]; exact hB.1, hB.2.weaken (fun _ _ _ h => hW.acc hE.2 _ h), hS1⟩)
theorem z_gSi {St : Type} {post : Int32 → St → Prop} {f : St → va_W} (S : CallFix p m c cc nL s args Ts own) (hE : ZEnv D cy sa A s) (hW : WS D n ad ce A s.heap H locs) (hM : Met l y ws rm (PW D n ad cy sa H.size ce As) (QGi D n ad H.size post f) mc ms (Acc n ad H.size)) (cw : CallB R s args own index y bytes maxL ret ws rm mc ms N ∧ (Cond.static y).before args s = true) (hn : As.length = N) (hz : ls.size = nL) (hst : st0 = As.reverse ++ rest) (hr : (rest.map fun v => v.category).sum ≤ 8) (hdg : decode cc pc = .ok (.invokestatic index, 3)) (hf : cells + mc ≤ R.cells ∧ slots + ms ≤ R.slots)
    (kk : ∀ (r : Int32) (u : St) (H1 : Heap) (locs1 : List Loc), post r u → yLS D (f u) A s.heap H1 locs1 → W p l e R s m args below meth c H1 locs1 (cells + mc) (slots + ms) Q (F0 m (pc + 3) ls (.int r :: rest))) : W p l e R s m args below meth c H locs cells slots Q (F0 m pc ls st0) :=
  va_calli (va_runS (As := As) (rest := rest) S hM cw ⟨PW_blind, PW_at hE hW⟩ rfl hn hz hst (lv_room hr) hdg hf) hW.2.2 (fun q _ h => hW.acc hE.2 q h) (hW.acc hE.2) (fun r u t H1 locs1 ht hvm hp hB hz1 hk1 hS1 => kk r u H1 locs1 hp ⟨by rw [← ht]; exact hB.1, hB.2.weaken (fun _ _ _ h => hW.acc hE.2 _ h), hS1⟩)
end KG
section KS
variable {cy ad ad' : Nat → Nat} {N B : Nat} {al be be' : Nat → Nat → Int32} {ex ex' : Nat → va_E}
/-- another row of sacks of the sledge i -/
theorem sW_vpe2 {i : Nat} (hi : i < N) (hA : ∀ k, k < 35 + 2 * N + B → k ≠ 36 + 2 * i → ad' k = ad k) {k : Nat} (hk : k ≠ 35 + 2 * i) (hx : 35 + 2 * N + B ≤ k → vpe (ex k) (ex' k)) : vpe (sW cy ad N B al be ex k) (sW cy ad' N B al be ex' k) := by
  by_cases h : k < 28
  · exact cC_vpe h (fun j hj => hA j (by omega) (by omega))
  · by_cases h2 : k < 35 + 2 * N + B
    · rcases sW_where (by omega) h2 with rfl | rfl | rfl | rfl | rfl | rfl | rfl | ⟨q, hq, rfl⟩ | ⟨q, hq, rfl⟩ | ⟨b, hb, rfl⟩
      · rw [sW_28, sW_28, hA 29 (by omega) (by omega), hA 30 (by omega) (by omega), hA 31 (by omega) (by omega), hA 32 (by omega) (by omega), hA 33 (by omega) (by omega), hA 34 (by omega) (by omega)]
        exact vpe_rf
      · rw [sW_29, sW_29]; exact vpe_rf
      · rw [sW_30, sW_30]; exact vpe_rf
      · rw [sW_31, sW_31]; exact vpe_rf
      · rw [sW_32, sW_32]; exact vpe_rf
      · rw [sW_33, sW_33]
        exact vpe_q (fun j hj => by rw [hA _ (by omega) (by omega)])
      · rw [sW_34, sW_34]
        exact vpe_q (fun j hj => by rw [hA _ (by omega) (by omega)])
      · rw [sW_so hq, sW_so hq, hA (36 + 2 * q) (by omega) (by omega)]
        exact vpe_rf
      · rw [sW_sa hq, sW_sa hq]; exact vpe_rf
      · rw [sW_bb hb, sW_bb hb]; exact vpe_rf
    · rw [sW_x (by omega), sW_x (by omega)]
      exact hx (by omega)
theorem keep_re {D : va_G} {ad0 : Nat → Nat} {n i k a : Nat} {v : Int32} {f : Nat → Int32} {A : Nat → Prop} {H0 H : Heap} {locs : List Loc} (hn : 35 + 2 * N + B ≤ n) (hN6 : N ≤ 6) (hi : i < N) (hk8 : k < 2 ^ 31) (hA : ∀ j, j < n → ad j = ad0 j) (hf : ∀ q, q < k → f q = kpF (be (17 + i)) a k v q)
    (hW : WS D (n + 1) ad (cen (sW cy ad N B al be (cen ex n (.inl (cy 0, k, .inl f)))) (35 + 2 * i) (.inr (5, [.int (be (10 + i) 0), .int (be (10 + i) 3), .int (be (10 + i) 4), .ref (ad n)]))) A H0 H locs) : WS D n (fun q => if q = 36 + 2 * i then ad n else ad0 q) (sW cy (fun q => if q = 36 + 2 * i then ad n else ad0 q) N B al (zup (zset be (17 + i) (kpF (be (17 + i)) a k v)) (10 + i) 2 (nI k)) ex) A H0 H locs := by
  have e2 : ∀ q f', f' ≠ 2 → (zup (zset be (17 + i) (kpF (be (17 + i)) a k v)) (10 + i) 2 (nI k)) (10 + q) f' = be (10 + q) f' ∨ q ≥ 7 := by
    intro q f' hf'
    by_cases h7 : q < 7
    · left
      by_cases e : q = i
      · subst e
        rw [zup_k, up_n hf', zset_o (by omega)]
      · rw [zup_o (by omega), zset_o (by omega)]
    · right; omega
  refine WS_re (fun q => if q = 36 + 2 * i then n else q) (fun q hq => ⟨?_, ?_, ?_⟩) (fun x y hx hy e => ?_) hW
  · show (if q = 36 + 2 * i then n else q) < n + 1
    split <;> omega
  · show (if q = 36 + 2 * i then ad n else ad0 q) = ad (if q = 36 + 2 * i then n else q)
    by_cases h : q = 36 + 2 * i
    · rw [if_pos h, if_pos h]
    · rw [if_neg h, if_neg h, hA q hq]
  · show vpe (cen _ _ _ (if q = 36 + 2 * i then n else q)) _
    by_cases h : q = 36 + 2 * i
    · subst h
      rw [if_pos rfl, cen_o (by omega), sW_cen_k hn, sW_sal (a := k) hi ((congrFun zup_k 2).trans up_s) hk8, zup_o (by omega), zset_k]
      exact vpe_i hf
    · rw [if_neg h]
      by_cases h5 : q = 35 + 2 * i
      · subst h5
        rw [cen_k, sW_so hi]
        refine vpe_of ?_
        have q0 := (e2 i 0 (by decide)).resolve_right (by omega)
        have q3 := (e2 i 3 (by decide)).resolve_right (by omega)
        have q4 := (e2 i 4 (by decide)).resolve_right (by omega)
        rw [q0, q3, q4, if_pos rfl]
      · rw [cen_o h5]
        have eC : ∀ (ad9 : Nat → Nat) (ex9 : Nat → va_E), sW cy ad9 N B al be ex9 q = sW cy ad9 N B al (zup (zset be (17 + i) (kpF (be (17 + i)) a k v)) (10 + i) 2 (nI k)) ex9 q := fun ad9 ex9 => sW_congr (be := be) (be' := zup (zset be (17 + i) (kpF (be (17 + i)) a k v)) (10 + i) 2 (nI k)) (fun _ => by rw [zup_o (by omega), zup_o (by omega), zset_o (by omega), zset_o (by omega)]; exact ⟨rfl, rfl, rfl⟩) (fun _ => by rw [zup_o (by omega), zset_o (by omega)]) (fun _ => by rw [zup_o (by omega), zset_o (by omega)]) (fun _ => by rw [zup_o (by omega), zset_o (by omega)]) (fun _ => by rw [zup_o (by omega), zset_o (by omega)]) (fun j hj e => by rw [zup_o (by omega), zset_o (by omega)]; exact ⟨rfl, rfl, rfl⟩) (fun j hj e => by rw [zup_o (by omega), zset_o (by omega), zup_o (by omega), zset_o (by omega)]; exact ⟨rfl, rfl⟩) (fun b hb e => by rw [zup_o (by omega), zset_o (by omega)])
        rw [← eC]
        exact sW_vpe2 hi (fun j hj hne => by rw [if_neg hne, hA j (by omega)]) h5 (fun h9 => by rw [cen_o (by omega)]; exact vpe_rf)
  · have e9 : (if x = 36 + 2 * i then n else x) = (if y = 36 + 2 * i then n else y) := e
    split at e9 <;> split at e9 <;> omega
end KS

set_option maxHeartbeats 4000000 in
set_option maxRecDepth 100000 in
theorem cX5_keep_ok (l : Launch) (D : va_G) (n : Nat) (ad cy sa : Nat → Nat) (sz N B : Nat) (hn : 35 + 2 * N + B ≤ n) (hN6 : N ≤ 6) (hB4 : B ≤ 4) (al be : Nat → Nat → Int32) (ex : Nat → va_E) (i : Nat) (hi : i < N) (a : Nat) (ha : be (10 + i) 2 = nI a) (ha8 : a ≤ 8) (k : Nat) (hka : k ≤ a + 1) (hk8 : k ≤ 8) (more : Int32) : Met l yX5_keep wsX5_keep ({ frames := 0, cells := 1, slots := 8, locals := 0 }) (PW D n ad cy sa sz (sW cy ad N B al be ex) [.ref (ad (35 + 2 * i)), .int (nI k), .int more]) (QGv D n ad sz (fun ad2 : Nat → Nat => ∀ j, j ≠ 36 + 2 * i → ad2 j = ad j) (fun ad2 => wL n ad2 (sW cy ad2 N B al (zup (zset be (17 + i) (kpF (be (17 + i)) a k more)) (10 + i) 2 (nI k)) ex))) 1 8 (Acc n ad sz) := by
  refine zs_met (cc := cX5_keep) (maxL := 5) (ret := none) (own := RX5) (by decide) rfl rfl (Nat.le_of_ble_eq_true rfl) ?_
  intro p e s m args below meth c ls S hE hW hr hlk hsz hav hl
  subst hsz
  have hx := S.1
  have hb := S.2.1
  have hown := S.2.2.2.1
  have hts := S.2.2.2.2
  have hl : lv_has ls 5 [(0, .ref (ad (35 + 2 * i))), (1, .int (nI k)), (2, .int more)] := hl
  have har := hts (.arrayClass .int) (by decide +kernel)
  have f13 := hts (.fieldLink RX5 13 "PumiceSledgeLaw$Sledge" "sacks" "[I") (by decide +kernel)
  have hi5 : ∀ w ∈ wsX50, w ∈ wsX5_keep := by decide +kernel
  refine lv_iload_n hx hb dX5_keep_0 rfl (lv_at hl 1 rfl) ?_
  refine z_newI (M := k) S hE (by omega) hW har rfl (by omega) (Nat.le_of_ble_eq_true rfl) (by dsimp only; omega) dX5_keep_1 (fun ad1 H had1 hW => ?_)
  replace hl : lv_has ls 5 [(0, .ref (ad1 (35 + 2 * i))), (1, .int (nI k)), (2, .int more)] := by
    rw [had1 (35 + 2 * i) (by omega)]; exact hl
  refine lv_astore_n (lv' := [(3, .ref (ad1 n)), (0, .ref (ad1 (35 + 2 * i))), (1, .int (nI k)), (2, .int more)]) hx hb dX5_keep_3 rfl hl (by decide) rfl (fun ls hl => ?_)
  refine lv_iconst (v := 0) hx hb dX5_keep_4 (by decide) ?_
  refine lv_istore (lv' := [(4, .int 0), (3, .ref (ad1 n)), (0, .ref (ad1 (35 + 2 * i))), (1, .int (nI k)), (2, .int more)]) hx hb dX5_keep_5 hl (by decide) rfl (fun ls hl => ?_)
  have L7 : ∀ (kq j : Nat) (H : Heap) (locs : List Loc) (ls : Array Slot), j + kq = k → WS D (n + 1) ad1 (sW cy ad1 N B al be (cen ex n (.inl (cy 0, k, .inl (kpW (be (17 + i)) a more j))))) (Acc n ad s.heap.size) s.heap H locs → lv_has ls 5 [(4, .int (nI j)), (3, .ref (ad1 n)), (0, .ref (ad1 (35 + 2 * i))), (1, .int (nI k)), (2, .int more)] → W p l e ({ frames := 0, cells := 1, slots := 8, locals := 0 }) s m args below meth c H locs (0 + 1) (0 + k) (MQ below (QGv D n ad s.heap.size (fun ad2 : Nat → Nat => ∀ j, j ≠ 36 + 2 * i → ad2 j = ad j) (fun ad2 => wL n ad2 (sW cy ad2 N B al (zup (zset be (17 + i) (kpF (be (17 + i)) a k more)) (10 + i) 2 (nI k)) ex))) args s 1 8 (Acc n ad s.heap.size)) (F0 m 7 ls []) := by
    intro kq
    induction kq with
    | zero =>
      intro j H locs ls hjk hW hl
      have hjN : j = k := by omega
      try rw [hjN] at hW
      try rw [hjN] at hl
      refine lv_iload hx hb dX5_keep_7 (lv_at hl 0 rfl) ?_
      refine lv_iload_n hx hb dX5_keep_9 rfl (lv_at hl 3 rfl) ?_
      refine lv_icmp_ge (tgt := 44) hx hb dX5_keep_10 (by decide) (fun _ => ?_) (fun h => absurd (nI_le (Nat.le_refl k) (by omega)) h)
      refine lv_aload_n hx hb dX5_keep_44 rfl (lv_at hl 2 rfl) ?_
      refine lv_aload_n hx hb dX5_keep_45 rfl (lv_at hl 1 rfl) ?_
      refine z_putR (ce' := cen (sW cy ad1 N B al be (cen ex n (.inl (cy 0, k, .inl (kpW (be (17 + i)) a more k))))) (35 + 2 * i) (.inr (5, [.int (be (10 + i) 0), .int (be (10 + i) 3), .int (be (10 + i) 4), .ref (ad1 n)]))) (C := RX5) (T := TX5) (M := 4) (ci := 5) S hE hW hi5 tyX5 tyX5_ok nmX5 rfl (by omega) (sW_so (i := i) hi) 3 (by decide) rfl f13 rfl rfl rfl (Nat.le_of_ble_eq_true rfl) cen_k (fun j h => cen_o h) dX5_keep_46 (fun H locs hW => ?_)
      exact zg_v S (keep_re (k := k) (a := a) (v := more) hn hN6 hi (by omega) had1 (fun q hq => kpW_F (by omega) hq) hW) hr hlk (fun q => if q = 36 + 2 * i then ad1 n else ad q) rfl (fun j hj => if_neg hj) (Nat.le_of_ble_eq_true rfl) (by omega) dX5_keep_49
    | succ kq ih =>
      intro j H locs ls hjk hW hl
      have hj : j < k := by omega
      refine lv_iload hx hb dX5_keep_7 (lv_at hl 0 rfl) ?_
      refine lv_iload_n hx hb dX5_keep_9 rfl (lv_at hl 3 rfl) ?_
      refine lv_icmp_ge (tgt := 44) hx hb dX5_keep_10 (by decide) (fun h => absurd h (nI_ge hj (by omega))) (fun _ => ?_)
      refine lv_aload_n hx hb dX5_keep_13 rfl (lv_at hl 1 rfl) ?_
      refine lv_iload hx hb dX5_keep_14 (lv_at hl 0 rfl) ?_
      refine lv_iload hx hb dX5_keep_16 (lv_at hl 0 rfl) ?_
      refine lv_aload_n hx hb dX5_keep_18 rfl (lv_at hl 2 rfl) ?_
      refine z_get (C := RX5) (T := TX5) (N := 4) (ci := 5) S hE hW hi5 rfl (by omega) (sW_so (i := i) hi) 3 (by decide) rfl f13 (v := .ref (ad1 (36 + 2 * i))) rfl dX5_keep_19 ?_
      refine z_alenG (t0 := 0) S hE hW (by omega) (sW_sal hi ha (by omega)) rfl (v := nI a) rfl dX5_keep_22 ?_
      refine lv_icmp_ge (tgt := 36) hx hb dX5_keep_23 (by decide) (fun c23 => ?_) (fun c23 => ?_)
      · have hja : ¬ j < a := fun h => nI_ge h (by omega) c23
        refine lv_iload_n hx hb dX5_keep_36 rfl (lv_at hl 4 rfl) ?_
        refine z_ast (ce' := sW cy ad1 N B al be (cen ex n (.inl (cy 0, k, .inl (upd (kpW (be (17 + i)) a more j) j more))))) S hE hW (by omega) ((sW_x (by omega)).trans cen_k) j rfl (by omega) (by omega) ((sW_x (by omega)).trans cen_k) (fun j h => sW_ext (cen_oo h)) dX5_keep_37 (fun H locs hW => ?_)
        refine lv_iinc (v := nI (j + 1)) (lv' := [(4, .int (nI (j + 1))), (3, .ref (ad1 n)), (0, .ref (ad1 (35 + 2 * i))), (1, .int (nI k)), (2, .int more)]) hx hb dX5_keep_38 hl (k := 0) rfl (nI_1 _) (by decide) rfl (fun ls hl => ?_)
        refine lv_goto (tgt := 7) hx hb dX5_keep_41 (by decide) ?_
        rw [kpW_n hja] at hW
        exact ih (j + 1) H locs ls (by omega) hW (lv_sub hl [0, 1, 2, 3, 4] rfl)
      · have hja : j < a := Nat.lt_of_not_le (fun h => c23 (nI_le h (by omega)))
        refine lv_aload_n hx hb dX5_keep_26 rfl (lv_at hl 2 rfl) ?_
        refine z_get (C := RX5) (T := TX5) (N := 4) (ci := 5) S hE hW hi5 rfl (by omega) (sW_so (i := i) hi) 3 (by decide) rfl f13 (v := .ref (ad1 (36 + 2 * i))) rfl dX5_keep_27 ?_
        refine lv_iload hx hb dX5_keep_30 (lv_at hl 0 rfl) ?_
        refine z_ald S hE hW (by omega) (sW_sal hi ha (by omega)) j rfl (by omega) (by omega) (v := be (17 + i) j) rfl dX5_keep_32 ?_
        refine lv_goto (tgt := 37) hx hb dX5_keep_33 (by decide) ?_
        refine z_ast (ce' := sW cy ad1 N B al be (cen ex n (.inl (cy 0, k, .inl (upd (kpW (be (17 + i)) a more j) j (be (17 + i) j)))))) S hE hW (by omega) ((sW_x (by omega)).trans cen_k) j rfl (by omega) (by omega) ((sW_x (by omega)).trans cen_k) (fun j h => sW_ext (cen_oo h)) dX5_keep_37 (fun H locs hW => ?_)
        refine lv_iinc (v := nI (j + 1)) (lv' := [(4, .int (nI (j + 1))), (3, .ref (ad1 n)), (0, .ref (ad1 (35 + 2 * i))), (1, .int (nI k)), (2, .int more)]) hx hb dX5_keep_38 hl (k := 0) rfl (nI_1 _) (by decide) rfl (fun ls hl => ?_)
        refine lv_goto (tgt := 7) hx hb dX5_keep_41 (by decide) ?_
        rw [kpW_y hja] at hW
        exact ih (j + 1) H locs ls (by omega) hW (lv_sub hl [0, 1, 2, 3, 4] rfl)
  exact L7 (k) 0 _ _ ls (by omega) hW (lv_sub hl [0, 1, 2, 3, 4] rfl)
