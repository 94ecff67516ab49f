/-! the law, case by case -/
def exo : Nat → va_E := fun _ => .inr (0, [])
/-- the law's world: both sides, and the row of answers -/
abbrev lwC (cy ad : Nat → Nat) (al : Nat → Nat → Int32) (th : Int32) (f : Nat → Int64) : Nat → va_E := cM cy ad (enc al th) (cC cy ad al (exW cy exo f))
theorem lw_sw {cy ad : Nat → Nat} {be ta : Nat → Nat → Int32} {ex : Nat → va_E} {f : Nat → Int64} : cC cy ad be (exW cy (cM cy ad ta ex) f) = cM cy ad ta (cC cy ad be (exW cy ex f)) := by
  have e : exW cy (cM cy ad ta ex) f = cM cy ad ta (exW cy ex f) := by
    funext k
    unfold exW cM
    by_cases h : k = 35
    · subst h
      rfl
    · rw [if_neg h]
      by_cases h2 : 28 ≤ k ∧ k < 35
      · rw [if_pos h2, if_pos h2]
      · rw [if_neg h2, if_neg h2]
        exact (if_neg h).symm
  rw [e, cC_M]
theorem lw_35 {cy ad : Nat → Nat} {be ta : Nat → Nat → Int32} {ex : Nat → va_E} {f : Nat → Int64} : cM cy ad ta (cC cy ad be (exW cy ex f)) 35 = .inl (cy 4, 1, .inr (.inl f)) := (cM_x (Nat.le_refl 35)).trans ((cC_x (by decide)).trans exW_k)
theorem z_cmp0 {x : Int64} : lg_cmp x x = 0 := by simp [lg_cmp]
section LQ
variable {p : Program} {l : Launch} {e : Env} {R : Room} {s : State} {m : MethodId} {args : Array Value} {below : List Frame} {meth : Method} {c : Code} {H : Heap} {locs : List Loc} {cells slots : Nat} {Q : State → Prop}
variable {cc : ByteArray} {nL : Nat} {Ts : List Cond} {own : String} {pc : Nat} {ls : Array Slot} {rest : List Value} {D : va_G} {n : Nat} {ad cy sa : Nat → Nat} {ce ce' : Nat → va_E} {A : Nat → Prop}
theorem z_sld {b L : Nat} {xs : Nat → Int32} (S : CallFix p m c cc nL s args Ts own) (hX : va_X b L xs s s.heap) (hbl : b < s.heap.size) (hbA : ¬ A b) (hW : WS D n ad ce A s.heap H locs) {x : Int32} (j : Nat) (hx : x = nI j) (hj : j < L) (hL : L ≤ 2048) (hdg : decode cc pc = .ok (.iaload, 1))
    (kk : W p l e R s m args below meth c H locs cells slots Q (F0 m (pc + 1) ls (.int (xs j) :: rest))) : W p l e R s m args below meth c H locs cells slots Q (F0 m pc ls (.int x :: .ref b :: rest)) := by
  subst hx
  have h9 := z_inj hj (show L < 2 ^ 31 by omega)
  refine va_sld S.1 S.2.1 hX hbl hbA hW.2.2 h9.1 hdg ?_
  rw [h9.2]
  exact kk
theorem z_cL {St : Type} {post : Int32 → St → Prop} {ceF : St → Nat → va_E} {y : MethodName} {ws : List Cond} {rm : Room} {mc ms N index maxL : Nat} {bytes : ByteArray} {ret : Option FieldType} {hh : List (Nat × Nat × Nat × Nat)} {st0 As : List Value} (S : CallFix p m c cc nL s args Ts own) (hE : ZEnv D cy sa A s) (hW : WS D n ad ce A s.heap H locs) (hM : Met l y ws rm (PW D n ad cy sa H.size ce As) (QWi D n ad H.size post ceF) mc ms (Acc n ad H.size)) (cw : vx_CSW R s args own index y bytes maxL ret hh ws rm mc ms N) (hn : As.length = N) (hz : ls.size = nL) (hst : st0 = As.reverse ++ rest) (hr : (rest.map fun v => v.category).sum ≤ 8) (hdg : decode cc pc = .ok (.invokestatic index, 3)) (hf : cells + mc ≤ R.cells ∧ slots + ms ≤ R.slots)
    (kk : ∀ (r : Int32) (u : St) (H1 : Heap) (locs1 : List Loc), post r u → WS D n ad (ceF u) A s.heap H1 locs1 → W p l e R s m args below meth c H1 locs1 (cells + mc) (slots + ms) Q (F0 m (pc + 3) ls (.int r :: rest))) : W p l e R s m args below meth c H locs cells slots Q (F0 m pc ls st0) :=
  va_calli (vx_runSW (As := As) (rest := rest) S hM cw ⟨PW_blind, PW_at hE hW⟩ rfl hn hz hst (lv_room hr) hdg hf) hW.2.2 (fun q _ h => hW.acc hE.2 q h) (hW.acc hE.2) (fun r u t H1 locs1 ht hvm hp hB hz1 hk1 hS1 => kk r u H1 locs1 hp ⟨by rw [← ht]; exact hB, wL_D hW.2.1, hS1⟩)
end LQ
set_option maxHeartbeats 4000000 in
set_option maxRecDepth 100000 in
theorem lc_set {p : Program} (l : Launch) {e : Env} {s : State} {m : MethodId} {args : Array Value} {below : List Frame} {meth : Method} {c : Code} {H : Heap} {locs : List Loc} {cells slots : Nat} {Q : State → Prop} {ls : Array Slot} {D : va_G} {ad cy sa : Nat → Nat} {A : Nat → Prop} {b L i N B h : Nat} {xs : Nat → Int32} {al : Nat → Nat → Int32} {th : Int32} {f : Nat → Int64} (hfl : l.stackTraces = false) (S : CallFix p m c cL_law 9 s args wsL_law RL) (hE : ZEnv D cy sa A s) (hX : va_X b L xs s s.heap) (hbl : b < s.heap.size) (hbA : ¬ A b) (hL2 : L ≤ 2048) (hi : i + 4 ≤ L) (I : Inv al N B h) (hh2 : h < 2 ^ 19) (hcl : cells + 8 ≤ 601024) (hsl : slots + 100 ≤ 7293034) (hW : WS D 36 ad (lwC cy ad al th f) A s.heap H locs) (hl : lv_has ls 9 [(4, .int (nI i)), (3, .ref (ad 35)), (2, .ref (ad 28)), (1, .ref (ad 0)), (0, .ref b)]) (kk : ∀ (al2 : Nat → Nat → Int32) (th2 : Int32) (f2 : Nat → Int64) (N2 B2 h2 : Nat) (H : Heap) (locs : List Loc) (ls : Array Slot), Inv al2 N2 B2 h2 → h2 ≤ h + 60 → WS D 36 ad (lwC cy ad al2 th2 f2) A s.heap H locs → lv_has ls 9 [(4, .int (nI i)), (3, .ref (ad 35)), (2, .ref (ad 28)), (1, .ref (ad 0)), (0, .ref b)] → W p l e room_1 s m args below meth c H locs (cells + 8) (slots + 100) Q (F0 m 1343 ls [])) : W p l e room_1 s m args below meth c H locs cells slots Q (F0 m 132 ls []) := by
  have hx := S.1
  have hb := S.2.1
  have hown := S.2.2.2.1
  have hts := S.2.2.2.2
  have hN := I.1.1
  have hN6 := I.1.2.1
  have hB := I.1.2.2.1
  have hB4 := I.1.2.2.2.1
  have hh := I.1.2.2.2.2
  refine lv_aload_n hx hb dL_law_132 rfl (lv_at hl 3 rfl) ?_
  refine lv_aload_n hx hb dL_law_133 rfl (lv_at hl 4 rfl) ?_
  refine lv_iload hx hb dL_law_134 (lv_at hl 0 rfl) ?_
  refine lv_iconst (v := 1) hx hb dL_law_136 (by decide) ?_
  refine lv_iadd hx hb dL_law_137 ?_
  refine z_sld S hX hbl hbA hW (i + 1) (nI_add i 1) (by omega) hL2 dL_law_138 ?_
  refine lv_aload_n hx hb dL_law_139 rfl (lv_at hl 4 rfl) ?_
  refine lv_iload hx hb dL_law_140 (lv_at hl 0 rfl) ?_
  refine lv_iconst (v := 2) hx hb dL_law_142 (by decide) ?_
  refine lv_iadd hx hb dL_law_143 ?_
  refine z_sld S hX hbl hbA hW (i + 2) (nI_add i 2) (by omega) hL2 dL_law_144 ?_
  refine lv_aload_n hx hb dL_law_145 rfl (lv_at hl 4 rfl) ?_
  refine lv_iload hx hb dL_law_146 (lv_at hl 0 rfl) ?_
  refine lv_iconst (v := 3) hx hb dL_law_148 (by decide) ?_
  refine lv_iadd hx hb dL_law_149 ?_
  refine z_sld S hX hbl hbA hW (i + 3) (nI_add i 3) (by omega) hL2 dL_law_150 ?_
  refine lv_aload_n hx hb dL_law_151 rfl (lv_at hl 1 rfl) ?_
  have hk2 : k_set al (xs (i + 1)) (xs (i + 2)) (xs (i + 3)) ≤ 2 := by unfold k_set; (repeat' split) <;> decide
  replace hW := hW.to lw_sw.symm
  refine z_cL (As := [.ref (ad 0), .int (xs (i + 1)), .int (xs (i + 2)), .int (xs (i + 3)), .ref (ad 35)]) (rest := []) S hE hW (cL_set_ok l D 36 ad cy sa H.size (by decide) al _ f exW_k (xs (i + 1)) (xs (i + 2)) (xs (i + 3))  hfl) (vx_cwSW 5 hts gL_law_L_set rfl rfl rfl (by decide +kernel) ⟨Nat.le_of_ble_eq_true rfl, Nat.le_of_ble_eq_true rfl⟩) rfl hl.1 rfl (Nat.le_of_ble_eq_true rfl) dL_law_152 ⟨(by show cells + 1 ≤ 601024; omega), (by show slots + 6 ≤ 7293034; omega)⟩ (fun r _ H locs hp hW => ?_)
  subst hp
  replace hW := hW.to ((congrArg (cC cy ad (if k_set al (xs (i + 1)) (xs (i + 2)) (xs (i + 3)) = 0 then u_set al (xs (i + 1)) (xs (i + 2)) (xs (i + 3)) else al)) exW_2).trans lw_sw)
  refine lv_istore (lv' := [(5, .int (nI (k_set al (xs (i + 1)) (xs (i + 2)) (xs (i + 3))))), (4, .int (nI i)), (3, .ref (ad 35)), (2, .ref (ad 28)), (1, .ref (ad 0)), (0, .ref b)]) hx hb dL_law_155 hl (by decide) rfl (fun ls hl => ?_)
  refine lv_aload_n hx hb dL_law_157 rfl (lv_at hl 3 rfl) ?_
  refine lv_aload_n hx hb dL_law_158 rfl (lv_at hl 5 rfl) ?_
  refine lv_iload hx hb dL_law_159 (lv_at hl 1 rfl) ?_
  refine lv_iconst (v := 1) hx hb dL_law_161 (by decide) ?_
  refine lv_iadd hx hb dL_law_162 ?_
  refine z_sld S hX hbl hbA hW (i + 1) (nI_add i 1) (by omega) hL2 dL_law_163 ?_
  refine lv_aload_n hx hb dL_law_164 rfl (lv_at hl 5 rfl) ?_
  refine lv_iload hx hb dL_law_165 (lv_at hl 1 rfl) ?_
  refine lv_iconst (v := 2) hx hb dL_law_167 (by decide) ?_
  refine lv_iadd hx hb dL_law_168 ?_
  refine z_sld S hX hbl hbA hW (i + 2) (nI_add i 2) (by omega) hL2 dL_law_169 ?_
  refine lv_aload_n hx hb dL_law_170 rfl (lv_at hl 5 rfl) ?_
  refine lv_iload hx hb dL_law_171 (lv_at hl 1 rfl) ?_
  refine lv_iconst (v := 3) hx hb dL_law_173 (by decide) ?_
  refine lv_iadd hx hb dL_law_174 ?_
  refine z_sld S hX hbl hbA hW (i + 3) (nI_add i 3) (by omega) hL2 dL_law_175 ?_
  refine z_cVi (As := [.int (xs (i + 1)), .int (xs (i + 2)), .int (xs (i + 3))]) (rest := []) (k := 28) S hE hW (cX4_set_ok l D 36 ad cy sa H.size (by decide) al th _ (xs (i + 1)) (xs (i + 2)) (xs (i + 3)) ) (cwV 3 hts gL_law_X4_set rfl rfl rfl (by decide +kernel) ⟨Nat.le_of_ble_eq_true rfl, Nat.le_of_ble_eq_true rfl⟩) (by decide) cM_0 rfl rfl rfl hl.1 rfl (Nat.le_of_ble_eq_true rfl) dL_law_176 ⟨(by show cells + 1 + 0 ≤ 601024; omega), (by show slots + 6 + 0 ≤ 7293034; omega)⟩ (fun r _ H locs hp hW => ?_)
  subst hp
  refine lv_istore (lv' := [(6, .int (if k_set al (xs (i + 1)) (xs (i + 2)) (xs (i + 3)) = 0 then v_set al (xs (i + 1)) (xs (i + 2)) (xs (i + 3)) else 0)), (5, .int (nI (k_set al (xs (i + 1)) (xs (i + 2)) (xs (i + 3))))), (4, .int (nI i)), (3, .ref (ad 35)), (2, .ref (ad 28)), (1, .ref (ad 0)), (0, .ref b)]) hx hb dL_law_179 hl (by decide) rfl (fun ls hl => ?_)
  refine lv_aload_n hx hb dL_law_181 rfl (lv_at hl 4 rfl) ?_
  refine z_cVi (As := []) (rest := []) (k := 28) S hE hW (cX4_thrown_ok l D 36 ad cy sa H.size (by decide) (if k_set al (xs (i + 1)) (xs (i + 2)) (xs (i + 3)) = 0 then u_set al (xs (i + 1)) (xs (i + 2)) (xs (i + 3)) else al) (nI (k_set al (xs (i + 1)) (xs (i + 2)) (xs (i + 3)))) _) (cwV 0 hts gL_law_X4_thrown rfl rfl rfl (by decide +kernel) ⟨Nat.le_of_ble_eq_true rfl, Nat.le_of_ble_eq_true rfl⟩) (by decide) cM_0 rfl rfl rfl hl.1 rfl (Nat.le_of_ble_eq_true rfl) dL_law_182 ⟨(by show cells + 1 + 0 + 0 ≤ 601024; omega), (by show slots + 6 + 0 + 0 ≤ 7293034; omega)⟩ (fun r _ H locs hp hW => ?_)
  subst hp
  refine lv_iload hx hb dL_law_185 (lv_at hl 1 rfl) ?_
  refine lv_icmp_eq (tgt := 192) hx hb dL_law_187 (by decide) (fun _ => ?_) (fun h => absurd rfl h)
  refine lv_iload hx hb dL_law_192 (lv_at hl 1 rfl) ?_
  by_cases hk : k_set al (xs (i + 1)) (xs (i + 2)) (xs (i + 3)) = 0
  · refine lv_if_ne (tgt := 209) hx hb dL_law_194 (by decide) (fun h => absurd (show nI (k_set al (xs (i + 1)) (xs (i + 2)) (xs (i + 3))) = 0 by rw [hk]; rfl) h) (fun _ => ?_)
    refine lv_aload_n hx hb dL_law_197 rfl (lv_at hl 3 rfl) ?_
    refine lv_iconst (v := 0) hx hb dL_law_198 (by decide) ?_
    refine z_lld S hE hW (by decide) lw_35 0 rfl (by decide) (by decide) (v := (v_set al (xs (i + 1)) (xs (i + 2)) (xs (i + 3))).toInt64) (by rw [if_pos hk]; exact pk_uLs) dL_law_199 ?_
    refine lv_iload hx hb dL_law_200 (lv_at hl 0 rfl) ?_
    refine z_top2 (y := v_set al (xs (i + 1)) (xs (i + 2)) (xs (i + 3))) (if_pos hk) ?_
    refine lv_i2l (v := ((v_set al (xs (i + 1)) (xs (i + 2)) (xs (i + 3)))).toInt64) hx hb dL_law_202 rfl ?_
    refine W.lcmp hx hb dL_law_203 ?_
    refine z_top2 (y := 0) z_cmp0 ?_
    refine lv_if_eq (tgt := 209) hx hb dL_law_204 (by decide) (fun _ => ?_) (fun h => absurd rfl h)
    refine lv_goto (tgt := 1343) hx hb dL_law_209 (by decide) ?_
    refine W.widen (k := cells + 8) (n := slots + 100) (by omega) (by omega) ?_
    obtain ⟨N2, B2, h2, I2, hh9⟩ := io_set I (xs (i + 1)) (xs (i + 2)) (xs (i + 3))
    exact kk _ (nI (k_set al (xs (i + 1)) (xs (i + 2)) (xs (i + 3)))) _ N2 B2 h2 H locs ls I2 hh9 hW (lv_sub hl [2, 3, 4, 5, 6] rfl)
  · refine lv_if_ne (tgt := 209) hx hb dL_law_194 (by decide) (fun _ => ?_) (fun h => absurd h (nI_ne0 (by omega) (by omega)))
    refine lv_goto (tgt := 1343) hx hb dL_law_209 (by decide) ?_
    refine W.widen (k := cells + 8) (n := slots + 100) (by omega) (by omega) ?_
    obtain ⟨N2, B2, h2, I2, hh9⟩ := io_set I (xs (i + 1)) (xs (i + 2)) (xs (i + 3))
    exact kk _ (nI (k_set al (xs (i + 1)) (xs (i + 2)) (xs (i + 3)))) _ N2 B2 h2 H locs ls I2 hh9 hW (lv_sub hl [2, 3, 4, 5, 6] rfl)
set_option maxHeartbeats 4000000 in
set_option maxRecDepth 100000 in
theorem lc_setGust {p : Program} (l : Launch) {e : Env} {s : State} {m : MethodId} {args : Array Value} {below : List Frame} {meth : Method} {c : Code} {H : Heap} {locs : List Loc} {cells slots : Nat} {Q : State → Prop} {ls : Array Slot} {D : va_G} {ad cy sa : Nat → Nat} {A : Nat → Prop} {b L i N B h : Nat} {xs : Nat → Int32} {al : Nat → Nat → Int32} {th : Int32} {f : Nat → Int64} (hfl : l.stackTraces = false) (S : CallFix p m c cL_law 9 s args wsL_law RL) (hE : ZEnv D cy sa A s) (hX : va_X b L xs s s.heap) (hbl : b < s.heap.size) (hbA : ¬ A b) (hL2 : L ≤ 2048) (hi : i + 4 ≤ L) (I : Inv al N B h) (hh2 : h < 2 ^ 19) (hcl : cells + 8 ≤ 601024) (hsl : slots + 100 ≤ 7293034) (hW : WS D 36 ad (lwC cy ad al th f) A s.heap H locs) (hl : lv_has ls 9 [(4, .int (nI i)), (3, .ref (ad 35)), (2, .ref (ad 28)), (1, .ref (ad 0)), (0, .ref b)]) (kk : ∀ (al2 : Nat → Nat → Int32) (th2 : Int32) (f2 : Nat → Int64) (N2 B2 h2 : Nat) (H : Heap) (locs : List Loc) (ls : Array Slot), Inv al2 N2 B2 h2 → h2 ≤ h + 60 → WS D 36 ad (lwC cy ad al2 th2 f2) A s.heap H locs → lv_has ls 9 [(4, .int (nI i)), (3, .ref (ad 35)), (2, .ref (ad 28)), (1, .ref (ad 0)), (0, .ref b)] → W p l e room_1 s m args below meth c H locs (cells + 8) (slots + 100) Q (F0 m 1343 ls [])) : W p l e room_1 s m args below meth c H locs cells slots Q (F0 m 212 ls []) := by
  have hx := S.1
  have hb := S.2.1
  have hown := S.2.2.2.1
  have hts := S.2.2.2.2
  have hN := I.1.1
  have hN6 := I.1.2.1
  have hB := I.1.2.2.1
  have hB4 := I.1.2.2.2.1
  have hh := I.1.2.2.2.2
  refine lv_aload_n hx hb dL_law_212 rfl (lv_at hl 3 rfl) ?_
  refine lv_aload_n hx hb dL_law_213 rfl (lv_at hl 4 rfl) ?_
  refine lv_iload hx hb dL_law_214 (lv_at hl 0 rfl) ?_
  refine lv_iconst (v := 1) hx hb dL_law_216 (by decide) ?_
  refine lv_iadd hx hb dL_law_217 ?_
  refine z_sld S hX hbl hbA hW (i + 1) (nI_add i 1) (by omega) hL2 dL_law_218 ?_
  refine lv_aload_n hx hb dL_law_219 rfl (lv_at hl 4 rfl) ?_
  refine lv_iload hx hb dL_law_220 (lv_at hl 0 rfl) ?_
  refine lv_iconst (v := 2) hx hb dL_law_222 (by decide) ?_
  refine lv_iadd hx hb dL_law_223 ?_
  refine z_sld S hX hbl hbA hW (i + 2) (nI_add i 2) (by omega) hL2 dL_law_224 ?_
  refine lv_aload_n hx hb dL_law_225 rfl (lv_at hl 1 rfl) ?_
  have hk2 : k_setGust al (xs (i + 1)) (xs (i + 2)) ≤ 2 := by unfold k_setGust; (repeat' split) <;> decide
  replace hW := hW.to lw_sw.symm
  refine z_cL (As := [.ref (ad 0), .int (xs (i + 1)), .int (xs (i + 2)), .ref (ad 35)]) (rest := []) S hE hW (cL_setGust_ok l D 36 ad cy sa H.size (by decide) al _ f exW_k (xs (i + 1)) (xs (i + 2))  hfl) (vx_cwSW 4 hts gL_law_L_setGust rfl rfl rfl (by decide +kernel) ⟨Nat.le_of_ble_eq_true rfl, Nat.le_of_ble_eq_true rfl⟩) rfl hl.1 rfl (Nat.le_of_ble_eq_true rfl) dL_law_226 ⟨(by show cells + 1 ≤ 601024; omega), (by show slots + 6 ≤ 7293034; omega)⟩ (fun r _ H locs hp hW => ?_)
  subst hp
  replace hW := hW.to ((congrArg (cC cy ad (if k_setGust al (xs (i + 1)) (xs (i + 2)) = 0 then u_setGust al (xs (i + 1)) (xs (i + 2)) else al)) exW_2).trans lw_sw)
  refine lv_istore (lv' := [(5, .int (nI (k_setGust al (xs (i + 1)) (xs (i + 2))))), (4, .int (nI i)), (3, .ref (ad 35)), (2, .ref (ad 28)), (1, .ref (ad 0)), (0, .ref b)]) hx hb dL_law_229 hl (by decide) rfl (fun ls hl => ?_)
  refine lv_aload_n hx hb dL_law_231 rfl (lv_at hl 3 rfl) ?_
  refine lv_aload_n hx hb dL_law_232 rfl (lv_at hl 5 rfl) ?_
  refine lv_iload hx hb dL_law_233 (lv_at hl 1 rfl) ?_
  refine lv_iconst (v := 1) hx hb dL_law_235 (by decide) ?_
  refine lv_iadd hx hb dL_law_236 ?_
  refine z_sld S hX hbl hbA hW (i + 1) (nI_add i 1) (by omega) hL2 dL_law_237 ?_
  refine lv_aload_n hx hb dL_law_238 rfl (lv_at hl 5 rfl) ?_
  refine lv_iload hx hb dL_law_239 (lv_at hl 1 rfl) ?_
  refine lv_iconst (v := 2) hx hb dL_law_241 (by decide) ?_
  refine lv_iadd hx hb dL_law_242 ?_
  refine z_sld S hX hbl hbA hW (i + 2) (nI_add i 2) (by omega) hL2 dL_law_243 ?_
  refine z_cVi (As := [.int (xs (i + 1)), .int (xs (i + 2))]) (rest := []) (k := 28) S hE hW (cX4_setGust_ok l D 36 ad cy sa H.size (by decide) al th _ (xs (i + 1)) (xs (i + 2)) ) (cwV 2 hts gL_law_X4_setGust rfl rfl rfl (by decide +kernel) ⟨Nat.le_of_ble_eq_true rfl, Nat.le_of_ble_eq_true rfl⟩) (by decide) cM_0 rfl rfl rfl hl.1 rfl (Nat.le_of_ble_eq_true rfl) dL_law_244 ⟨(by show cells + 1 + 0 ≤ 601024; omega), (by show slots + 6 + 0 ≤ 7293034; omega)⟩ (fun r _ H locs hp hW => ?_)
  subst hp
  refine lv_istore (lv' := [(6, .int (if k_setGust al (xs (i + 1)) (xs (i + 2)) = 0 then v_setGust al (xs (i + 1)) (xs (i + 2)) else 0)), (5, .int (nI (k_setGust al (xs (i + 1)) (xs (i + 2))))), (4, .int (nI i)), (3, .ref (ad 35)), (2, .ref (ad 28)), (1, .ref (ad 0)), (0, .ref b)]) hx hb dL_law_247 hl (by decide) rfl (fun ls hl => ?_)
  refine lv_aload_n hx hb dL_law_249 rfl (lv_at hl 4 rfl) ?_
  refine z_cVi (As := []) (rest := []) (k := 28) S hE hW (cX4_thrown_ok l D 36 ad cy sa H.size (by decide) (if k_setGust al (xs (i + 1)) (xs (i + 2)) = 0 then u_setGust al (xs (i + 1)) (xs (i + 2)) else al) (nI (k_setGust al (xs (i + 1)) (xs (i + 2)))) _) (cwV 0 hts gL_law_X4_thrown rfl rfl rfl (by decide +kernel) ⟨Nat.le_of_ble_eq_true rfl, Nat.le_of_ble_eq_true rfl⟩) (by decide) cM_0 rfl rfl rfl hl.1 rfl (Nat.le_of_ble_eq_true rfl) dL_law_250 ⟨(by show cells + 1 + 0 + 0 ≤ 601024; omega), (by show slots + 6 + 0 + 0 ≤ 7293034; omega)⟩ (fun r _ H locs hp hW => ?_)
  subst hp
  refine lv_iload hx hb dL_law_253 (lv_at hl 1 rfl) ?_
  refine lv_icmp_eq (tgt := 260) hx hb dL_law_255 (by decide) (fun _ => ?_) (fun h => absurd rfl h)
  refine lv_iload hx hb dL_law_260 (lv_at hl 1 rfl) ?_
  by_cases hk : k_setGust al (xs (i + 1)) (xs (i + 2)) = 0
  · refine lv_if_ne (tgt := 277) hx hb dL_law_262 (by decide) (fun h => absurd (show nI (k_setGust al (xs (i + 1)) (xs (i + 2))) = 0 by rw [hk]; rfl) h) (fun _ => ?_)
    refine lv_aload_n hx hb dL_law_265 rfl (lv_at hl 3 rfl) ?_
    refine lv_iconst (v := 0) hx hb dL_law_266 (by decide) ?_
    refine z_lld S hE hW (by decide) lw_35 0 rfl (by decide) (by decide) (v := (v_setGust al (xs (i + 1)) (xs (i + 2))).toInt64) (by rw [if_pos hk]; exact pk_uLs) dL_law_267 ?_
    refine lv_iload hx hb dL_law_268 (lv_at hl 0 rfl) ?_
    refine z_top2 (y := v_setGust al (xs (i + 1)) (xs (i + 2))) (if_pos hk) ?_
    refine lv_i2l (v := ((v_setGust al (xs (i + 1)) (xs (i + 2)))).toInt64) hx hb dL_law_270 rfl ?_
    refine W.lcmp hx hb dL_law_271 ?_
    refine z_top2 (y := 0) z_cmp0 ?_
    refine lv_if_eq (tgt := 277) hx hb dL_law_272 (by decide) (fun _ => ?_) (fun h => absurd rfl h)
    refine lv_goto (tgt := 1343) hx hb dL_law_277 (by decide) ?_
    refine W.widen (k := cells + 8) (n := slots + 100) (by omega) (by omega) ?_
    obtain ⟨N2, B2, h2, I2, hh9⟩ := io_setGust I (xs (i + 1)) (xs (i + 2))
    exact kk _ (nI (k_setGust al (xs (i + 1)) (xs (i + 2)))) _ N2 B2 h2 H locs ls I2 hh9 hW (lv_sub hl [2, 3, 4, 5, 6] rfl)
  · refine lv_if_ne (tgt := 277) hx hb dL_law_262 (by decide) (fun _ => ?_) (fun h => absurd h (nI_ne0 (by omega) (by omega)))
    refine lv_goto (tgt := 1343) hx hb dL_law_277 (by decide) ?_
    refine W.widen (k := cells + 8) (n := slots + 100) (by omega) (by omega) ?_
    obtain ⟨N2, B2, h2, I2, hh9⟩ := io_setGust I (xs (i + 1)) (xs (i + 2))
    exact kk _ (nI (k_setGust al (xs (i + 1)) (xs (i + 2)))) _ N2 B2 h2 H locs ls I2 hh9 hW (lv_sub hl [2, 3, 4, 5, 6] rfl)
set_option maxHeartbeats 4000000 in
set_option maxRecDepth 100000 in
theorem lc_build {p : Program} (l : Launch) {e : Env} {s : State} {m : MethodId} {args : Array Value} {below : List Frame} {meth : Method} {c : Code} {H : Heap} {locs : List Loc} {cells slots : Nat} {Q : State → Prop} {ls : Array Slot} {D : va_G} {ad cy sa : Nat → Nat} {A : Nat → Prop} {b L i N B h : Nat} {xs : Nat → Int32} {al : Nat → Nat → Int32} {th : Int32} {f : Nat → Int64} (hfl : l.stackTraces = false) (S : CallFix p m c cL_law 9 s args wsL_law RL) (hE : ZEnv D cy sa A s) (hX : va_X b L xs s s.heap) (hbl : b < s.heap.size) (hbA : ¬ A b) (hL2 : L ≤ 2048) (hi : i + 4 ≤ L) (I : Inv al N B h) (hh2 : h < 2 ^ 19) (hcl : cells + 8 ≤ 601024) (hsl : slots + 100 ≤ 7293034) (hW : WS D 36 ad (lwC cy ad al th f) A s.heap H locs) (hl : lv_has ls 9 [(4, .int (nI i)), (3, .ref (ad 35)), (2, .ref (ad 28)), (1, .ref (ad 0)), (0, .ref b)]) (kk : ∀ (al2 : Nat → Nat → Int32) (th2 : Int32) (f2 : Nat → Int64) (N2 B2 h2 : Nat) (H : Heap) (locs : List Loc) (ls : Array Slot), Inv al2 N2 B2 h2 → h2 ≤ h + 60 → WS D 36 ad (lwC cy ad al2 th2 f2) A s.heap H locs → lv_has ls 9 [(4, .int (nI i)), (3, .ref (ad 35)), (2, .ref (ad 28)), (1, .ref (ad 0)), (0, .ref b)] → W p l e room_1 s m args below meth c H locs (cells + 8) (slots + 100) Q (F0 m 1343 ls [])) : W p l e room_1 s m args below meth c H locs cells slots Q (F0 m 280 ls []) := by
  have hx := S.1
  have hb := S.2.1
  have hown := S.2.2.2.1
  have hts := S.2.2.2.2
  have hN := I.1.1
  have hN6 := I.1.2.1
  have hB := I.1.2.2.1
  have hB4 := I.1.2.2.2.1
  have hh := I.1.2.2.2.2
  refine lv_aload_n hx hb dL_law_280 rfl (lv_at hl 3 rfl) ?_
  refine lv_aload_n hx hb dL_law_281 rfl (lv_at hl 4 rfl) ?_
  refine lv_iload hx hb dL_law_282 (lv_at hl 0 rfl) ?_
  refine lv_iconst (v := 1) hx hb dL_law_284 (by decide) ?_
  refine lv_iadd hx hb dL_law_285 ?_
  refine z_sld S hX hbl hbA hW (i + 1) (nI_add i 1) (by omega) hL2 dL_law_286 ?_
  refine lv_aload_n hx hb dL_law_287 rfl (lv_at hl 1 rfl) ?_
  have hk2 : k_build al (xs (i + 1)) ≤ 2 := by unfold k_build; (repeat' split) <;> decide
  replace hW := hW.to lw_sw.symm
  refine z_cL (As := [.ref (ad 0), .int (xs (i + 1)), .ref (ad 35)]) (rest := []) S hE hW (cL_build_ok l D 36 ad cy sa H.size (by decide) al _ f exW_k (xs (i + 1)) N hN hN6 hfl) (vx_cwSW 3 hts gL_law_L_build rfl rfl rfl (by decide +kernel) ⟨Nat.le_of_ble_eq_true rfl, Nat.le_of_ble_eq_true rfl⟩) rfl hl.1 rfl (Nat.le_of_ble_eq_true rfl) dL_law_288 ⟨(by show cells + 1 ≤ 601024; omega), (by show slots + 6 ≤ 7293034; omega)⟩ (fun r _ H locs hp hW => ?_)
  subst hp
  replace hW := hW.to ((congrArg (cC cy ad (if k_build al (xs (i + 1)) = 0 then u_build al (xs (i + 1)) else al)) exW_2).trans lw_sw)
  refine lv_istore (lv' := [(5, .int (nI (k_build al (xs (i + 1))))), (4, .int (nI i)), (3, .ref (ad 35)), (2, .ref (ad 28)), (1, .ref (ad 0)), (0, .ref b)]) hx hb dL_law_291 hl (by decide) rfl (fun ls hl => ?_)
  refine lv_aload_n hx hb dL_law_293 rfl (lv_at hl 3 rfl) ?_
  refine lv_aload_n hx hb dL_law_294 rfl (lv_at hl 5 rfl) ?_
  refine lv_iload hx hb dL_law_295 (lv_at hl 1 rfl) ?_
  refine lv_iconst (v := 1) hx hb dL_law_297 (by decide) ?_
  refine lv_iadd hx hb dL_law_298 ?_
  refine z_sld S hX hbl hbA hW (i + 1) (nI_add i 1) (by omega) hL2 dL_law_299 ?_
  refine z_cVi (As := [.int (xs (i + 1))]) (rest := []) (k := 28) S hE hW (cX4_build_ok l D 36 ad cy sa H.size (by decide) al th _ (xs (i + 1)) N hN hN6 I.h20) (cwV 1 hts gL_law_X4_build rfl rfl rfl (by decide +kernel) ⟨Nat.le_of_ble_eq_true rfl, Nat.le_of_ble_eq_true rfl⟩) (by decide) cM_0 rfl rfl rfl hl.1 rfl (Nat.le_of_ble_eq_true rfl) dL_law_300 ⟨(by show cells + 1 + 0 ≤ 601024; omega), (by show slots + 6 + 0 ≤ 7293034; omega)⟩ (fun r _ H locs hp hW => ?_)
  subst hp
  refine lv_istore (lv' := [(6, .int (if k_build al (xs (i + 1)) = 0 then v_build al (xs (i + 1)) else 0)), (5, .int (nI (k_build al (xs (i + 1))))), (4, .int (nI i)), (3, .ref (ad 35)), (2, .ref (ad 28)), (1, .ref (ad 0)), (0, .ref b)]) hx hb dL_law_303 hl (by decide) rfl (fun ls hl => ?_)
  refine lv_aload_n hx hb dL_law_305 rfl (lv_at hl 4 rfl) ?_
  refine z_cVi (As := []) (rest := []) (k := 28) S hE hW (cX4_thrown_ok l D 36 ad cy sa H.size (by decide) (if k_build al (xs (i + 1)) = 0 then u_build al (xs (i + 1)) else al) (nI (k_build al (xs (i + 1)))) _) (cwV 0 hts gL_law_X4_thrown rfl rfl rfl (by decide +kernel) ⟨Nat.le_of_ble_eq_true rfl, Nat.le_of_ble_eq_true rfl⟩) (by decide) cM_0 rfl rfl rfl hl.1 rfl (Nat.le_of_ble_eq_true rfl) dL_law_306 ⟨(by show cells + 1 + 0 + 0 ≤ 601024; omega), (by show slots + 6 + 0 + 0 ≤ 7293034; omega)⟩ (fun r _ H locs hp hW => ?_)
  subst hp
  refine lv_iload hx hb dL_law_309 (lv_at hl 1 rfl) ?_
  refine lv_icmp_eq (tgt := 316) hx hb dL_law_311 (by decide) (fun _ => ?_) (fun h => absurd rfl h)
  refine lv_iload hx hb dL_law_316 (lv_at hl 1 rfl) ?_
  by_cases hk : k_build al (xs (i + 1)) = 0
  · refine lv_if_ne (tgt := 333) hx hb dL_law_318 (by decide) (fun h => absurd (show nI (k_build al (xs (i + 1))) = 0 by rw [hk]; rfl) h) (fun _ => ?_)
    refine lv_aload_n hx hb dL_law_321 rfl (lv_at hl 3 rfl) ?_
    refine lv_iconst (v := 0) hx hb dL_law_322 (by decide) ?_
    refine z_lld S hE hW (by decide) lw_35 0 rfl (by decide) (by decide) (v := (v_build al (xs (i + 1))).toInt64) (by rw [if_pos hk]; exact pk_uLs) dL_law_323 ?_
    refine lv_iload hx hb dL_law_324 (lv_at hl 0 rfl) ?_
    refine z_top2 (y := v_build al (xs (i + 1))) (if_pos hk) ?_
    refine lv_i2l (v := ((v_build al (xs (i + 1)))).toInt64) hx hb dL_law_326 rfl ?_
    refine W.lcmp hx hb dL_law_327 ?_
    refine z_top2 (y := 0) z_cmp0 ?_
    refine lv_if_eq (tgt := 333) hx hb dL_law_328 (by decide) (fun _ => ?_) (fun h => absurd rfl h)
    refine lv_goto (tgt := 1343) hx hb dL_law_333 (by decide) ?_
    refine W.widen (k := cells + 8) (n := slots + 100) (by omega) (by omega) ?_
    obtain ⟨N2, B2, h2, I2, hh9⟩ := io_build I (xs (i + 1))
    exact kk _ (nI (k_build al (xs (i + 1)))) _ N2 B2 h2 H locs ls I2 hh9 hW (lv_sub hl [2, 3, 4, 5, 6] rfl)
  · refine lv_if_ne (tgt := 333) hx hb dL_law_318 (by decide) (fun _ => ?_) (fun h => absurd h (nI_ne0 (by omega) (by omega)))
    refine lv_goto (tgt := 1343) hx hb dL_law_333 (by decide) ?_
    refine W.widen (k := cells + 8) (n := slots + 100) (by omega) (by omega) ?_
    obtain ⟨N2, B2, h2, I2, hh9⟩ := io_build I (xs (i + 1))
    exact kk _ (nI (k_build al (xs (i + 1)))) _ N2 B2 h2 H locs ls I2 hh9 hW (lv_sub hl [2, 3, 4, 5, 6] rfl)
set_option maxHeartbeats 4000000 in
set_option maxRecDepth 100000 in
theorem lc_fill {p : Program} (l : Launch) {e : Env} {s : State} {m : MethodId} {args : Array Value} {below : List Frame} {meth : Method} {c : Code} {H : Heap} {locs : List Loc} {cells slots : Nat} {Q : State → Prop} {ls : Array Slot} {D : va_G} {ad cy sa : Nat → Nat} {A : Nat → Prop} {b L i N B h : Nat} {xs : Nat → Int32} {al : Nat → Nat → Int32} {th : Int32} {f : Nat → Int64} (hfl : l.stackTraces = false) (S : CallFix p m c cL_law 9 s args wsL_law RL) (hE : ZEnv D cy sa A s) (hX : va_X b L xs s s.heap) (hbl : b < s.heap.size) (hbA : ¬ A b) (hL2 : L ≤ 2048) (hi : i + 4 ≤ L) (I : Inv al N B h) (hh2 : h < 2 ^ 19) (hcl : cells + 8 ≤ 601024) (hsl : slots + 100 ≤ 7293034) (hW : WS D 36 ad (lwC cy ad al th f) A s.heap H locs) (hl : lv_has ls 9 [(4, .int (nI i)), (3, .ref (ad 35)), (2, .ref (ad 28)), (1, .ref (ad 0)), (0, .ref b)]) (kk : ∀ (al2 : Nat → Nat → Int32) (th2 : Int32) (f2 : Nat → Int64) (N2 B2 h2 : Nat) (H : Heap) (locs : List Loc) (ls : Array Slot), Inv al2 N2 B2 h2 → h2 ≤ h + 60 → WS D 36 ad (lwC cy ad al2 th2 f2) A s.heap H locs → lv_has ls 9 [(4, .int (nI i)), (3, .ref (ad 35)), (2, .ref (ad 28)), (1, .ref (ad 0)), (0, .ref b)] → W p l e room_1 s m args below meth c H locs (cells + 8) (slots + 100) Q (F0 m 1343 ls [])) : W p l e room_1 s m args below meth c H locs cells slots Q (F0 m 336 ls []) := by
  have hx := S.1
  have hb := S.2.1
  have hown := S.2.2.2.1
  have hts := S.2.2.2.2
  have hN := I.1.1
  have hN6 := I.1.2.1
  have hB := I.1.2.2.1
  have hB4 := I.1.2.2.2.1
  have hh := I.1.2.2.2.2
  refine lv_aload_n hx hb dL_law_336 rfl (lv_at hl 3 rfl) ?_
  refine lv_aload_n hx hb dL_law_337 rfl (lv_at hl 4 rfl) ?_
  refine lv_iload hx hb dL_law_338 (lv_at hl 0 rfl) ?_
  refine lv_iconst (v := 1) hx hb dL_law_340 (by decide) ?_
  refine lv_iadd hx hb dL_law_341 ?_
  refine z_sld S hX hbl hbA hW (i + 1) (nI_add i 1) (by omega) hL2 dL_law_342 ?_
  refine lv_aload_n hx hb dL_law_343 rfl (lv_at hl 4 rfl) ?_
  refine lv_iload hx hb dL_law_344 (lv_at hl 0 rfl) ?_
  refine lv_iconst (v := 2) hx hb dL_law_346 (by decide) ?_
  refine lv_iadd hx hb dL_law_347 ?_
  refine z_sld S hX hbl hbA hW (i + 2) (nI_add i 2) (by omega) hL2 dL_law_348 ?_
  refine lv_aload_n hx hb dL_law_349 rfl (lv_at hl 1 rfl) ?_
  have hk2 : k_fill al (xs (i + 1)) (xs (i + 2)) ≤ 2 := by unfold k_fill; (repeat' split) <;> decide
  replace hW := hW.to lw_sw.symm
  refine z_cL (As := [.ref (ad 0), .int (xs (i + 1)), .int (xs (i + 2)), .ref (ad 35)]) (rest := []) S hE hW (cL_fill_ok l D 36 ad cy sa H.size (by decide) al _ f exW_k (xs (i + 1)) (xs (i + 2)) N hN hN6 I.ab hfl) (vx_cwSW 4 hts gL_law_L_fill rfl rfl rfl (by decide +kernel) ⟨Nat.le_of_ble_eq_true rfl, Nat.le_of_ble_eq_true rfl⟩) rfl hl.1 rfl (Nat.le_of_ble_eq_true rfl) dL_law_350 ⟨(by show cells + 1 ≤ 601024; omega), (by show slots + 6 ≤ 7293034; omega)⟩ (fun r _ H locs hp hW => ?_)
  subst hp
  replace hW := hW.to ((congrArg (cC cy ad (if k_fill al (xs (i + 1)) (xs (i + 2)) = 0 then u_fill al (xs (i + 1)) (xs (i + 2)) else al)) exW_2).trans lw_sw)
  refine lv_istore (lv' := [(5, .int (nI (k_fill al (xs (i + 1)) (xs (i + 2))))), (4, .int (nI i)), (3, .ref (ad 35)), (2, .ref (ad 28)), (1, .ref (ad 0)), (0, .ref b)]) hx hb dL_law_353 hl (by decide) rfl (fun ls hl => ?_)
  refine lv_aload_n hx hb dL_law_355 rfl (lv_at hl 3 rfl) ?_
  refine lv_aload_n hx hb dL_law_356 rfl (lv_at hl 5 rfl) ?_
  refine lv_iload hx hb dL_law_357 (lv_at hl 1 rfl) ?_
  refine lv_iconst (v := 1) hx hb dL_law_359 (by decide) ?_
  refine lv_iadd hx hb dL_law_360 ?_
  refine z_sld S hX hbl hbA hW (i + 1) (nI_add i 1) (by omega) hL2 dL_law_361 ?_
  refine lv_aload_n hx hb dL_law_362 rfl (lv_at hl 5 rfl) ?_
  refine lv_iload hx hb dL_law_363 (lv_at hl 1 rfl) ?_
  refine lv_iconst (v := 2) hx hb dL_law_365 (by decide) ?_
  refine lv_iadd hx hb dL_law_366 ?_
  refine z_sld S hX hbl hbA hW (i + 2) (nI_add i 2) (by omega) hL2 dL_law_367 ?_
  refine z_cVi (As := [.int (xs (i + 1)), .int (xs (i + 2))]) (rest := []) (k := 28) S hE hW (cX4_fill_ok l D 36 ad cy sa H.size (by decide) al th _ (xs (i + 1)) (xs (i + 2)) N hN hN6 I.rowO) (cwV 2 hts gL_law_X4_fill rfl rfl rfl (by decide +kernel) ⟨Nat.le_of_ble_eq_true rfl, Nat.le_of_ble_eq_true rfl⟩) (by decide) cM_0 rfl rfl rfl hl.1 rfl (Nat.le_of_ble_eq_true rfl) dL_law_368 ⟨(by show cells + 1 + 0 ≤ 601024; omega), (by show slots + 6 + 0 ≤ 7293034; omega)⟩ (fun r _ H locs hp hW => ?_)
  subst hp
  refine lv_istore (lv' := [(6, .int (if k_fill al (xs (i + 1)) (xs (i + 2)) = 0 then v_fill al (xs (i + 1)) (xs (i + 2)) else 0)), (5, .int (nI (k_fill al (xs (i + 1)) (xs (i + 2))))), (4, .int (nI i)), (3, .ref (ad 35)), (2, .ref (ad 28)), (1, .ref (ad 0)), (0, .ref b)]) hx hb dL_law_371 hl (by decide) rfl (fun ls hl => ?_)
  refine lv_aload_n hx hb dL_law_373 rfl (lv_at hl 4 rfl) ?_
  refine z_cVi (As := []) (rest := []) (k := 28) S hE hW (cX4_thrown_ok l D 36 ad cy sa H.size (by decide) (if k_fill al (xs (i + 1)) (xs (i + 2)) = 0 then u_fill al (xs (i + 1)) (xs (i + 2)) else al) (nI (k_fill al (xs (i + 1)) (xs (i + 2)))) _) (cwV 0 hts gL_law_X4_thrown rfl rfl rfl (by decide +kernel) ⟨Nat.le_of_ble_eq_true rfl, Nat.le_of_ble_eq_true rfl⟩) (by decide) cM_0 rfl rfl rfl hl.1 rfl (Nat.le_of_ble_eq_true rfl) dL_law_374 ⟨(by show cells + 1 + 0 + 0 ≤ 601024; omega), (by show slots + 6 + 0 + 0 ≤ 7293034; omega)⟩ (fun r _ H locs hp hW => ?_)
  subst hp
  refine lv_iload hx hb dL_law_377 (lv_at hl 1 rfl) ?_
  refine lv_icmp_eq (tgt := 384) hx hb dL_law_379 (by decide) (fun _ => ?_) (fun h => absurd rfl h)
  refine lv_iload hx hb dL_law_384 (lv_at hl 1 rfl) ?_
  by_cases hk : k_fill al (xs (i + 1)) (xs (i + 2)) = 0
  · refine lv_if_ne (tgt := 401) hx hb dL_law_386 (by decide) (fun h => absurd (show nI (k_fill al (xs (i + 1)) (xs (i + 2))) = 0 by rw [hk]; rfl) h) (fun _ => ?_)
    refine lv_aload_n hx hb dL_law_389 rfl (lv_at hl 3 rfl) ?_
    refine lv_iconst (v := 0) hx hb dL_law_390 (by decide) ?_
    refine z_lld S hE hW (by decide) lw_35 0 rfl (by decide) (by decide) (v := (v_fill al (xs (i + 1)) (xs (i + 2))).toInt64) (by rw [if_pos hk]; exact pk_uLs) dL_law_391 ?_
    refine lv_iload hx hb dL_law_392 (lv_at hl 0 rfl) ?_
    refine z_top2 (y := v_fill al (xs (i + 1)) (xs (i + 2))) (if_pos hk) ?_
    refine lv_i2l (v := ((v_fill al (xs (i + 1)) (xs (i + 2)))).toInt64) hx hb dL_law_394 rfl ?_
    refine W.lcmp hx hb dL_law_395 ?_
    refine z_top2 (y := 0) z_cmp0 ?_
    refine lv_if_eq (tgt := 401) hx hb dL_law_396 (by decide) (fun _ => ?_) (fun h => absurd rfl h)
    refine lv_goto (tgt := 1343) hx hb dL_law_401 (by decide) ?_
    refine W.widen (k := cells + 8) (n := slots + 100) (by omega) (by omega) ?_
    obtain ⟨N2, B2, h2, I2, hh9⟩ := io_fill I (xs (i + 1)) (xs (i + 2))
    exact kk _ (nI (k_fill al (xs (i + 1)) (xs (i + 2)))) _ N2 B2 h2 H locs ls I2 hh9 hW (lv_sub hl [2, 3, 4, 5, 6] rfl)
  · refine lv_if_ne (tgt := 401) hx hb dL_law_386 (by decide) (fun _ => ?_) (fun h => absurd h (nI_ne0 (by omega) (by omega)))
    refine lv_goto (tgt := 1343) hx hb dL_law_401 (by decide) ?_
    refine W.widen (k := cells + 8) (n := slots + 100) (by omega) (by omega) ?_
    obtain ⟨N2, B2, h2, I2, hh9⟩ := io_fill I (xs (i + 1)) (xs (i + 2))
    exact kk _ (nI (k_fill al (xs (i + 1)) (xs (i + 2)))) _ N2 B2 h2 H locs ls I2 hh9 hW (lv_sub hl [2, 3, 4, 5, 6] rfl)
set_option maxHeartbeats 4000000 in
set_option maxRecDepth 100000 in
theorem lc_go {p : Program} (l : Launch) {e : Env} {s : State} {m : MethodId} {args : Array Value} {below : List Frame} {meth : Method} {c : Code} {H : Heap} {locs : List Loc} {cells slots : Nat} {Q : State → Prop} {ls : Array Slot} {D : va_G} {ad cy sa : Nat → Nat} {A : Nat → Prop} {b L i N B h : Nat} {xs : Nat → Int32} {al : Nat → Nat → Int32} {th : Int32} {f : Nat → Int64} (hfl : l.stackTraces = false) (S : CallFix p m c cL_law 9 s args wsL_law RL) (hE : ZEnv D cy sa A s) (hX : va_X b L xs s s.heap) (hbl : b < s.heap.size) (hbA : ¬ A b) (hL2 : L ≤ 2048) (hi : i + 4 ≤ L) (I : Inv al N B h) (hh2 : h < 2 ^ 19) (hcl : cells + 8 ≤ 601024) (hsl : slots + 100 ≤ 7293034) (hW : WS D 36 ad (lwC cy ad al th f) A s.heap H locs) (hl : lv_has ls 9 [(4, .int (nI i)), (3, .ref (ad 35)), (2, .ref (ad 28)), (1, .ref (ad 0)), (0, .ref b)]) (kk : ∀ (al2 : Nat → Nat → Int32) (th2 : Int32) (f2 : Nat → Int64) (N2 B2 h2 : Nat) (H : Heap) (locs : List Loc) (ls : Array Slot), Inv al2 N2 B2 h2 → h2 ≤ h + 60 → WS D 36 ad (lwC cy ad al2 th2 f2) A s.heap H locs → lv_has ls 9 [(4, .int (nI i)), (3, .ref (ad 35)), (2, .ref (ad 28)), (1, .ref (ad 0)), (0, .ref b)] → W p l e room_1 s m args below meth c H locs (cells + 8) (slots + 100) Q (F0 m 1343 ls [])) : W p l e room_1 s m args below meth c H locs cells slots Q (F0 m 404 ls []) := by
  have hx := S.1
  have hb := S.2.1
  have hown := S.2.2.2.1
  have hts := S.2.2.2.2
  have hN := I.1.1
  have hN6 := I.1.2.1
  have hB := I.1.2.2.1
  have hB4 := I.1.2.2.2.1
  have hh := I.1.2.2.2.2
  refine lv_aload_n hx hb dL_law_404 rfl (lv_at hl 3 rfl) ?_
  refine lv_aload_n hx hb dL_law_405 rfl (lv_at hl 4 rfl) ?_
  refine lv_iload hx hb dL_law_406 (lv_at hl 0 rfl) ?_
  refine lv_iconst (v := 1) hx hb dL_law_408 (by decide) ?_
  refine lv_iadd hx hb dL_law_409 ?_
  refine z_sld S hX hbl hbA hW (i + 1) (nI_add i 1) (by omega) hL2 dL_law_410 ?_
  refine lv_aload_n hx hb dL_law_411 rfl (lv_at hl 1 rfl) ?_
  have hk2 : k_go al (xs (i + 1)) ≤ 2 := by unfold k_go; (repeat' split) <;> decide
  replace hW := hW.to lw_sw.symm
  refine z_cL (As := [.ref (ad 0), .int (xs (i + 1)), .ref (ad 35)]) (rest := []) S hE hW (cL_go_ok l D 36 ad cy sa H.size (by decide) al _ f exW_k (xs (i + 1)) N hN hN6 hfl) (vx_cwSW 3 hts gL_law_L_go rfl rfl rfl (by decide +kernel) ⟨Nat.le_of_ble_eq_true rfl, Nat.le_of_ble_eq_true rfl⟩) rfl hl.1 rfl (Nat.le_of_ble_eq_true rfl) dL_law_412 ⟨(by show cells + 1 ≤ 601024; omega), (by show slots + 6 ≤ 7293034; omega)⟩ (fun r _ H locs hp hW => ?_)
  subst hp
  replace hW := hW.to ((congrArg (cC cy ad (if k_go al (xs (i + 1)) = 0 then u_go al (xs (i + 1)) else al)) exW_2).trans lw_sw)
  refine lv_istore (lv' := [(5, .int (nI (k_go al (xs (i + 1))))), (4, .int (nI i)), (3, .ref (ad 35)), (2, .ref (ad 28)), (1, .ref (ad 0)), (0, .ref b)]) hx hb dL_law_415 hl (by decide) rfl (fun ls hl => ?_)
  refine lv_aload_n hx hb dL_law_417 rfl (lv_at hl 3 rfl) ?_
  refine lv_aload_n hx hb dL_law_418 rfl (lv_at hl 5 rfl) ?_
  refine lv_iload hx hb dL_law_419 (lv_at hl 1 rfl) ?_
  refine lv_iconst (v := 1) hx hb dL_law_421 (by decide) ?_
  refine lv_iadd hx hb dL_law_422 ?_
  refine z_sld S hX hbl hbA hW (i + 1) (nI_add i 1) (by omega) hL2 dL_law_423 ?_
  refine z_cVi (As := [.int (xs (i + 1))]) (rest := []) (k := 28) S hE hW (cX4_go_ok l D 36 ad cy sa H.size (by decide) al th _ (xs (i + 1)) N hN hN6) (cwV 1 hts gL_law_X4_go rfl rfl rfl (by decide +kernel) ⟨Nat.le_of_ble_eq_true rfl, Nat.le_of_ble_eq_true rfl⟩) (by decide) cM_0 rfl rfl rfl hl.1 rfl (Nat.le_of_ble_eq_true rfl) dL_law_424 ⟨(by show cells + 1 + 0 ≤ 601024; omega), (by show slots + 6 + 0 ≤ 7293034; omega)⟩ (fun r _ H locs hp hW => ?_)
  subst hp
  refine lv_istore (lv' := [(6, .int (if k_go al (xs (i + 1)) = 0 then v_go al (xs (i + 1)) else 0)), (5, .int (nI (k_go al (xs (i + 1))))), (4, .int (nI i)), (3, .ref (ad 35)), (2, .ref (ad 28)), (1, .ref (ad 0)), (0, .ref b)]) hx hb dL_law_427 hl (by decide) rfl (fun ls hl => ?_)
  refine lv_aload_n hx hb dL_law_429 rfl (lv_at hl 4 rfl) ?_
  refine z_cVi (As := []) (rest := []) (k := 28) S hE hW (cX4_thrown_ok l D 36 ad cy sa H.size (by decide) (if k_go al (xs (i + 1)) = 0 then u_go al (xs (i + 1)) else al) (nI (k_go al (xs (i + 1)))) _) (cwV 0 hts gL_law_X4_thrown rfl rfl rfl (by decide +kernel) ⟨Nat.le_of_ble_eq_true rfl, Nat.le_of_ble_eq_true rfl⟩) (by decide) cM_0 rfl rfl rfl hl.1 rfl (Nat.le_of_ble_eq_true rfl) dL_law_430 ⟨(by show cells + 1 + 0 + 0 ≤ 601024; omega), (by show slots + 6 + 0 + 0 ≤ 7293034; omega)⟩ (fun r _ H locs hp hW => ?_)
  subst hp
  refine lv_iload hx hb dL_law_433 (lv_at hl 1 rfl) ?_
  refine lv_icmp_eq (tgt := 440) hx hb dL_law_435 (by decide) (fun _ => ?_) (fun h => absurd rfl h)
  refine lv_iload hx hb dL_law_440 (lv_at hl 1 rfl) ?_
  by_cases hk : k_go al (xs (i + 1)) = 0
  · refine lv_if_ne (tgt := 457) hx hb dL_law_442 (by decide) (fun h => absurd (show nI (k_go al (xs (i + 1))) = 0 by rw [hk]; rfl) h) (fun _ => ?_)
    refine lv_aload_n hx hb dL_law_445 rfl (lv_at hl 3 rfl) ?_
    refine lv_iconst (v := 0) hx hb dL_law_446 (by decide) ?_
    refine z_lld S hE hW (by decide) lw_35 0 rfl (by decide) (by decide) (v := (v_go al (xs (i + 1))).toInt64) (by rw [if_pos hk]; exact pk_uLs) dL_law_447 ?_
    refine lv_iload hx hb dL_law_448 (lv_at hl 0 rfl) ?_
    refine z_top2 (y := v_go al (xs (i + 1))) (if_pos hk) ?_
    refine lv_i2l (v := ((v_go al (xs (i + 1)))).toInt64) hx hb dL_law_450 rfl ?_
    refine W.lcmp hx hb dL_law_451 ?_
    refine z_top2 (y := 0) z_cmp0 ?_
    refine lv_if_eq (tgt := 457) hx hb dL_law_452 (by decide) (fun _ => ?_) (fun h => absurd rfl h)
    refine lv_goto (tgt := 1343) hx hb dL_law_457 (by decide) ?_
    refine W.widen (k := cells + 8) (n := slots + 100) (by omega) (by omega) ?_
    obtain ⟨N2, B2, h2, I2, hh9⟩ := io_go I (xs (i + 1))
    exact kk _ (nI (k_go al (xs (i + 1)))) _ N2 B2 h2 H locs ls I2 hh9 hW (lv_sub hl [2, 3, 4, 5, 6] rfl)
  · refine lv_if_ne (tgt := 457) hx hb dL_law_442 (by decide) (fun _ => ?_) (fun h => absurd h (nI_ne0 (by omega) (by omega)))
    refine lv_goto (tgt := 1343) hx hb dL_law_457 (by decide) ?_
    refine W.widen (k := cells + 8) (n := slots + 100) (by omega) (by omega) ?_
    obtain ⟨N2, B2, h2, I2, hh9⟩ := io_go I (xs (i + 1))
    exact kk _ (nI (k_go al (xs (i + 1)))) _ N2 B2 h2 H locs ls I2 hh9 hW (lv_sub hl [2, 3, 4, 5, 6] rfl)
set_option maxHeartbeats 4000000 in
set_option maxRecDepth 100000 in
theorem lc_launch {p : Program} (l : Launch) {e : Env} {s : State} {m : MethodId} {args : Array Value} {below : List Frame} {meth : Method} {c : Code} {H : Heap} {locs : List Loc} {cells slots : Nat} {Q : State → Prop} {ls : Array Slot} {D : va_G} {ad cy sa : Nat → Nat} {A : Nat → Prop} {b L i N B h : Nat} {xs : Nat → Int32} {al : Nat → Nat → Int32} {th : Int32} {f : Nat → Int64} (hfl : l.stackTraces = false) (S : CallFix p m c cL_law 9 s args wsL_law RL) (hE : ZEnv D cy sa A s) (hX : va_X b L xs s s.heap) (hbl : b < s.heap.size) (hbA : ¬ A b) (hL2 : L ≤ 2048) (hi : i + 4 ≤ L) (I : Inv al N B h) (hh2 : h < 2 ^ 19) (hcl : cells + 8 ≤ 601024) (hsl : slots + 100 ≤ 7293034) (hW : WS D 36 ad (lwC cy ad al th f) A s.heap H locs) (hl : lv_has ls 9 [(4, .int (nI i)), (3, .ref (ad 35)), (2, .ref (ad 28)), (1, .ref (ad 0)), (0, .ref b)]) (kk : ∀ (al2 : Nat → Nat → Int32) (th2 : Int32) (f2 : Nat → Int64) (N2 B2 h2 : Nat) (H : Heap) (locs : List Loc) (ls : Array Slot), Inv al2 N2 B2 h2 → h2 ≤ h + 60 → WS D 36 ad (lwC cy ad al2 th2 f2) A s.heap H locs → lv_has ls 9 [(4, .int (nI i)), (3, .ref (ad 35)), (2, .ref (ad 28)), (1, .ref (ad 0)), (0, .ref b)] → W p l e room_1 s m args below meth c H locs (cells + 8) (slots + 100) Q (F0 m 1343 ls [])) : W p l e room_1 s m args below meth c H locs cells slots Q (F0 m 460 ls []) := by
  have hx := S.1
  have hb := S.2.1
  have hown := S.2.2.2.1
  have hts := S.2.2.2.2
  have hN := I.1.1
  have hN6 := I.1.2.1
  have hB := I.1.2.2.1
  have hB4 := I.1.2.2.2.1
  have hh := I.1.2.2.2.2
  refine lv_aload_n hx hb dL_law_460 rfl (lv_at hl 3 rfl) ?_
  refine lv_aload_n hx hb dL_law_461 rfl (lv_at hl 4 rfl) ?_
  refine lv_iload hx hb dL_law_462 (lv_at hl 0 rfl) ?_
  refine lv_iconst (v := 1) hx hb dL_law_464 (by decide) ?_
  refine lv_iadd hx hb dL_law_465 ?_
  refine z_sld S hX hbl hbA hW (i + 1) (nI_add i 1) (by omega) hL2 dL_law_466 ?_
  refine lv_aload_n hx hb dL_law_467 rfl (lv_at hl 1 rfl) ?_
  have hk2 : k_launch al (xs (i + 1)) ≤ 2 := by unfold k_launch; (repeat' split) <;> decide
  replace hW := hW.to lw_sw.symm
  refine z_cL (As := [.ref (ad 0), .int (xs (i + 1)), .ref (ad 35)]) (rest := []) S hE hW (cL_launch_ok l D 36 ad cy sa H.size (by decide) al _ f exW_k (xs (i + 1)) B hB hB4 hfl) (vx_cwSW 3 hts gL_law_L_launch rfl rfl rfl (by decide +kernel) ⟨Nat.le_of_ble_eq_true rfl, Nat.le_of_ble_eq_true rfl⟩) rfl hl.1 rfl (Nat.le_of_ble_eq_true rfl) dL_law_468 ⟨(by show cells + 1 ≤ 601024; omega), (by show slots + 6 ≤ 7293034; omega)⟩ (fun r _ H locs hp hW => ?_)
  subst hp
  replace hW := hW.to ((congrArg (cC cy ad (if k_launch al (xs (i + 1)) = 0 then u_launch al (xs (i + 1)) else al)) exW_2).trans lw_sw)
  refine lv_istore (lv' := [(5, .int (nI (k_launch al (xs (i + 1))))), (4, .int (nI i)), (3, .ref (ad 35)), (2, .ref (ad 28)), (1, .ref (ad 0)), (0, .ref b)]) hx hb dL_law_471 hl (by decide) rfl (fun ls hl => ?_)
  refine lv_aload_n hx hb dL_law_473 rfl (lv_at hl 3 rfl) ?_
  refine lv_aload_n hx hb dL_law_474 rfl (lv_at hl 5 rfl) ?_
  refine lv_iload hx hb dL_law_475 (lv_at hl 1 rfl) ?_
  refine lv_iconst (v := 1) hx hb dL_law_477 (by decide) ?_
  refine lv_iadd hx hb dL_law_478 ?_
  refine z_sld S hX hbl hbA hW (i + 1) (nI_add i 1) (by omega) hL2 dL_law_479 ?_
  refine z_cVi (As := [.int (xs (i + 1))]) (rest := []) (k := 28) S hE hW (cX4_launch_ok l D 36 ad cy sa H.size (by decide) al th _ (xs (i + 1)) B hB hB4) (cwV 1 hts gL_law_X4_launch rfl rfl rfl (by decide +kernel) ⟨Nat.le_of_ble_eq_true rfl, Nat.le_of_ble_eq_true rfl⟩) (by decide) cM_0 rfl rfl rfl hl.1 rfl (Nat.le_of_ble_eq_true rfl) dL_law_480 ⟨(by show cells + 1 + 0 ≤ 601024; omega), (by show slots + 6 + 0 ≤ 7293034; omega)⟩ (fun r _ H locs hp hW => ?_)
  subst hp
  refine lv_istore (lv' := [(6, .int (if k_launch al (xs (i + 1)) = 0 then v_launch al (xs (i + 1)) else 0)), (5, .int (nI (k_launch al (xs (i + 1))))), (4, .int (nI i)), (3, .ref (ad 35)), (2, .ref (ad 28)), (1, .ref (ad 0)), (0, .ref b)]) hx hb dL_law_483 hl (by decide) rfl (fun ls hl => ?_)
  refine lv_aload_n hx hb dL_law_485 rfl (lv_at hl 4 rfl) ?_
  refine z_cVi (As := []) (rest := []) (k := 28) S hE hW (cX4_thrown_ok l D 36 ad cy sa H.size (by decide) (if k_launch al (xs (i + 1)) = 0 then u_launch al (xs (i + 1)) else al) (nI (k_launch al (xs (i + 1)))) _) (cwV 0 hts gL_law_X4_thrown rfl rfl rfl (by decide +kernel) ⟨Nat.le_of_ble_eq_true rfl, Nat.le_of_ble_eq_true rfl⟩) (by decide) cM_0 rfl rfl rfl hl.1 rfl (Nat.le_of_ble_eq_true rfl) dL_law_486 ⟨(by show cells + 1 + 0 + 0 ≤ 601024; omega), (by show slots + 6 + 0 + 0 ≤ 7293034; omega)⟩ (fun r _ H locs hp hW => ?_)
  subst hp
  refine lv_iload hx hb dL_law_489 (lv_at hl 1 rfl) ?_
  refine lv_icmp_eq (tgt := 496) hx hb dL_law_491 (by decide) (fun _ => ?_) (fun h => absurd rfl h)
  refine lv_iload hx hb dL_law_496 (lv_at hl 1 rfl) ?_
  by_cases hk : k_launch al (xs (i + 1)) = 0
  · refine lv_if_ne (tgt := 513) hx hb dL_law_498 (by decide) (fun h => absurd (show nI (k_launch al (xs (i + 1))) = 0 by rw [hk]; rfl) h) (fun _ => ?_)
    refine lv_aload_n hx hb dL_law_501 rfl (lv_at hl 3 rfl) ?_
    refine lv_iconst (v := 0) hx hb dL_law_502 (by decide) ?_
    refine z_lld S hE hW (by decide) lw_35 0 rfl (by decide) (by decide) (v := (v_launch al (xs (i + 1))).toInt64) (by rw [if_pos hk]; exact pk_uLs) dL_law_503 ?_
    refine lv_iload hx hb dL_law_504 (lv_at hl 0 rfl) ?_
    refine z_top2 (y := v_launch al (xs (i + 1))) (if_pos hk) ?_
    refine lv_i2l (v := ((v_launch al (xs (i + 1)))).toInt64) hx hb dL_law_506 rfl ?_
    refine W.lcmp hx hb dL_law_507 ?_
    refine z_top2 (y := 0) z_cmp0 ?_
    refine lv_if_eq (tgt := 513) hx hb dL_law_508 (by decide) (fun _ => ?_) (fun h => absurd rfl h)
    refine lv_goto (tgt := 1343) hx hb dL_law_513 (by decide) ?_
    refine W.widen (k := cells + 8) (n := slots + 100) (by omega) (by omega) ?_
    obtain ⟨N2, B2, h2, I2, hh9⟩ := io_launch I (xs (i + 1))
    exact kk _ (nI (k_launch al (xs (i + 1)))) _ N2 B2 h2 H locs ls I2 hh9 hW (lv_sub hl [2, 3, 4, 5, 6] rfl)
  · refine lv_if_ne (tgt := 513) hx hb dL_law_498 (by decide) (fun _ => ?_) (fun h => absurd h (nI_ne0 (by omega) (by omega)))
    refine lv_goto (tgt := 1343) hx hb dL_law_513 (by decide) ?_
    refine W.widen (k := cells + 8) (n := slots + 100) (by omega) (by omega) ?_
    obtain ⟨N2, B2, h2, I2, hh9⟩ := io_launch I (xs (i + 1))
    exact kk _ (nI (k_launch al (xs (i + 1)))) _ N2 B2 h2 H locs ls I2 hh9 hW (lv_sub hl [2, 3, 4, 5, 6] rfl)
set_option maxHeartbeats 4000000 in
set_option maxRecDepth 100000 in
theorem lc_stow {p : Program} (l : Launch) {e : Env} {s : State} {m : MethodId} {args : Array Value} {below : List Frame} {meth : Method} {c : Code} {H : Heap} {locs : List Loc} {cells slots : Nat} {Q : State → Prop} {ls : Array Slot} {D : va_G} {ad cy sa : Nat → Nat} {A : Nat → Prop} {b L i N B h : Nat} {xs : Nat → Int32} {al : Nat → Nat → Int32} {th : Int32} {f : Nat → Int64} (hfl : l.stackTraces = false) (S : CallFix p m c cL_law 9 s args wsL_law RL) (hE : ZEnv D cy sa A s) (hX : va_X b L xs s s.heap) (hbl : b < s.heap.size) (hbA : ¬ A b) (hL2 : L ≤ 2048) (hi : i + 4 ≤ L) (I : Inv al N B h) (hh2 : h < 2 ^ 19) (hcl : cells + 8 ≤ 601024) (hsl : slots + 100 ≤ 7293034) (hW : WS D 36 ad (lwC cy ad al th f) A s.heap H locs) (hl : lv_has ls 9 [(4, .int (nI i)), (3, .ref (ad 35)), (2, .ref (ad 28)), (1, .ref (ad 0)), (0, .ref b)]) (kk : ∀ (al2 : Nat → Nat → Int32) (th2 : Int32) (f2 : Nat → Int64) (N2 B2 h2 : Nat) (H : Heap) (locs : List Loc) (ls : Array Slot), Inv al2 N2 B2 h2 → h2 ≤ h + 60 → WS D 36 ad (lwC cy ad al2 th2 f2) A s.heap H locs → lv_has ls 9 [(4, .int (nI i)), (3, .ref (ad 35)), (2, .ref (ad 28)), (1, .ref (ad 0)), (0, .ref b)] → W p l e room_1 s m args below meth c H locs (cells + 8) (slots + 100) Q (F0 m 1343 ls [])) : W p l e room_1 s m args below meth c H locs cells slots Q (F0 m 516 ls []) := by
  have hx := S.1
  have hb := S.2.1
  have hown := S.2.2.2.1
  have hts := S.2.2.2.2
  have hN := I.1.1
  have hN6 := I.1.2.1
  have hB := I.1.2.2.1
  have hB4 := I.1.2.2.2.1
  have hh := I.1.2.2.2.2
  refine lv_aload_n hx hb dL_law_516 rfl (lv_at hl 3 rfl) ?_
  refine lv_aload_n hx hb dL_law_517 rfl (lv_at hl 4 rfl) ?_
  refine lv_iload hx hb dL_law_518 (lv_at hl 0 rfl) ?_
  refine lv_iconst (v := 1) hx hb dL_law_520 (by decide) ?_
  refine lv_iadd hx hb dL_law_521 ?_
  refine z_sld S hX hbl hbA hW (i + 1) (nI_add i 1) (by omega) hL2 dL_law_522 ?_
  refine lv_aload_n hx hb dL_law_523 rfl (lv_at hl 4 rfl) ?_
  refine lv_iload hx hb dL_law_524 (lv_at hl 0 rfl) ?_
  refine lv_iconst (v := 2) hx hb dL_law_526 (by decide) ?_
  refine lv_iadd hx hb dL_law_527 ?_
  refine z_sld S hX hbl hbA hW (i + 2) (nI_add i 2) (by omega) hL2 dL_law_528 ?_
  refine lv_aload_n hx hb dL_law_529 rfl (lv_at hl 4 rfl) ?_
  refine lv_iload hx hb dL_law_530 (lv_at hl 0 rfl) ?_
  refine lv_iconst (v := 3) hx hb dL_law_532 (by decide) ?_
  refine lv_iadd hx hb dL_law_533 ?_
  refine z_sld S hX hbl hbA hW (i + 3) (nI_add i 3) (by omega) hL2 dL_law_534 ?_
  refine lv_if_eq (tgt := 542) hx hb dL_law_535 (by decide) (fun c535 => ?_) (fun c535 => ?_)
  · refine lv_iconst (v := 0) hx hb dL_law_542 (by decide) ?_
    refine lv_aload_n hx hb dL_law_543 rfl (lv_at hl 1 rfl) ?_
    have hk2 : k_stow al (xs (i + 1)) (xs (i + 2)) 0 ≤ 2 := by unfold k_stow; (repeat' split) <;> decide
    replace hW := hW.to lw_sw.symm
    refine z_cL (As := [.ref (ad 0), .int (xs (i + 1)), .int (xs (i + 2)), .int 0, .ref (ad 35)]) (rest := []) S hE hW (cL_stow_ok l D 36 ad cy sa H.size (by decide) al _ f exW_k (xs (i + 1)) (xs (i + 2)) 0 B hB hB4 hfl) (vx_cwSW 5 hts gL_law_L_stow rfl rfl rfl (by decide +kernel) ⟨Nat.le_of_ble_eq_true rfl, Nat.le_of_ble_eq_true rfl⟩) rfl hl.1 rfl (Nat.le_of_ble_eq_true rfl) dL_law_544 ⟨(by show cells + 1 ≤ 601024; omega), (by show slots + 6 ≤ 7293034; omega)⟩ (fun r _ H locs hp hW => ?_)
    subst hp
    replace hW := hW.to ((congrArg (cC cy ad (if k_stow al (xs (i + 1)) (xs (i + 2)) 0 = 0 then u_stow al (xs (i + 1)) (xs (i + 2)) 0 else al)) exW_2).trans lw_sw)
    refine lv_istore (lv' := [(5, .int (nI (k_stow al (xs (i + 1)) (xs (i + 2)) 0))), (4, .int (nI i)), (3, .ref (ad 35)), (2, .ref (ad 28)), (1, .ref (ad 0)), (0, .ref b)]) hx hb dL_law_547 hl (by decide) rfl (fun ls hl => ?_)
    refine lv_aload_n hx hb dL_law_549 rfl (lv_at hl 3 rfl) ?_
    refine lv_aload_n hx hb dL_law_550 rfl (lv_at hl 5 rfl) ?_
    refine lv_iload hx hb dL_law_551 (lv_at hl 1 rfl) ?_
    refine lv_iconst (v := 1) hx hb dL_law_553 (by decide) ?_
    refine lv_iadd hx hb dL_law_554 ?_
    refine z_sld S hX hbl hbA hW (i + 1) (nI_add i 1) (by omega) hL2 dL_law_555 ?_
    refine lv_aload_n hx hb dL_law_556 rfl (lv_at hl 5 rfl) ?_
    refine lv_iload hx hb dL_law_557 (lv_at hl 1 rfl) ?_
    refine lv_iconst (v := 2) hx hb dL_law_559 (by decide) ?_
    refine lv_iadd hx hb dL_law_560 ?_
    refine z_sld S hX hbl hbA hW (i + 2) (nI_add i 2) (by omega) hL2 dL_law_561 ?_
    refine lv_aload_n hx hb dL_law_562 rfl (lv_at hl 5 rfl) ?_
    refine lv_iload hx hb dL_law_563 (lv_at hl 1 rfl) ?_
    refine lv_iconst (v := 3) hx hb dL_law_565 (by decide) ?_
    refine lv_iadd hx hb dL_law_566 ?_
    refine z_sld S hX hbl hbA hW (i + 3) (nI_add i 3) (by omega) hL2 dL_law_567 ?_
    refine lv_if_eq (tgt := 575) hx hb dL_law_568 (by decide) (fun _ => ?_) (fun h => absurd c535 h)
    refine lv_iconst (v := 0) hx hb dL_law_575 (by decide) ?_
    refine z_cVi (As := [.int (xs (i + 1)), .int (xs (i + 2)), .int 0]) (rest := []) (k := 28) S hE hW (cX4_stow_ok l D 36 ad cy sa H.size (by decide) al th _ (xs (i + 1)) (xs (i + 2)) 0 B hB hB4 I.boatO (I.sackO (by omega))) (cwV 3 hts gL_law_X4_stow rfl rfl rfl (by decide +kernel) ⟨Nat.le_of_ble_eq_true rfl, Nat.le_of_ble_eq_true rfl⟩) (by decide) cM_0 rfl rfl rfl hl.1 rfl (Nat.le_of_ble_eq_true rfl) dL_law_576 ⟨(by show cells + 1 + 0 ≤ 601024; omega), (by show slots + 6 + 0 ≤ 7293034; omega)⟩ (fun r _ H locs hp hW => ?_)
    subst hp
    refine lv_istore (lv' := [(6, .int (if k_stow al (xs (i + 1)) (xs (i + 2)) 0 = 0 then v_stow al (xs (i + 1)) (xs (i + 2)) 0 else 0)), (5, .int (nI (k_stow al (xs (i + 1)) (xs (i + 2)) 0))), (4, .int (nI i)), (3, .ref (ad 35)), (2, .ref (ad 28)), (1, .ref (ad 0)), (0, .ref b)]) hx hb dL_law_579 hl (by decide) rfl (fun ls hl => ?_)
    refine lv_aload_n hx hb dL_law_581 rfl (lv_at hl 4 rfl) ?_
    refine z_cVi (As := []) (rest := []) (k := 28) S hE hW (cX4_thrown_ok l D 36 ad cy sa H.size (by decide) (if k_stow al (xs (i + 1)) (xs (i + 2)) 0 = 0 then u_stow al (xs (i + 1)) (xs (i + 2)) 0 else al) (nI (k_stow al (xs (i + 1)) (xs (i + 2)) 0)) _) (cwV 0 hts gL_law_X4_thrown rfl rfl rfl (by decide +kernel) ⟨Nat.le_of_ble_eq_true rfl, Nat.le_of_ble_eq_true rfl⟩) (by decide) cM_0 rfl rfl rfl hl.1 rfl (Nat.le_of_ble_eq_true rfl) dL_law_582 ⟨(by show cells + 1 + 0 + 0 ≤ 601024; omega), (by show slots + 6 + 0 + 0 ≤ 7293034; omega)⟩ (fun r _ H locs hp hW => ?_)
    subst hp
    refine lv_iload hx hb dL_law_585 (lv_at hl 1 rfl) ?_
    refine lv_icmp_eq (tgt := 592) hx hb dL_law_587 (by decide) (fun _ => ?_) (fun h => absurd rfl h)
    refine lv_iload hx hb dL_law_592 (lv_at hl 1 rfl) ?_
    by_cases hk : k_stow al (xs (i + 1)) (xs (i + 2)) 0 = 0
    · refine lv_if_ne (tgt := 609) hx hb dL_law_594 (by decide) (fun h => absurd (show nI (k_stow al (xs (i + 1)) (xs (i + 2)) 0) = 0 by rw [hk]; rfl) h) (fun _ => ?_)
      refine lv_aload_n hx hb dL_law_597 rfl (lv_at hl 3 rfl) ?_
      refine lv_iconst (v := 0) hx hb dL_law_598 (by decide) ?_
      refine z_lld S hE hW (by decide) lw_35 0 rfl (by decide) (by decide) (v := (v_stow al (xs (i + 1)) (xs (i + 2)) 0).toInt64) (by rw [if_pos hk]; exact pk_uLs) dL_law_599 ?_
      refine lv_iload hx hb dL_law_600 (lv_at hl 0 rfl) ?_
      refine z_top2 (y := v_stow al (xs (i + 1)) (xs (i + 2)) 0) (if_pos hk) ?_
      refine lv_i2l (v := ((v_stow al (xs (i + 1)) (xs (i + 2)) 0)).toInt64) hx hb dL_law_602 rfl ?_
      refine W.lcmp hx hb dL_law_603 ?_
      refine z_top2 (y := 0) z_cmp0 ?_
      refine lv_if_eq (tgt := 609) hx hb dL_law_604 (by decide) (fun _ => ?_) (fun h => absurd rfl h)
      refine lv_goto (tgt := 1343) hx hb dL_law_609 (by decide) ?_
      refine W.widen (k := cells + 8) (n := slots + 100) (by omega) (by omega) ?_
      obtain ⟨N2, B2, h2, I2, hh9⟩ := io_stow I (xs (i + 1)) (xs (i + 2)) 0
      exact kk _ (nI (k_stow al (xs (i + 1)) (xs (i + 2)) 0)) _ N2 B2 h2 H locs ls I2 hh9 hW (lv_sub hl [2, 3, 4, 5, 6] rfl)
    · refine lv_if_ne (tgt := 609) hx hb dL_law_594 (by decide) (fun _ => ?_) (fun h => absurd h (nI_ne0 (by omega) (by omega)))
      refine lv_goto (tgt := 1343) hx hb dL_law_609 (by decide) ?_
      refine W.widen (k := cells + 8) (n := slots + 100) (by omega) (by omega) ?_
      obtain ⟨N2, B2, h2, I2, hh9⟩ := io_stow I (xs (i + 1)) (xs (i + 2)) 0
      exact kk _ (nI (k_stow al (xs (i + 1)) (xs (i + 2)) 0)) _ N2 B2 h2 H locs ls I2 hh9 hW (lv_sub hl [2, 3, 4, 5, 6] rfl)
  · refine lv_iconst (v := 1) hx hb dL_law_538 (by decide) ?_
    refine lv_goto (tgt := 543) hx hb dL_law_539 (by decide) ?_
    refine lv_aload_n hx hb dL_law_543 rfl (lv_at hl 1 rfl) ?_
    have hk2 : k_stow al (xs (i + 1)) (xs (i + 2)) 1 ≤ 2 := by unfold k_stow; (repeat' split) <;> decide
    replace hW := hW.to lw_sw.symm
    refine z_cL (As := [.ref (ad 0), .int (xs (i + 1)), .int (xs (i + 2)), .int 1, .ref (ad 35)]) (rest := []) S hE hW (cL_stow_ok l D 36 ad cy sa H.size (by decide) al _ f exW_k (xs (i + 1)) (xs (i + 2)) 1 B hB hB4 hfl) (vx_cwSW 5 hts gL_law_L_stow rfl rfl rfl (by decide +kernel) ⟨Nat.le_of_ble_eq_true rfl, Nat.le_of_ble_eq_true rfl⟩) rfl hl.1 rfl (Nat.le_of_ble_eq_true rfl) dL_law_544 ⟨(by show cells + 1 ≤ 601024; omega), (by show slots + 6 ≤ 7293034; omega)⟩ (fun r _ H locs hp hW => ?_)
    subst hp
    replace hW := hW.to ((congrArg (cC cy ad (if k_stow al (xs (i + 1)) (xs (i + 2)) 1 = 0 then u_stow al (xs (i + 1)) (xs (i + 2)) 1 else al)) exW_2).trans lw_sw)
    refine lv_istore (lv' := [(5, .int (nI (k_stow al (xs (i + 1)) (xs (i + 2)) 1))), (4, .int (nI i)), (3, .ref (ad 35)), (2, .ref (ad 28)), (1, .ref (ad 0)), (0, .ref b)]) hx hb dL_law_547 hl (by decide) rfl (fun ls hl => ?_)
    refine lv_aload_n hx hb dL_law_549 rfl (lv_at hl 3 rfl) ?_
    refine lv_aload_n hx hb dL_law_550 rfl (lv_at hl 5 rfl) ?_
    refine lv_iload hx hb dL_law_551 (lv_at hl 1 rfl) ?_
    refine lv_iconst (v := 1) hx hb dL_law_553 (by decide) ?_
    refine lv_iadd hx hb dL_law_554 ?_
    refine z_sld S hX hbl hbA hW (i + 1) (nI_add i 1) (by omega) hL2 dL_law_555 ?_
    refine lv_aload_n hx hb dL_law_556 rfl (lv_at hl 5 rfl) ?_
    refine lv_iload hx hb dL_law_557 (lv_at hl 1 rfl) ?_
    refine lv_iconst (v := 2) hx hb dL_law_559 (by decide) ?_
    refine lv_iadd hx hb dL_law_560 ?_
    refine z_sld S hX hbl hbA hW (i + 2) (nI_add i 2) (by omega) hL2 dL_law_561 ?_
    refine lv_aload_n hx hb dL_law_562 rfl (lv_at hl 5 rfl) ?_
    refine lv_iload hx hb dL_law_563 (lv_at hl 1 rfl) ?_
    refine lv_iconst (v := 3) hx hb dL_law_565 (by decide) ?_
    refine lv_iadd hx hb dL_law_566 ?_
    refine z_sld S hX hbl hbA hW (i + 3) (nI_add i 3) (by omega) hL2 dL_law_567 ?_
    refine lv_if_eq (tgt := 575) hx hb dL_law_568 (by decide) (fun h => absurd h c535) (fun _ => ?_)
    refine lv_iconst (v := 1) hx hb dL_law_571 (by decide) ?_
    refine lv_goto (tgt := 576) hx hb dL_law_572 (by decide) ?_
    refine z_cVi (As := [.int (xs (i + 1)), .int (xs (i + 2)), .int 1]) (rest := []) (k := 28) S hE hW (cX4_stow_ok l D 36 ad cy sa H.size (by decide) al th _ (xs (i + 1)) (xs (i + 2)) 1 B hB hB4 I.boatO (I.sackO (by omega))) (cwV 3 hts gL_law_X4_stow rfl rfl rfl (by decide +kernel) ⟨Nat.le_of_ble_eq_true rfl, Nat.le_of_ble_eq_true rfl⟩) (by decide) cM_0 rfl rfl rfl hl.1 rfl (Nat.le_of_ble_eq_true rfl) dL_law_576 ⟨(by show cells + 1 + 0 ≤ 601024; omega), (by show slots + 6 + 0 ≤ 7293034; omega)⟩ (fun r _ H locs hp hW => ?_)
    subst hp
    refine lv_istore (lv' := [(6, .int (if k_stow al (xs (i + 1)) (xs (i + 2)) 1 = 0 then v_stow al (xs (i + 1)) (xs (i + 2)) 1 else 0)), (5, .int (nI (k_stow al (xs (i + 1)) (xs (i + 2)) 1))), (4, .int (nI i)), (3, .ref (ad 35)), (2, .ref (ad 28)), (1, .ref (ad 0)), (0, .ref b)]) hx hb dL_law_579 hl (by decide) rfl (fun ls hl => ?_)
    refine lv_aload_n hx hb dL_law_581 rfl (lv_at hl 4 rfl) ?_
    refine z_cVi (As := []) (rest := []) (k := 28) S hE hW (cX4_thrown_ok l D 36 ad cy sa H.size (by decide) (if k_stow al (xs (i + 1)) (xs (i + 2)) 1 = 0 then u_stow al (xs (i + 1)) (xs (i + 2)) 1 else al) (nI (k_stow al (xs (i + 1)) (xs (i + 2)) 1)) _) (cwV 0 hts gL_law_X4_thrown rfl rfl rfl (by decide +kernel) ⟨Nat.le_of_ble_eq_true rfl, Nat.le_of_ble_eq_true rfl⟩) (by decide) cM_0 rfl rfl rfl hl.1 rfl (Nat.le_of_ble_eq_true rfl) dL_law_582 ⟨(by show cells + 1 + 0 + 0 ≤ 601024; omega), (by show slots + 6 + 0 + 0 ≤ 7293034; omega)⟩ (fun r _ H locs hp hW => ?_)
    subst hp
    refine lv_iload hx hb dL_law_585 (lv_at hl 1 rfl) ?_
    refine lv_icmp_eq (tgt := 592) hx hb dL_law_587 (by decide) (fun _ => ?_) (fun h => absurd rfl h)
    refine lv_iload hx hb dL_law_592 (lv_at hl 1 rfl) ?_
    by_cases hk : k_stow al (xs (i + 1)) (xs (i + 2)) 1 = 0
    · refine lv_if_ne (tgt := 609) hx hb dL_law_594 (by decide) (fun h => absurd (show nI (k_stow al (xs (i + 1)) (xs (i + 2)) 1) = 0 by rw [hk]; rfl) h) (fun _ => ?_)
      refine lv_aload_n hx hb dL_law_597 rfl (lv_at hl 3 rfl) ?_
      refine lv_iconst (v := 0) hx hb dL_law_598 (by decide) ?_
      refine z_lld S hE hW (by decide) lw_35 0 rfl (by decide) (by decide) (v := (v_stow al (xs (i + 1)) (xs (i + 2)) 1).toInt64) (by rw [if_pos hk]; exact pk_uLs) dL_law_599 ?_
      refine lv_iload hx hb dL_law_600 (lv_at hl 0 rfl) ?_
      refine z_top2 (y := v_stow al (xs (i + 1)) (xs (i + 2)) 1) (if_pos hk) ?_
      refine lv_i2l (v := ((v_stow al (xs (i + 1)) (xs (i + 2)) 1)).toInt64) hx hb dL_law_602 rfl ?_
      refine W.lcmp hx hb dL_law_603 ?_
      refine z_top2 (y := 0) z_cmp0 ?_
      refine lv_if_eq (tgt := 609) hx hb dL_law_604 (by decide) (fun _ => ?_) (fun h => absurd rfl h)
      refine lv_goto (tgt := 1343) hx hb dL_law_609 (by decide) ?_
      refine W.widen (k := cells + 8) (n := slots + 100) (by omega) (by omega) ?_
      obtain ⟨N2, B2, h2, I2, hh9⟩ := io_stow I (xs (i + 1)) (xs (i + 2)) 1
      exact kk _ (nI (k_stow al (xs (i + 1)) (xs (i + 2)) 1)) _ N2 B2 h2 H locs ls I2 hh9 hW (lv_sub hl [2, 3, 4, 5, 6] rfl)
    · refine lv_if_ne (tgt := 609) hx hb dL_law_594 (by decide) (fun _ => ?_) (fun h => absurd h (nI_ne0 (by omega) (by omega)))
      refine lv_goto (tgt := 1343) hx hb dL_law_609 (by decide) ?_
      refine W.widen (k := cells + 8) (n := slots + 100) (by omega) (by omega) ?_
      obtain ⟨N2, B2, h2, I2, hh9⟩ := io_stow I (xs (i + 1)) (xs (i + 2)) 1
      exact kk _ (nI (k_stow al (xs (i + 1)) (xs (i + 2)) 1)) _ N2 B2 h2 H locs ls I2 hh9 hW (lv_sub hl [2, 3, 4, 5, 6] rfl)
set_option maxHeartbeats 4000000 in
set_option maxRecDepth 100000 in
theorem lc_sail {p : Program} (l : Launch) {e : Env} {s : State} {m : MethodId} {args : Array Value} {below : List Frame} {meth : Method} {c : Code} {H : Heap} {locs : List Loc} {cells slots : Nat} {Q : State → Prop} {ls : Array Slot} {D : va_G} {ad cy sa : Nat → Nat} {A : Nat → Prop} {b L i N B h : Nat} {xs : Nat → Int32} {al : Nat → Nat → Int32} {th : Int32} {f : Nat → Int64} (hfl : l.stackTraces = false) (S : CallFix p m c cL_law 9 s args wsL_law RL) (hE : ZEnv D cy sa A s) (hX : va_X b L xs s s.heap) (hbl : b < s.heap.size) (hbA : ¬ A b) (hL2 : L ≤ 2048) (hi : i + 4 ≤ L) (I : Inv al N B h) (hh2 : h < 2 ^ 19) (hcl : cells + 8 ≤ 601024) (hsl : slots + 100 ≤ 7293034) (hW : WS D 36 ad (lwC cy ad al th f) A s.heap H locs) (hl : lv_has ls 9 [(4, .int (nI i)), (3, .ref (ad 35)), (2, .ref (ad 28)), (1, .ref (ad 0)), (0, .ref b)]) (kk : ∀ (al2 : Nat → Nat → Int32) (th2 : Int32) (f2 : Nat → Int64) (N2 B2 h2 : Nat) (H : Heap) (locs : List Loc) (ls : Array Slot), Inv al2 N2 B2 h2 → h2 ≤ h + 60 → WS D 36 ad (lwC cy ad al2 th2 f2) A s.heap H locs → lv_has ls 9 [(4, .int (nI i)), (3, .ref (ad 35)), (2, .ref (ad 28)), (1, .ref (ad 0)), (0, .ref b)] → W p l e room_1 s m args below meth c H locs (cells + 8) (slots + 100) Q (F0 m 1343 ls [])) : W p l e room_1 s m args below meth c H locs cells slots Q (F0 m 612 ls []) := by
  have hx := S.1
  have hb := S.2.1
  have hown := S.2.2.2.1
  have hts := S.2.2.2.2
  have hN := I.1.1
  have hN6 := I.1.2.1
  have hB := I.1.2.2.1
  have hB4 := I.1.2.2.2.1
  have hh := I.1.2.2.2.2
  refine lv_aload_n hx hb dL_law_612 rfl (lv_at hl 3 rfl) ?_
  refine lv_aload_n hx hb dL_law_613 rfl (lv_at hl 4 rfl) ?_
  refine lv_iload hx hb dL_law_614 (lv_at hl 0 rfl) ?_
  refine lv_iconst (v := 1) hx hb dL_law_616 (by decide) ?_
  refine lv_iadd hx hb dL_law_617 ?_
  refine z_sld S hX hbl hbA hW (i + 1) (nI_add i 1) (by omega) hL2 dL_law_618 ?_
  refine lv_aload_n hx hb dL_law_619 rfl (lv_at hl 1 rfl) ?_
  have hk2 : k_sail al (xs (i + 1)) ≤ 2 := by unfold k_sail; (repeat' split) <;> decide
  replace hW := hW.to lw_sw.symm
  refine z_cL (As := [.ref (ad 0), .int (xs (i + 1)), .ref (ad 35)]) (rest := []) S hE hW (cL_sail_ok l D 36 ad cy sa H.size (by decide) al _ f exW_k (xs (i + 1)) B hB hB4 hfl) (vx_cwSW 3 hts gL_law_L_sail rfl rfl rfl (by decide +kernel) ⟨Nat.le_of_ble_eq_true rfl, Nat.le_of_ble_eq_true rfl⟩) rfl hl.1 rfl (Nat.le_of_ble_eq_true rfl) dL_law_620 ⟨(by show cells + 1 ≤ 601024; omega), (by show slots + 6 ≤ 7293034; omega)⟩ (fun r _ H locs hp hW => ?_)
  subst hp
  replace hW := hW.to ((congrArg (cC cy ad (if k_sail al (xs (i + 1)) = 0 then u_sail al (xs (i + 1)) else al)) exW_2).trans lw_sw)
  refine lv_istore (lv' := [(5, .int (nI (k_sail al (xs (i + 1))))), (4, .int (nI i)), (3, .ref (ad 35)), (2, .ref (ad 28)), (1, .ref (ad 0)), (0, .ref b)]) hx hb dL_law_623 hl (by decide) rfl (fun ls hl => ?_)
  refine lv_aload_n hx hb dL_law_625 rfl (lv_at hl 3 rfl) ?_
  refine lv_aload_n hx hb dL_law_626 rfl (lv_at hl 5 rfl) ?_
  refine lv_iload hx hb dL_law_627 (lv_at hl 1 rfl) ?_
  refine lv_iconst (v := 1) hx hb dL_law_629 (by decide) ?_
  refine lv_iadd hx hb dL_law_630 ?_
  refine z_sld S hX hbl hbA hW (i + 1) (nI_add i 1) (by omega) hL2 dL_law_631 ?_
  refine z_cVi (As := [.int (xs (i + 1))]) (rest := []) (k := 28) S hE hW (cX4_sail_ok l D 36 ad cy sa H.size (by decide) al th _ (xs (i + 1)) B hB hB4) (cwV 1 hts gL_law_X4_sail rfl rfl rfl (by decide +kernel) ⟨Nat.le_of_ble_eq_true rfl, Nat.le_of_ble_eq_true rfl⟩) (by decide) cM_0 rfl rfl rfl hl.1 rfl (Nat.le_of_ble_eq_true rfl) dL_law_632 ⟨(by show cells + 1 + 0 ≤ 601024; omega), (by show slots + 6 + 0 ≤ 7293034; omega)⟩ (fun r _ H locs hp hW => ?_)
  subst hp
  refine lv_istore (lv' := [(6, .int (if k_sail al (xs (i + 1)) = 0 then v_sail al (xs (i + 1)) else 0)), (5, .int (nI (k_sail al (xs (i + 1))))), (4, .int (nI i)), (3, .ref (ad 35)), (2, .ref (ad 28)), (1, .ref (ad 0)), (0, .ref b)]) hx hb dL_law_635 hl (by decide) rfl (fun ls hl => ?_)
  refine lv_aload_n hx hb dL_law_637 rfl (lv_at hl 4 rfl) ?_
  refine z_cVi (As := []) (rest := []) (k := 28) S hE hW (cX4_thrown_ok l D 36 ad cy sa H.size (by decide) (if k_sail al (xs (i + 1)) = 0 then u_sail al (xs (i + 1)) else al) (nI (k_sail al (xs (i + 1)))) _) (cwV 0 hts gL_law_X4_thrown rfl rfl rfl (by decide +kernel) ⟨Nat.le_of_ble_eq_true rfl, Nat.le_of_ble_eq_true rfl⟩) (by decide) cM_0 rfl rfl rfl hl.1 rfl (Nat.le_of_ble_eq_true rfl) dL_law_638 ⟨(by show cells + 1 + 0 + 0 ≤ 601024; omega), (by show slots + 6 + 0 + 0 ≤ 7293034; omega)⟩ (fun r _ H locs hp hW => ?_)
  subst hp
  refine lv_iload hx hb dL_law_641 (lv_at hl 1 rfl) ?_
  refine lv_icmp_eq (tgt := 648) hx hb dL_law_643 (by decide) (fun _ => ?_) (fun h => absurd rfl h)
  refine lv_iload hx hb dL_law_648 (lv_at hl 1 rfl) ?_
  by_cases hk : k_sail al (xs (i + 1)) = 0
  · refine lv_if_ne (tgt := 665) hx hb dL_law_650 (by decide) (fun h => absurd (show nI (k_sail al (xs (i + 1))) = 0 by rw [hk]; rfl) h) (fun _ => ?_)
    refine lv_aload_n hx hb dL_law_653 rfl (lv_at hl 3 rfl) ?_
    refine lv_iconst (v := 0) hx hb dL_law_654 (by decide) ?_
    refine z_lld S hE hW (by decide) lw_35 0 rfl (by decide) (by decide) (v := (v_sail al (xs (i + 1))).toInt64) (by rw [if_pos hk]; exact pk_uLs) dL_law_655 ?_
    refine lv_iload hx hb dL_law_656 (lv_at hl 0 rfl) ?_
    refine z_top2 (y := v_sail al (xs (i + 1))) (if_pos hk) ?_
    refine lv_i2l (v := ((v_sail al (xs (i + 1)))).toInt64) hx hb dL_law_658 rfl ?_
    refine W.lcmp hx hb dL_law_659 ?_
    refine z_top2 (y := 0) z_cmp0 ?_
    refine lv_if_eq (tgt := 665) hx hb dL_law_660 (by decide) (fun _ => ?_) (fun h => absurd rfl h)
    refine lv_goto (tgt := 1343) hx hb dL_law_665 (by decide) ?_
    refine W.widen (k := cells + 8) (n := slots + 100) (by omega) (by omega) ?_
    obtain ⟨N2, B2, h2, I2, hh9⟩ := io_sail I (xs (i + 1))
    exact kk _ (nI (k_sail al (xs (i + 1)))) _ N2 B2 h2 H locs ls I2 hh9 hW (lv_sub hl [2, 3, 4, 5, 6] rfl)
  · refine lv_if_ne (tgt := 665) hx hb dL_law_650 (by decide) (fun _ => ?_) (fun h => absurd h (nI_ne0 (by omega) (by omega)))
    refine lv_goto (tgt := 1343) hx hb dL_law_665 (by decide) ?_
    refine W.widen (k := cells + 8) (n := slots + 100) (by omega) (by omega) ?_
    obtain ⟨N2, B2, h2, I2, hh9⟩ := io_sail I (xs (i + 1))
    exact kk _ (nI (k_sail al (xs (i + 1)))) _ N2 B2 h2 H locs ls I2 hh9 hW (lv_sub hl [2, 3, 4, 5, 6] rfl)
set_option maxHeartbeats 4000000 in
set_option maxRecDepth 100000 in
theorem lc_layer {p : Program} (l : Launch) {e : Env} {s : State} {m : MethodId} {args : Array Value} {below : List Frame} {meth : Method} {c : Code} {H : Heap} {locs : List Loc} {cells slots : Nat} {Q : State → Prop} {ls : Array Slot} {D : va_G} {ad cy sa : Nat → Nat} {A : Nat → Prop} {b L i N B h : Nat} {xs : Nat → Int32} {al : Nat → Nat → Int32} {th : Int32} {f : Nat → Int64} (hfl : l.stackTraces = false) (S : CallFix p m c cL_law 9 s args wsL_law RL) (hE : ZEnv D cy sa A s) (hX : va_X b L xs s s.heap) (hbl : b < s.heap.size) (hbA : ¬ A b) (hL2 : L ≤ 2048) (hi : i + 4 ≤ L) (I : Inv al N B h) (hh2 : h < 2 ^ 19) (hcl : cells + 8 ≤ 601024) (hsl : slots + 100 ≤ 7293034) (hW : WS D 36 ad (lwC cy ad al th f) A s.heap H locs) (hl : lv_has ls 9 [(4, .int (nI i)), (3, .ref (ad 35)), (2, .ref (ad 28)), (1, .ref (ad 0)), (0, .ref b)]) (kk : ∀ (al2 : Nat → Nat → Int32) (th2 : Int32) (f2 : Nat → Int64) (N2 B2 h2 : Nat) (H : Heap) (locs : List Loc) (ls : Array Slot), Inv al2 N2 B2 h2 → h2 ≤ h + 60 → WS D 36 ad (lwC cy ad al2 th2 f2) A s.heap H locs → lv_has ls 9 [(4, .int (nI i)), (3, .ref (ad 35)), (2, .ref (ad 28)), (1, .ref (ad 0)), (0, .ref b)] → W p l e room_1 s m args below meth c H locs (cells + 8) (slots + 100) Q (F0 m 1343 ls [])) : W p l e room_1 s m args below meth c H locs cells slots Q (F0 m 668 ls []) := by
  have hx := S.1
  have hb := S.2.1
  have hown := S.2.2.2.1
  have hts := S.2.2.2.2
  have hN := I.1.1
  have hN6 := I.1.2.1
  have hB := I.1.2.2.1
  have hB4 := I.1.2.2.2.1
  have hh := I.1.2.2.2.2
  refine lv_aload_n hx hb dL_law_668 rfl (lv_at hl 3 rfl) ?_
  refine lv_aload_n hx hb dL_law_669 rfl (lv_at hl 4 rfl) ?_
  refine lv_iload hx hb dL_law_670 (lv_at hl 0 rfl) ?_
  refine lv_iconst (v := 1) hx hb dL_law_672 (by decide) ?_
  refine lv_iadd hx hb dL_law_673 ?_
  refine z_sld S hX hbl hbA hW (i + 1) (nI_add i 1) (by omega) hL2 dL_law_674 ?_
  refine lv_aload_n hx hb dL_law_675 rfl (lv_at hl 4 rfl) ?_
  refine lv_iload hx hb dL_law_676 (lv_at hl 0 rfl) ?_
  refine lv_iconst (v := 2) hx hb dL_law_678 (by decide) ?_
  refine lv_iadd hx hb dL_law_679 ?_
  refine z_sld S hX hbl hbA hW (i + 2) (nI_add i 2) (by omega) hL2 dL_law_680 ?_
  refine lv_aload_n hx hb dL_law_681 rfl (lv_at hl 1 rfl) ?_
  have hk2 : k_layer al (xs (i + 1)) (xs (i + 2)) ≤ 2 := by unfold k_layer; (repeat' split) <;> decide
  replace hW := hW.to lw_sw.symm
  refine z_cL (As := [.ref (ad 0), .int (xs (i + 1)), .int (xs (i + 2)), .ref (ad 35)]) (rest := []) S hE hW (cL_layer_ok l D 36 ad cy sa H.size (by decide) al _ f exW_k (xs (i + 1)) (xs (i + 2))  hfl) (vx_cwSW 4 hts gL_law_L_layer rfl rfl rfl (by decide +kernel) ⟨Nat.le_of_ble_eq_true rfl, Nat.le_of_ble_eq_true rfl⟩) rfl hl.1 rfl (Nat.le_of_ble_eq_true rfl) dL_law_682 ⟨(by show cells + 1 ≤ 601024; omega), (by show slots + 6 ≤ 7293034; omega)⟩ (fun r _ H locs hp hW => ?_)
  subst hp
  replace hW := hW.to ((congrArg (cC cy ad al) exW_2).trans lw_sw)
  refine lv_istore (lv' := [(5, .int (nI (k_layer al (xs (i + 1)) (xs (i + 2))))), (4, .int (nI i)), (3, .ref (ad 35)), (2, .ref (ad 28)), (1, .ref (ad 0)), (0, .ref b)]) hx hb dL_law_685 hl (by decide) rfl (fun ls hl => ?_)
  refine lv_aload_n hx hb dL_law_687 rfl (lv_at hl 3 rfl) ?_
  refine lv_aload_n hx hb dL_law_688 rfl (lv_at hl 5 rfl) ?_
  refine lv_iload hx hb dL_law_689 (lv_at hl 1 rfl) ?_
  refine lv_iconst (v := 1) hx hb dL_law_691 (by decide) ?_
  refine lv_iadd hx hb dL_law_692 ?_
  refine z_sld S hX hbl hbA hW (i + 1) (nI_add i 1) (by omega) hL2 dL_law_693 ?_
  refine lv_aload_n hx hb dL_law_694 rfl (lv_at hl 5 rfl) ?_
  refine lv_iload hx hb dL_law_695 (lv_at hl 1 rfl) ?_
  refine lv_iconst (v := 2) hx hb dL_law_697 (by decide) ?_
  refine lv_iadd hx hb dL_law_698 ?_
  refine z_sld S hX hbl hbA hW (i + 2) (nI_add i 2) (by omega) hL2 dL_law_699 ?_
  refine z_cVi (As := [.int (xs (i + 1)), .int (xs (i + 2))]) (rest := []) (k := 28) S hE hW (cX4_layer_ok l D 36 ad cy sa H.size (by decide) al th _ (xs (i + 1)) (xs (i + 2)) ) (cwV 2 hts gL_law_X4_layer rfl rfl rfl (by decide +kernel) ⟨Nat.le_of_ble_eq_true rfl, Nat.le_of_ble_eq_true rfl⟩) (by decide) cM_0 rfl rfl rfl hl.1 rfl (Nat.le_of_ble_eq_true rfl) dL_law_700 ⟨(by show cells + 1 + 0 ≤ 601024; omega), (by show slots + 6 + 0 ≤ 7293034; omega)⟩ (fun r _ H locs hp hW => ?_)
  subst hp
  refine lv_istore (lv' := [(6, .int (if k_layer al (xs (i + 1)) (xs (i + 2)) = 0 then v_layer al (xs (i + 1)) (xs (i + 2)) else 0)), (5, .int (nI (k_layer al (xs (i + 1)) (xs (i + 2))))), (4, .int (nI i)), (3, .ref (ad 35)), (2, .ref (ad 28)), (1, .ref (ad 0)), (0, .ref b)]) hx hb dL_law_703 hl (by decide) rfl (fun ls hl => ?_)
  refine lv_aload_n hx hb dL_law_705 rfl (lv_at hl 4 rfl) ?_
  refine z_cVi (As := []) (rest := []) (k := 28) S hE hW (cX4_thrown_ok l D 36 ad cy sa H.size (by decide) al (nI (k_layer al (xs (i + 1)) (xs (i + 2)))) _) (cwV 0 hts gL_law_X4_thrown rfl rfl rfl (by decide +kernel) ⟨Nat.le_of_ble_eq_true rfl, Nat.le_of_ble_eq_true rfl⟩) (by decide) cM_0 rfl rfl rfl hl.1 rfl (Nat.le_of_ble_eq_true rfl) dL_law_706 ⟨(by show cells + 1 + 0 + 0 ≤ 601024; omega), (by show slots + 6 + 0 + 0 ≤ 7293034; omega)⟩ (fun r _ H locs hp hW => ?_)
  subst hp
  refine lv_iload hx hb dL_law_709 (lv_at hl 1 rfl) ?_
  refine lv_icmp_eq (tgt := 716) hx hb dL_law_711 (by decide) (fun _ => ?_) (fun h => absurd rfl h)
  refine lv_iload hx hb dL_law_716 (lv_at hl 1 rfl) ?_
  by_cases hk : k_layer al (xs (i + 1)) (xs (i + 2)) = 0
  · refine lv_if_ne (tgt := 733) hx hb dL_law_718 (by decide) (fun h => absurd (show nI (k_layer al (xs (i + 1)) (xs (i + 2))) = 0 by rw [hk]; rfl) h) (fun _ => ?_)
    refine lv_aload_n hx hb dL_law_721 rfl (lv_at hl 3 rfl) ?_
    refine lv_iconst (v := 0) hx hb dL_law_722 (by decide) ?_
    refine z_lld S hE hW (by decide) lw_35 0 rfl (by decide) (by decide) (v := (v_layer al (xs (i + 1)) (xs (i + 2))).toInt64) (by rw [if_pos hk]; exact pk_uLs) dL_law_723 ?_
    refine lv_iload hx hb dL_law_724 (lv_at hl 0 rfl) ?_
    refine z_top2 (y := v_layer al (xs (i + 1)) (xs (i + 2))) (if_pos hk) ?_
    refine lv_i2l (v := ((v_layer al (xs (i + 1)) (xs (i + 2)))).toInt64) hx hb dL_law_726 rfl ?_
    refine W.lcmp hx hb dL_law_727 ?_
    refine z_top2 (y := 0) z_cmp0 ?_
    refine lv_if_eq (tgt := 733) hx hb dL_law_728 (by decide) (fun _ => ?_) (fun h => absurd rfl h)
    refine lv_goto (tgt := 1343) hx hb dL_law_733 (by decide) ?_
    refine W.widen (k := cells + 8) (n := slots + 100) (by omega) (by omega) ?_
    exact kk _ (nI (k_layer al (xs (i + 1)) (xs (i + 2)))) _ N B h H locs ls I (by omega) hW (lv_sub hl [2, 3, 4, 5, 6] rfl)
  · refine lv_if_ne (tgt := 733) hx hb dL_law_718 (by decide) (fun _ => ?_) (fun h => absurd h (nI_ne0 (by omega) (by omega)))
    refine lv_goto (tgt := 1343) hx hb dL_law_733 (by decide) ?_
    refine W.widen (k := cells + 8) (n := slots + 100) (by omega) (by omega) ?_
    exact kk _ (nI (k_layer al (xs (i + 1)) (xs (i + 2)))) _ N B h H locs ls I (by omega) hW (lv_sub hl [2, 3, 4, 5, 6] rfl)
set_option maxHeartbeats 4000000 in
set_option maxRecDepth 100000 in
theorem lc_told {p : Program} (l : Launch) {e : Env} {s : State} {m : MethodId} {args : Array Value} {below : List Frame} {meth : Method} {c : Code} {H : Heap} {locs : List Loc} {cells slots : Nat} {Q : State → Prop} {ls : Array Slot} {D : va_G} {ad cy sa : Nat → Nat} {A : Nat → Prop} {b L i N B h : Nat} {xs : Nat → Int32} {al : Nat → Nat → Int32} {th : Int32} {f : Nat → Int64} (hfl : l.stackTraces = false) (S : CallFix p m c cL_law 9 s args wsL_law RL) (hE : ZEnv D cy sa A s) (hX : va_X b L xs s s.heap) (hbl : b < s.heap.size) (hbA : ¬ A b) (hL2 : L ≤ 2048) (hi : i + 4 ≤ L) (I : Inv al N B h) (hh2 : h < 2 ^ 19) (hcl : cells + 8 ≤ 601024) (hsl : slots + 100 ≤ 7293034) (hW : WS D 36 ad (lwC cy ad al th f) A s.heap H locs) (hl : lv_has ls 9 [(4, .int (nI i)), (3, .ref (ad 35)), (2, .ref (ad 28)), (1, .ref (ad 0)), (0, .ref b)]) (kk : ∀ (al2 : Nat → Nat → Int32) (th2 : Int32) (f2 : Nat → Int64) (N2 B2 h2 : Nat) (H : Heap) (locs : List Loc) (ls : Array Slot), Inv al2 N2 B2 h2 → h2 ≤ h + 60 → WS D 36 ad (lwC cy ad al2 th2 f2) A s.heap H locs → lv_has ls 9 [(4, .int (nI i)), (3, .ref (ad 35)), (2, .ref (ad 28)), (1, .ref (ad 0)), (0, .ref b)] → W p l e room_1 s m args below meth c H locs (cells + 8) (slots + 100) Q (F0 m 1343 ls [])) : W p l e room_1 s m args below meth c H locs cells slots Q (F0 m 736 ls []) := by
  have hx := S.1
  have hb := S.2.1
  have hown := S.2.2.2.1
  have hts := S.2.2.2.2
  have hN := I.1.1
  have hN6 := I.1.2.1
  have hB := I.1.2.2.1
  have hB4 := I.1.2.2.2.1
  have hh := I.1.2.2.2.2
  refine lv_aload_n hx hb dL_law_736 rfl (lv_at hl 3 rfl) ?_
  refine lv_aload_n hx hb dL_law_737 rfl (lv_at hl 4 rfl) ?_
  refine lv_iload hx hb dL_law_738 (lv_at hl 0 rfl) ?_
  refine lv_iconst (v := 1) hx hb dL_law_740 (by decide) ?_
  refine lv_iadd hx hb dL_law_741 ?_
  refine z_sld S hX hbl hbA hW (i + 1) (nI_add i 1) (by omega) hL2 dL_law_742 ?_
  refine lv_aload_n hx hb dL_law_743 rfl (lv_at hl 4 rfl) ?_
  refine lv_iload hx hb dL_law_744 (lv_at hl 0 rfl) ?_
  refine lv_iconst (v := 2) hx hb dL_law_746 (by decide) ?_
  refine lv_iadd hx hb dL_law_747 ?_
  refine z_sld S hX hbl hbA hW (i + 2) (nI_add i 2) (by omega) hL2 dL_law_748 ?_
  refine lv_aload_n hx hb dL_law_749 rfl (lv_at hl 1 rfl) ?_
  have hk2 : k_told al (xs (i + 1)) (xs (i + 2)) ≤ 2 := by unfold k_told; (repeat' split) <;> decide
  replace hW := hW.to lw_sw.symm
  refine z_cL (As := [.ref (ad 0), .int (xs (i + 1)), .int (xs (i + 2)), .ref (ad 35)]) (rest := []) S hE hW (cL_told_ok l D 36 ad cy sa H.size (by decide) al _ f exW_k (xs (i + 1)) (xs (i + 2)) N hN hN6 I.ab hfl) (vx_cwSW 4 hts gL_law_L_told rfl rfl rfl (by decide +kernel) ⟨Nat.le_of_ble_eq_true rfl, Nat.le_of_ble_eq_true rfl⟩) rfl hl.1 rfl (Nat.le_of_ble_eq_true rfl) dL_law_750 ⟨(by show cells + 1 ≤ 601024; omega), (by show slots + 6 ≤ 7293034; omega)⟩ (fun r _ H locs hp hW => ?_)
  subst hp
  replace hW := hW.to ((congrArg (cC cy ad al) exW_2).trans lw_sw)
  refine lv_istore (lv' := [(5, .int (nI (k_told al (xs (i + 1)) (xs (i + 2))))), (4, .int (nI i)), (3, .ref (ad 35)), (2, .ref (ad 28)), (1, .ref (ad 0)), (0, .ref b)]) hx hb dL_law_753 hl (by decide) rfl (fun ls hl => ?_)
  refine lv_aload_n hx hb dL_law_755 rfl (lv_at hl 3 rfl) ?_
  refine lv_aload_n hx hb dL_law_756 rfl (lv_at hl 5 rfl) ?_
  refine lv_iload hx hb dL_law_757 (lv_at hl 1 rfl) ?_
  refine lv_iconst (v := 1) hx hb dL_law_759 (by decide) ?_
  refine lv_iadd hx hb dL_law_760 ?_
  refine z_sld S hX hbl hbA hW (i + 1) (nI_add i 1) (by omega) hL2 dL_law_761 ?_
  refine lv_aload_n hx hb dL_law_762 rfl (lv_at hl 5 rfl) ?_
  refine lv_iload hx hb dL_law_763 (lv_at hl 1 rfl) ?_
  refine lv_iconst (v := 2) hx hb dL_law_765 (by decide) ?_
  refine lv_iadd hx hb dL_law_766 ?_
  refine z_sld S hX hbl hbA hW (i + 2) (nI_add i 2) (by omega) hL2 dL_law_767 ?_
  refine z_cVi (As := [.int (xs (i + 1)), .int (xs (i + 2))]) (rest := []) (k := 28) S hE hW (cX4_told_ok l D 36 ad cy sa H.size (by decide) al th _ (xs (i + 1)) (xs (i + 2)) N hN hN6 I.rowO) (cwV 2 hts gL_law_X4_told rfl rfl rfl (by decide +kernel) ⟨Nat.le_of_ble_eq_true rfl, Nat.le_of_ble_eq_true rfl⟩) (by decide) cM_0 rfl rfl rfl hl.1 rfl (Nat.le_of_ble_eq_true rfl) dL_law_768 ⟨(by show cells + 1 + 0 ≤ 601024; omega), (by show slots + 6 + 0 ≤ 7293034; omega)⟩ (fun r _ H locs hp hW => ?_)
  subst hp
  refine lv_istore (lv' := [(6, .int (if k_told al (xs (i + 1)) (xs (i + 2)) = 0 then v_told al (xs (i + 1)) (xs (i + 2)) else 0)), (5, .int (nI (k_told al (xs (i + 1)) (xs (i + 2))))), (4, .int (nI i)), (3, .ref (ad 35)), (2, .ref (ad 28)), (1, .ref (ad 0)), (0, .ref b)]) hx hb dL_law_771 hl (by decide) rfl (fun ls hl => ?_)
  refine lv_aload_n hx hb dL_law_773 rfl (lv_at hl 4 rfl) ?_
  refine z_cVi (As := []) (rest := []) (k := 28) S hE hW (cX4_thrown_ok l D 36 ad cy sa H.size (by decide) al (nI (k_told al (xs (i + 1)) (xs (i + 2)))) _) (cwV 0 hts gL_law_X4_thrown rfl rfl rfl (by decide +kernel) ⟨Nat.le_of_ble_eq_true rfl, Nat.le_of_ble_eq_true rfl⟩) (by decide) cM_0 rfl rfl rfl hl.1 rfl (Nat.le_of_ble_eq_true rfl) dL_law_774 ⟨(by show cells + 1 + 0 + 0 ≤ 601024; omega), (by show slots + 6 + 0 + 0 ≤ 7293034; omega)⟩ (fun r _ H locs hp hW => ?_)
  subst hp
  refine lv_iload hx hb dL_law_777 (lv_at hl 1 rfl) ?_
  refine lv_icmp_eq (tgt := 784) hx hb dL_law_779 (by decide) (fun _ => ?_) (fun h => absurd rfl h)
  refine lv_iload hx hb dL_law_784 (lv_at hl 1 rfl) ?_
  by_cases hk : k_told al (xs (i + 1)) (xs (i + 2)) = 0
  · refine lv_if_ne (tgt := 801) hx hb dL_law_786 (by decide) (fun h => absurd (show nI (k_told al (xs (i + 1)) (xs (i + 2))) = 0 by rw [hk]; rfl) h) (fun _ => ?_)
    refine lv_aload_n hx hb dL_law_789 rfl (lv_at hl 3 rfl) ?_
    refine lv_iconst (v := 0) hx hb dL_law_790 (by decide) ?_
    refine z_lld S hE hW (by decide) lw_35 0 rfl (by decide) (by decide) (v := (v_told al (xs (i + 1)) (xs (i + 2))).toInt64) (by rw [if_pos hk]; exact pk_uLs) dL_law_791 ?_
    refine lv_iload hx hb dL_law_792 (lv_at hl 0 rfl) ?_
    refine z_top2 (y := v_told al (xs (i + 1)) (xs (i + 2))) (if_pos hk) ?_
    refine lv_i2l (v := ((v_told al (xs (i + 1)) (xs (i + 2)))).toInt64) hx hb dL_law_794 rfl ?_
    refine W.lcmp hx hb dL_law_795 ?_
    refine z_top2 (y := 0) z_cmp0 ?_
    refine lv_if_eq (tgt := 801) hx hb dL_law_796 (by decide) (fun _ => ?_) (fun h => absurd rfl h)
    refine lv_goto (tgt := 1343) hx hb dL_law_801 (by decide) ?_
    refine W.widen (k := cells + 8) (n := slots + 100) (by omega) (by omega) ?_
    exact kk _ (nI (k_told al (xs (i + 1)) (xs (i + 2)))) _ N B h H locs ls I (by omega) hW (lv_sub hl [2, 3, 4, 5, 6] rfl)
  · refine lv_if_ne (tgt := 801) hx hb dL_law_786 (by decide) (fun _ => ?_) (fun h => absurd h (nI_ne0 (by omega) (by omega)))
    refine lv_goto (tgt := 1343) hx hb dL_law_801 (by decide) ?_
    refine W.widen (k := cells + 8) (n := slots + 100) (by omega) (by omega) ?_
    exact kk _ (nI (k_told al (xs (i + 1)) (xs (i + 2)))) _ N B h H locs ls I (by omega) hW (lv_sub hl [2, 3, 4, 5, 6] rfl)
set_option maxHeartbeats 4000000 in
set_option maxRecDepth 100000 in
theorem lc_boat {p : Program} (l : Launch) {e : Env} {s : State} {m : MethodId} {args : Array Value} {below : List Frame} {meth : Method} {c : Code} {H : Heap} {locs : List Loc} {cells slots : Nat} {Q : State → Prop} {ls : Array Slot} {D : va_G} {ad cy sa : Nat → Nat} {A : Nat → Prop} {b L i N B h : Nat} {xs : Nat → Int32} {al : Nat → Nat → Int32} {th : Int32} {f : Nat → Int64} (hfl : l.stackTraces = false) (S : CallFix p m c cL_law 9 s args wsL_law RL) (hE : ZEnv D cy sa A s) (hX : va_X b L xs s s.heap) (hbl : b < s.heap.size) (hbA : ¬ A b) (hL2 : L ≤ 2048) (hi : i + 4 ≤ L) (I : Inv al N B h) (hh2 : h < 2 ^ 19) (hcl : cells + 8 ≤ 601024) (hsl : slots + 100 ≤ 7293034) (hW : WS D 36 ad (lwC cy ad al th f) A s.heap H locs) (hl : lv_has ls 9 [(4, .int (nI i)), (3, .ref (ad 35)), (2, .ref (ad 28)), (1, .ref (ad 0)), (0, .ref b)]) (kk : ∀ (al2 : Nat → Nat → Int32) (th2 : Int32) (f2 : Nat → Int64) (N2 B2 h2 : Nat) (H : Heap) (locs : List Loc) (ls : Array Slot), Inv al2 N2 B2 h2 → h2 ≤ h + 60 → WS D 36 ad (lwC cy ad al2 th2 f2) A s.heap H locs → lv_has ls 9 [(4, .int (nI i)), (3, .ref (ad 35)), (2, .ref (ad 28)), (1, .ref (ad 0)), (0, .ref b)] → W p l e room_1 s m args below meth c H locs (cells + 8) (slots + 100) Q (F0 m 1343 ls [])) : W p l e room_1 s m args below meth c H locs cells slots Q (F0 m 804 ls []) := by
  have hx := S.1
  have hb := S.2.1
  have hown := S.2.2.2.1
  have hts := S.2.2.2.2
  have hN := I.1.1
  have hN6 := I.1.2.1
  have hB := I.1.2.2.1
  have hB4 := I.1.2.2.2.1
  have hh := I.1.2.2.2.2
  refine lv_aload_n hx hb dL_law_804 rfl (lv_at hl 3 rfl) ?_
  refine lv_aload_n hx hb dL_law_805 rfl (lv_at hl 4 rfl) ?_
  refine lv_iload hx hb dL_law_806 (lv_at hl 0 rfl) ?_
  refine lv_iconst (v := 1) hx hb dL_law_808 (by decide) ?_
  refine lv_iadd hx hb dL_law_809 ?_
  refine z_sld S hX hbl hbA hW (i + 1) (nI_add i 1) (by omega) hL2 dL_law_810 ?_
  refine lv_aload_n hx hb dL_law_811 rfl (lv_at hl 4 rfl) ?_
  refine lv_iload hx hb dL_law_812 (lv_at hl 0 rfl) ?_
  refine lv_iconst (v := 2) hx hb dL_law_814 (by decide) ?_
  refine lv_iadd hx hb dL_law_815 ?_
  refine z_sld S hX hbl hbA hW (i + 2) (nI_add i 2) (by omega) hL2 dL_law_816 ?_
  refine lv_aload_n hx hb dL_law_817 rfl (lv_at hl 1 rfl) ?_
  have hk2 : k_boat al (xs (i + 1)) (xs (i + 2)) ≤ 2 := by unfold k_boat; (repeat' split) <;> decide
  replace hW := hW.to lw_sw.symm
  refine z_cL (As := [.ref (ad 0), .int (xs (i + 1)), .int (xs (i + 2)), .ref (ad 35)]) (rest := []) S hE hW (cL_boat_ok l D 36 ad cy sa H.size (by decide) al _ f exW_k (xs (i + 1)) (xs (i + 2)) B hB hB4 hfl) (vx_cwSW 4 hts gL_law_L_boat rfl rfl rfl (by decide +kernel) ⟨Nat.le_of_ble_eq_true rfl, Nat.le_of_ble_eq_true rfl⟩) rfl hl.1 rfl (Nat.le_of_ble_eq_true rfl) dL_law_818 ⟨(by show cells + 1 ≤ 601024; omega), (by show slots + 6 ≤ 7293034; omega)⟩ (fun r _ H locs hp hW => ?_)
  subst hp
  replace hW := hW.to ((congrArg (cC cy ad al) exW_2).trans lw_sw)
  refine lv_istore (lv' := [(5, .int (nI (k_boat al (xs (i + 1)) (xs (i + 2))))), (4, .int (nI i)), (3, .ref (ad 35)), (2, .ref (ad 28)), (1, .ref (ad 0)), (0, .ref b)]) hx hb dL_law_821 hl (by decide) rfl (fun ls hl => ?_)
  refine lv_aload_n hx hb dL_law_823 rfl (lv_at hl 3 rfl) ?_
  refine lv_aload_n hx hb dL_law_824 rfl (lv_at hl 5 rfl) ?_
  refine lv_iload hx hb dL_law_825 (lv_at hl 1 rfl) ?_
  refine lv_iconst (v := 1) hx hb dL_law_827 (by decide) ?_
  refine lv_iadd hx hb dL_law_828 ?_
  refine z_sld S hX hbl hbA hW (i + 1) (nI_add i 1) (by omega) hL2 dL_law_829 ?_
  refine lv_aload_n hx hb dL_law_830 rfl (lv_at hl 5 rfl) ?_
  refine lv_iload hx hb dL_law_831 (lv_at hl 1 rfl) ?_
  refine lv_iconst (v := 2) hx hb dL_law_833 (by decide) ?_
  refine lv_iadd hx hb dL_law_834 ?_
  refine z_sld S hX hbl hbA hW (i + 2) (nI_add i 2) (by omega) hL2 dL_law_835 ?_
  refine z_cVi (As := [.int (xs (i + 1)), .int (xs (i + 2))]) (rest := []) (k := 28) S hE hW (cX4_boat_ok l D 36 ad cy sa H.size (by decide) al th _ (xs (i + 1)) (xs (i + 2)) B hB hB4) (cwV 2 hts gL_law_X4_boat rfl rfl rfl (by decide +kernel) ⟨Nat.le_of_ble_eq_true rfl, Nat.le_of_ble_eq_true rfl⟩) (by decide) cM_0 rfl rfl rfl hl.1 rfl (Nat.le_of_ble_eq_true rfl) dL_law_836 ⟨(by show cells + 1 + 0 ≤ 601024; omega), (by show slots + 6 + 0 ≤ 7293034; omega)⟩ (fun r _ H locs hp hW => ?_)
  subst hp
  refine lv_istore (lv' := [(6, .int (if k_boat al (xs (i + 1)) (xs (i + 2)) = 0 then v_boat al (xs (i + 1)) (xs (i + 2)) else 0)), (5, .int (nI (k_boat al (xs (i + 1)) (xs (i + 2))))), (4, .int (nI i)), (3, .ref (ad 35)), (2, .ref (ad 28)), (1, .ref (ad 0)), (0, .ref b)]) hx hb dL_law_839 hl (by decide) rfl (fun ls hl => ?_)
  refine lv_aload_n hx hb dL_law_841 rfl (lv_at hl 4 rfl) ?_
  refine z_cVi (As := []) (rest := []) (k := 28) S hE hW (cX4_thrown_ok l D 36 ad cy sa H.size (by decide) al (nI (k_boat al (xs (i + 1)) (xs (i + 2)))) _) (cwV 0 hts gL_law_X4_thrown rfl rfl rfl (by decide +kernel) ⟨Nat.le_of_ble_eq_true rfl, Nat.le_of_ble_eq_true rfl⟩) (by decide) cM_0 rfl rfl rfl hl.1 rfl (Nat.le_of_ble_eq_true rfl) dL_law_842 ⟨(by show cells + 1 + 0 + 0 ≤ 601024; omega), (by show slots + 6 + 0 + 0 ≤ 7293034; omega)⟩ (fun r _ H locs hp hW => ?_)
  subst hp
  refine lv_iload hx hb dL_law_845 (lv_at hl 1 rfl) ?_
  refine lv_icmp_eq (tgt := 852) hx hb dL_law_847 (by decide) (fun _ => ?_) (fun h => absurd rfl h)
  refine lv_iload hx hb dL_law_852 (lv_at hl 1 rfl) ?_
  by_cases hk : k_boat al (xs (i + 1)) (xs (i + 2)) = 0
  · refine lv_if_ne (tgt := 869) hx hb dL_law_854 (by decide) (fun h => absurd (show nI (k_boat al (xs (i + 1)) (xs (i + 2))) = 0 by rw [hk]; rfl) h) (fun _ => ?_)
    refine lv_aload_n hx hb dL_law_857 rfl (lv_at hl 3 rfl) ?_
    refine lv_iconst (v := 0) hx hb dL_law_858 (by decide) ?_
    refine z_lld S hE hW (by decide) lw_35 0 rfl (by decide) (by decide) (v := (v_boat al (xs (i + 1)) (xs (i + 2))).toInt64) (by rw [if_pos hk]; exact pk_uLs) dL_law_859 ?_
    refine lv_iload hx hb dL_law_860 (lv_at hl 0 rfl) ?_
    refine z_top2 (y := v_boat al (xs (i + 1)) (xs (i + 2))) (if_pos hk) ?_
    refine lv_i2l (v := ((v_boat al (xs (i + 1)) (xs (i + 2)))).toInt64) hx hb dL_law_862 rfl ?_
    refine W.lcmp hx hb dL_law_863 ?_
    refine z_top2 (y := 0) z_cmp0 ?_
    refine lv_if_eq (tgt := 869) hx hb dL_law_864 (by decide) (fun _ => ?_) (fun h => absurd rfl h)
    refine lv_goto (tgt := 1343) hx hb dL_law_869 (by decide) ?_
    refine W.widen (k := cells + 8) (n := slots + 100) (by omega) (by omega) ?_
    exact kk _ (nI (k_boat al (xs (i + 1)) (xs (i + 2)))) _ N B h H locs ls I (by omega) hW (lv_sub hl [2, 3, 4, 5, 6] rfl)
  · refine lv_if_ne (tgt := 869) hx hb dL_law_854 (by decide) (fun _ => ?_) (fun h => absurd h (nI_ne0 (by omega) (by omega)))
    refine lv_goto (tgt := 1343) hx hb dL_law_869 (by decide) ?_
    refine W.widen (k := cells + 8) (n := slots + 100) (by omega) (by omega) ?_
    exact kk _ (nI (k_boat al (xs (i + 1)) (xs (i + 2)))) _ N B h H locs ls I (by omega) hW (lv_sub hl [2, 3, 4, 5, 6] rfl)
set_option maxHeartbeats 4000000 in
set_option maxRecDepth 100000 in
theorem lc_beach {p : Program} (l : Launch) {e : Env} {s : State} {m : MethodId} {args : Array Value} {below : List Frame} {meth : Method} {c : Code} {H : Heap} {locs : List Loc} {cells slots : Nat} {Q : State → Prop} {ls : Array Slot} {D : va_G} {ad cy sa : Nat → Nat} {A : Nat → Prop} {b L i N B h : Nat} {xs : Nat → Int32} {al : Nat → Nat → Int32} {th : Int32} {f : Nat → Int64} (hfl : l.stackTraces = false) (S : CallFix p m c cL_law 9 s args wsL_law RL) (hE : ZEnv D cy sa A s) (hX : va_X b L xs s s.heap) (hbl : b < s.heap.size) (hbA : ¬ A b) (hL2 : L ≤ 2048) (hi : i + 4 ≤ L) (I : Inv al N B h) (hh2 : h < 2 ^ 19) (hcl : cells + 8 ≤ 601024) (hsl : slots + 100 ≤ 7293034) (hW : WS D 36 ad (lwC cy ad al th f) A s.heap H locs) (hl : lv_has ls 9 [(4, .int (nI i)), (3, .ref (ad 35)), (2, .ref (ad 28)), (1, .ref (ad 0)), (0, .ref b)]) (kk : ∀ (al2 : Nat → Nat → Int32) (th2 : Int32) (f2 : Nat → Int64) (N2 B2 h2 : Nat) (H : Heap) (locs : List Loc) (ls : Array Slot), Inv al2 N2 B2 h2 → h2 ≤ h + 60 → WS D 36 ad (lwC cy ad al2 th2 f2) A s.heap H locs → lv_has ls 9 [(4, .int (nI i)), (3, .ref (ad 35)), (2, .ref (ad 28)), (1, .ref (ad 0)), (0, .ref b)] → W p l e room_1 s m args below meth c H locs (cells + 8) (slots + 100) Q (F0 m 1343 ls [])) : W p l e room_1 s m args below meth c H locs cells slots Q (F0 m 872 ls []) := by
  have hx := S.1
  have hb := S.2.1
  have hown := S.2.2.2.1
  have hts := S.2.2.2.2
  have hN := I.1.1
  have hN6 := I.1.2.1
  have hB := I.1.2.2.1
  have hB4 := I.1.2.2.2.1
  have hh := I.1.2.2.2.2
  refine lv_aload_n hx hb dL_law_872 rfl (lv_at hl 3 rfl) ?_
  refine lv_aload_n hx hb dL_law_873 rfl (lv_at hl 4 rfl) ?_
  refine lv_iload hx hb dL_law_874 (lv_at hl 0 rfl) ?_
  refine lv_iconst (v := 1) hx hb dL_law_876 (by decide) ?_
  refine lv_iadd hx hb dL_law_877 ?_
  refine z_sld S hX hbl hbA hW (i + 1) (nI_add i 1) (by omega) hL2 dL_law_878 ?_
  refine lv_aload_n hx hb dL_law_879 rfl (lv_at hl 1 rfl) ?_
  have hk2 : k_beach al (xs (i + 1)) ≤ 2 := by unfold k_beach; (repeat' split) <;> decide
  replace hW := hW.to lw_sw.symm
  refine z_cL (As := [.ref (ad 0), .int (xs (i + 1)), .ref (ad 35)]) (rest := []) S hE hW (cL_beach_ok l D 36 ad cy sa H.size (by decide) al _ f exW_k (xs (i + 1))  hfl) (vx_cwSW 3 hts gL_law_L_beach rfl rfl rfl (by decide +kernel) ⟨Nat.le_of_ble_eq_true rfl, Nat.le_of_ble_eq_true rfl⟩) rfl hl.1 rfl (Nat.le_of_ble_eq_true rfl) dL_law_880 ⟨(by show cells + 1 ≤ 601024; omega), (by show slots + 6 ≤ 7293034; omega)⟩ (fun r _ H locs hp hW => ?_)
  subst hp
  replace hW := hW.to ((congrArg (cC cy ad al) exW_2).trans lw_sw)
  refine lv_istore (lv' := [(5, .int (nI (k_beach al (xs (i + 1))))), (4, .int (nI i)), (3, .ref (ad 35)), (2, .ref (ad 28)), (1, .ref (ad 0)), (0, .ref b)]) hx hb dL_law_883 hl (by decide) rfl (fun ls hl => ?_)
  refine lv_aload_n hx hb dL_law_885 rfl (lv_at hl 3 rfl) ?_
  refine lv_aload_n hx hb dL_law_886 rfl (lv_at hl 5 rfl) ?_
  refine lv_iload hx hb dL_law_887 (lv_at hl 1 rfl) ?_
  refine lv_iconst (v := 1) hx hb dL_law_889 (by decide) ?_
  refine lv_iadd hx hb dL_law_890 ?_
  refine z_sld S hX hbl hbA hW (i + 1) (nI_add i 1) (by omega) hL2 dL_law_891 ?_
  refine z_cVi (As := [.int (xs (i + 1))]) (rest := []) (k := 28) S hE hW (cX4_beach_ok l D 36 ad cy sa H.size (by decide) al th _ (xs (i + 1)) ) (cwV 1 hts gL_law_X4_beach rfl rfl rfl (by decide +kernel) ⟨Nat.le_of_ble_eq_true rfl, Nat.le_of_ble_eq_true rfl⟩) (by decide) cM_0 rfl rfl rfl hl.1 rfl (Nat.le_of_ble_eq_true rfl) dL_law_892 ⟨(by show cells + 1 + 0 ≤ 601024; omega), (by show slots + 6 + 0 ≤ 7293034; omega)⟩ (fun r _ H locs hp hW => ?_)
  subst hp
  refine lv_istore (lv' := [(6, .int (if k_beach al (xs (i + 1)) = 0 then v_beach al (xs (i + 1)) else 0)), (5, .int (nI (k_beach al (xs (i + 1))))), (4, .int (nI i)), (3, .ref (ad 35)), (2, .ref (ad 28)), (1, .ref (ad 0)), (0, .ref b)]) hx hb dL_law_895 hl (by decide) rfl (fun ls hl => ?_)
  refine lv_aload_n hx hb dL_law_897 rfl (lv_at hl 4 rfl) ?_
  refine z_cVi (As := []) (rest := []) (k := 28) S hE hW (cX4_thrown_ok l D 36 ad cy sa H.size (by decide) al (nI (k_beach al (xs (i + 1)))) _) (cwV 0 hts gL_law_X4_thrown rfl rfl rfl (by decide +kernel) ⟨Nat.le_of_ble_eq_true rfl, Nat.le_of_ble_eq_true rfl⟩) (by decide) cM_0 rfl rfl rfl hl.1 rfl (Nat.le_of_ble_eq_true rfl) dL_law_898 ⟨(by show cells + 1 + 0 + 0 ≤ 601024; omega), (by show slots + 6 + 0 + 0 ≤ 7293034; omega)⟩ (fun r _ H locs hp hW => ?_)
  subst hp
  refine lv_iload hx hb dL_law_901 (lv_at hl 1 rfl) ?_
  refine lv_icmp_eq (tgt := 908) hx hb dL_law_903 (by decide) (fun _ => ?_) (fun h => absurd rfl h)
  refine lv_iload hx hb dL_law_908 (lv_at hl 1 rfl) ?_
  by_cases hk : k_beach al (xs (i + 1)) = 0
  · refine lv_if_ne (tgt := 925) hx hb dL_law_910 (by decide) (fun h => absurd (show nI (k_beach al (xs (i + 1))) = 0 by rw [hk]; rfl) h) (fun _ => ?_)
    refine lv_aload_n hx hb dL_law_913 rfl (lv_at hl 3 rfl) ?_
    refine lv_iconst (v := 0) hx hb dL_law_914 (by decide) ?_
    refine z_lld S hE hW (by decide) lw_35 0 rfl (by decide) (by decide) (v := (v_beach al (xs (i + 1))).toInt64) (by rw [if_pos hk]; exact pk_uLs) dL_law_915 ?_
    refine lv_iload hx hb dL_law_916 (lv_at hl 0 rfl) ?_
    refine z_top2 (y := v_beach al (xs (i + 1))) (if_pos hk) ?_
    refine lv_i2l (v := ((v_beach al (xs (i + 1)))).toInt64) hx hb dL_law_918 rfl ?_
    refine W.lcmp hx hb dL_law_919 ?_
    refine z_top2 (y := 0) z_cmp0 ?_
    refine lv_if_eq (tgt := 925) hx hb dL_law_920 (by decide) (fun _ => ?_) (fun h => absurd rfl h)
    refine lv_goto (tgt := 1343) hx hb dL_law_925 (by decide) ?_
    refine W.widen (k := cells + 8) (n := slots + 100) (by omega) (by omega) ?_
    exact kk _ (nI (k_beach al (xs (i + 1)))) _ N B h H locs ls I (by omega) hW (lv_sub hl [2, 3, 4, 5, 6] rfl)
  · refine lv_if_ne (tgt := 925) hx hb dL_law_910 (by decide) (fun _ => ?_) (fun h => absurd h (nI_ne0 (by omega) (by omega)))
    refine lv_goto (tgt := 1343) hx hb dL_law_925 (by decide) ?_
    refine W.widen (k := cells + 8) (n := slots + 100) (by omega) (by omega) ?_
    exact kk _ (nI (k_beach al (xs (i + 1)))) _ N B h H locs ls I (by omega) hW (lv_sub hl [2, 3, 4, 5, 6] rfl)
set_option maxHeartbeats 4000000 in
set_option maxRecDepth 100000 in
theorem lc_count {p : Program} (l : Launch) {e : Env} {s : State} {m : MethodId} {args : Array Value} {below : List Frame} {meth : Method} {c : Code} {H : Heap} {locs : List Loc} {cells slots : Nat} {Q : State → Prop} {ls : Array Slot} {D : va_G} {ad cy sa : Nat → Nat} {A : Nat → Prop} {b L i N B h : Nat} {xs : Nat → Int32} {al : Nat → Nat → Int32} {th : Int32} {f : Nat → Int64} (hfl : l.stackTraces = false) (S : CallFix p m c cL_law 9 s args wsL_law RL) (hE : ZEnv D cy sa A s) (hX : va_X b L xs s s.heap) (hbl : b < s.heap.size) (hbA : ¬ A b) (hL2 : L ≤ 2048) (hi : i + 4 ≤ L) (I : Inv al N B h) (hh2 : h < 2 ^ 19) (hcl : cells + 8 ≤ 601024) (hsl : slots + 100 ≤ 7293034) (hW : WS D 36 ad (lwC cy ad al th f) A s.heap H locs) (hl : lv_has ls 9 [(4, .int (nI i)), (3, .ref (ad 35)), (2, .ref (ad 28)), (1, .ref (ad 0)), (0, .ref b)]) (kk : ∀ (al2 : Nat → Nat → Int32) (th2 : Int32) (f2 : Nat → Int64) (N2 B2 h2 : Nat) (H : Heap) (locs : List Loc) (ls : Array Slot), Inv al2 N2 B2 h2 → h2 ≤ h + 60 → WS D 36 ad (lwC cy ad al2 th2 f2) A s.heap H locs → lv_has ls 9 [(4, .int (nI i)), (3, .ref (ad 35)), (2, .ref (ad 28)), (1, .ref (ad 0)), (0, .ref b)] → W p l e room_1 s m args below meth c H locs (cells + 8) (slots + 100) Q (F0 m 1343 ls [])) : W p l e room_1 s m args below meth c H locs cells slots Q (F0 m 928 ls []) := by
  have hx := S.1
  have hb := S.2.1
  have hown := S.2.2.2.1
  have hts := S.2.2.2.2
  have hN := I.1.1
  have hN6 := I.1.2.1
  have hB := I.1.2.2.1
  have hB4 := I.1.2.2.2.1
  have hh := I.1.2.2.2.2
  refine lv_aload_n hx hb dL_law_928 rfl (lv_at hl 3 rfl) ?_
  refine lv_aload_n hx hb dL_law_929 rfl (lv_at hl 4 rfl) ?_
  refine lv_iload hx hb dL_law_930 (lv_at hl 0 rfl) ?_
  refine lv_iconst (v := 1) hx hb dL_law_932 (by decide) ?_
  refine lv_iadd hx hb dL_law_933 ?_
  refine z_sld S hX hbl hbA hW (i + 1) (nI_add i 1) (by omega) hL2 dL_law_934 ?_
  refine lv_aload_n hx hb dL_law_935 rfl (lv_at hl 1 rfl) ?_
  have hk2 : k_count al (xs (i + 1)) ≤ 2 := by unfold k_count; (repeat' split) <;> decide
  replace hW := hW.to lw_sw.symm
  refine z_cL (As := [.ref (ad 0), .int (xs (i + 1)), .ref (ad 35)]) (rest := []) S hE hW (cL_count_ok l D 36 ad cy sa H.size (by decide) al _ f exW_k (xs (i + 1)) N hN hN6 h hh (by omega) hfl) (vx_cwSW 3 hts gL_law_L_count rfl rfl rfl (by decide +kernel) ⟨Nat.le_of_ble_eq_true rfl, Nat.le_of_ble_eq_true rfl⟩) rfl hl.1 rfl (Nat.le_of_ble_eq_true rfl) dL_law_936 ⟨(by show cells + 1 ≤ 601024; omega), (by show slots + 6 ≤ 7293034; omega)⟩ (fun r _ H locs hp hW => ?_)
  subst hp
  replace hW := hW.to ((congrArg (cC cy ad al) exW_2).trans lw_sw)
  refine lv_istore (lv' := [(5, .int (nI (k_count al (xs (i + 1))))), (4, .int (nI i)), (3, .ref (ad 35)), (2, .ref (ad 28)), (1, .ref (ad 0)), (0, .ref b)]) hx hb dL_law_939 hl (by decide) rfl (fun ls hl => ?_)
  refine lv_aload_n hx hb dL_law_941 rfl (lv_at hl 3 rfl) ?_
  refine lv_aload_n hx hb dL_law_942 rfl (lv_at hl 5 rfl) ?_
  refine lv_iload hx hb dL_law_943 (lv_at hl 1 rfl) ?_
  refine lv_iconst (v := 1) hx hb dL_law_945 (by decide) ?_
  refine lv_iadd hx hb dL_law_946 ?_
  refine z_sld S hX hbl hbA hW (i + 1) (nI_add i 1) (by omega) hL2 dL_law_947 ?_
  refine z_cVi (As := [.int (xs (i + 1))]) (rest := []) (k := 28) S hE hW (cX4_count_ok l D 36 ad cy sa H.size (by decide) al th _ (xs (i + 1)) N hN hN6 h hh (by omega)) (cwV 1 hts gL_law_X4_count rfl rfl rfl (by decide +kernel) ⟨Nat.le_of_ble_eq_true rfl, Nat.le_of_ble_eq_true rfl⟩) (by decide) cM_0 rfl rfl rfl hl.1 rfl (Nat.le_of_ble_eq_true rfl) dL_law_948 ⟨(by show cells + 1 + 0 ≤ 601024; omega), (by show slots + 6 + 0 ≤ 7293034; omega)⟩ (fun r _ H locs hp hW => ?_)
  subst hp
  refine lv_istore (lv' := [(6, .int (if k_count al (xs (i + 1)) = 0 then v_count al (xs (i + 1)) else 0)), (5, .int (nI (k_count al (xs (i + 1))))), (4, .int (nI i)), (3, .ref (ad 35)), (2, .ref (ad 28)), (1, .ref (ad 0)), (0, .ref b)]) hx hb dL_law_951 hl (by decide) rfl (fun ls hl => ?_)
  refine lv_aload_n hx hb dL_law_953 rfl (lv_at hl 4 rfl) ?_
  refine z_cVi (As := []) (rest := []) (k := 28) S hE hW (cX4_thrown_ok l D 36 ad cy sa H.size (by decide) al (nI (k_count al (xs (i + 1)))) _) (cwV 0 hts gL_law_X4_thrown rfl rfl rfl (by decide +kernel) ⟨Nat.le_of_ble_eq_true rfl, Nat.le_of_ble_eq_true rfl⟩) (by decide) cM_0 rfl rfl rfl hl.1 rfl (Nat.le_of_ble_eq_true rfl) dL_law_954 ⟨(by show cells + 1 + 0 + 0 ≤ 601024; omega), (by show slots + 6 + 0 + 0 ≤ 7293034; omega)⟩ (fun r _ H locs hp hW => ?_)
  subst hp
  refine lv_iload hx hb dL_law_957 (lv_at hl 1 rfl) ?_
  refine lv_icmp_eq (tgt := 964) hx hb dL_law_959 (by decide) (fun _ => ?_) (fun h => absurd rfl h)
  refine lv_iload hx hb dL_law_964 (lv_at hl 1 rfl) ?_
  by_cases hk : k_count al (xs (i + 1)) = 0
  · refine lv_if_ne (tgt := 981) hx hb dL_law_966 (by decide) (fun h => absurd (show nI (k_count al (xs (i + 1))) = 0 by rw [hk]; rfl) h) (fun _ => ?_)
    refine lv_aload_n hx hb dL_law_969 rfl (lv_at hl 3 rfl) ?_
    refine lv_iconst (v := 0) hx hb dL_law_970 (by decide) ?_
    refine z_lld S hE hW (by decide) lw_35 0 rfl (by decide) (by decide) (v := (v_count al (xs (i + 1))).toInt64) (by rw [if_pos hk]; exact pk_uLs) dL_law_971 ?_
    refine lv_iload hx hb dL_law_972 (lv_at hl 0 rfl) ?_
    refine z_top2 (y := v_count al (xs (i + 1))) (if_pos hk) ?_
    refine lv_i2l (v := ((v_count al (xs (i + 1)))).toInt64) hx hb dL_law_974 rfl ?_
    refine W.lcmp hx hb dL_law_975 ?_
    refine z_top2 (y := 0) z_cmp0 ?_
    refine lv_if_eq (tgt := 981) hx hb dL_law_976 (by decide) (fun _ => ?_) (fun h => absurd rfl h)
    refine lv_goto (tgt := 1343) hx hb dL_law_981 (by decide) ?_
    refine W.widen (k := cells + 8) (n := slots + 100) (by omega) (by omega) ?_
    exact kk _ (nI (k_count al (xs (i + 1)))) _ N B h H locs ls I (by omega) hW (lv_sub hl [2, 3, 4, 5, 6] rfl)
  · refine lv_if_ne (tgt := 981) hx hb dL_law_966 (by decide) (fun _ => ?_) (fun h => absurd h (nI_ne0 (by omega) (by omega)))
    refine lv_goto (tgt := 1343) hx hb dL_law_981 (by decide) ?_
    refine W.widen (k := cells + 8) (n := slots + 100) (by omega) (by omega) ?_
    exact kk _ (nI (k_count al (xs (i + 1)))) _ N B h H locs ls I (by omega) hW (lv_sub hl [2, 3, 4, 5, 6] rfl)
set_option maxHeartbeats 4000000 in
set_option maxRecDepth 100000 in
theorem lc_pass {p : Program} (l : Launch) {e : Env} {s : State} {m : MethodId} {args : Array Value} {below : List Frame} {meth : Method} {c : Code} {H : Heap} {locs : List Loc} {cells slots : Nat} {Q : State → Prop} {ls : Array Slot} {D : va_G} {ad cy sa : Nat → Nat} {A : Nat → Prop} {b L i N B h : Nat} {xs : Nat → Int32} {al : Nat → Nat → Int32} {th : Int32} {f : Nat → Int64} (hfl : l.stackTraces = false) (S : CallFix p m c cL_law 9 s args wsL_law RL) (hE : ZEnv D cy sa A s) (hX : va_X b L xs s s.heap) (hbl : b < s.heap.size) (hbA : ¬ A b) (hL2 : L ≤ 2048) (hi : i + 4 ≤ L) (I : Inv al N B h) (hh2 : h < 2 ^ 19) (hcl : cells + 8 ≤ 601024) (hsl : slots + 100 ≤ 7293034) (hW : WS D 36 ad (lwC cy ad al th f) A s.heap H locs) (hl : lv_has ls 9 [(4, .int (nI i)), (3, .ref (ad 35)), (2, .ref (ad 28)), (1, .ref (ad 0)), (0, .ref b)]) (kk : ∀ (al2 : Nat → Nat → Int32) (th2 : Int32) (f2 : Nat → Int64) (N2 B2 h2 : Nat) (H : Heap) (locs : List Loc) (ls : Array Slot), Inv al2 N2 B2 h2 → h2 ≤ h + 60 → WS D 36 ad (lwC cy ad al2 th2 f2) A s.heap H locs → lv_has ls 9 [(4, .int (nI i)), (3, .ref (ad 35)), (2, .ref (ad 28)), (1, .ref (ad 0)), (0, .ref b)] → W p l e room_1 s m args below meth c H locs (cells + 8) (slots + 100) Q (F0 m 1343 ls [])) : W p l e room_1 s m args below meth c H locs cells slots Q (F0 m 984 ls []) := by
  have hx := S.1
  have hb := S.2.1
  have hown := S.2.2.2.1
  have hts := S.2.2.2.2
  have hN := I.1.1
  have hN6 := I.1.2.1
  have hB := I.1.2.2.1
  have hB4 := I.1.2.2.2.1
  have hh := I.1.2.2.2.2
  refine lv_aload_n hx hb dL_law_984 rfl (lv_at hl 3 rfl) ?_
  refine lv_aload_n hx hb dL_law_985 rfl (lv_at hl 4 rfl) ?_
  refine lv_iload hx hb dL_law_986 (lv_at hl 0 rfl) ?_
  refine lv_iconst (v := 1) hx hb dL_law_988 (by decide) ?_
  refine lv_iadd hx hb dL_law_989 ?_
  refine z_sld S hX hbl hbA hW (i + 1) (nI_add i 1) (by omega) hL2 dL_law_990 ?_
  refine lv_aload_n hx hb dL_law_991 rfl (lv_at hl 1 rfl) ?_
  have hk2 : k_pass al (xs (i + 1)) ≤ 2 := by unfold k_pass; (repeat' split) <;> decide
  replace hW := hW.to lw_sw.symm
  refine z_cL (As := [.ref (ad 0), .int (xs (i + 1)), .ref (ad 35)]) (rest := []) S hE hW (cL_pass_ok l D 36 ad cy sa H.size (by decide) al _ f exW_k (xs (i + 1)) N hN hN6 h hh (by omega) I.ab hfl) (vx_cwSW 3 hts gL_law_L_pass rfl rfl rfl (by decide +kernel) ⟨Nat.le_of_ble_eq_true rfl, Nat.le_of_ble_eq_true rfl⟩) rfl hl.1 rfl (Nat.le_of_ble_eq_true rfl) dL_law_992 ⟨(by show cells + 1 ≤ 601024; omega), (by show slots + 6 ≤ 7293034; omega)⟩ (fun r _ H locs hp hW => ?_)
  subst hp
  replace hW := hW.to ((congrArg (cC cy ad (if k_pass al (xs (i + 1)) = 0 then u_pass al (xs (i + 1)) else al)) exW_2).trans lw_sw)
  refine lv_istore (lv' := [(5, .int (nI (k_pass al (xs (i + 1))))), (4, .int (nI i)), (3, .ref (ad 35)), (2, .ref (ad 28)), (1, .ref (ad 0)), (0, .ref b)]) hx hb dL_law_995 hl (by decide) rfl (fun ls hl => ?_)
  refine lv_aload_n hx hb dL_law_997 rfl (lv_at hl 3 rfl) ?_
  refine lv_aload_n hx hb dL_law_998 rfl (lv_at hl 5 rfl) ?_
  refine lv_iload hx hb dL_law_999 (lv_at hl 1 rfl) ?_
  refine lv_iconst (v := 1) hx hb dL_law_1001 (by decide) ?_
  refine lv_iadd hx hb dL_law_1002 ?_
  refine z_sld S hX hbl hbA hW (i + 1) (nI_add i 1) (by omega) hL2 dL_law_1003 ?_
  refine z_cVi (As := [.int (xs (i + 1))]) (rest := []) (k := 28) S hE hW (cX4_pass_ok l D 36 ad cy sa H.size (by decide) al th _ (xs (i + 1)) N hN hN6 h hh (by omega) I.ab) (cwV 1 hts gL_law_X4_pass rfl rfl rfl (by decide +kernel) ⟨Nat.le_of_ble_eq_true rfl, Nat.le_of_ble_eq_true rfl⟩) (by decide) cM_0 rfl rfl rfl hl.1 rfl (Nat.le_of_ble_eq_true rfl) dL_law_1004 ⟨(by show cells + 1 + 0 ≤ 601024; omega), (by show slots + 6 + 0 ≤ 7293034; omega)⟩ (fun r _ H locs hp hW => ?_)
  subst hp
  refine lv_istore (lv' := [(6, .int (if k_pass al (xs (i + 1)) = 0 then v_pass al (xs (i + 1)) else 0)), (5, .int (nI (k_pass al (xs (i + 1))))), (4, .int (nI i)), (3, .ref (ad 35)), (2, .ref (ad 28)), (1, .ref (ad 0)), (0, .ref b)]) hx hb dL_law_1007 hl (by decide) rfl (fun ls hl => ?_)
  refine lv_aload_n hx hb dL_law_1009 rfl (lv_at hl 4 rfl) ?_
  refine z_cVi (As := []) (rest := []) (k := 28) S hE hW (cX4_thrown_ok l D 36 ad cy sa H.size (by decide) (if k_pass al (xs (i + 1)) = 0 then u_pass al (xs (i + 1)) else al) (nI (k_pass al (xs (i + 1)))) _) (cwV 0 hts gL_law_X4_thrown rfl rfl rfl (by decide +kernel) ⟨Nat.le_of_ble_eq_true rfl, Nat.le_of_ble_eq_true rfl⟩) (by decide) cM_0 rfl rfl rfl hl.1 rfl (Nat.le_of_ble_eq_true rfl) dL_law_1010 ⟨(by show cells + 1 + 0 + 0 ≤ 601024; omega), (by show slots + 6 + 0 + 0 ≤ 7293034; omega)⟩ (fun r _ H locs hp hW => ?_)
  subst hp
  refine lv_iload hx hb dL_law_1013 (lv_at hl 1 rfl) ?_
  refine lv_icmp_eq (tgt := 1020) hx hb dL_law_1015 (by decide) (fun _ => ?_) (fun h => absurd rfl h)
  refine lv_iload hx hb dL_law_1020 (lv_at hl 1 rfl) ?_
  by_cases hk : k_pass al (xs (i + 1)) = 0
  · refine lv_if_ne (tgt := 1037) hx hb dL_law_1022 (by decide) (fun h => absurd (show nI (k_pass al (xs (i + 1))) = 0 by rw [hk]; rfl) h) (fun _ => ?_)
    refine lv_aload_n hx hb dL_law_1025 rfl (lv_at hl 3 rfl) ?_
    refine lv_iconst (v := 0) hx hb dL_law_1026 (by decide) ?_
    refine z_lld S hE hW (by decide) lw_35 0 rfl (by decide) (by decide) (v := (v_pass al (xs (i + 1))).toInt64) (by rw [if_pos hk]; exact pk_uLs) dL_law_1027 ?_
    refine lv_iload hx hb dL_law_1028 (lv_at hl 0 rfl) ?_
    refine z_top2 (y := v_pass al (xs (i + 1))) (if_pos hk) ?_
    refine lv_i2l (v := ((v_pass al (xs (i + 1)))).toInt64) hx hb dL_law_1030 rfl ?_
    refine W.lcmp hx hb dL_law_1031 ?_
    refine z_top2 (y := 0) z_cmp0 ?_
    refine lv_if_eq (tgt := 1037) hx hb dL_law_1032 (by decide) (fun _ => ?_) (fun h => absurd rfl h)
    refine lv_goto (tgt := 1343) hx hb dL_law_1037 (by decide) ?_
    refine W.widen (k := cells + 8) (n := slots + 100) (by omega) (by omega) ?_
    obtain ⟨N2, B2, h2, I2, hh9⟩ := io_pass I (by omega) (xs (i + 1))
    exact kk _ (nI (k_pass al (xs (i + 1)))) _ N2 B2 h2 H locs ls I2 hh9 hW (lv_sub hl [2, 3, 4, 5, 6] rfl)
  · refine lv_if_ne (tgt := 1037) hx hb dL_law_1022 (by decide) (fun _ => ?_) (fun h => absurd h (nI_ne0 (by omega) (by omega)))
    refine lv_goto (tgt := 1343) hx hb dL_law_1037 (by decide) ?_
    refine W.widen (k := cells + 8) (n := slots + 100) (by omega) (by omega) ?_
    obtain ⟨N2, B2, h2, I2, hh9⟩ := io_pass I (by omega) (xs (i + 1))
    exact kk _ (nI (k_pass al (xs (i + 1)))) _ N2 B2 h2 H locs ls I2 hh9 hW (lv_sub hl [2, 3, 4, 5, 6] rfl)
set_option maxHeartbeats 4000000 in
set_option maxRecDepth 100000 in
theorem lc_back {p : Program} (l : Launch) {e : Env} {s : State} {m : MethodId} {args : Array Value} {below : List Frame} {meth : Method} {c : Code} {H : Heap} {locs : List Loc} {cells slots : Nat} {Q : State → Prop} {ls : Array Slot} {D : va_G} {ad cy sa : Nat → Nat} {A : Nat → Prop} {b L i N B h : Nat} {xs : Nat → Int32} {al : Nat → Nat → Int32} {th : Int32} {f : Nat → Int64} (hfl : l.stackTraces = false) (S : CallFix p m c cL_law 9 s args wsL_law RL) (hE : ZEnv D cy sa A s) (hX : va_X b L xs s s.heap) (hbl : b < s.heap.size) (hbA : ¬ A b) (hL2 : L ≤ 2048) (hi : i + 4 ≤ L) (I : Inv al N B h) (hh2 : h < 2 ^ 19) (hcl : cells + 8 ≤ 601024) (hsl : slots + 100 ≤ 7293034) (hW : WS D 36 ad (lwC cy ad al th f) A s.heap H locs) (hl : lv_has ls 9 [(4, .int (nI i)), (3, .ref (ad 35)), (2, .ref (ad 28)), (1, .ref (ad 0)), (0, .ref b)]) (kk : ∀ (al2 : Nat → Nat → Int32) (th2 : Int32) (f2 : Nat → Int64) (N2 B2 h2 : Nat) (H : Heap) (locs : List Loc) (ls : Array Slot), Inv al2 N2 B2 h2 → h2 ≤ h + 60 → WS D 36 ad (lwC cy ad al2 th2 f2) A s.heap H locs → lv_has ls 9 [(4, .int (nI i)), (3, .ref (ad 35)), (2, .ref (ad 28)), (1, .ref (ad 0)), (0, .ref b)] → W p l e room_1 s m args below meth c H locs (cells + 8) (slots + 100) Q (F0 m 1343 ls [])) : W p l e room_1 s m args below meth c H locs cells slots Q (F0 m 1040 ls []) := by
  have hx := S.1
  have hb := S.2.1
  have hown := S.2.2.2.1
  have hts := S.2.2.2.2
  have hN := I.1.1
  have hN6 := I.1.2.1
  have hB := I.1.2.2.1
  have hB4 := I.1.2.2.2.1
  have hh := I.1.2.2.2.2
  refine lv_aload_n hx hb dL_law_1040 rfl (lv_at hl 3 rfl) ?_
  refine lv_aload_n hx hb dL_law_1041 rfl (lv_at hl 4 rfl) ?_
  refine lv_iload hx hb dL_law_1042 (lv_at hl 0 rfl) ?_
  refine lv_iconst (v := 1) hx hb dL_law_1044 (by decide) ?_
  refine lv_iadd hx hb dL_law_1045 ?_
  refine z_sld S hX hbl hbA hW (i + 1) (nI_add i 1) (by omega) hL2 dL_law_1046 ?_
  refine lv_aload_n hx hb dL_law_1047 rfl (lv_at hl 1 rfl) ?_
  have hk2 : k_back al (xs (i + 1)) ≤ 2 := by unfold k_back; (repeat' split) <;> decide
  replace hW := hW.to lw_sw.symm
  refine z_cL (As := [.ref (ad 0), .int (xs (i + 1)), .ref (ad 35)]) (rest := []) S hE hW (cL_back_ok l D 36 ad cy sa H.size (by decide) al _ f exW_k (xs (i + 1)) N hN hN6 h hh (by omega) I.ab hfl) (vx_cwSW 3 hts gL_law_L_back rfl rfl rfl (by decide +kernel) ⟨Nat.le_of_ble_eq_true rfl, Nat.le_of_ble_eq_true rfl⟩) rfl hl.1 rfl (Nat.le_of_ble_eq_true rfl) dL_law_1048 ⟨(by show cells + 1 ≤ 601024; omega), (by show slots + 6 ≤ 7293034; omega)⟩ (fun r _ H locs hp hW => ?_)
  subst hp
  replace hW := hW.to ((congrArg (cC cy ad (if k_back al (xs (i + 1)) = 0 then u_back al (xs (i + 1)) else al)) exW_2).trans lw_sw)
  refine lv_istore (lv' := [(5, .int (nI (k_back al (xs (i + 1))))), (4, .int (nI i)), (3, .ref (ad 35)), (2, .ref (ad 28)), (1, .ref (ad 0)), (0, .ref b)]) hx hb dL_law_1051 hl (by decide) rfl (fun ls hl => ?_)
  refine lv_aload_n hx hb dL_law_1053 rfl (lv_at hl 3 rfl) ?_
  refine lv_aload_n hx hb dL_law_1054 rfl (lv_at hl 5 rfl) ?_
  refine lv_iload hx hb dL_law_1055 (lv_at hl 1 rfl) ?_
  refine lv_iconst (v := 1) hx hb dL_law_1057 (by decide) ?_
  refine lv_iadd hx hb dL_law_1058 ?_
  refine z_sld S hX hbl hbA hW (i + 1) (nI_add i 1) (by omega) hL2 dL_law_1059 ?_
  refine z_cVi (As := [.int (xs (i + 1))]) (rest := []) (k := 28) S hE hW (cX4_back_ok l D 36 ad cy sa H.size (by decide) al th _ (xs (i + 1)) N hN hN6 h hh (by omega) I.ab I.lBk) (cwV 1 hts gL_law_X4_back rfl rfl rfl (by decide +kernel) ⟨Nat.le_of_ble_eq_true rfl, Nat.le_of_ble_eq_true rfl⟩) (by decide) cM_0 rfl rfl rfl hl.1 rfl (Nat.le_of_ble_eq_true rfl) dL_law_1060 ⟨(by show cells + 1 + 3 ≤ 601024; omega), (by show slots + 6 + 80 ≤ 7293034; omega)⟩ (fun r _ H locs hp hW => ?_)
  subst hp
  replace hW := hW.to (congrArg (fun z => cM cy ad z _) (ie_back (x := xs (i + 1))))
  refine lv_istore (lv' := [(6, .int (if k_back al (xs (i + 1)) = 0 then v_back al (xs (i + 1)) else 0)), (5, .int (nI (k_back al (xs (i + 1))))), (4, .int (nI i)), (3, .ref (ad 35)), (2, .ref (ad 28)), (1, .ref (ad 0)), (0, .ref b)]) hx hb dL_law_1063 hl (by decide) rfl (fun ls hl => ?_)
  refine lv_aload_n hx hb dL_law_1065 rfl (lv_at hl 4 rfl) ?_
  refine z_cVi (As := []) (rest := []) (k := 28) S hE hW (cX4_thrown_ok l D 36 ad cy sa H.size (by decide) (if k_back al (xs (i + 1)) = 0 then u_back al (xs (i + 1)) else al) (nI (k_back al (xs (i + 1)))) _) (cwV 0 hts gL_law_X4_thrown rfl rfl rfl (by decide +kernel) ⟨Nat.le_of_ble_eq_true rfl, Nat.le_of_ble_eq_true rfl⟩) (by decide) cM_0 rfl rfl rfl hl.1 rfl (Nat.le_of_ble_eq_true rfl) dL_law_1066 ⟨(by show cells + 1 + 3 + 0 ≤ 601024; omega), (by show slots + 6 + 80 + 0 ≤ 7293034; omega)⟩ (fun r _ H locs hp hW => ?_)
  subst hp
  refine lv_iload hx hb dL_law_1069 (lv_at hl 1 rfl) ?_
  refine lv_icmp_eq (tgt := 1076) hx hb dL_law_1071 (by decide) (fun _ => ?_) (fun h => absurd rfl h)
  refine lv_iload hx hb dL_law_1076 (lv_at hl 1 rfl) ?_
  by_cases hk : k_back al (xs (i + 1)) = 0
  · refine lv_if_ne (tgt := 1093) hx hb dL_law_1078 (by decide) (fun h => absurd (show nI (k_back al (xs (i + 1))) = 0 by rw [hk]; rfl) h) (fun _ => ?_)
    refine lv_aload_n hx hb dL_law_1081 rfl (lv_at hl 3 rfl) ?_
    refine lv_iconst (v := 0) hx hb dL_law_1082 (by decide) ?_
    refine z_lld S hE hW (by decide) lw_35 0 rfl (by decide) (by decide) (v := (v_back al (xs (i + 1))).toInt64) (by rw [if_pos hk]; exact pk_uLs) dL_law_1083 ?_
    refine lv_iload hx hb dL_law_1084 (lv_at hl 0 rfl) ?_
    refine z_top2 (y := v_back al (xs (i + 1))) (if_pos hk) ?_
    refine lv_i2l (v := ((v_back al (xs (i + 1)))).toInt64) hx hb dL_law_1086 rfl ?_
    refine W.lcmp hx hb dL_law_1087 ?_
    refine z_top2 (y := 0) z_cmp0 ?_
    refine lv_if_eq (tgt := 1093) hx hb dL_law_1088 (by decide) (fun _ => ?_) (fun h => absurd rfl h)
    refine lv_goto (tgt := 1343) hx hb dL_law_1093 (by decide) ?_
    refine W.widen (k := cells + 8) (n := slots + 100) (by omega) (by omega) ?_
    obtain ⟨N2, B2, h2, I2, hh9⟩ := io_back I (xs (i + 1))
    exact kk _ (nI (k_back al (xs (i + 1)))) _ N2 B2 h2 H locs ls I2 hh9 hW (lv_sub hl [2, 3, 4, 5, 6] rfl)
  · refine lv_if_ne (tgt := 1093) hx hb dL_law_1078 (by decide) (fun _ => ?_) (fun h => absurd h (nI_ne0 (by omega) (by omega)))
    refine lv_goto (tgt := 1343) hx hb dL_law_1093 (by decide) ?_
    refine W.widen (k := cells + 8) (n := slots + 100) (by omega) (by omega) ?_
    obtain ⟨N2, B2, h2, I2, hh9⟩ := io_back I (xs (i + 1))
    exact kk _ (nI (k_back al (xs (i + 1)))) _ N2 B2 h2 H locs ls I2 hh9 hW (lv_sub hl [2, 3, 4, 5, 6] rfl)
set_option maxHeartbeats 4000000 in
set_option maxRecDepth 100000 in
theorem lc_arrives {p : Program} (l : Launch) {e : Env} {s : State} {m : MethodId} {args : Array Value} {below : List Frame} {meth : Method} {c : Code} {H : Heap} {locs : List Loc} {cells slots : Nat} {Q : State → Prop} {ls : Array Slot} {D : va_G} {ad cy sa : Nat → Nat} {A : Nat → Prop} {b L i N B h : Nat} {xs : Nat → Int32} {al : Nat → Nat → Int32} {th : Int32} {f : Nat → Int64} (hfl : l.stackTraces = false) (S : CallFix p m c cL_law 9 s args wsL_law RL) (hE : ZEnv D cy sa A s) (hX : va_X b L xs s s.heap) (hbl : b < s.heap.size) (hbA : ¬ A b) (hL2 : L ≤ 2048) (hi : i + 4 ≤ L) (I : Inv al N B h) (hh2 : h < 2 ^ 19) (hcl : cells + 8 ≤ 601024) (hsl : slots + 100 ≤ 7293034) (hW : WS D 36 ad (lwC cy ad al th f) A s.heap H locs) (hl : lv_has ls 9 [(4, .int (nI i)), (3, .ref (ad 35)), (2, .ref (ad 28)), (1, .ref (ad 0)), (0, .ref b)]) (kk : ∀ (al2 : Nat → Nat → Int32) (th2 : Int32) (f2 : Nat → Int64) (N2 B2 h2 : Nat) (H : Heap) (locs : List Loc) (ls : Array Slot), Inv al2 N2 B2 h2 → h2 ≤ h + 60 → WS D 36 ad (lwC cy ad al2 th2 f2) A s.heap H locs → lv_has ls 9 [(4, .int (nI i)), (3, .ref (ad 35)), (2, .ref (ad 28)), (1, .ref (ad 0)), (0, .ref b)] → W p l e room_1 s m args below meth c H locs (cells + 8) (slots + 100) Q (F0 m 1343 ls [])) : W p l e room_1 s m args below meth c H locs cells slots Q (F0 m 1096 ls []) := by
  have hx := S.1
  have hb := S.2.1
  have hown := S.2.2.2.1
  have hts := S.2.2.2.2
  have hN := I.1.1
  have hN6 := I.1.2.1
  have hB := I.1.2.2.1
  have hB4 := I.1.2.2.2.1
  have hh := I.1.2.2.2.2
  refine lv_aload_n hx hb dL_law_1096 rfl (lv_at hl 3 rfl) ?_
  refine lv_aload_n hx hb dL_law_1097 rfl (lv_at hl 4 rfl) ?_
  refine lv_iload hx hb dL_law_1098 (lv_at hl 0 rfl) ?_
  refine lv_iconst (v := 1) hx hb dL_law_1100 (by decide) ?_
  refine lv_iadd hx hb dL_law_1101 ?_
  refine z_sld S hX hbl hbA hW (i + 1) (nI_add i 1) (by omega) hL2 dL_law_1102 ?_
  refine lv_aload_n hx hb dL_law_1103 rfl (lv_at hl 1 rfl) ?_
  have hk2 : k_arrives al (xs (i + 1)) ≤ 2 := by unfold k_arrives; (repeat' split) <;> decide
  replace hW := hW.to lw_sw.symm
  refine z_cL (As := [.ref (ad 0), .int (xs (i + 1)), .ref (ad 35)]) (rest := []) S hE hW (cL_arrives_ok l D 36 ad cy sa H.size (by decide) al _ f exW_k (xs (i + 1)) N hN hN6 h hh (by omega) I.ab hfl) (vx_cwSW 3 hts gL_law_L_arrives rfl rfl rfl (by decide +kernel) ⟨Nat.le_of_ble_eq_true rfl, Nat.le_of_ble_eq_true rfl⟩) rfl hl.1 rfl (Nat.le_of_ble_eq_true rfl) dL_law_1104 ⟨(by show cells + 1 ≤ 601024; omega), (by show slots + 6 ≤ 7293034; omega)⟩ (fun r _ H locs hp hW => ?_)
  subst hp
  replace hW := hW.to ((congrArg (cC cy ad (if k_arrives al (xs (i + 1)) = 0 then u_arrives al (xs (i + 1)) else al)) exW_2).trans lw_sw)
  refine lv_istore (lv' := [(5, .int (nI (k_arrives al (xs (i + 1))))), (4, .int (nI i)), (3, .ref (ad 35)), (2, .ref (ad 28)), (1, .ref (ad 0)), (0, .ref b)]) hx hb dL_law_1107 hl (by decide) rfl (fun ls hl => ?_)
  refine lv_aload_n hx hb dL_law_1109 rfl (lv_at hl 3 rfl) ?_
  refine lv_aload_n hx hb dL_law_1110 rfl (lv_at hl 5 rfl) ?_
  refine lv_iload hx hb dL_law_1111 (lv_at hl 1 rfl) ?_
  refine lv_iconst (v := 1) hx hb dL_law_1113 (by decide) ?_
  refine lv_iadd hx hb dL_law_1114 ?_
  refine z_sld S hX hbl hbA hW (i + 1) (nI_add i 1) (by omega) hL2 dL_law_1115 ?_
  refine z_cVi (As := [.int (xs (i + 1))]) (rest := []) (k := 28) S hE hW (cX4_arrives_ok l D 36 ad cy sa H.size (by decide) al th _ (xs (i + 1)) N hN hN6 h hh (by omega) I.ab I.lAr I.va) (cwV 1 hts gL_law_X4_arrives rfl rfl rfl (by decide +kernel) ⟨Nat.le_of_ble_eq_true rfl, Nat.le_of_ble_eq_true rfl⟩) (by decide) cM_0 rfl rfl rfl hl.1 rfl (Nat.le_of_ble_eq_true rfl) dL_law_1116 ⟨(by show cells + 1 + 3 ≤ 601024; omega), (by show slots + 6 + 80 ≤ 7293034; omega)⟩ (fun r _ H locs hp hW => ?_)
  subst hp
  replace hW := hW.to (congrArg (fun z => cM cy ad z _) (ie_arrives (x := xs (i + 1))))
  refine lv_istore (lv' := [(6, .int (if k_arrives al (xs (i + 1)) = 0 then v_arrives al (xs (i + 1)) else 0)), (5, .int (nI (k_arrives al (xs (i + 1))))), (4, .int (nI i)), (3, .ref (ad 35)), (2, .ref (ad 28)), (1, .ref (ad 0)), (0, .ref b)]) hx hb dL_law_1119 hl (by decide) rfl (fun ls hl => ?_)
  refine lv_aload_n hx hb dL_law_1121 rfl (lv_at hl 4 rfl) ?_
  refine z_cVi (As := []) (rest := []) (k := 28) S hE hW (cX4_thrown_ok l D 36 ad cy sa H.size (by decide) (if k_arrives al (xs (i + 1)) = 0 then u_arrives al (xs (i + 1)) else al) (nI (k_arrives al (xs (i + 1)))) _) (cwV 0 hts gL_law_X4_thrown rfl rfl rfl (by decide +kernel) ⟨Nat.le_of_ble_eq_true rfl, Nat.le_of_ble_eq_true rfl⟩) (by decide) cM_0 rfl rfl rfl hl.1 rfl (Nat.le_of_ble_eq_true rfl) dL_law_1122 ⟨(by show cells + 1 + 3 + 0 ≤ 601024; omega), (by show slots + 6 + 80 + 0 ≤ 7293034; omega)⟩ (fun r _ H locs hp hW => ?_)
  subst hp
  refine lv_iload hx hb dL_law_1125 (lv_at hl 1 rfl) ?_
  refine lv_icmp_eq (tgt := 1132) hx hb dL_law_1127 (by decide) (fun _ => ?_) (fun h => absurd rfl h)
  refine lv_iload hx hb dL_law_1132 (lv_at hl 1 rfl) ?_
  by_cases hk : k_arrives al (xs (i + 1)) = 0
  · refine lv_if_ne (tgt := 1149) hx hb dL_law_1134 (by decide) (fun h => absurd (show nI (k_arrives al (xs (i + 1))) = 0 by rw [hk]; rfl) h) (fun _ => ?_)
    refine lv_aload_n hx hb dL_law_1137 rfl (lv_at hl 3 rfl) ?_
    refine lv_iconst (v := 0) hx hb dL_law_1138 (by decide) ?_
    refine z_lld S hE hW (by decide) lw_35 0 rfl (by decide) (by decide) (v := (v_arrives al (xs (i + 1))).toInt64) (by rw [if_pos hk]; exact pk_uLs) dL_law_1139 ?_
    refine lv_iload hx hb dL_law_1140 (lv_at hl 0 rfl) ?_
    refine z_top2 (y := v_arrives al (xs (i + 1))) (if_pos hk) ?_
    refine lv_i2l (v := ((v_arrives al (xs (i + 1)))).toInt64) hx hb dL_law_1142 rfl ?_
    refine W.lcmp hx hb dL_law_1143 ?_
    refine z_top2 (y := 0) z_cmp0 ?_
    refine lv_if_eq (tgt := 1149) hx hb dL_law_1144 (by decide) (fun _ => ?_) (fun h => absurd rfl h)
    refine lv_goto (tgt := 1343) hx hb dL_law_1149 (by decide) ?_
    refine W.widen (k := cells + 8) (n := slots + 100) (by omega) (by omega) ?_
    obtain ⟨N2, B2, h2, I2, hh9⟩ := io_arrives I (xs (i + 1))
    exact kk _ (nI (k_arrives al (xs (i + 1)))) _ N2 B2 h2 H locs ls I2 hh9 hW (lv_sub hl [2, 3, 4, 5, 6] rfl)
  · refine lv_if_ne (tgt := 1149) hx hb dL_law_1134 (by decide) (fun _ => ?_) (fun h => absurd h (nI_ne0 (by omega) (by omega)))
    refine lv_goto (tgt := 1343) hx hb dL_law_1149 (by decide) ?_
    refine W.widen (k := cells + 8) (n := slots + 100) (by omega) (by omega) ?_
    obtain ⟨N2, B2, h2, I2, hh9⟩ := io_arrives I (xs (i + 1))
    exact kk _ (nI (k_arrives al (xs (i + 1)))) _ N2 B2 h2 H locs ls I2 hh9 hW (lv_sub hl [2, 3, 4, 5, 6] rfl)
set_option maxHeartbeats 4000000 in
set_option maxRecDepth 100000 in
theorem lc_advise {p : Program} (l : Launch) {e : Env} {s : State} {m : MethodId} {args : Array Value} {below : List Frame} {meth : Method} {c : Code} {H : Heap} {locs : List Loc} {cells slots : Nat} {Q : State → Prop} {ls : Array Slot} {D : va_G} {ad cy sa : Nat → Nat} {A : Nat → Prop} {b L i N B h : Nat} {xs : Nat → Int32} {al : Nat → Nat → Int32} {th : Int32} {f : Nat → Int64} (hfl : l.stackTraces = false) (S : CallFix p m c cL_law 9 s args wsL_law RL) (hE : ZEnv D cy sa A s) (hX : va_X b L xs s s.heap) (hbl : b < s.heap.size) (hbA : ¬ A b) (hL2 : L ≤ 2048) (hi : i + 4 ≤ L) (I : Inv al N B h) (hh2 : h < 2 ^ 19) (hcl : cells + 8 ≤ 601024) (hsl : slots + 100 ≤ 7293034) (hW : WS D 36 ad (lwC cy ad al th f) A s.heap H locs) (hl : lv_has ls 9 [(4, .int (nI i)), (3, .ref (ad 35)), (2, .ref (ad 28)), (1, .ref (ad 0)), (0, .ref b)]) (kk : ∀ (al2 : Nat → Nat → Int32) (th2 : Int32) (f2 : Nat → Int64) (N2 B2 h2 : Nat) (H : Heap) (locs : List Loc) (ls : Array Slot), Inv al2 N2 B2 h2 → h2 ≤ h + 60 → WS D 36 ad (lwC cy ad al2 th2 f2) A s.heap H locs → lv_has ls 9 [(4, .int (nI i)), (3, .ref (ad 35)), (2, .ref (ad 28)), (1, .ref (ad 0)), (0, .ref b)] → W p l e room_1 s m args below meth c H locs (cells + 8) (slots + 100) Q (F0 m 1343 ls [])) : W p l e room_1 s m args below meth c H locs cells slots Q (F0 m 1152 ls []) := by
  have hx := S.1
  have hb := S.2.1
  have hown := S.2.2.2.1
  have hts := S.2.2.2.2
  have hN := I.1.1
  have hN6 := I.1.2.1
  have hB := I.1.2.2.1
  have hB4 := I.1.2.2.2.1
  have hh := I.1.2.2.2.2
  refine lv_aload_n hx hb dL_law_1152 rfl (lv_at hl 3 rfl) ?_
  refine lv_aload_n hx hb dL_law_1153 rfl (lv_at hl 4 rfl) ?_
  refine lv_iload hx hb dL_law_1154 (lv_at hl 0 rfl) ?_
  refine lv_iconst (v := 1) hx hb dL_law_1156 (by decide) ?_
  refine lv_iadd hx hb dL_law_1157 ?_
  refine z_sld S hX hbl hbA hW (i + 1) (nI_add i 1) (by omega) hL2 dL_law_1158 ?_
  refine lv_aload_n hx hb dL_law_1159 rfl (lv_at hl 4 rfl) ?_
  refine lv_iload hx hb dL_law_1160 (lv_at hl 0 rfl) ?_
  refine lv_iconst (v := 2) hx hb dL_law_1162 (by decide) ?_
  refine lv_iadd hx hb dL_law_1163 ?_
  refine z_sld S hX hbl hbA hW (i + 2) (nI_add i 2) (by omega) hL2 dL_law_1164 ?_
  refine lv_aload_n hx hb dL_law_1165 rfl (lv_at hl 1 rfl) ?_
  have hk2 : k_advise al (xs (i + 1)) (xs (i + 2)) ≤ 2 := by unfold k_advise; (repeat' split) <;> decide
  replace hW := hW.to lw_sw.symm
  refine z_cL (As := [.ref (ad 0), .int (xs (i + 1)), .int (xs (i + 2)), .ref (ad 35)]) (rest := []) S hE hW (cL_advise_ok l D 36 ad cy sa H.size (by decide) al _ f exW_k (xs (i + 1)) (xs (i + 2)) B hB hB4 hfl) (vx_cwSW 4 hts gL_law_L_advise rfl rfl rfl (by decide +kernel) ⟨Nat.le_of_ble_eq_true rfl, Nat.le_of_ble_eq_true rfl⟩) rfl hl.1 rfl (Nat.le_of_ble_eq_true rfl) dL_law_1166 ⟨(by show cells + 1 ≤ 601024; omega), (by show slots + 6 ≤ 7293034; omega)⟩ (fun r _ H locs hp hW => ?_)
  subst hp
  replace hW := hW.to ((congrArg (cC cy ad al) exW_2).trans lw_sw)
  refine lv_istore (lv' := [(5, .int (nI (k_advise al (xs (i + 1)) (xs (i + 2))))), (4, .int (nI i)), (3, .ref (ad 35)), (2, .ref (ad 28)), (1, .ref (ad 0)), (0, .ref b)]) hx hb dL_law_1169 hl (by decide) rfl (fun ls hl => ?_)
  refine lv_aload_n hx hb dL_law_1171 rfl (lv_at hl 3 rfl) ?_
  refine lv_aload_n hx hb dL_law_1172 rfl (lv_at hl 5 rfl) ?_
  refine lv_iload hx hb dL_law_1173 (lv_at hl 1 rfl) ?_
  refine lv_iconst (v := 1) hx hb dL_law_1175 (by decide) ?_
  refine lv_iadd hx hb dL_law_1176 ?_
  refine z_sld S hX hbl hbA hW (i + 1) (nI_add i 1) (by omega) hL2 dL_law_1177 ?_
  refine lv_aload_n hx hb dL_law_1178 rfl (lv_at hl 5 rfl) ?_
  refine lv_iload hx hb dL_law_1179 (lv_at hl 1 rfl) ?_
  refine lv_iconst (v := 2) hx hb dL_law_1181 (by decide) ?_
  refine lv_iadd hx hb dL_law_1182 ?_
  refine z_sld S hX hbl hbA hW (i + 2) (nI_add i 2) (by omega) hL2 dL_law_1183 ?_
  refine z_cVi (As := [.int (xs (i + 1)), .int (xs (i + 2))]) (rest := []) (k := 28) S hE hW (cX4_advise_ok l D 36 ad cy sa H.size (by decide) al th _ (xs (i + 1)) (xs (i + 2)) B hB hB4 I.boatO) (cwV 2 hts gL_law_X4_advise rfl rfl rfl (by decide +kernel) ⟨Nat.le_of_ble_eq_true rfl, Nat.le_of_ble_eq_true rfl⟩) (by decide) cM_0 rfl rfl rfl hl.1 rfl (Nat.le_of_ble_eq_true rfl) dL_law_1184 ⟨(by show cells + 1 + 0 ≤ 601024; omega), (by show slots + 6 + 0 ≤ 7293034; omega)⟩ (fun r _ H locs hp hW => ?_)
  subst hp
  refine lv_istore (lv' := [(6, .int (if k_advise al (xs (i + 1)) (xs (i + 2)) = 0 then v_advise al (xs (i + 1)) (xs (i + 2)) else 0)), (5, .int (nI (k_advise al (xs (i + 1)) (xs (i + 2))))), (4, .int (nI i)), (3, .ref (ad 35)), (2, .ref (ad 28)), (1, .ref (ad 0)), (0, .ref b)]) hx hb dL_law_1187 hl (by decide) rfl (fun ls hl => ?_)
  refine lv_aload_n hx hb dL_law_1189 rfl (lv_at hl 4 rfl) ?_
  refine z_cVi (As := []) (rest := []) (k := 28) S hE hW (cX4_thrown_ok l D 36 ad cy sa H.size (by decide) al (nI (k_advise al (xs (i + 1)) (xs (i + 2)))) _) (cwV 0 hts gL_law_X4_thrown rfl rfl rfl (by decide +kernel) ⟨Nat.le_of_ble_eq_true rfl, Nat.le_of_ble_eq_true rfl⟩) (by decide) cM_0 rfl rfl rfl hl.1 rfl (Nat.le_of_ble_eq_true rfl) dL_law_1190 ⟨(by show cells + 1 + 0 + 0 ≤ 601024; omega), (by show slots + 6 + 0 + 0 ≤ 7293034; omega)⟩ (fun r _ H locs hp hW => ?_)
  subst hp
  refine lv_iload hx hb dL_law_1193 (lv_at hl 1 rfl) ?_
  refine lv_icmp_eq (tgt := 1200) hx hb dL_law_1195 (by decide) (fun _ => ?_) (fun h => absurd rfl h)
  refine lv_iload hx hb dL_law_1200 (lv_at hl 1 rfl) ?_
  by_cases hk : k_advise al (xs (i + 1)) (xs (i + 2)) = 0
  · refine lv_if_ne (tgt := 1217) hx hb dL_law_1202 (by decide) (fun h => absurd (show nI (k_advise al (xs (i + 1)) (xs (i + 2))) = 0 by rw [hk]; rfl) h) (fun _ => ?_)
    refine lv_aload_n hx hb dL_law_1205 rfl (lv_at hl 3 rfl) ?_
    refine lv_iconst (v := 0) hx hb dL_law_1206 (by decide) ?_
    refine z_lld S hE hW (by decide) lw_35 0 rfl (by decide) (by decide) (v := (v_advise al (xs (i + 1)) (xs (i + 2))).toInt64) (by rw [if_pos hk]; exact pk_uLs) dL_law_1207 ?_
    refine lv_iload hx hb dL_law_1208 (lv_at hl 0 rfl) ?_
    refine z_top2 (y := v_advise al (xs (i + 1)) (xs (i + 2))) (if_pos hk) ?_
    refine lv_i2l (v := ((v_advise al (xs (i + 1)) (xs (i + 2)))).toInt64) hx hb dL_law_1210 rfl ?_
    refine W.lcmp hx hb dL_law_1211 ?_
    refine z_top2 (y := 0) z_cmp0 ?_
    refine lv_if_eq (tgt := 1217) hx hb dL_law_1212 (by decide) (fun _ => ?_) (fun h => absurd rfl h)
    refine lv_goto (tgt := 1343) hx hb dL_law_1217 (by decide) ?_
    refine W.widen (k := cells + 8) (n := slots + 100) (by omega) (by omega) ?_
    exact kk _ (nI (k_advise al (xs (i + 1)) (xs (i + 2)))) _ N B h H locs ls I (by omega) hW (lv_sub hl [2, 3, 4, 5, 6] rfl)
  · refine lv_if_ne (tgt := 1217) hx hb dL_law_1202 (by decide) (fun _ => ?_) (fun h => absurd h (nI_ne0 (by omega) (by omega)))
    refine lv_goto (tgt := 1343) hx hb dL_law_1217 (by decide) ?_
    refine W.widen (k := cells + 8) (n := slots + 100) (by omega) (by omega) ?_
    exact kk _ (nI (k_advise al (xs (i + 1)) (xs (i + 2)))) _ N B h H locs ls I (by omega) hW (lv_sub hl [2, 3, 4, 5, 6] rfl)
set_option maxHeartbeats 4000000 in
set_option maxRecDepth 100000 in
theorem lc_foresee {p : Program} (l : Launch) {e : Env} {s : State} {m : MethodId} {args : Array Value} {below : List Frame} {meth : Method} {c : Code} {H : Heap} {locs : List Loc} {cells slots : Nat} {Q : State → Prop} {ls : Array Slot} {D : va_G} {ad cy sa : Nat → Nat} {A : Nat → Prop} {b L i N B h : Nat} {xs : Nat → Int32} {al : Nat → Nat → Int32} {th : Int32} {f : Nat → Int64} (hfl : l.stackTraces = false) (S : CallFix p m c cL_law 9 s args wsL_law RL) (hE : ZEnv D cy sa A s) (hX : va_X b L xs s s.heap) (hbl : b < s.heap.size) (hbA : ¬ A b) (hL2 : L ≤ 2048) (hi : i + 4 ≤ L) (I : Inv al N B h) (hh2 : h < 2 ^ 19) (hcl : cells + 8 ≤ 601024) (hsl : slots + 100 ≤ 7293034) (hW : WS D 36 ad (lwC cy ad al th f) A s.heap H locs) (hl : lv_has ls 9 [(4, .int (nI i)), (3, .ref (ad 35)), (2, .ref (ad 28)), (1, .ref (ad 0)), (0, .ref b)]) (kk : ∀ (al2 : Nat → Nat → Int32) (th2 : Int32) (f2 : Nat → Int64) (N2 B2 h2 : Nat) (H : Heap) (locs : List Loc) (ls : Array Slot), Inv al2 N2 B2 h2 → h2 ≤ h + 60 → WS D 36 ad (lwC cy ad al2 th2 f2) A s.heap H locs → lv_has ls 9 [(4, .int (nI i)), (3, .ref (ad 35)), (2, .ref (ad 28)), (1, .ref (ad 0)), (0, .ref b)] → W p l e room_1 s m args below meth c H locs (cells + 8) (slots + 100) Q (F0 m 1343 ls [])) : W p l e room_1 s m args below meth c H locs cells slots Q (F0 m 1220 ls []) := by
  have hx := S.1
  have hb := S.2.1
  have hown := S.2.2.2.1
  have hts := S.2.2.2.2
  have hN := I.1.1
  have hN6 := I.1.2.1
  have hB := I.1.2.2.1
  have hB4 := I.1.2.2.2.1
  have hh := I.1.2.2.2.2
  refine lv_aload_n hx hb dL_law_1220 rfl (lv_at hl 3 rfl) ?_
  refine lv_aload_n hx hb dL_law_1221 rfl (lv_at hl 4 rfl) ?_
  refine lv_iload hx hb dL_law_1222 (lv_at hl 0 rfl) ?_
  refine lv_iconst (v := 1) hx hb dL_law_1224 (by decide) ?_
  refine lv_iadd hx hb dL_law_1225 ?_
  refine z_sld S hX hbl hbA hW (i + 1) (nI_add i 1) (by omega) hL2 dL_law_1226 ?_
  refine lv_aload_n hx hb dL_law_1227 rfl (lv_at hl 4 rfl) ?_
  refine lv_iload hx hb dL_law_1228 (lv_at hl 0 rfl) ?_
  refine lv_iconst (v := 2) hx hb dL_law_1230 (by decide) ?_
  refine lv_iadd hx hb dL_law_1231 ?_
  refine z_sld S hX hbl hbA hW (i + 2) (nI_add i 2) (by omega) hL2 dL_law_1232 ?_
  refine lv_aload_n hx hb dL_law_1233 rfl (lv_at hl 1 rfl) ?_
  have hk2 : k_foresee al (xs (i + 1)) (xs (i + 2)) ≤ 2 := by unfold k_foresee; (repeat' split) <;> decide
  replace hW := hW.to lw_sw.symm
  refine z_cL (As := [.ref (ad 0), .int (xs (i + 1)), .int (xs (i + 2)), .ref (ad 35)]) (rest := []) S hE hW (cL_foresee_ok l D 36 ad cy sa H.size (by decide) al _ f exW_k (xs (i + 1)) (xs (i + 2)) N hN hN6 h hh (by omega) I.ab hfl) (vx_cwSW 4 hts gL_law_L_foresee rfl rfl rfl (by decide +kernel) ⟨Nat.le_of_ble_eq_true rfl, Nat.le_of_ble_eq_true rfl⟩) rfl hl.1 rfl (Nat.le_of_ble_eq_true rfl) dL_law_1234 ⟨(by show cells + 1 ≤ 601024; omega), (by show slots + 6 ≤ 7293034; omega)⟩ (fun r _ H locs hp hW => ?_)
  subst hp
  replace hW := hW.to ((congrArg (cC cy ad (if k_foresee al (xs (i + 1)) (xs (i + 2)) = 0 then u_foresee al (xs (i + 1)) (xs (i + 2)) else al)) exW_2).trans lw_sw)
  refine lv_istore (lv' := [(5, .int (nI (k_foresee al (xs (i + 1)) (xs (i + 2))))), (4, .int (nI i)), (3, .ref (ad 35)), (2, .ref (ad 28)), (1, .ref (ad 0)), (0, .ref b)]) hx hb dL_law_1237 hl (by decide) rfl (fun ls hl => ?_)
  refine lv_aload_n hx hb dL_law_1239 rfl (lv_at hl 3 rfl) ?_
  refine lv_aload_n hx hb dL_law_1240 rfl (lv_at hl 5 rfl) ?_
  refine lv_iload hx hb dL_law_1241 (lv_at hl 1 rfl) ?_
  refine lv_iconst (v := 1) hx hb dL_law_1243 (by decide) ?_
  refine lv_iadd hx hb dL_law_1244 ?_
  refine z_sld S hX hbl hbA hW (i + 1) (nI_add i 1) (by omega) hL2 dL_law_1245 ?_
  refine lv_aload_n hx hb dL_law_1246 rfl (lv_at hl 5 rfl) ?_
  refine lv_iload hx hb dL_law_1247 (lv_at hl 1 rfl) ?_
  refine lv_iconst (v := 2) hx hb dL_law_1249 (by decide) ?_
  refine lv_iadd hx hb dL_law_1250 ?_
  refine z_sld S hX hbl hbA hW (i + 2) (nI_add i 2) (by omega) hL2 dL_law_1251 ?_
  refine z_cVi (As := [.int (xs (i + 1)), .int (xs (i + 2))]) (rest := []) (k := 28) S hE hW (cX4_foresee_ok l D 36 ad cy sa H.size (by decide) al th _ (xs (i + 1)) (xs (i + 2)) N hN hN6 h hh (by omega) I.ab (fun T q h1 h2 h3 => see_ahead hN hN6 hh (by omega) I.ab T q h1 h2 h3)) (cwV 2 hts gL_law_X4_foresee rfl rfl rfl (by decide +kernel) ⟨Nat.le_of_ble_eq_true rfl, Nat.le_of_ble_eq_true rfl⟩) (by decide) cM_0 rfl rfl rfl hl.1 rfl (Nat.le_of_ble_eq_true rfl) dL_law_1252 ⟨(by show cells + 1 + 3 ≤ 601024; omega), (by show slots + 6 + 80 ≤ 7293034; omega)⟩ (fun r _ H locs hp hW => ?_)
  subst hp
  replace hW := hW.to (congrArg (fun z => cM cy ad z _) (ie_foresee (x := xs (i + 1)) (y := xs (i + 2))))
  refine lv_istore (lv' := [(6, .int (if k_foresee al (xs (i + 1)) (xs (i + 2)) = 0 then v_foresee al (xs (i + 1)) (xs (i + 2)) else 0)), (5, .int (nI (k_foresee al (xs (i + 1)) (xs (i + 2))))), (4, .int (nI i)), (3, .ref (ad 35)), (2, .ref (ad 28)), (1, .ref (ad 0)), (0, .ref b)]) hx hb dL_law_1255 hl (by decide) rfl (fun ls hl => ?_)
  refine lv_aload_n hx hb dL_law_1257 rfl (lv_at hl 4 rfl) ?_
  refine z_cVi (As := []) (rest := []) (k := 28) S hE hW (cX4_thrown_ok l D 36 ad cy sa H.size (by decide) (if k_foresee al (xs (i + 1)) (xs (i + 2)) = 0 then u_foresee al (xs (i + 1)) (xs (i + 2)) else al) (nI (k_foresee al (xs (i + 1)) (xs (i + 2)))) _) (cwV 0 hts gL_law_X4_thrown rfl rfl rfl (by decide +kernel) ⟨Nat.le_of_ble_eq_true rfl, Nat.le_of_ble_eq_true rfl⟩) (by decide) cM_0 rfl rfl rfl hl.1 rfl (Nat.le_of_ble_eq_true rfl) dL_law_1258 ⟨(by show cells + 1 + 3 + 0 ≤ 601024; omega), (by show slots + 6 + 80 + 0 ≤ 7293034; omega)⟩ (fun r _ H locs hp hW => ?_)
  subst hp
  refine lv_iload hx hb dL_law_1261 (lv_at hl 1 rfl) ?_
  refine lv_icmp_eq (tgt := 1268) hx hb dL_law_1263 (by decide) (fun _ => ?_) (fun h => absurd rfl h)
  refine lv_iload hx hb dL_law_1268 (lv_at hl 1 rfl) ?_
  by_cases hk : k_foresee al (xs (i + 1)) (xs (i + 2)) = 0
  · refine lv_if_ne (tgt := 1285) hx hb dL_law_1270 (by decide) (fun h => absurd (show nI (k_foresee al (xs (i + 1)) (xs (i + 2))) = 0 by rw [hk]; rfl) h) (fun _ => ?_)
    refine lv_aload_n hx hb dL_law_1273 rfl (lv_at hl 3 rfl) ?_
    refine lv_iconst (v := 0) hx hb dL_law_1274 (by decide) ?_
    refine z_lld S hE hW (by decide) lw_35 0 rfl (by decide) (by decide) (v := (v_foresee al (xs (i + 1)) (xs (i + 2))).toInt64) (by rw [if_pos hk]; exact pk_uLs) dL_law_1275 ?_
    refine lv_iload hx hb dL_law_1276 (lv_at hl 0 rfl) ?_
    refine z_top2 (y := v_foresee al (xs (i + 1)) (xs (i + 2))) (if_pos hk) ?_
    refine lv_i2l (v := ((v_foresee al (xs (i + 1)) (xs (i + 2)))).toInt64) hx hb dL_law_1278 rfl ?_
    refine W.lcmp hx hb dL_law_1279 ?_
    refine z_top2 (y := 0) z_cmp0 ?_
    refine lv_if_eq (tgt := 1285) hx hb dL_law_1280 (by decide) (fun _ => ?_) (fun h => absurd rfl h)
    refine lv_goto (tgt := 1343) hx hb dL_law_1285 (by decide) ?_
    refine W.widen (k := cells + 8) (n := slots + 100) (by omega) (by omega) ?_
    obtain ⟨N2, B2, h2, I2, hh9⟩ := io_foresee I (xs (i + 1)) (xs (i + 2))
    exact kk _ (nI (k_foresee al (xs (i + 1)) (xs (i + 2)))) _ N2 B2 h2 H locs ls I2 hh9 hW (lv_sub hl [2, 3, 4, 5, 6] rfl)
  · refine lv_if_ne (tgt := 1285) hx hb dL_law_1270 (by decide) (fun _ => ?_) (fun h => absurd h (nI_ne0 (by omega) (by omega)))
    refine lv_goto (tgt := 1343) hx hb dL_law_1285 (by decide) ?_
    refine W.widen (k := cells + 8) (n := slots + 100) (by omega) (by omega) ?_
    obtain ⟨N2, B2, h2, I2, hh9⟩ := io_foresee I (xs (i + 1)) (xs (i + 2))
    exact kk _ (nI (k_foresee al (xs (i + 1)) (xs (i + 2)))) _ N2 B2 h2 H locs ls I2 hh9 hW (lv_sub hl [2, 3, 4, 5, 6] rfl)
