/-! What is computed: the numbers behind the methods, said once for both sides. -/
theorem zb_t {C : Prop} [Decidable C] (h : ¬ (if C then (1 : Int32) else 0) = 0) : C := by
  by_cases c : C
  · exact c
  · rw [if_neg c] at h
    exact absurd rfl h
theorem zb_f {C : Prop} [Decidable C] (h : (if C then (1 : Int32) else 0) = 0) : ¬ C := fun c => by
  rw [if_pos c] at h
  exact absurd h (by decide)
theorem zb_pt {C : Prop} [Decidable C] (h : C) : ¬ (if C then (1 : Int32) else 0) = 0 := by
  rw [if_pos h]
  decide
theorem zb_pf {C : Prop} [Decidable C] (h : ¬ C) : (if C then (1 : Int32) else 0) = 0 := if_neg h
theorem zb_01 {C : Prop} [Decidable C] : (if C then (1 : Int32) else 0) = 0 ∨ (if C then (1 : Int32) else 0) = 1 := by
  by_cases c : C
  · rw [if_pos c]; exact Or.inr rfl
  · rw [if_neg c]; exact Or.inl rfl
theorem kC_s {i : Nat} (h : i < 7) : 10 + i < 28 := by omega
theorem kC_w {i : Nat} (h : i < 7) : 17 + i < 28 := by omega
theorem kC_b {i : Nat} (h : i < 4) : 24 + i < 28 := by omega
theorem kC_h {i : Nat} (h : i < 2) : 6 + i < 28 := by omega
theorem kC_hs {i : Nat} (h : i < 2) : 8 + i < 28 := by omega
abbrev QDi (D : va_G) (n : Nat) (ad : Nat → Nat) (sz : Nat) (v : Int32) (ce2 : Nat → va_E) : Array Value → State → Outcome → State → Prop := QWi D n ad sz (fun r (_ : Unit) => r = v) (fun _ => ce2)
abbrev QDl (D : va_G) (n : Nat) (ad : Nat → Nat) (sz : Nat) (v : Int64) (ce2 : Nat → va_E) : Array Value → State → Outcome → State → Prop := QWl D n ad sz (fun r (_ : Unit) => r = v) (fun _ => ce2)
abbrev QDv (D : va_G) (n : Nat) (ad : Nat → Nat) (sz : Nat) (ce2 : Nat → va_E) : Array Value → State → Outcome → State → Prop := QWv D n ad sz (fun (_ : Unit) => True) (fun _ => ce2)
abbrev zIn (x a b : Int32) : Prop := ¬ x < a ∧ ¬ b < x
/-- the kind of a sack by its weight -/
def knN (w : Int32) : Nat := if 30 < w then (if 60 < w then 0 else 1) else 2
def knd (w : Int32) : Int32 := if 30 < w then (if 60 < w then 0 else 1) else 2
theorem knd_nI (w : Int32) : knd w = nI (knN w) := by
  unfold knd knN
  split
  · split <;> rfl
  · rfl
theorem knN_lt (w : Int32) : knN w < 3 := by
  unfold knN
  split
  · split <;> decide
  · decide
def stw (k : Int32) : Int32 := if k = 0 then 80 else if k = 1 then 50 else 20
def zab (x : Int32) : Int32 := if 0 ≤ x then x else 0 - x
def dep (f a : Int32) : Int32 := (f + a) / 50 + zab (f - a) / 40
def zmx (x y : Int32) : Int32 := if x < y then y else x
def zmn (x y : Int32) : Int32 := if y < x then y else x
/-- sacks of the sledge i come to the shore sh: the first j of them have -/
def unlS (al : Nat → Nat → Int32) (i sh : Nat) : Nat → Nat → Nat → Int32
  | 0 => al
  | j + 1 => zup (unlS al i sh j) (8 + sh) (knN (al (17 + i) j)) (unlS al i sh j (8 + sh) (knN (al (17 + i) j)) + 1)
theorem unlS_o {al : Nat → Nat → Int32} {i sh k : Nat} (h : k ≠ 8 + sh) : ∀ j, unlS al i sh j k = al k
  | 0 => rfl
  | j + 1 => by
    show zup _ _ _ _ k = al k
    rw [zup_o h, unlS_o h j]
/-- all of them, and none is aboard -/
def unloadS (al : Nat → Nat → Int32) (i sh : Nat) : Nat → Nat → Int32 := zup (unlS al i sh (al (10 + i) 2).toNatClampNeg) (10 + i) 2 0
/-- an hour down, but the unloading: the fall of a sack, and the height -/
def slideS (al : Nat → Nat → Int32) (i sh : Nat) (g : Int32) : Nat → Nat → Int32 :=
  if ¬ al (10 + i) 2 ≤ 0 ∧ ¬ g ≤ 4 + 2 * al (10 + i) 2 then
    zup (zup (zup al (10 + i) 2 (al (10 + i) 2 - 1)) (6 + sh) 1 (al (6 + sh) 1 + 1)) (10 + i) 3 (zmx 0 (al (10 + i) 3 - (4 - (al (10 + i) 2 - 1) / 3 + g / 2)))
  else zup al (10 + i) 3 (zmx 0 (al (10 + i) 3 - (4 - al (10 + i) 2 / 3 + g / 2)))
def comeDownS (al : Nat → Nat → Int32) (i sh : Nat) (g : Int32) : Nat → Nat → Int32 :=
  if slideS al i sh g (10 + i) 3 = 0 then zup (unloadS (slideS al i sh g) i sh) (10 + i) 4 2 else slideS al i sh g
def climbS (al : Nat → Nat → Int32) (i : Nat) : Nat → Nat → Int32 :=
  if zmn 20 (al (10 + i) 3 + 5) = 20 then zup (zup al (10 + i) 3 (zmn 20 (al (10 + i) 3 + 5))) (10 + i) 4 0 else zup al (10 + i) 3 (zmn 20 (al (10 + i) 3 + 5))
def travelS (al : Nat → Nat → Int32) (i sh : Nat) (g : Int32) : Nat → Nat → Int32 :=
  if al (10 + i) 4 = 1 then comeDownS al i sh g else if al (10 + i) 4 = 2 then climbS al i else al
/-- the sum of the first j places of a row -/
def sumI (f : Nat → Int32) : Nat → Int32
  | 0 => 0
  | j + 1 => sumI f j + f j
/-- the digest goes on over the first j places of a row -/
def mixI (f : Nat → Int32) (d : Int64) : Nat → Int64
  | 0 => d
  | j + 1 => mixI f d j * 31 + (f j).toInt64
/-- throws of the sledge side -/
theorem z_castI : ∀ w ∈ (vx_atS RX3 55 "java/lang/IndexOutOfBoundsException" ["java/lang/RuntimeException", "java/lang/Exception"]).filter (fun w => !goodWord w), w ∈ zN := by decide +kernel
theorem z_castA : ∀ w ∈ (vx_atS RX3 66 "java/lang/IllegalArgumentException" ["java/lang/RuntimeException", "java/lang/Exception"]).filter (fun w => !goodWord w), w ∈ zN := by decide +kernel
theorem z_castS : ∀ w ∈ (vx_atS RX3 83 "java/lang/IllegalStateException" ["java/lang/RuntimeException", "java/lang/Exception"]).filter (fun w => !goodWord w), w ∈ zN := by decide +kernel
theorem z_otI : ∀ w ∈ Cond.classLink RX3 51 "java/lang/IndexOutOfBoundsException" :: Cond.initialized "java/lang/IndexOutOfBoundsException" :: vx_atS RX3 55 "java/lang/IndexOutOfBoundsException" ["java/lang/RuntimeException", "java/lang/Exception"], vx_ot w = true := by decide +kernel
theorem z_otA : ∀ w ∈ Cond.classLink RX3 62 "java/lang/IllegalArgumentException" :: Cond.initialized "java/lang/IllegalArgumentException" :: vx_atS RX3 66 "java/lang/IllegalArgumentException" ["java/lang/RuntimeException", "java/lang/Exception"], vx_ot w = true := by decide +kernel
theorem z_otS : ∀ w ∈ Cond.classLink RX3 79 "java/lang/IllegalStateException" :: Cond.initialized "java/lang/IllegalStateException" :: vx_atS RX3 83 "java/lang/IllegalStateException" ["java/lang/RuntimeException", "java/lang/Exception"], vx_ot w = true := by decide +kernel
section ZT
variable {p : Program} {l : Launch} {e : Env} {R : Room} {s : State} {m : MethodId} {args : Array Value} {below : List Frame} {meth : Method} {c : Code} {H : Heap} {locs : List Loc} {cells slots mc ms : Nat}
variable {cc : ByteArray} {nL : Nat} {Ts : List Cond} {pc : Nat} {ls : Array Slot} {D : va_G} {n : Nat} {ad cy sa : Nat → Nat} {ce : Nat → va_E} {bad : String → Prop} {Qc : Array Value → State → Outcome → State → Prop}
theorem z_throw {E text : String} {ik is ic : Nat} (k : Nat) (S : CallFix p m c cc nL s args Ts RX3) (hnx : ∀ x ∈ c.exceptionTable.toList, False) (hE : ZEnv D cy sa (Acc n ad s.heap.size) s) (hW : WS D n ad ce (Acc n ad s.heap.size) s.heap H locs) (hl : l.stackTraces = false) (hfit : Bundle.fit E = true)
    (hk : (Cond.classLink RX3 ik E).before args s = true) (hini : (Cond.initialized E).before args s = true) (hgood : ∀ w ∈ (vx_atS RX3 ic E ["java/lang/RuntimeException", "java/lang/Exception"]).filter goodWord, w ∈ Ts) (hcast : ∀ w ∈ (vx_atS RX3 ic E ["java/lang/RuntimeException", "java/lang/Exception"]).filter (fun w => !goodWord w), w ∈ zN) (hot : ∀ w ∈ Cond.classLink RX3 ik E :: Cond.initialized E :: vx_atS RX3 ic E ["java/lang/RuntimeException", "java/lang/Exception"], vx_ot w = true) (ht : zT[k]? = some (is, text))
    (hz : ls.size = nL) (d0 : decode cc pc = .ok (.new ik, 3)) (d3 : decode cc (pc + 3) = .ok (.dup, 1)) (d4 : decode cc (pc + 4) = .ok (.ldc is, 2)) (d6 : decode cc (pc + 6) = .ok (.invokespecial ic, 3)) (d9 : decode cc (pc + 9) = .ok (.athrow, 1))
    (hR : 5 < R.frames ∧ 82 ≤ R.locals ∧ cells + 1 ≤ R.cells ∧ slots + 6 ≤ R.slots) (hlk : meth.locks = false) (hc : cells + 1 ≤ mc) (hs : slots + 6 ≤ ms) (hbad : bad E) :
    W p l e R s m args below meth c H locs cells slots (vx_MQ below Qc (XW D n ad s.heap.size bad ce) args s mc ms (Acc n ad s.heap.size)) (F0 m pc ls []) := by
  obtain ⟨hx, hb, hml, hown, hts⟩ := S
  refine vx_throwS (A := Acc n ad s.heap.size) (names := ["java/lang/RuntimeException", "java/lang/Exception"]) hx hb hl hown hfit (by decide) hk hini (hE.1.2.2.1.1 k is text ht) (vx_hat (fun w hw => hts w (hgood w hw)) hcast (fun w hw => va_Nw.use (zNk_tab (List.all_eq_true.mp zN_k w hw)) (hE.1.2.1 w hw))) hot hE.1.2.2.2.1 hE.1.2.2.2.2 hW.2.2 (by rw [hml, hz]) d0 d3 d4 d6 d9 (fun x hx => (hnx x hx).elim) hR.1 (Nat.le_trans (Nat.le_of_ble_eq_true rfl) hR.2.1) hR.2.2.1 hR.2.2.2 hlk (fun t ha h1 h2 => ?_) hW.2.2.2.2 hc hs
  refine ⟨(), trivial, ⟨hbad, hW.1.kept (fun k q hq => h2 q.1 (hW.1 k q hq).lt)⟩, Nat.le_trans hW.2.2.1 h1, fun q hq hA => ?_⟩
  rw [h2 q (Nat.lt_of_lt_of_le hq hW.2.2.1)]
  exact hW.2.2.2.1 q hq hA
/-- the end of a method that may throw, where it answers -/
theorem zx_i {St : Type} {post : Int32 → St → Prop} {ceF : St → Nat → va_E} {XC : String → State → State → Prop} {v : Int32} {own : String} (S : CallFix p m c cc nL s args Ts own) (hW : WS D n ad ce (Acc n ad s.heap.size) s.heap H locs) (hr : meth.sig.returnType = some .int) (hlk : meth.locks = false) (u : St) (he : ce = ceF u) (hp : post v u) (h1 : cells ≤ mc) (h2 : slots ≤ ms) (hdg : decode cc pc = .ok (.ireturn, 1)) :
    W p l e R s m args below meth c H locs cells slots (vx_MQ below (QWi D n ad s.heap.size post ceF) XC args s mc ms (Acc n ad s.heap.size)) (F0 m pc ls [.int v]) := vx_ret (ze_i S hW hr hlk u he hp h1 h2 hdg)
end ZT
